theorem dX0_init_0 : decode cX0_init 0 = .ok (.aload_n 0, 1) := by decide +kernel
theorem dX0_init_1 : decode cX0_init 1 = .ok (.invokespecial 5, 3) := by decide +kernel
theorem dX0_init_4 : decode cX0_init 4 = .ok (.aload_n 0, 1) := by decide +kernel
theorem dX0_init_5 : decode cX0_init 5 = .ok (.sipush 1000, 3) := by decide +kernel
theorem dX0_init_8 : decode cX0_init 8 = .ok (.newarray .int, 2) := by decide +kernel
theorem dX0_init_10 : decode cX0_init 10 = .ok (.putfield 13, 3) := by decide +kernel
theorem dX0_init_13 : decode cX0_init 13 = .ok (.return_, 1) := by decide +kernel
theorem dX0_forget_0 : decode cX0_forget 0 = .ok (.aload_n 0, 1) := by decide +kernel
theorem dX0_forget_1 : decode cX0_forget 1 = .ok (.iconst 0, 1) := by decide +kernel
theorem dX0_forget_2 : decode cX0_forget 2 = .ok (.putfield 17, 3) := by decide +kernel
theorem dX0_forget_5 : decode cX0_forget 5 = .ok (.return_, 1) := by decide +kernel
theorem dX0_remember_0 : decode cX0_remember 0 = .ok (.aload_n 1, 1) := by decide +kernel
theorem dX0_remember_1 : decode cX0_remember 1 = .ok (.aload_n 0, 1) := by decide +kernel
theorem dX0_remember_2 : decode cX0_remember 2 = .ok (.getfield 13, 3) := by decide +kernel
theorem dX0_remember_5 : decode cX0_remember 5 = .ok (.aload_n 0, 1) := by decide +kernel
theorem dX0_remember_6 : decode cX0_remember 6 = .ok (.getfield 21, 3) := by decide +kernel
theorem dX0_remember_9 : decode cX0_remember 9 = .ok (.bipush 25, 2) := by decide +kernel
theorem dX0_remember_11 : decode cX0_remember 11 = .ok (.imul, 1) := by decide +kernel
theorem dX0_remember_12 : decode cX0_remember 12 = .ok (.invokevirtual 24, 3) := by decide +kernel
theorem dX0_remember_15 : decode cX0_remember 15 = .ok (.aload_n 0, 1) := by decide +kernel
theorem dX0_remember_16 : decode cX0_remember 16 = .ok (.getfield 13, 3) := by decide +kernel
theorem dX0_remember_19 : decode cX0_remember 19 = .ok (.aload_n 0, 1) := by decide +kernel
theorem dX0_remember_20 : decode cX0_remember 20 = .ok (.getfield 21, 3) := by decide +kernel
theorem dX0_remember_23 : decode cX0_remember 23 = .ok (.bipush 25, 2) := by decide +kernel
theorem dX0_remember_25 : decode cX0_remember 25 = .ok (.imul, 1) := by decide +kernel
theorem dX0_remember_26 : decode cX0_remember 26 = .ok (.bipush 24, 2) := by decide +kernel
theorem dX0_remember_28 : decode cX0_remember 28 = .ok (.iadd, 1) := by decide +kernel
theorem dX0_remember_29 : decode cX0_remember 29 = .ok (.aload_n 2, 1) := by decide +kernel
theorem dX0_remember_30 : decode cX0_remember 30 = .ok (.getfield 28, 3) := by decide +kernel
theorem dX0_remember_33 : decode cX0_remember 33 = .ok (.iastore, 1) := by decide +kernel
theorem dX0_remember_34 : decode cX0_remember 34 = .ok (.aload_n 0, 1) := by decide +kernel
theorem dX0_remember_35 : decode cX0_remember 35 = .ok (.aload_n 0, 1) := by decide +kernel
theorem dX0_remember_36 : decode cX0_remember 36 = .ok (.getfield 21, 3) := by decide +kernel
theorem dX0_remember_39 : decode cX0_remember 39 = .ok (.iconst 1, 1) := by decide +kernel
theorem dX0_remember_40 : decode cX0_remember 40 = .ok (.iadd, 1) := by decide +kernel
theorem dX0_remember_41 : decode cX0_remember 41 = .ok (.bipush 40, 2) := by decide +kernel
theorem dX0_remember_43 : decode cX0_remember 43 = .ok (.irem, 1) := by decide +kernel
theorem dX0_remember_44 : decode cX0_remember 44 = .ok (.putfield 21, 3) := by decide +kernel
theorem dX0_remember_47 : decode cX0_remember 47 = .ok (.aload_n 0, 1) := by decide +kernel
theorem dX0_remember_48 : decode cX0_remember 48 = .ok (.aload_n 0, 1) := by decide +kernel
theorem dX0_remember_49 : decode cX0_remember 49 = .ok (.getfield 17, 3) := by decide +kernel
theorem dX0_remember_52 : decode cX0_remember 52 = .ok (.iconst 1, 1) := by decide +kernel
theorem dX0_remember_53 : decode cX0_remember 53 = .ok (.iadd, 1) := by decide +kernel
theorem dX0_remember_54 : decode cX0_remember 54 = .ok (.bipush 40, 2) := by decide +kernel
theorem dX0_remember_56 : decode cX0_remember 56 = .ok (.invokestatic 33, 3) := by decide +kernel
theorem dX0_remember_59 : decode cX0_remember 59 = .ok (.putfield 17, 3) := by decide +kernel
theorem dX0_remember_62 : decode cX0_remember 62 = .ok (.return_, 1) := by decide +kernel
theorem dX0_takeBack_0 : decode cX0_takeBack 0 = .ok (.aload_n 0, 1) := by decide +kernel
theorem dX0_takeBack_1 : decode cX0_takeBack 1 = .ok (.getfield 17, 3) := by decide +kernel
theorem dX0_takeBack_4 : decode cX0_takeBack 4 = .ok (.iconst 1, 1) := by decide +kernel
theorem dX0_takeBack_5 : decode cX0_takeBack 5 = .ok (.if_icmp .ge 5, 3) := by decide +kernel
theorem dX0_takeBack_8 : decode cX0_takeBack 8 = .ok (.iconst 0, 1) := by decide +kernel
theorem dX0_takeBack_9 : decode cX0_takeBack 9 = .ok (.ireturn, 1) := by decide +kernel
theorem dX0_takeBack_10 : decode cX0_takeBack 10 = .ok (.aload_n 0, 1) := by decide +kernel
theorem dX0_takeBack_11 : decode cX0_takeBack 11 = .ok (.aload_n 0, 1) := by decide +kernel
theorem dX0_takeBack_12 : decode cX0_takeBack 12 = .ok (.getfield 21, 3) := by decide +kernel
theorem dX0_takeBack_15 : decode cX0_takeBack 15 = .ok (.bipush 40, 2) := by decide +kernel
theorem dX0_takeBack_17 : decode cX0_takeBack 17 = .ok (.iadd, 1) := by decide +kernel
theorem dX0_takeBack_18 : decode cX0_takeBack 18 = .ok (.iconst 1, 1) := by decide +kernel
theorem dX0_takeBack_19 : decode cX0_takeBack 19 = .ok (.isub, 1) := by decide +kernel
theorem dX0_takeBack_20 : decode cX0_takeBack 20 = .ok (.bipush 40, 2) := by decide +kernel
theorem dX0_takeBack_22 : decode cX0_takeBack 22 = .ok (.irem, 1) := by decide +kernel
theorem dX0_takeBack_23 : decode cX0_takeBack 23 = .ok (.putfield 21, 3) := by decide +kernel
theorem dX0_takeBack_26 : decode cX0_takeBack 26 = .ok (.aload_n 0, 1) := by decide +kernel
theorem dX0_takeBack_27 : decode cX0_takeBack 27 = .ok (.dup, 1) := by decide +kernel
theorem dX0_takeBack_28 : decode cX0_takeBack 28 = .ok (.getfield 17, 3) := by decide +kernel
theorem dX0_takeBack_31 : decode cX0_takeBack 31 = .ok (.iconst 1, 1) := by decide +kernel
theorem dX0_takeBack_32 : decode cX0_takeBack 32 = .ok (.isub, 1) := by decide +kernel
theorem dX0_takeBack_33 : decode cX0_takeBack 33 = .ok (.putfield 17, 3) := by decide +kernel
theorem dX0_takeBack_36 : decode cX0_takeBack 36 = .ok (.aload_n 1, 1) := by decide +kernel
theorem dX0_takeBack_37 : decode cX0_takeBack 37 = .ok (.aload_n 0, 1) := by decide +kernel
theorem dX0_takeBack_38 : decode cX0_takeBack 38 = .ok (.getfield 13, 3) := by decide +kernel
theorem dX0_takeBack_41 : decode cX0_takeBack 41 = .ok (.aload_n 0, 1) := by decide +kernel
theorem dX0_takeBack_42 : decode cX0_takeBack 42 = .ok (.getfield 21, 3) := by decide +kernel
theorem dX0_takeBack_45 : decode cX0_takeBack 45 = .ok (.bipush 25, 2) := by decide +kernel
theorem dX0_takeBack_47 : decode cX0_takeBack 47 = .ok (.imul, 1) := by decide +kernel
theorem dX0_takeBack_48 : decode cX0_takeBack 48 = .ok (.invokevirtual 39, 3) := by decide +kernel
theorem dX0_takeBack_51 : decode cX0_takeBack 51 = .ok (.aload_n 2, 1) := by decide +kernel
theorem dX0_takeBack_52 : decode cX0_takeBack 52 = .ok (.aload_n 0, 1) := by decide +kernel
theorem dX0_takeBack_53 : decode cX0_takeBack 53 = .ok (.getfield 13, 3) := by decide +kernel
theorem dX0_takeBack_56 : decode cX0_takeBack 56 = .ok (.aload_n 0, 1) := by decide +kernel
theorem dX0_takeBack_57 : decode cX0_takeBack 57 = .ok (.getfield 21, 3) := by decide +kernel
theorem dX0_takeBack_60 : decode cX0_takeBack 60 = .ok (.bipush 25, 2) := by decide +kernel
theorem dX0_takeBack_62 : decode cX0_takeBack 62 = .ok (.imul, 1) := by decide +kernel
theorem dX0_takeBack_63 : decode cX0_takeBack 63 = .ok (.bipush 24, 2) := by decide +kernel
theorem dX0_takeBack_65 : decode cX0_takeBack 65 = .ok (.iadd, 1) := by decide +kernel
theorem dX0_takeBack_66 : decode cX0_takeBack 66 = .ok (.iaload, 1) := by decide +kernel
theorem dX0_takeBack_67 : decode cX0_takeBack 67 = .ok (.putfield 28, 3) := by decide +kernel
theorem dX0_takeBack_70 : decode cX0_takeBack 70 = .ok (.iconst 1, 1) := by decide +kernel
theorem dX0_takeBack_71 : decode cX0_takeBack 71 = .ok (.ireturn, 1) := by decide +kernel
theorem dX1_init_0 : decode cX1_init 0 = .ok (.aload_n 0, 1) := by decide +kernel
theorem dX1_init_1 : decode cX1_init 1 = .ok (.invokespecial 3, 3) := by decide +kernel
theorem dX1_init_4 : decode cX1_init 4 = .ok (.aload_n 0, 1) := by decide +kernel
theorem dX1_init_5 : decode cX1_init 5 = .ok (.sipush 300, 3) := by decide +kernel
theorem dX1_init_8 : decode cX1_init 8 = .ok (.newarray .int, 2) := by decide +kernel
theorem dX1_init_10 : decode cX1_init 10 = .ok (.putfield 11, 3) := by decide +kernel
theorem dX1_init_13 : decode cX1_init 13 = .ok (.return_, 1) := by decide +kernel
theorem dX1_length_0 : decode cX1_length 0 = .ok (.aload_n 0, 1) := by decide +kernel
theorem dX1_length_1 : decode cX1_length 1 = .ok (.getfield 15, 3) := by decide +kernel
theorem dX1_length_4 : decode cX1_length 4 = .ok (.bipush 60, 2) := by decide +kernel
theorem dX1_length_6 : decode cX1_length 6 = .ok (.invokestatic 19, 3) := by decide +kernel
theorem dX1_length_9 : decode cX1_length 9 = .ok (.ireturn, 1) := by decide +kernel
theorem dX1_become_0 : decode cX1_become 0 = .ok (.aload_n 1, 1) := by decide +kernel
theorem dX1_become_1 : decode cX1_become 1 = .ok (.getfield 11, 3) := by decide +kernel
theorem dX1_become_4 : decode cX1_become 4 = .ok (.iconst 0, 1) := by decide +kernel
theorem dX1_become_5 : decode cX1_become 5 = .ok (.aload_n 0, 1) := by decide +kernel
theorem dX1_become_6 : decode cX1_become 6 = .ok (.getfield 11, 3) := by decide +kernel
theorem dX1_become_9 : decode cX1_become 9 = .ok (.iconst 0, 1) := by decide +kernel
theorem dX1_become_10 : decode cX1_become 10 = .ok (.aload_n 0, 1) := by decide +kernel
theorem dX1_become_11 : decode cX1_become 11 = .ok (.getfield 11, 3) := by decide +kernel
theorem dX1_become_14 : decode cX1_become 14 = .ok (.arraylength, 1) := by decide +kernel
theorem dX1_become_15 : decode cX1_become 15 = .ok (.invokestatic 25, 3) := by decide +kernel
theorem dX1_become_18 : decode cX1_become 18 = .ok (.aload_n 0, 1) := by decide +kernel
theorem dX1_become_19 : decode cX1_become 19 = .ok (.aload_n 1, 1) := by decide +kernel
theorem dX1_become_20 : decode cX1_become 20 = .ok (.getfield 15, 3) := by decide +kernel
theorem dX1_become_23 : decode cX1_become 23 = .ok (.putfield 15, 3) := by decide +kernel
theorem dX1_become_26 : decode cX1_become 26 = .ok (.return_, 1) := by decide +kernel
theorem dX1_add_0 : decode cX1_add 0 = .ok (.aload_n 0, 1) := by decide +kernel
theorem dX1_add_1 : decode cX1_add 1 = .ok (.getfield 15, 3) := by decide +kernel
theorem dX1_add_4 : decode cX1_add 4 = .ok (.bipush 100, 2) := by decide +kernel
theorem dX1_add_6 : decode cX1_add 6 = .ok (.irem, 1) := by decide +kernel
theorem dX1_add_7 : decode cX1_add 7 = .ok (.iconst 3, 1) := by decide +kernel
theorem dX1_add_8 : decode cX1_add 8 = .ok (.imul, 1) := by decide +kernel
theorem dX1_add_9 : decode cX1_add 9 = .ok (.istore 4, 2) := by decide +kernel
theorem dX1_add_11 : decode cX1_add 11 = .ok (.iload 4, 2) := by decide +kernel
theorem dX1_add_13 : decode cX1_add 13 = .ok (.ifCond .lt 15, 3) := by decide +kernel
theorem dX1_add_16 : decode cX1_add 16 = .ok (.iload 4, 2) := by decide +kernel
theorem dX1_add_18 : decode cX1_add 18 = .ok (.iconst 2, 1) := by decide +kernel
theorem dX1_add_19 : decode cX1_add 19 = .ok (.iadd, 1) := by decide +kernel
theorem dX1_add_20 : decode cX1_add 20 = .ok (.aload_n 0, 1) := by decide +kernel
theorem dX1_add_21 : decode cX1_add 21 = .ok (.getfield 11, 3) := by decide +kernel
theorem dX1_add_24 : decode cX1_add 24 = .ok (.arraylength, 1) := by decide +kernel
theorem dX1_add_25 : decode cX1_add 25 = .ok (.if_icmp .lt 4, 3) := by decide +kernel
theorem dX1_add_28 : decode cX1_add 28 = .ok (.return_, 1) := by decide +kernel
theorem dX1_add_29 : decode cX1_add 29 = .ok (.aload_n 0, 1) := by decide +kernel
theorem dX1_add_30 : decode cX1_add 30 = .ok (.getfield 11, 3) := by decide +kernel
theorem dX1_add_33 : decode cX1_add 33 = .ok (.iload 4, 2) := by decide +kernel
theorem dX1_add_35 : decode cX1_add 35 = .ok (.iload_n 1, 1) := by decide +kernel
theorem dX1_add_36 : decode cX1_add 36 = .ok (.iastore, 1) := by decide +kernel
theorem dX1_add_37 : decode cX1_add 37 = .ok (.aload_n 0, 1) := by decide +kernel
theorem dX1_add_38 : decode cX1_add 38 = .ok (.getfield 11, 3) := by decide +kernel
theorem dX1_add_41 : decode cX1_add 41 = .ok (.iload 4, 2) := by decide +kernel
theorem dX1_add_43 : decode cX1_add 43 = .ok (.iconst 1, 1) := by decide +kernel
theorem dX1_add_44 : decode cX1_add 44 = .ok (.iadd, 1) := by decide +kernel
theorem dX1_add_45 : decode cX1_add 45 = .ok (.iload_n 2, 1) := by decide +kernel
theorem dX1_add_46 : decode cX1_add 46 = .ok (.iastore, 1) := by decide +kernel
theorem dX1_add_47 : decode cX1_add 47 = .ok (.aload_n 0, 1) := by decide +kernel
theorem dX1_add_48 : decode cX1_add 48 = .ok (.getfield 11, 3) := by decide +kernel
theorem dX1_add_51 : decode cX1_add 51 = .ok (.iload 4, 2) := by decide +kernel
theorem dX1_add_53 : decode cX1_add 53 = .ok (.iconst 2, 1) := by decide +kernel
theorem dX1_add_54 : decode cX1_add 54 = .ok (.iadd, 1) := by decide +kernel
theorem dX1_add_55 : decode cX1_add 55 = .ok (.iload_n 3, 1) := by decide +kernel
theorem dX1_add_56 : decode cX1_add 56 = .ok (.iastore, 1) := by decide +kernel
theorem dX1_add_57 : decode cX1_add 57 = .ok (.aload_n 0, 1) := by decide +kernel
theorem dX1_add_58 : decode cX1_add 58 = .ok (.dup, 1) := by decide +kernel
theorem dX1_add_59 : decode cX1_add 59 = .ok (.getfield 15, 3) := by decide +kernel
theorem dX1_add_62 : decode cX1_add 62 = .ok (.iconst 1, 1) := by decide +kernel
theorem dX1_add_63 : decode cX1_add 63 = .ok (.iadd, 1) := by decide +kernel
theorem dX1_add_64 : decode cX1_add 64 = .ok (.putfield 15, 3) := by decide +kernel
theorem dX1_add_67 : decode cX1_add 67 = .ok (.return_, 1) := by decide +kernel
theorem dX1_entry_0 : decode cX1_entry 0 = .ok (.iload_n 1, 1) := by decide +kernel
theorem dX1_entry_1 : decode cX1_entry 1 = .ok (.ifCond .lt 20, 3) := by decide +kernel
theorem dX1_entry_4 : decode cX1_entry 4 = .ok (.iload_n 1, 1) := by decide +kernel
theorem dX1_entry_5 : decode cX1_entry 5 = .ok (.aload_n 0, 1) := by decide +kernel
theorem dX1_entry_6 : decode cX1_entry 6 = .ok (.invokevirtual 31, 3) := by decide +kernel
theorem dX1_entry_9 : decode cX1_entry 9 = .ok (.if_icmp .ge 12, 3) := by decide +kernel
theorem dX1_entry_12 : decode cX1_entry 12 = .ok (.iload_n 2, 1) := by decide +kernel
theorem dX1_entry_13 : decode cX1_entry 13 = .ok (.ifCond .lt 8, 3) := by decide +kernel
theorem dX1_entry_16 : decode cX1_entry 16 = .ok (.iload_n 2, 1) := by decide +kernel
theorem dX1_entry_17 : decode cX1_entry 17 = .ok (.iconst 3, 1) := by decide +kernel
theorem dX1_entry_18 : decode cX1_entry 18 = .ok (.if_icmp .lt 5, 3) := by decide +kernel
theorem dX1_entry_21 : decode cX1_entry 21 = .ok (.iconst (-1), 1) := by decide +kernel
theorem dX1_entry_22 : decode cX1_entry 22 = .ok (.ireturn, 1) := by decide +kernel
theorem dX1_entry_23 : decode cX1_entry 23 = .ok (.aload_n 0, 1) := by decide +kernel
theorem dX1_entry_24 : decode cX1_entry 24 = .ok (.getfield 11, 3) := by decide +kernel
theorem dX1_entry_27 : decode cX1_entry 27 = .ok (.aload_n 0, 1) := by decide +kernel
theorem dX1_entry_28 : decode cX1_entry 28 = .ok (.getfield 15, 3) := by decide +kernel
theorem dX1_entry_31 : decode cX1_entry 31 = .ok (.iconst 1, 1) := by decide +kernel
theorem dX1_entry_32 : decode cX1_entry 32 = .ok (.isub, 1) := by decide +kernel
theorem dX1_entry_33 : decode cX1_entry 33 = .ok (.iload_n 1, 1) := by decide +kernel
theorem dX1_entry_34 : decode cX1_entry 34 = .ok (.isub, 1) := by decide +kernel
theorem dX1_entry_35 : decode cX1_entry 35 = .ok (.bipush 100, 2) := by decide +kernel
theorem dX1_entry_37 : decode cX1_entry 37 = .ok (.irem, 1) := by decide +kernel
theorem dX1_entry_38 : decode cX1_entry 38 = .ok (.iconst 3, 1) := by decide +kernel
theorem dX1_entry_39 : decode cX1_entry 39 = .ok (.imul, 1) := by decide +kernel
theorem dX1_entry_40 : decode cX1_entry 40 = .ok (.iload_n 2, 1) := by decide +kernel
theorem dX1_entry_41 : decode cX1_entry 41 = .ok (.iadd, 1) := by decide +kernel
theorem dX1_entry_42 : decode cX1_entry 42 = .ok (.iaload, 1) := by decide +kernel
theorem dX1_entry_43 : decode cX1_entry 43 = .ok (.ireturn, 1) := by decide +kernel
theorem dX2_init_0 : decode cX2_init 0 = .ok (.aload_n 0, 1) := by decide +kernel
theorem dX2_init_1 : decode cX2_init 1 = .ok (.invokespecial 3, 3) := by decide +kernel
theorem dX2_init_4 : decode cX2_init 4 = .ok (.aload_n 0, 1) := by decide +kernel
theorem dX2_init_5 : decode cX2_init 5 = .ok (.iconst 4, 1) := by decide +kernel
theorem dX2_init_6 : decode cX2_init 6 = .ok (.anewarray 9, 3) := by decide +kernel
theorem dX2_init_9 : decode cX2_init 9 = .ok (.putfield 11, 3) := by decide +kernel
theorem dX2_init_12 : decode cX2_init 12 = .ok (.aload_n 0, 1) := by decide +kernel
theorem dX2_init_13 : decode cX2_init 13 = .ok (.iconst (-1), 1) := by decide +kernel
theorem dX2_init_14 : decode cX2_init 14 = .ok (.putfield 17, 3) := by decide +kernel
theorem dX2_init_17 : decode cX2_init 17 = .ok (.aload_n 0, 1) := by decide +kernel
theorem dX2_init_18 : decode cX2_init 18 = .ok (.aload_n 1, 1) := by decide +kernel
theorem dX2_init_19 : decode cX2_init 19 = .ok (.putfield 21, 3) := by decide +kernel
theorem dX2_init_22 : decode cX2_init 22 = .ok (.iconst 0, 1) := by decide +kernel
theorem dX2_init_23 : decode cX2_init 23 = .ok (.istore_n 2, 1) := by decide +kernel
theorem dX2_init_24 : decode cX2_init 24 = .ok (.iload_n 2, 1) := by decide +kernel
theorem dX2_init_25 : decode cX2_init 25 = .ok (.iconst 4, 1) := by decide +kernel
theorem dX2_init_26 : decode cX2_init 26 = .ok (.if_icmp .ge 22, 3) := by decide +kernel
theorem dX2_init_29 : decode cX2_init 29 = .ok (.aload_n 0, 1) := by decide +kernel
theorem dX2_init_30 : decode cX2_init 30 = .ok (.getfield 11, 3) := by decide +kernel
theorem dX2_init_33 : decode cX2_init 33 = .ok (.iload_n 2, 1) := by decide +kernel
theorem dX2_init_34 : decode cX2_init 34 = .ok (.new 9, 3) := by decide +kernel
theorem dX2_init_37 : decode cX2_init 37 = .ok (.dup, 1) := by decide +kernel
theorem dX2_init_38 : decode cX2_init 38 = .ok (.invokespecial 25, 3) := by decide +kernel
theorem dX2_init_41 : decode cX2_init 41 = .ok (.aastore, 1) := by decide +kernel
theorem dX2_init_42 : decode cX2_init 42 = .ok (.iinc 2 1, 3) := by decide +kernel
theorem dX2_init_45 : decode cX2_init 45 = .ok (.goto (-21), 3) := by decide +kernel
theorem dX2_init_48 : decode cX2_init 48 = .ok (.return_, 1) := by decide +kernel
theorem dX2_flowThrough_0 : decode cX2_flowThrough 0 = .ok (.aload_n 0, 1) := by decide +kernel
theorem dX2_flowThrough_1 : decode cX2_flowThrough 1 = .ok (.getfield 21, 3) := by decide +kernel
theorem dX2_flowThrough_4 : decode cX2_flowThrough 4 = .ok (.getfield 26, 3) := by decide +kernel
theorem dX2_flowThrough_7 : decode cX2_flowThrough 7 = .ok (.iload_n 1, 1) := by decide +kernel
theorem dX2_flowThrough_8 : decode cX2_flowThrough 8 = .ok (.aaload, 1) := by decide +kernel
theorem dX2_flowThrough_9 : decode cX2_flowThrough 9 = .ok (.astore_n 3, 1) := by decide +kernel
theorem dX2_flowThrough_10 : decode cX2_flowThrough 10 = .ok (.aload_n 0, 1) := by decide +kernel
theorem dX2_flowThrough_11 : decode cX2_flowThrough 11 = .ok (.iload_n 1, 1) := by decide +kernel
theorem dX2_flowThrough_12 : decode cX2_flowThrough 12 = .ok (.aload_n 2, 1) := by decide +kernel
theorem dX2_flowThrough_13 : decode cX2_flowThrough 13 = .ok (.invokevirtual 32, 3) := by decide +kernel
theorem dX2_flowThrough_16 : decode cX2_flowThrough 16 = .ok (.istore 4, 2) := by decide +kernel
theorem dX2_flowThrough_18 : decode cX2_flowThrough 18 = .ok (.aload_n 3, 1) := by decide +kernel
theorem dX2_flowThrough_19 : decode cX2_flowThrough 19 = .ok (.iconst 0, 1) := by decide +kernel
theorem dX2_flowThrough_20 : decode cX2_flowThrough 20 = .ok (.iaload, 1) := by decide +kernel
theorem dX2_flowThrough_21 : decode cX2_flowThrough 21 = .ok (.aload_n 3, 1) := by decide +kernel
theorem dX2_flowThrough_22 : decode cX2_flowThrough 22 = .ok (.iconst 1, 1) := by decide +kernel
theorem dX2_flowThrough_23 : decode cX2_flowThrough 23 = .ok (.iaload, 1) := by decide +kernel
theorem dX2_flowThrough_24 : decode cX2_flowThrough 24 = .ok (.iadd, 1) := by decide +kernel
theorem dX2_flowThrough_25 : decode cX2_flowThrough 25 = .ok (.iload 4, 2) := by decide +kernel
theorem dX2_flowThrough_27 : decode cX2_flowThrough 27 = .ok (.isub, 1) := by decide +kernel
theorem dX2_flowThrough_28 : decode cX2_flowThrough 28 = .ok (.istore 5, 2) := by decide +kernel
theorem dX2_flowThrough_30 : decode cX2_flowThrough 30 = .ok (.aload_n 0, 1) := by decide +kernel
theorem dX2_flowThrough_31 : decode cX2_flowThrough 31 = .ok (.getfield 21, 3) := by decide +kernel
theorem dX2_flowThrough_34 : decode cX2_flowThrough 34 = .ok (.getfield 36, 3) := by decide +kernel
theorem dX2_flowThrough_37 : decode cX2_flowThrough 37 = .ok (.iload 4, 2) := by decide +kernel
theorem dX2_flowThrough_39 : decode cX2_flowThrough 39 = .ok (.aaload, 1) := by decide +kernel
theorem dX2_flowThrough_40 : decode cX2_flowThrough 40 = .ok (.iconst 2, 1) := by decide +kernel
theorem dX2_flowThrough_41 : decode cX2_flowThrough 41 = .ok (.iaload, 1) := by decide +kernel
theorem dX2_flowThrough_42 : decode cX2_flowThrough 42 = .ok (.aload_n 2, 1) := by decide +kernel
theorem dX2_flowThrough_43 : decode cX2_flowThrough 43 = .ok (.getfield 39, 3) := by decide +kernel
theorem dX2_flowThrough_46 : decode cX2_flowThrough 46 = .ok (.iload 4, 2) := by decide +kernel
theorem dX2_flowThrough_48 : decode cX2_flowThrough 48 = .ok (.iaload, 1) := by decide +kernel
theorem dX2_flowThrough_49 : decode cX2_flowThrough 49 = .ok (.iadd, 1) := by decide +kernel
theorem dX2_flowThrough_50 : decode cX2_flowThrough 50 = .ok (.aload_n 0, 1) := by decide +kernel
theorem dX2_flowThrough_51 : decode cX2_flowThrough 51 = .ok (.getfield 21, 3) := by decide +kernel
theorem dX2_flowThrough_54 : decode cX2_flowThrough 54 = .ok (.getfield 36, 3) := by decide +kernel
theorem dX2_flowThrough_57 : decode cX2_flowThrough 57 = .ok (.iload 5, 2) := by decide +kernel
theorem dX2_flowThrough_59 : decode cX2_flowThrough 59 = .ok (.aaload, 1) := by decide +kernel
theorem dX2_flowThrough_60 : decode cX2_flowThrough 60 = .ok (.iconst 2, 1) := by decide +kernel
theorem dX2_flowThrough_61 : decode cX2_flowThrough 61 = .ok (.iaload, 1) := by decide +kernel
theorem dX2_flowThrough_62 : decode cX2_flowThrough 62 = .ok (.isub, 1) := by decide +kernel
theorem dX2_flowThrough_63 : decode cX2_flowThrough 63 = .ok (.aload_n 2, 1) := by decide +kernel
theorem dX2_flowThrough_64 : decode cX2_flowThrough 64 = .ok (.getfield 39, 3) := by decide +kernel
theorem dX2_flowThrough_67 : decode cX2_flowThrough 67 = .ok (.iload 5, 2) := by decide +kernel
theorem dX2_flowThrough_69 : decode cX2_flowThrough 69 = .ok (.iaload, 1) := by decide +kernel
theorem dX2_flowThrough_70 : decode cX2_flowThrough 70 = .ok (.isub, 1) := by decide +kernel
theorem dX2_flowThrough_71 : decode cX2_flowThrough 71 = .ok (.istore 6, 2) := by decide +kernel
theorem dX2_flowThrough_73 : decode cX2_flowThrough 73 = .ok (.aload_n 2, 1) := by decide +kernel
theorem dX2_flowThrough_74 : decode cX2_flowThrough 74 = .ok (.getfield 39, 3) := by decide +kernel
theorem dX2_flowThrough_77 : decode cX2_flowThrough 77 = .ok (.iload 4, 2) := by decide +kernel
theorem dX2_flowThrough_79 : decode cX2_flowThrough 79 = .ok (.iaload, 1) := by decide +kernel
theorem dX2_flowThrough_80 : decode cX2_flowThrough 80 = .ok (.aload_n 3, 1) := by decide +kernel
theorem dX2_flowThrough_81 : decode cX2_flowThrough 81 = .ok (.iconst 3, 1) := by decide +kernel
theorem dX2_flowThrough_82 : decode cX2_flowThrough 82 = .ok (.iaload, 1) := by decide +kernel
theorem dX2_flowThrough_83 : decode cX2_flowThrough 83 = .ok (.isub, 1) := by decide +kernel
theorem dX2_flowThrough_84 : decode cX2_flowThrough 84 = .ok (.istore 7, 2) := by decide +kernel
theorem dX2_flowThrough_86 : decode cX2_flowThrough 86 = .ok (.aload_n 0, 1) := by decide +kernel
theorem dX2_flowThrough_87 : decode cX2_flowThrough 87 = .ok (.getfield 21, 3) := by decide +kernel
theorem dX2_flowThrough_90 : decode cX2_flowThrough 90 = .ok (.getfield 36, 3) := by decide +kernel
theorem dX2_flowThrough_93 : decode cX2_flowThrough 93 = .ok (.iload 5, 2) := by decide +kernel
theorem dX2_flowThrough_95 : decode cX2_flowThrough 95 = .ok (.aaload, 1) := by decide +kernel
theorem dX2_flowThrough_96 : decode cX2_flowThrough 96 = .ok (.iconst 1, 1) := by decide +kernel
theorem dX2_flowThrough_97 : decode cX2_flowThrough 97 = .ok (.iaload, 1) := by decide +kernel
theorem dX2_flowThrough_98 : decode cX2_flowThrough 98 = .ok (.aload_n 2, 1) := by decide +kernel
theorem dX2_flowThrough_99 : decode cX2_flowThrough 99 = .ok (.getfield 39, 3) := by decide +kernel
theorem dX2_flowThrough_102 : decode cX2_flowThrough 102 = .ok (.iload 5, 2) := by decide +kernel
theorem dX2_flowThrough_104 : decode cX2_flowThrough 104 = .ok (.iaload, 1) := by decide +kernel
theorem dX2_flowThrough_105 : decode cX2_flowThrough 105 = .ok (.isub, 1) := by decide +kernel
theorem dX2_flowThrough_106 : decode cX2_flowThrough 106 = .ok (.istore 8, 2) := by decide +kernel
theorem dX2_flowThrough_108 : decode cX2_flowThrough 108 = .ok (.aload_n 3, 1) := by decide +kernel
theorem dX2_flowThrough_109 : decode cX2_flowThrough 109 = .ok (.iconst 2, 1) := by decide +kernel
theorem dX2_flowThrough_110 : decode cX2_flowThrough 110 = .ok (.iaload, 1) := by decide +kernel
theorem dX2_flowThrough_111 : decode cX2_flowThrough 111 = .ok (.iload 7, 2) := by decide +kernel
theorem dX2_flowThrough_113 : decode cX2_flowThrough 113 = .ok (.iload 8, 2) := by decide +kernel
theorem dX2_flowThrough_115 : decode cX2_flowThrough 115 = .ok (.invokestatic 45, 3) := by decide +kernel
theorem dX2_flowThrough_118 : decode cX2_flowThrough 118 = .ok (.invokestatic 45, 3) := by decide +kernel
theorem dX2_flowThrough_121 : decode cX2_flowThrough 121 = .ok (.istore 9, 2) := by decide +kernel
theorem dX2_flowThrough_123 : decode cX2_flowThrough 123 = .ok (.iload 6, 2) := by decide +kernel
theorem dX2_flowThrough_125 : decode cX2_flowThrough 125 = .ok (.ifCond .eq 8, 3) := by decide +kernel
theorem dX2_flowThrough_128 : decode cX2_flowThrough 128 = .ok (.iload 9, 2) := by decide +kernel
theorem dX2_flowThrough_130 : decode cX2_flowThrough 130 = .ok (.ifCond .gt 5, 3) := by decide +kernel
theorem dX2_flowThrough_133 : decode cX2_flowThrough 133 = .ok (.iconst 0, 1) := by decide +kernel
theorem dX2_flowThrough_134 : decode cX2_flowThrough 134 = .ok (.ireturn, 1) := by decide +kernel
theorem dX2_flowThrough_135 : decode cX2_flowThrough 135 = .ok (.iload 6, 2) := by decide +kernel
theorem dX2_flowThrough_137 : decode cX2_flowThrough 137 = .ok (.iconst 2, 1) := by decide +kernel
theorem dX2_flowThrough_138 : decode cX2_flowThrough 138 = .ok (.idiv, 1) := by decide +kernel
theorem dX2_flowThrough_139 : decode cX2_flowThrough 139 = .ok (.istore 10, 2) := by decide +kernel
theorem dX2_flowThrough_141 : decode cX2_flowThrough 141 = .ok (.aload_n 0, 1) := by decide +kernel
theorem dX2_flowThrough_142 : decode cX2_flowThrough 142 = .ok (.getfield 17, 3) := by decide +kernel
theorem dX2_flowThrough_145 : decode cX2_flowThrough 145 = .ok (.ifCond .lt 54, 3) := by decide +kernel
theorem dX2_flowThrough_148 : decode cX2_flowThrough 148 = .ok (.aload_n 0, 1) := by decide +kernel
theorem dX2_flowThrough_149 : decode cX2_flowThrough 149 = .ok (.getfield 17, 3) := by decide +kernel
theorem dX2_flowThrough_152 : decode cX2_flowThrough 152 = .ok (.aload_n 0, 1) := by decide +kernel
theorem dX2_flowThrough_153 : decode cX2_flowThrough 153 = .ok (.getfield 51, 3) := by decide +kernel
theorem dX2_flowThrough_156 : decode cX2_flowThrough 156 = .ok (.if_icmp .ge 43, 3) := by decide +kernel
theorem dX2_flowThrough_159 : decode cX2_flowThrough 159 = .ok (.aload_n 0, 1) := by decide +kernel
theorem dX2_flowThrough_160 : decode cX2_flowThrough 160 = .ok (.getfield 11, 3) := by decide +kernel
theorem dX2_flowThrough_163 : decode cX2_flowThrough 163 = .ok (.aload_n 0, 1) := by decide +kernel
theorem dX2_flowThrough_164 : decode cX2_flowThrough 164 = .ok (.getfield 17, 3) := by decide +kernel
theorem dX2_flowThrough_167 : decode cX2_flowThrough 167 = .ok (.aaload, 1) := by decide +kernel
theorem dX2_flowThrough_168 : decode cX2_flowThrough 168 = .ok (.iload 6, 2) := by decide +kernel
theorem dX2_flowThrough_170 : decode cX2_flowThrough 170 = .ok (.aload_n 3, 1) := by decide +kernel
theorem dX2_flowThrough_171 : decode cX2_flowThrough 171 = .ok (.iconst 2, 1) := by decide +kernel
theorem dX2_flowThrough_172 : decode cX2_flowThrough 172 = .ok (.iaload, 1) := by decide +kernel
theorem dX2_flowThrough_173 : decode cX2_flowThrough 173 = .ok (.aload_n 2, 1) := by decide +kernel
theorem dX2_flowThrough_174 : decode cX2_flowThrough 174 = .ok (.getfield 39, 3) := by decide +kernel
theorem dX2_flowThrough_177 : decode cX2_flowThrough 177 = .ok (.iload 4, 2) := by decide +kernel
theorem dX2_flowThrough_179 : decode cX2_flowThrough 179 = .ok (.iaload, 1) := by decide +kernel
theorem dX2_flowThrough_180 : decode cX2_flowThrough 180 = .ok (.aload_n 3, 1) := by decide +kernel
theorem dX2_flowThrough_181 : decode cX2_flowThrough 181 = .ok (.iconst 3, 1) := by decide +kernel
theorem dX2_flowThrough_182 : decode cX2_flowThrough 182 = .ok (.iaload, 1) := by decide +kernel
theorem dX2_flowThrough_183 : decode cX2_flowThrough 183 = .ok (.aload_n 2, 1) := by decide +kernel
theorem dX2_flowThrough_184 : decode cX2_flowThrough 184 = .ok (.getfield 39, 3) := by decide +kernel
theorem dX2_flowThrough_187 : decode cX2_flowThrough 187 = .ok (.iload 5, 2) := by decide +kernel
theorem dX2_flowThrough_189 : decode cX2_flowThrough 189 = .ok (.iaload, 1) := by decide +kernel
theorem dX2_flowThrough_190 : decode cX2_flowThrough 190 = .ok (.aload_n 2, 1) := by decide +kernel
theorem dX2_flowThrough_191 : decode cX2_flowThrough 191 = .ok (.getfield 54, 3) := by decide +kernel
theorem dX2_flowThrough_194 : decode cX2_flowThrough 194 = .ok (.invokevirtual 57, 3) := by decide +kernel
theorem dX2_flowThrough_197 : decode cX2_flowThrough 197 = .ok (.istore 10, 2) := by decide +kernel
theorem dX2_flowThrough_199 : decode cX2_flowThrough 199 = .ok (.iconst 0, 1) := by decide +kernel
theorem dX2_flowThrough_200 : decode cX2_flowThrough 200 = .ok (.iload 9, 2) := by decide +kernel
theorem dX2_flowThrough_202 : decode cX2_flowThrough 202 = .ok (.iload 10, 2) := by decide +kernel
theorem dX2_flowThrough_204 : decode cX2_flowThrough 204 = .ok (.invokestatic 45, 3) := by decide +kernel
theorem dX2_flowThrough_207 : decode cX2_flowThrough 207 = .ok (.invokestatic 61, 3) := by decide +kernel
theorem dX2_flowThrough_210 : decode cX2_flowThrough 210 = .ok (.ireturn, 1) := by decide +kernel
theorem dX2_higherEnd_0 : decode cX2_higherEnd 0 = .ok (.aload_n 0, 1) := by decide +kernel
theorem dX2_higherEnd_1 : decode cX2_higherEnd 1 = .ok (.getfield 21, 3) := by decide +kernel
theorem dX2_higherEnd_4 : decode cX2_higherEnd 4 = .ok (.getfield 26, 3) := by decide +kernel
theorem dX2_higherEnd_7 : decode cX2_higherEnd 7 = .ok (.iload_n 1, 1) := by decide +kernel
theorem dX2_higherEnd_8 : decode cX2_higherEnd 8 = .ok (.aaload, 1) := by decide +kernel
theorem dX2_higherEnd_9 : decode cX2_higherEnd 9 = .ok (.iconst 0, 1) := by decide +kernel
theorem dX2_higherEnd_10 : decode cX2_higherEnd 10 = .ok (.iaload, 1) := by decide +kernel
theorem dX2_higherEnd_11 : decode cX2_higherEnd 11 = .ok (.istore_n 3, 1) := by decide +kernel
theorem dX2_higherEnd_12 : decode cX2_higherEnd 12 = .ok (.aload_n 0, 1) := by decide +kernel
theorem dX2_higherEnd_13 : decode cX2_higherEnd 13 = .ok (.getfield 21, 3) := by decide +kernel
theorem dX2_higherEnd_16 : decode cX2_higherEnd 16 = .ok (.getfield 26, 3) := by decide +kernel
theorem dX2_higherEnd_19 : decode cX2_higherEnd 19 = .ok (.iload_n 1, 1) := by decide +kernel
theorem dX2_higherEnd_20 : decode cX2_higherEnd 20 = .ok (.aaload, 1) := by decide +kernel
theorem dX2_higherEnd_21 : decode cX2_higherEnd 21 = .ok (.iconst 1, 1) := by decide +kernel
theorem dX2_higherEnd_22 : decode cX2_higherEnd 22 = .ok (.iaload, 1) := by decide +kernel
theorem dX2_higherEnd_23 : decode cX2_higherEnd 23 = .ok (.istore 4, 2) := by decide +kernel
theorem dX2_higherEnd_25 : decode cX2_higherEnd 25 = .ok (.aload_n 0, 1) := by decide +kernel
theorem dX2_higherEnd_26 : decode cX2_higherEnd 26 = .ok (.getfield 21, 3) := by decide +kernel
theorem dX2_higherEnd_29 : decode cX2_higherEnd 29 = .ok (.getfield 36, 3) := by decide +kernel
theorem dX2_higherEnd_32 : decode cX2_higherEnd 32 = .ok (.iload_n 3, 1) := by decide +kernel
theorem dX2_higherEnd_33 : decode cX2_higherEnd 33 = .ok (.aaload, 1) := by decide +kernel
theorem dX2_higherEnd_34 : decode cX2_higherEnd 34 = .ok (.iconst 2, 1) := by decide +kernel
theorem dX2_higherEnd_35 : decode cX2_higherEnd 35 = .ok (.iaload, 1) := by decide +kernel
theorem dX2_higherEnd_36 : decode cX2_higherEnd 36 = .ok (.aload_n 2, 1) := by decide +kernel
theorem dX2_higherEnd_37 : decode cX2_higherEnd 37 = .ok (.getfield 39, 3) := by decide +kernel
theorem dX2_higherEnd_40 : decode cX2_higherEnd 40 = .ok (.iload_n 3, 1) := by decide +kernel
theorem dX2_higherEnd_41 : decode cX2_higherEnd 41 = .ok (.iaload, 1) := by decide +kernel
theorem dX2_higherEnd_42 : decode cX2_higherEnd 42 = .ok (.iadd, 1) := by decide +kernel
theorem dX2_higherEnd_43 : decode cX2_higherEnd 43 = .ok (.istore 5, 2) := by decide +kernel
theorem dX2_higherEnd_45 : decode cX2_higherEnd 45 = .ok (.aload_n 0, 1) := by decide +kernel
theorem dX2_higherEnd_46 : decode cX2_higherEnd 46 = .ok (.getfield 21, 3) := by decide +kernel
theorem dX2_higherEnd_49 : decode cX2_higherEnd 49 = .ok (.getfield 36, 3) := by decide +kernel
theorem dX2_higherEnd_52 : decode cX2_higherEnd 52 = .ok (.iload 4, 2) := by decide +kernel
theorem dX2_higherEnd_54 : decode cX2_higherEnd 54 = .ok (.aaload, 1) := by decide +kernel
theorem dX2_higherEnd_55 : decode cX2_higherEnd 55 = .ok (.iconst 2, 1) := by decide +kernel
theorem dX2_higherEnd_56 : decode cX2_higherEnd 56 = .ok (.iaload, 1) := by decide +kernel
theorem dX2_higherEnd_57 : decode cX2_higherEnd 57 = .ok (.aload_n 2, 1) := by decide +kernel
theorem dX2_higherEnd_58 : decode cX2_higherEnd 58 = .ok (.getfield 39, 3) := by decide +kernel
theorem dX2_higherEnd_61 : decode cX2_higherEnd 61 = .ok (.iload 4, 2) := by decide +kernel
theorem dX2_higherEnd_63 : decode cX2_higherEnd 63 = .ok (.iaload, 1) := by decide +kernel
theorem dX2_higherEnd_64 : decode cX2_higherEnd 64 = .ok (.iadd, 1) := by decide +kernel
theorem dX2_higherEnd_65 : decode cX2_higherEnd 65 = .ok (.istore 6, 2) := by decide +kernel
theorem dX2_higherEnd_67 : decode cX2_higherEnd 67 = .ok (.iload 5, 2) := by decide +kernel
theorem dX2_higherEnd_69 : decode cX2_higherEnd 69 = .ok (.iload 6, 2) := by decide +kernel
theorem dX2_higherEnd_71 : decode cX2_higherEnd 71 = .ok (.if_icmp .lt 7, 3) := by decide +kernel
theorem dX2_higherEnd_74 : decode cX2_higherEnd 74 = .ok (.iload_n 3, 1) := by decide +kernel
theorem dX2_higherEnd_75 : decode cX2_higherEnd 75 = .ok (.goto 5, 3) := by decide +kernel
theorem dX2_higherEnd_78 : decode cX2_higherEnd 78 = .ok (.iload 4, 2) := by decide +kernel
theorem dX2_higherEnd_80 : decode cX2_higherEnd 80 = .ok (.ireturn, 1) := by decide +kernel
theorem dX2_passDay_0 : decode cX2_passDay 0 = .ok (.iconst 0, 1) := by decide +kernel
theorem dX2_passDay_1 : decode cX2_passDay 1 = .ok (.istore_n 3, 1) := by decide +kernel
theorem dX2_passDay_2 : decode cX2_passDay 2 = .ok (.iload_n 3, 1) := by decide +kernel
theorem dX2_passDay_3 : decode cX2_passDay 3 = .ok (.aload_n 0, 1) := by decide +kernel
theorem dX2_passDay_4 : decode cX2_passDay 4 = .ok (.getfield 21, 3) := by decide +kernel
theorem dX2_passDay_7 : decode cX2_passDay 7 = .ok (.getfield 64, 3) := by decide +kernel
theorem dX2_passDay_10 : decode cX2_passDay 10 = .ok (.if_icmp .ge 23, 3) := by decide +kernel
theorem dX2_passDay_13 : decode cX2_passDay 13 = .ok (.aload_n 1, 1) := by decide +kernel
theorem dX2_passDay_14 : decode cX2_passDay 14 = .ok (.iload_n 3, 1) := by decide +kernel
theorem dX2_passDay_15 : decode cX2_passDay 15 = .ok (.invokevirtual 67, 3) := by decide +kernel
theorem dX2_passDay_18 : decode cX2_passDay 18 = .ok (.ifCond .eq 9, 3) := by decide +kernel
theorem dX2_passDay_21 : decode cX2_passDay 21 = .ok (.aload_n 0, 1) := by decide +kernel
theorem dX2_passDay_22 : decode cX2_passDay 22 = .ok (.iload_n 3, 1) := by decide +kernel
theorem dX2_passDay_23 : decode cX2_passDay 23 = .ok (.aload_n 1, 1) := by decide +kernel
theorem dX2_passDay_24 : decode cX2_passDay 24 = .ok (.invokevirtual 71, 3) := by decide +kernel
theorem dX2_passDay_27 : decode cX2_passDay 27 = .ok (.iinc 3 1, 3) := by decide +kernel
theorem dX2_passDay_30 : decode cX2_passDay 30 = .ok (.goto (-28), 3) := by decide +kernel
theorem dX2_passDay_33 : decode cX2_passDay 33 = .ok (.iconst 0, 1) := by decide +kernel
theorem dX2_passDay_34 : decode cX2_passDay 34 = .ok (.istore_n 3, 1) := by decide +kernel
theorem dX2_passDay_35 : decode cX2_passDay 35 = .ok (.iload_n 3, 1) := by decide +kernel
theorem dX2_passDay_36 : decode cX2_passDay 36 = .ok (.aload_n 0, 1) := by decide +kernel
theorem dX2_passDay_37 : decode cX2_passDay 37 = .ok (.getfield 21, 3) := by decide +kernel
theorem dX2_passDay_40 : decode cX2_passDay 40 = .ok (.getfield 75, 3) := by decide +kernel
theorem dX2_passDay_43 : decode cX2_passDay 43 = .ok (.if_icmp .ge 16, 3) := by decide +kernel
theorem dX2_passDay_46 : decode cX2_passDay 46 = .ok (.aload_n 0, 1) := by decide +kernel
theorem dX2_passDay_47 : decode cX2_passDay 47 = .ok (.iload_n 3, 1) := by decide +kernel
theorem dX2_passDay_48 : decode cX2_passDay 48 = .ok (.aload_n 1, 1) := by decide +kernel
theorem dX2_passDay_49 : decode cX2_passDay 49 = .ok (.iload_n 2, 1) := by decide +kernel
theorem dX2_passDay_50 : decode cX2_passDay 50 = .ok (.invokevirtual 78, 3) := by decide +kernel
theorem dX2_passDay_53 : decode cX2_passDay 53 = .ok (.iinc 3 1, 3) := by decide +kernel
theorem dX2_passDay_56 : decode cX2_passDay 56 = .ok (.goto (-21), 3) := by decide +kernel
theorem dX2_passDay_59 : decode cX2_passDay 59 = .ok (.iconst 0, 1) := by decide +kernel
theorem dX2_passDay_60 : decode cX2_passDay 60 = .ok (.istore_n 3, 1) := by decide +kernel
theorem dX2_passDay_61 : decode cX2_passDay 61 = .ok (.iload_n 3, 1) := by decide +kernel
theorem dX2_passDay_62 : decode cX2_passDay 62 = .ok (.aload_n 0, 1) := by decide +kernel
theorem dX2_passDay_63 : decode cX2_passDay 63 = .ok (.getfield 21, 3) := by decide +kernel
theorem dX2_passDay_66 : decode cX2_passDay 66 = .ok (.getfield 75, 3) := by decide +kernel
theorem dX2_passDay_69 : decode cX2_passDay 69 = .ok (.if_icmp .ge 15, 3) := by decide +kernel
theorem dX2_passDay_72 : decode cX2_passDay 72 = .ok (.aload_n 0, 1) := by decide +kernel
theorem dX2_passDay_73 : decode cX2_passDay 73 = .ok (.iload_n 3, 1) := by decide +kernel
theorem dX2_passDay_74 : decode cX2_passDay 74 = .ok (.aload_n 1, 1) := by decide +kernel
theorem dX2_passDay_75 : decode cX2_passDay 75 = .ok (.invokevirtual 82, 3) := by decide +kernel
theorem dX2_passDay_78 : decode cX2_passDay 78 = .ok (.iinc 3 1, 3) := by decide +kernel
theorem dX2_passDay_81 : decode cX2_passDay 81 = .ok (.goto (-20), 3) := by decide +kernel
theorem dX2_passDay_84 : decode cX2_passDay 84 = .ok (.aload_n 1, 1) := by decide +kernel
theorem dX2_passDay_85 : decode cX2_passDay 85 = .ok (.dup, 1) := by decide +kernel
theorem dX2_passDay_86 : decode cX2_passDay 86 = .ok (.getfield 54, 3) := by decide +kernel
theorem dX2_passDay_89 : decode cX2_passDay 89 = .ok (.iconst 1, 1) := by decide +kernel
theorem dX2_passDay_90 : decode cX2_passDay 90 = .ok (.iadd, 1) := by decide +kernel
theorem dX2_passDay_91 : decode cX2_passDay 91 = .ok (.putfield 54, 3) := by decide +kernel
theorem dX2_passDay_94 : decode cX2_passDay 94 = .ok (.return_, 1) := by decide +kernel
theorem dX2_carry_0 : decode cX2_carry 0 = .ok (.aload_n 0, 1) := by decide +kernel
theorem dX2_carry_1 : decode cX2_carry 1 = .ok (.iload_n 1, 1) := by decide +kernel
theorem dX2_carry_2 : decode cX2_carry 2 = .ok (.aload_n 2, 1) := by decide +kernel
theorem dX2_carry_3 : decode cX2_carry 3 = .ok (.invokevirtual 85, 3) := by decide +kernel
theorem dX2_carry_6 : decode cX2_carry 6 = .ok (.istore_n 3, 1) := by decide +kernel
theorem dX2_carry_7 : decode cX2_carry 7 = .ok (.iload_n 3, 1) := by decide +kernel
theorem dX2_carry_8 : decode cX2_carry 8 = .ok (.ifCond .gt 4, 3) := by decide +kernel
theorem dX2_carry_11 : decode cX2_carry 11 = .ok (.return_, 1) := by decide +kernel
theorem dX2_carry_12 : decode cX2_carry 12 = .ok (.aload_n 0, 1) := by decide +kernel
theorem dX2_carry_13 : decode cX2_carry 13 = .ok (.iload_n 1, 1) := by decide +kernel
theorem dX2_carry_14 : decode cX2_carry 14 = .ok (.aload_n 2, 1) := by decide +kernel
theorem dX2_carry_15 : decode cX2_carry 15 = .ok (.invokevirtual 32, 3) := by decide +kernel
theorem dX2_carry_18 : decode cX2_carry 18 = .ok (.istore 4, 2) := by decide +kernel
theorem dX2_carry_20 : decode cX2_carry 20 = .ok (.aload_n 0, 1) := by decide +kernel
theorem dX2_carry_21 : decode cX2_carry 21 = .ok (.getfield 21, 3) := by decide +kernel
theorem dX2_carry_24 : decode cX2_carry 24 = .ok (.getfield 26, 3) := by decide +kernel
theorem dX2_carry_27 : decode cX2_carry 27 = .ok (.iload_n 1, 1) := by decide +kernel
theorem dX2_carry_28 : decode cX2_carry 28 = .ok (.aaload, 1) := by decide +kernel
theorem dX2_carry_29 : decode cX2_carry 29 = .ok (.iconst 0, 1) := by decide +kernel
theorem dX2_carry_30 : decode cX2_carry 30 = .ok (.iaload, 1) := by decide +kernel
theorem dX2_carry_31 : decode cX2_carry 31 = .ok (.aload_n 0, 1) := by decide +kernel
theorem dX2_carry_32 : decode cX2_carry 32 = .ok (.getfield 21, 3) := by decide +kernel
theorem dX2_carry_35 : decode cX2_carry 35 = .ok (.getfield 26, 3) := by decide +kernel
theorem dX2_carry_38 : decode cX2_carry 38 = .ok (.iload_n 1, 1) := by decide +kernel
theorem dX2_carry_39 : decode cX2_carry 39 = .ok (.aaload, 1) := by decide +kernel
theorem dX2_carry_40 : decode cX2_carry 40 = .ok (.iconst 1, 1) := by decide +kernel
theorem dX2_carry_41 : decode cX2_carry 41 = .ok (.iaload, 1) := by decide +kernel
theorem dX2_carry_42 : decode cX2_carry 42 = .ok (.iadd, 1) := by decide +kernel
theorem dX2_carry_43 : decode cX2_carry 43 = .ok (.iload 4, 2) := by decide +kernel
theorem dX2_carry_45 : decode cX2_carry 45 = .ok (.isub, 1) := by decide +kernel
theorem dX2_carry_46 : decode cX2_carry 46 = .ok (.istore 5, 2) := by decide +kernel
theorem dX2_carry_48 : decode cX2_carry 48 = .ok (.aload_n 2, 1) := by decide +kernel
theorem dX2_carry_49 : decode cX2_carry 49 = .ok (.getfield 39, 3) := by decide +kernel
theorem dX2_carry_52 : decode cX2_carry 52 = .ok (.iload 4, 2) := by decide +kernel
theorem dX2_carry_54 : decode cX2_carry 54 = .ok (.dup2, 1) := by decide +kernel
theorem dX2_carry_55 : decode cX2_carry 55 = .ok (.iaload, 1) := by decide +kernel
theorem dX2_carry_56 : decode cX2_carry 56 = .ok (.iload_n 3, 1) := by decide +kernel
theorem dX2_carry_57 : decode cX2_carry 57 = .ok (.isub, 1) := by decide +kernel
theorem dX2_carry_58 : decode cX2_carry 58 = .ok (.iastore, 1) := by decide +kernel
theorem dX2_carry_59 : decode cX2_carry 59 = .ok (.aload_n 2, 1) := by decide +kernel
theorem dX2_carry_60 : decode cX2_carry 60 = .ok (.getfield 39, 3) := by decide +kernel
theorem dX2_carry_63 : decode cX2_carry 63 = .ok (.iload 5, 2) := by decide +kernel
theorem dX2_carry_65 : decode cX2_carry 65 = .ok (.dup2, 1) := by decide +kernel
theorem dX2_carry_66 : decode cX2_carry 66 = .ok (.iaload, 1) := by decide +kernel
theorem dX2_carry_67 : decode cX2_carry 67 = .ok (.iload_n 3, 1) := by decide +kernel
theorem dX2_carry_68 : decode cX2_carry 68 = .ok (.iadd, 1) := by decide +kernel
theorem dX2_carry_69 : decode cX2_carry 69 = .ok (.iastore, 1) := by decide +kernel
theorem dX2_carry_70 : decode cX2_carry 70 = .ok (.aload_n 2, 1) := by decide +kernel
theorem dX2_carry_71 : decode cX2_carry 71 = .ok (.getfield 88, 3) := by decide +kernel
theorem dX2_carry_74 : decode cX2_carry 74 = .ok (.iload 4, 2) := by decide +kernel
theorem dX2_carry_76 : decode cX2_carry 76 = .ok (.iaload, 1) := by decide +kernel
theorem dX2_carry_77 : decode cX2_carry 77 = .ok (.ifCond .le 37, 3) := by decide +kernel
theorem dX2_carry_80 : decode cX2_carry 80 = .ok (.aload_n 2, 1) := by decide +kernel
theorem dX2_carry_81 : decode cX2_carry 81 = .ok (.getfield 88, 3) := by decide +kernel
theorem dX2_carry_84 : decode cX2_carry 84 = .ok (.iload 5, 2) := by decide +kernel
theorem dX2_carry_86 : decode cX2_carry 86 = .ok (.iaload, 1) := by decide +kernel
theorem dX2_carry_87 : decode cX2_carry 87 = .ok (.bipush 99, 2) := by decide +kernel
theorem dX2_carry_89 : decode cX2_carry 89 = .ok (.if_icmp .ge 25, 3) := by decide +kernel
theorem dX2_carry_92 : decode cX2_carry 92 = .ok (.aload_n 2, 1) := by decide +kernel
theorem dX2_carry_93 : decode cX2_carry 93 = .ok (.getfield 88, 3) := by decide +kernel
theorem dX2_carry_96 : decode cX2_carry 96 = .ok (.iload 4, 2) := by decide +kernel
theorem dX2_carry_98 : decode cX2_carry 98 = .ok (.dup2, 1) := by decide +kernel
theorem dX2_carry_99 : decode cX2_carry 99 = .ok (.iaload, 1) := by decide +kernel
theorem dX2_carry_100 : decode cX2_carry 100 = .ok (.iconst 1, 1) := by decide +kernel
theorem dX2_carry_101 : decode cX2_carry 101 = .ok (.isub, 1) := by decide +kernel
theorem dX2_carry_102 : decode cX2_carry 102 = .ok (.iastore, 1) := by decide +kernel
theorem dX2_carry_103 : decode cX2_carry 103 = .ok (.aload_n 2, 1) := by decide +kernel
theorem dX2_carry_104 : decode cX2_carry 104 = .ok (.getfield 88, 3) := by decide +kernel
theorem dX2_carry_107 : decode cX2_carry 107 = .ok (.iload 5, 2) := by decide +kernel
theorem dX2_carry_109 : decode cX2_carry 109 = .ok (.dup2, 1) := by decide +kernel
theorem dX2_carry_110 : decode cX2_carry 110 = .ok (.iaload, 1) := by decide +kernel
theorem dX2_carry_111 : decode cX2_carry 111 = .ok (.iconst 1, 1) := by decide +kernel
theorem dX2_carry_112 : decode cX2_carry 112 = .ok (.iadd, 1) := by decide +kernel
theorem dX2_carry_113 : decode cX2_carry 113 = .ok (.iastore, 1) := by decide +kernel
theorem dX2_carry_114 : decode cX2_carry 114 = .ok (.aload_n 2, 1) := by decide +kernel
theorem dX2_carry_115 : decode cX2_carry 115 = .ok (.getfield 91, 3) := by decide +kernel
theorem dX2_carry_118 : decode cX2_carry 118 = .ok (.iload 4, 2) := by decide +kernel
theorem dX2_carry_120 : decode cX2_carry 120 = .ok (.iaload, 1) := by decide +kernel
theorem dX2_carry_121 : decode cX2_carry 121 = .ok (.ifCond .le 37, 3) := by decide +kernel
theorem dX2_carry_124 : decode cX2_carry 124 = .ok (.aload_n 2, 1) := by decide +kernel
theorem dX2_carry_125 : decode cX2_carry 125 = .ok (.getfield 91, 3) := by decide +kernel
theorem dX2_carry_128 : decode cX2_carry 128 = .ok (.iload 5, 2) := by decide +kernel
theorem dX2_carry_130 : decode cX2_carry 130 = .ok (.iaload, 1) := by decide +kernel
theorem dX2_carry_131 : decode cX2_carry 131 = .ok (.bipush 9, 2) := by decide +kernel
theorem dX2_carry_133 : decode cX2_carry 133 = .ok (.if_icmp .ge 25, 3) := by decide +kernel
theorem dX2_carry_136 : decode cX2_carry 136 = .ok (.aload_n 2, 1) := by decide +kernel
theorem dX2_carry_137 : decode cX2_carry 137 = .ok (.getfield 91, 3) := by decide +kernel
theorem dX2_carry_140 : decode cX2_carry 140 = .ok (.iload 4, 2) := by decide +kernel
theorem dX2_carry_142 : decode cX2_carry 142 = .ok (.dup2, 1) := by decide +kernel
theorem dX2_carry_143 : decode cX2_carry 143 = .ok (.iaload, 1) := by decide +kernel
theorem dX2_carry_144 : decode cX2_carry 144 = .ok (.iconst 1, 1) := by decide +kernel
theorem dX2_carry_145 : decode cX2_carry 145 = .ok (.isub, 1) := by decide +kernel
theorem dX2_carry_146 : decode cX2_carry 146 = .ok (.iastore, 1) := by decide +kernel
theorem dX2_carry_147 : decode cX2_carry 147 = .ok (.aload_n 2, 1) := by decide +kernel
theorem dX2_carry_148 : decode cX2_carry 148 = .ok (.getfield 91, 3) := by decide +kernel
theorem dX2_carry_151 : decode cX2_carry 151 = .ok (.iload 5, 2) := by decide +kernel
theorem dX2_carry_153 : decode cX2_carry 153 = .ok (.dup2, 1) := by decide +kernel
theorem dX2_carry_154 : decode cX2_carry 154 = .ok (.iaload, 1) := by decide +kernel
theorem dX2_carry_155 : decode cX2_carry 155 = .ok (.iconst 1, 1) := by decide +kernel
theorem dX2_carry_156 : decode cX2_carry 156 = .ok (.iadd, 1) := by decide +kernel
theorem dX2_carry_157 : decode cX2_carry 157 = .ok (.iastore, 1) := by decide +kernel
theorem dX2_carry_158 : decode cX2_carry 158 = .ok (.return_, 1) := by decide +kernel
theorem dX2_weather_0 : decode cX2_weather 0 = .ok (.aload_n 0, 1) := by decide +kernel
theorem dX2_weather_1 : decode cX2_weather 1 = .ok (.getfield 21, 3) := by decide +kernel
theorem dX2_weather_4 : decode cX2_weather 4 = .ok (.getfield 36, 3) := by decide +kernel
theorem dX2_weather_7 : decode cX2_weather 7 = .ok (.iload_n 1, 1) := by decide +kernel
theorem dX2_weather_8 : decode cX2_weather 8 = .ok (.aaload, 1) := by decide +kernel
theorem dX2_weather_9 : decode cX2_weather 9 = .ok (.astore 4, 2) := by decide +kernel
theorem dX2_weather_11 : decode cX2_weather 11 = .ok (.aload_n 2, 1) := by decide +kernel
theorem dX2_weather_12 : decode cX2_weather 12 = .ok (.getfield 39, 3) := by decide +kernel
theorem dX2_weather_15 : decode cX2_weather 15 = .ok (.iload_n 1, 1) := by decide +kernel
theorem dX2_weather_16 : decode cX2_weather 16 = .ok (.iaload, 1) := by decide +kernel
theorem dX2_weather_17 : decode cX2_weather 17 = .ok (.iload_n 3, 1) := by decide +kernel
theorem dX2_weather_18 : decode cX2_weather 18 = .ok (.iadd, 1) := by decide +kernel
theorem dX2_weather_19 : decode cX2_weather 19 = .ok (.istore 5, 2) := by decide +kernel
theorem dX2_weather_21 : decode cX2_weather 21 = .ok (.iload 5, 2) := by decide +kernel
theorem dX2_weather_23 : decode cX2_weather 23 = .ok (.aload 4, 2) := by decide +kernel
theorem dX2_weather_25 : decode cX2_weather 25 = .ok (.iconst 1, 1) := by decide +kernel
theorem dX2_weather_26 : decode cX2_weather 26 = .ok (.iaload, 1) := by decide +kernel
theorem dX2_weather_27 : decode cX2_weather 27 = .ok (.invokestatic 45, 3) := by decide +kernel
theorem dX2_weather_30 : decode cX2_weather 30 = .ok (.istore 6, 2) := by decide +kernel
theorem dX2_weather_32 : decode cX2_weather 32 = .ok (.aload_n 2, 1) := by decide +kernel
theorem dX2_weather_33 : decode cX2_weather 33 = .ok (.dup, 1) := by decide +kernel
theorem dX2_weather_34 : decode cX2_weather 34 = .ok (.getfield 94, 3) := by decide +kernel
theorem dX2_weather_37 : decode cX2_weather 37 = .ok (.iload 5, 2) := by decide +kernel
theorem dX2_weather_39 : decode cX2_weather 39 = .ok (.iload 6, 2) := by decide +kernel
theorem dX2_weather_41 : decode cX2_weather 41 = .ok (.isub, 1) := by decide +kernel
theorem dX2_weather_42 : decode cX2_weather 42 = .ok (.iadd, 1) := by decide +kernel
theorem dX2_weather_43 : decode cX2_weather 43 = .ok (.putfield 94, 3) := by decide +kernel
theorem dX2_weather_46 : decode cX2_weather 46 = .ok (.aload_n 2, 1) := by decide +kernel
theorem dX2_weather_47 : decode cX2_weather 47 = .ok (.getfield 39, 3) := by decide +kernel
theorem dX2_weather_50 : decode cX2_weather 50 = .ok (.iload_n 1, 1) := by decide +kernel
theorem dX2_weather_51 : decode cX2_weather 51 = .ok (.iconst 0, 1) := by decide +kernel
theorem dX2_weather_52 : decode cX2_weather 52 = .ok (.iload 6, 2) := by decide +kernel
theorem dX2_weather_54 : decode cX2_weather 54 = .ok (.aload_n 0, 1) := by decide +kernel
theorem dX2_weather_55 : decode cX2_weather 55 = .ok (.getfield 21, 3) := by decide +kernel
theorem dX2_weather_58 : decode cX2_weather 58 = .ok (.getfield 97, 3) := by decide +kernel
theorem dX2_weather_61 : decode cX2_weather 61 = .ok (.iconst 1, 1) := by decide +kernel
theorem dX2_weather_62 : decode cX2_weather 62 = .ok (.iaload, 1) := by decide +kernel
theorem dX2_weather_63 : decode cX2_weather 63 = .ok (.isub, 1) := by decide +kernel
theorem dX2_weather_64 : decode cX2_weather 64 = .ok (.aload 4, 2) := by decide +kernel
theorem dX2_weather_66 : decode cX2_weather 66 = .ok (.iconst 4, 1) := by decide +kernel
theorem dX2_weather_67 : decode cX2_weather 67 = .ok (.iaload, 1) := by decide +kernel
theorem dX2_weather_68 : decode cX2_weather 68 = .ok (.isub, 1) := by decide +kernel
theorem dX2_weather_69 : decode cX2_weather 69 = .ok (.invokestatic 61, 3) := by decide +kernel
theorem dX2_weather_72 : decode cX2_weather 72 = .ok (.iastore, 1) := by decide +kernel
theorem dX2_weather_73 : decode cX2_weather 73 = .ok (.return_, 1) := by decide +kernel
theorem dX2_live_0 : decode cX2_live 0 = .ok (.aload_n 2, 1) := by decide +kernel
theorem dX2_live_1 : decode cX2_live 1 = .ok (.getfield 88, 3) := by decide +kernel
theorem dX2_live_4 : decode cX2_live 4 = .ok (.iload_n 1, 1) := by decide +kernel
theorem dX2_live_5 : decode cX2_live 5 = .ok (.iaload, 1) := by decide +kernel
theorem dX2_live_6 : decode cX2_live 6 = .ok (.istore_n 3, 1) := by decide +kernel
theorem dX2_live_7 : decode cX2_live 7 = .ok (.aload_n 2, 1) := by decide +kernel
theorem dX2_live_8 : decode cX2_live 8 = .ok (.getfield 91, 3) := by decide +kernel
theorem dX2_live_11 : decode cX2_live 11 = .ok (.iload_n 1, 1) := by decide +kernel
theorem dX2_live_12 : decode cX2_live 12 = .ok (.iaload, 1) := by decide +kernel
theorem dX2_live_13 : decode cX2_live 13 = .ok (.istore 4, 2) := by decide +kernel
theorem dX2_live_15 : decode cX2_live 15 = .ok (.aload_n 2, 1) := by decide +kernel
theorem dX2_live_16 : decode cX2_live 16 = .ok (.getfield 39, 3) := by decide +kernel
theorem dX2_live_19 : decode cX2_live 19 = .ok (.iload_n 1, 1) := by decide +kernel
theorem dX2_live_20 : decode cX2_live 20 = .ok (.iaload, 1) := by decide +kernel
theorem dX2_live_21 : decode cX2_live 21 = .ok (.ifCond .ne 18, 3) := by decide +kernel
theorem dX2_live_24 : decode cX2_live 24 = .ok (.aload_n 2, 1) := by decide +kernel
theorem dX2_live_25 : decode cX2_live 25 = .ok (.getfield 88, 3) := by decide +kernel
theorem dX2_live_28 : decode cX2_live 28 = .ok (.iload_n 1, 1) := by decide +kernel
theorem dX2_live_29 : decode cX2_live 29 = .ok (.iconst 0, 1) := by decide +kernel
theorem dX2_live_30 : decode cX2_live 30 = .ok (.iastore, 1) := by decide +kernel
theorem dX2_live_31 : decode cX2_live 31 = .ok (.aload_n 2, 1) := by decide +kernel
theorem dX2_live_32 : decode cX2_live 32 = .ok (.getfield 91, 3) := by decide +kernel
theorem dX2_live_35 : decode cX2_live 35 = .ok (.iload_n 1, 1) := by decide +kernel
theorem dX2_live_36 : decode cX2_live 36 = .ok (.iconst 0, 1) := by decide +kernel
theorem dX2_live_37 : decode cX2_live 37 = .ok (.iastore, 1) := by decide +kernel
theorem dX2_live_38 : decode cX2_live 38 = .ok (.return_, 1) := by decide +kernel
theorem dX2_live_39 : decode cX2_live 39 = .ok (.iload_n 3, 1) := by decide +kernel
theorem dX2_live_40 : decode cX2_live 40 = .ok (.iload 4, 2) := by decide +kernel
theorem dX2_live_42 : decode cX2_live 42 = .ok (.if_icmp .ge 13, 3) := by decide +kernel
theorem dX2_live_45 : decode cX2_live 45 = .ok (.aload_n 2, 1) := by decide +kernel
theorem dX2_live_46 : decode cX2_live 46 = .ok (.getfield 91, 3) := by decide +kernel
theorem dX2_live_49 : decode cX2_live 49 = .ok (.iload_n 1, 1) := by decide +kernel
theorem dX2_live_50 : decode cX2_live 50 = .ok (.dup2, 1) := by decide +kernel
theorem dX2_live_51 : decode cX2_live 51 = .ok (.iaload, 1) := by decide +kernel
theorem dX2_live_52 : decode cX2_live 52 = .ok (.iconst 1, 1) := by decide +kernel
theorem dX2_live_53 : decode cX2_live 53 = .ok (.isub, 1) := by decide +kernel
theorem dX2_live_54 : decode cX2_live 54 = .ok (.iastore, 1) := by decide +kernel
theorem dX2_live_55 : decode cX2_live 55 = .ok (.iconst 0, 1) := by decide +kernel
theorem dX2_live_56 : decode cX2_live 56 = .ok (.iload_n 3, 1) := by decide +kernel
theorem dX2_live_57 : decode cX2_live 57 = .ok (.iconst 2, 1) := by decide +kernel
theorem dX2_live_58 : decode cX2_live 58 = .ok (.iload 4, 2) := by decide +kernel
theorem dX2_live_60 : decode cX2_live 60 = .ok (.imul, 1) := by decide +kernel
theorem dX2_live_61 : decode cX2_live 61 = .ok (.isub, 1) := by decide +kernel
theorem dX2_live_62 : decode cX2_live 62 = .ok (.invokestatic 61, 3) := by decide +kernel
theorem dX2_live_65 : decode cX2_live 65 = .ok (.istore_n 3, 1) := by decide +kernel
theorem dX2_live_66 : decode cX2_live 66 = .ok (.aload_n 2, 1) := by decide +kernel
theorem dX2_live_67 : decode cX2_live 67 = .ok (.getfield 39, 3) := by decide +kernel
theorem dX2_live_70 : decode cX2_live 70 = .ok (.iload_n 1, 1) := by decide +kernel
theorem dX2_live_71 : decode cX2_live 71 = .ok (.iaload, 1) := by decide +kernel
theorem dX2_live_72 : decode cX2_live 72 = .ok (.aload_n 0, 1) := by decide +kernel
theorem dX2_live_73 : decode cX2_live 73 = .ok (.getfield 21, 3) := by decide +kernel
theorem dX2_live_76 : decode cX2_live 76 = .ok (.getfield 97, 3) := by decide +kernel
theorem dX2_live_79 : decode cX2_live 79 = .ok (.iconst 2, 1) := by decide +kernel
theorem dX2_live_80 : decode cX2_live 80 = .ok (.iaload, 1) := by decide +kernel
theorem dX2_live_81 : decode cX2_live 81 = .ok (.if_icmp .lt 14, 3) := by decide +kernel
theorem dX2_live_84 : decode cX2_live 84 = .ok (.bipush 99, 2) := by decide +kernel
theorem dX2_live_86 : decode cX2_live 86 = .ok (.iload_n 3, 1) := by decide +kernel
theorem dX2_live_87 : decode cX2_live 87 = .ok (.iload_n 3, 1) := by decide +kernel
theorem dX2_live_88 : decode cX2_live 88 = .ok (.iconst 4, 1) := by decide +kernel
theorem dX2_live_89 : decode cX2_live 89 = .ok (.idiv, 1) := by decide +kernel
theorem dX2_live_90 : decode cX2_live 90 = .ok (.iadd, 1) := by decide +kernel
theorem dX2_live_91 : decode cX2_live 91 = .ok (.invokestatic 45, 3) := by decide +kernel
theorem dX2_live_94 : decode cX2_live 94 = .ok (.istore_n 3, 1) := by decide +kernel
theorem dX2_live_95 : decode cX2_live 95 = .ok (.aload_n 2, 1) := by decide +kernel
theorem dX2_live_96 : decode cX2_live 96 = .ok (.getfield 88, 3) := by decide +kernel
theorem dX2_live_99 : decode cX2_live 99 = .ok (.iload_n 1, 1) := by decide +kernel
theorem dX2_live_100 : decode cX2_live 100 = .ok (.iload_n 3, 1) := by decide +kernel
theorem dX2_live_101 : decode cX2_live 101 = .ok (.iastore, 1) := by decide +kernel
theorem dX2_live_102 : decode cX2_live 102 = .ok (.return_, 1) := by decide +kernel
theorem dX3_init_0 : decode cX3_init 0 = .ok (.aload_n 0, 1) := by decide +kernel
theorem dX3_init_1 : decode cX3_init 1 = .ok (.invokespecial 3, 3) := by decide +kernel
theorem dX3_init_4 : decode cX3_init 4 = .ok (.aload_n 0, 1) := by decide +kernel
theorem dX3_init_5 : decode cX3_init 5 = .ok (.sipush 240, 3) := by decide +kernel
theorem dX3_init_8 : decode cX3_init 8 = .ok (.newarray .int, 2) := by decide +kernel
theorem dX3_init_10 : decode cX3_init 10 = .ok (.putfield 9, 3) := by decide +kernel
theorem dX3_init_13 : decode cX3_init 13 = .ok (.aload_n 0, 1) := by decide +kernel
theorem dX3_init_14 : decode cX3_init 14 = .ok (.ldc 15, 2) := by decide +kernel
theorem dX3_init_16 : decode cX3_init 16 = .ok (.invokevirtual 17, 3) := by decide +kernel
theorem dX3_init_19 : decode cX3_init 19 = .ok (.newarray .int, 2) := by decide +kernel
theorem dX3_init_21 : decode cX3_init 21 = .ok (.putfield 23, 3) := by decide +kernel
theorem dX3_init_24 : decode cX3_init 24 = .ok (.aload_n 0, 1) := by decide +kernel
theorem dX3_init_25 : decode cX3_init 25 = .ok (.bipush 64, 2) := by decide +kernel
theorem dX3_init_27 : decode cX3_init 27 = .ok (.newarray .int, 2) := by decide +kernel
theorem dX3_init_29 : decode cX3_init 29 = .ok (.putfield 26, 3) := by decide +kernel
theorem dX3_init_32 : decode cX3_init 32 = .ok (.return_, 1) := by decide +kernel
theorem dX3_become_0 : decode cX3_become 0 = .ok (.aload_n 1, 1) := by decide +kernel
theorem dX3_become_1 : decode cX3_become 1 = .ok (.getfield 9, 3) := by decide +kernel
theorem dX3_become_4 : decode cX3_become 4 = .ok (.iconst 0, 1) := by decide +kernel
theorem dX3_become_5 : decode cX3_become 5 = .ok (.aload_n 0, 1) := by decide +kernel
theorem dX3_become_6 : decode cX3_become 6 = .ok (.getfield 9, 3) := by decide +kernel
theorem dX3_become_9 : decode cX3_become 9 = .ok (.iconst 0, 1) := by decide +kernel
theorem dX3_become_10 : decode cX3_become 10 = .ok (.aload_n 0, 1) := by decide +kernel
theorem dX3_become_11 : decode cX3_become 11 = .ok (.getfield 9, 3) := by decide +kernel
theorem dX3_become_14 : decode cX3_become 14 = .ok (.arraylength, 1) := by decide +kernel
theorem dX3_become_15 : decode cX3_become 15 = .ok (.invokestatic 29, 3) := by decide +kernel
theorem dX3_become_18 : decode cX3_become 18 = .ok (.aload_n 0, 1) := by decide +kernel
theorem dX3_become_19 : decode cX3_become 19 = .ok (.aload_n 1, 1) := by decide +kernel
theorem dX3_become_20 : decode cX3_become 20 = .ok (.getfield 35, 3) := by decide +kernel
theorem dX3_become_23 : decode cX3_become 23 = .ok (.putfield 35, 3) := by decide +kernel
theorem dX3_become_26 : decode cX3_become 26 = .ok (.return_, 1) := by decide +kernel
theorem dX3_put_0 : decode cX3_put 0 = .ok (.aload_n 0, 1) := by decide +kernel
theorem dX3_put_1 : decode cX3_put 1 = .ok (.getfield 35, 3) := by decide +kernel
theorem dX3_put_4 : decode cX3_put 4 = .ok (.aload_n 0, 1) := by decide +kernel
theorem dX3_put_5 : decode cX3_put 5 = .ok (.getfield 9, 3) := by decide +kernel
theorem dX3_put_8 : decode cX3_put 8 = .ok (.arraylength, 1) := by decide +kernel
theorem dX3_put_9 : decode cX3_put 9 = .ok (.if_icmp .ge 23, 3) := by decide +kernel
theorem dX3_put_12 : decode cX3_put 12 = .ok (.aload_n 0, 1) := by decide +kernel
theorem dX3_put_13 : decode cX3_put 13 = .ok (.getfield 9, 3) := by decide +kernel
theorem dX3_put_16 : decode cX3_put 16 = .ok (.aload_n 0, 1) := by decide +kernel
theorem dX3_put_17 : decode cX3_put 17 = .ok (.getfield 35, 3) := by decide +kernel
theorem dX3_put_20 : decode cX3_put 20 = .ok (.iload_n 1, 1) := by decide +kernel
theorem dX3_put_21 : decode cX3_put 21 = .ok (.iastore, 1) := by decide +kernel
theorem dX3_put_22 : decode cX3_put 22 = .ok (.aload_n 0, 1) := by decide +kernel
theorem dX3_put_23 : decode cX3_put 23 = .ok (.dup, 1) := by decide +kernel
theorem dX3_put_24 : decode cX3_put 24 = .ok (.getfield 35, 3) := by decide +kernel
theorem dX3_put_27 : decode cX3_put 27 = .ok (.iconst 1, 1) := by decide +kernel
theorem dX3_put_28 : decode cX3_put 28 = .ok (.iadd, 1) := by decide +kernel
theorem dX3_put_29 : decode cX3_put 29 = .ok (.putfield 35, 3) := by decide +kernel
theorem dX3_put_32 : decode cX3_put 32 = .ok (.return_, 1) := by decide +kernel
theorem dX3_putLetter_0 : decode cX3_putLetter 0 = .ok (.aload_n 0, 1) := by decide +kernel
theorem dX3_putLetter_1 : decode cX3_putLetter 1 = .ok (.iconst (-1), 1) := by decide +kernel
theorem dX3_putLetter_2 : decode cX3_putLetter 2 = .ok (.iload_n 1, 1) := by decide +kernel
theorem dX3_putLetter_3 : decode cX3_putLetter 3 = .ok (.isub, 1) := by decide +kernel
theorem dX3_putLetter_4 : decode cX3_putLetter 4 = .ok (.invokevirtual 39, 3) := by decide +kernel
theorem dX3_putLetter_7 : decode cX3_putLetter 7 = .ok (.return_, 1) := by decide +kernel
theorem dX3_putSkip_0 : decode cX3_putSkip 0 = .ok (.aload_n 0, 1) := by decide +kernel
theorem dX3_putSkip_1 : decode cX3_putSkip 1 = .ok (.bipush (-21), 2) := by decide +kernel
theorem dX3_putSkip_3 : decode cX3_putSkip 3 = .ok (.invokevirtual 39, 3) := by decide +kernel
theorem dX3_putSkip_6 : decode cX3_putSkip 6 = .ok (.aload_n 0, 1) := by decide +kernel
theorem dX3_putSkip_7 : decode cX3_putSkip 7 = .ok (.iconst 0, 1) := by decide +kernel
theorem dX3_putSkip_8 : decode cX3_putSkip 8 = .ok (.invokevirtual 39, 3) := by decide +kernel
theorem dX3_putSkip_11 : decode cX3_putSkip 11 = .ok (.aload_n 0, 1) := by decide +kernel
theorem dX3_putSkip_12 : decode cX3_putSkip 12 = .ok (.getfield 35, 3) := by decide +kernel
theorem dX3_putSkip_15 : decode cX3_putSkip 15 = .ok (.iconst 1, 1) := by decide +kernel
theorem dX3_putSkip_16 : decode cX3_putSkip 16 = .ok (.isub, 1) := by decide +kernel
theorem dX3_putSkip_17 : decode cX3_putSkip 17 = .ok (.ireturn, 1) := by decide +kernel
theorem dX3_endSkip_0 : decode cX3_endSkip 0 = .ok (.iload_n 1, 1) := by decide +kernel
theorem dX3_endSkip_1 : decode cX3_endSkip 1 = .ok (.ifCond .lt 22, 3) := by decide +kernel
theorem dX3_endSkip_4 : decode cX3_endSkip 4 = .ok (.iload_n 1, 1) := by decide +kernel
theorem dX3_endSkip_5 : decode cX3_endSkip 5 = .ok (.aload_n 0, 1) := by decide +kernel
theorem dX3_endSkip_6 : decode cX3_endSkip 6 = .ok (.getfield 9, 3) := by decide +kernel
theorem dX3_endSkip_9 : decode cX3_endSkip 9 = .ok (.arraylength, 1) := by decide +kernel
theorem dX3_endSkip_10 : decode cX3_endSkip 10 = .ok (.if_icmp .ge 13, 3) := by decide +kernel
theorem dX3_endSkip_13 : decode cX3_endSkip 13 = .ok (.aload_n 0, 1) := by decide +kernel
theorem dX3_endSkip_14 : decode cX3_endSkip 14 = .ok (.getfield 9, 3) := by decide +kernel
theorem dX3_endSkip_17 : decode cX3_endSkip 17 = .ok (.iload_n 1, 1) := by decide +kernel
theorem dX3_endSkip_18 : decode cX3_endSkip 18 = .ok (.aload_n 0, 1) := by decide +kernel
theorem dX3_endSkip_19 : decode cX3_endSkip 19 = .ok (.getfield 35, 3) := by decide +kernel
theorem dX3_endSkip_22 : decode cX3_endSkip 22 = .ok (.iastore, 1) := by decide +kernel
theorem dX3_endSkip_23 : decode cX3_endSkip 23 = .ok (.return_, 1) := by decide +kernel
theorem dX3_worth_0 : decode cX3_worth 0 = .ok (.aload_n 0, 1) := by decide +kernel
theorem dX3_worth_1 : decode cX3_worth 1 = .ok (.getfield 23, 3) := by decide +kernel
theorem dX3_worth_4 : decode cX3_worth 4 = .ok (.iconst 0, 1) := by decide +kernel
theorem dX3_worth_5 : decode cX3_worth 5 = .ok (.iload_n 1, 1) := by decide +kernel
theorem dX3_worth_6 : decode cX3_worth 6 = .ok (.iastore, 1) := by decide +kernel
theorem dX3_worth_7 : decode cX3_worth 7 = .ok (.aload_n 0, 1) := by decide +kernel
theorem dX3_worth_8 : decode cX3_worth 8 = .ok (.getfield 23, 3) := by decide +kernel
theorem dX3_worth_11 : decode cX3_worth 11 = .ok (.iconst 1, 1) := by decide +kernel
theorem dX3_worth_12 : decode cX3_worth 12 = .ok (.iload_n 2, 1) := by decide +kernel
theorem dX3_worth_13 : decode cX3_worth 13 = .ok (.iastore, 1) := by decide +kernel
theorem dX3_worth_14 : decode cX3_worth 14 = .ok (.aload_n 0, 1) := by decide +kernel
theorem dX3_worth_15 : decode cX3_worth 15 = .ok (.getfield 23, 3) := by decide +kernel
theorem dX3_worth_18 : decode cX3_worth 18 = .ok (.iconst 2, 1) := by decide +kernel
theorem dX3_worth_19 : decode cX3_worth 19 = .ok (.iload_n 3, 1) := by decide +kernel
theorem dX3_worth_20 : decode cX3_worth 20 = .ok (.iastore, 1) := by decide +kernel
theorem dX3_worth_21 : decode cX3_worth 21 = .ok (.aload_n 0, 1) := by decide +kernel
theorem dX3_worth_22 : decode cX3_worth 22 = .ok (.getfield 23, 3) := by decide +kernel
theorem dX3_worth_25 : decode cX3_worth 25 = .ok (.iconst 3, 1) := by decide +kernel
theorem dX3_worth_26 : decode cX3_worth 26 = .ok (.iload 4, 2) := by decide +kernel
theorem dX3_worth_28 : decode cX3_worth 28 = .ok (.iastore, 1) := by decide +kernel
theorem dX3_worth_29 : decode cX3_worth 29 = .ok (.aload_n 0, 1) := by decide +kernel
theorem dX3_worth_30 : decode cX3_worth 30 = .ok (.getfield 23, 3) := by decide +kernel
theorem dX3_worth_33 : decode cX3_worth 33 = .ok (.iconst 4, 1) := by decide +kernel
theorem dX3_worth_34 : decode cX3_worth 34 = .ok (.iload 5, 2) := by decide +kernel
theorem dX3_worth_36 : decode cX3_worth 36 = .ok (.iastore, 1) := by decide +kernel
theorem dX3_worth_37 : decode cX3_worth 37 = .ok (.aload_n 0, 1) := by decide +kernel
theorem dX3_worth_38 : decode cX3_worth 38 = .ok (.getfield 23, 3) := by decide +kernel
theorem dX3_worth_41 : decode cX3_worth 41 = .ok (.iconst 5, 1) := by decide +kernel
theorem dX3_worth_42 : decode cX3_worth 42 = .ok (.iload 6, 2) := by decide +kernel
theorem dX3_worth_44 : decode cX3_worth 44 = .ok (.iastore, 1) := by decide +kernel
theorem dX3_worth_45 : decode cX3_worth 45 = .ok (.iconst 0, 1) := by decide +kernel
theorem dX3_worth_46 : decode cX3_worth 46 = .ok (.istore 7, 2) := by decide +kernel
theorem dX3_worth_48 : decode cX3_worth 48 = .ok (.iconst 0, 1) := by decide +kernel
theorem dX3_worth_49 : decode cX3_worth 49 = .ok (.istore 8, 2) := by decide +kernel
theorem dX3_worth_51 : decode cX3_worth 51 = .ok (.iload 8, 2) := by decide +kernel
theorem dX3_worth_53 : decode cX3_worth 53 = .ok (.aload_n 0, 1) := by decide +kernel
theorem dX3_worth_54 : decode cX3_worth 54 = .ok (.getfield 35, 3) := by decide +kernel
theorem dX3_worth_57 : decode cX3_worth 57 = .ok (.if_icmp .ge 221, 3) := by decide +kernel
theorem dX3_worth_60 : decode cX3_worth 60 = .ok (.iload 7, 2) := by decide +kernel
theorem dX3_worth_62 : decode cX3_worth 62 = .ok (.aload_n 0, 1) := by decide +kernel
theorem dX3_worth_63 : decode cX3_worth 63 = .ok (.getfield 26, 3) := by decide +kernel
theorem dX3_worth_66 : decode cX3_worth 66 = .ok (.arraylength, 1) := by decide +kernel
theorem dX3_worth_67 : decode cX3_worth 67 = .ok (.if_icmp .ge 211, 3) := by decide +kernel
theorem dX3_worth_70 : decode cX3_worth 70 = .ok (.aload_n 0, 1) := by decide +kernel
theorem dX3_worth_71 : decode cX3_worth 71 = .ok (.getfield 9, 3) := by decide +kernel
theorem dX3_worth_74 : decode cX3_worth 74 = .ok (.iload 8, 2) := by decide +kernel
theorem dX3_worth_76 : decode cX3_worth 76 = .ok (.iaload, 1) := by decide +kernel
theorem dX3_worth_77 : decode cX3_worth 77 = .ok (.istore 9, 2) := by decide +kernel
theorem dX3_worth_79 : decode cX3_worth 79 = .ok (.iload 9, 2) := by decide +kernel
theorem dX3_worth_81 : decode cX3_worth 81 = .ok (.bipush (-6), 2) := by decide +kernel
theorem dX3_worth_83 : decode cX3_worth 83 = .ok (.if_icmp .lt 35, 3) := by decide +kernel
theorem dX3_worth_86 : decode cX3_worth 86 = .ok (.aload_n 0, 1) := by decide +kernel
theorem dX3_worth_87 : decode cX3_worth 87 = .ok (.getfield 26, 3) := by decide +kernel
theorem dX3_worth_90 : decode cX3_worth 90 = .ok (.iload 7, 2) := by decide +kernel
theorem dX3_worth_92 : decode cX3_worth 92 = .ok (.iload 9, 2) := by decide +kernel
theorem dX3_worth_94 : decode cX3_worth 94 = .ok (.ifCond .lt 8, 3) := by decide +kernel
theorem dX3_worth_97 : decode cX3_worth 97 = .ok (.iload 9, 2) := by decide +kernel
theorem dX3_worth_99 : decode cX3_worth 99 = .ok (.goto 12, 3) := by decide +kernel
theorem dX3_worth_102 : decode cX3_worth 102 = .ok (.aload_n 0, 1) := by decide +kernel
theorem dX3_worth_103 : decode cX3_worth 103 = .ok (.getfield 23, 3) := by decide +kernel
theorem dX3_worth_106 : decode cX3_worth 106 = .ok (.iconst (-1), 1) := by decide +kernel
theorem dX3_worth_107 : decode cX3_worth 107 = .ok (.iload 9, 2) := by decide +kernel
theorem dX3_worth_109 : decode cX3_worth 109 = .ok (.isub, 1) := by decide +kernel
theorem dX3_worth_110 : decode cX3_worth 110 = .ok (.iaload, 1) := by decide +kernel
theorem dX3_worth_111 : decode cX3_worth 111 = .ok (.iastore, 1) := by decide +kernel
theorem dX3_worth_112 : decode cX3_worth 112 = .ok (.iinc 7 1, 3) := by decide +kernel
theorem dX3_worth_115 : decode cX3_worth 115 = .ok (.goto 157, 3) := by decide +kernel
theorem dX3_worth_118 : decode cX3_worth 118 = .ok (.iload 7, 2) := by decide +kernel
theorem dX3_worth_120 : decode cX3_worth 120 = .ok (.iconst 1, 1) := by decide +kernel
theorem dX3_worth_121 : decode cX3_worth 121 = .ok (.if_icmp .ge 5, 3) := by decide +kernel
theorem dX3_worth_124 : decode cX3_worth 124 = .ok (.iconst 0, 1) := by decide +kernel
theorem dX3_worth_125 : decode cX3_worth 125 = .ok (.ireturn, 1) := by decide +kernel
theorem dX3_worth_126 : decode cX3_worth 126 = .ok (.iload 9, 2) := by decide +kernel
theorem dX3_worth_128 : decode cX3_worth 128 = .ok (.bipush (-22), 2) := by decide +kernel
theorem dX3_worth_130 : decode cX3_worth 130 = .ok (.if_icmp .ne 13, 3) := by decide +kernel
theorem dX3_worth_133 : decode cX3_worth 133 = .ok (.aload_n 0, 1) := by decide +kernel
theorem dX3_worth_134 : decode cX3_worth 134 = .ok (.getfield 26, 3) := by decide +kernel
theorem dX3_worth_137 : decode cX3_worth 137 = .ok (.iload 7, 2) := by decide +kernel
theorem dX3_worth_139 : decode cX3_worth 139 = .ok (.iconst 1, 1) := by decide +kernel
theorem dX3_worth_140 : decode cX3_worth 140 = .ok (.isub, 1) := by decide +kernel
theorem dX3_worth_141 : decode cX3_worth 141 = .ok (.iaload, 1) := by decide +kernel
theorem dX3_worth_142 : decode cX3_worth 142 = .ok (.ireturn, 1) := by decide +kernel
theorem dX3_worth_143 : decode cX3_worth 143 = .ok (.iload 9, 2) := by decide +kernel
theorem dX3_worth_145 : decode cX3_worth 145 = .ok (.bipush (-18), 2) := by decide +kernel
theorem dX3_worth_147 : decode cX3_worth 147 = .ok (.if_icmp .ne 26, 3) := by decide +kernel
theorem dX3_worth_150 : decode cX3_worth 150 = .ok (.aload_n 0, 1) := by decide +kernel
theorem dX3_worth_151 : decode cX3_worth 151 = .ok (.getfield 26, 3) := by decide +kernel
theorem dX3_worth_154 : decode cX3_worth 154 = .ok (.iload 7, 2) := by decide +kernel
theorem dX3_worth_156 : decode cX3_worth 156 = .ok (.iconst 1, 1) := by decide +kernel
theorem dX3_worth_157 : decode cX3_worth 157 = .ok (.isub, 1) := by decide +kernel
theorem dX3_worth_158 : decode cX3_worth 158 = .ok (.iconst 1, 1) := by decide +kernel
theorem dX3_worth_159 : decode cX3_worth 159 = .ok (.aload_n 0, 1) := by decide +kernel
theorem dX3_worth_160 : decode cX3_worth 160 = .ok (.getfield 26, 3) := by decide +kernel
theorem dX3_worth_163 : decode cX3_worth 163 = .ok (.iload 7, 2) := by decide +kernel
theorem dX3_worth_165 : decode cX3_worth 165 = .ok (.iconst 1, 1) := by decide +kernel
theorem dX3_worth_166 : decode cX3_worth 166 = .ok (.isub, 1) := by decide +kernel
theorem dX3_worth_167 : decode cX3_worth 167 = .ok (.iaload, 1) := by decide +kernel
theorem dX3_worth_168 : decode cX3_worth 168 = .ok (.isub, 1) := by decide +kernel
theorem dX3_worth_169 : decode cX3_worth 169 = .ok (.iastore, 1) := by decide +kernel
theorem dX3_worth_170 : decode cX3_worth 170 = .ok (.goto 102, 3) := by decide +kernel
theorem dX3_worth_173 : decode cX3_worth 173 = .ok (.iload 9, 2) := by decide +kernel
theorem dX3_worth_175 : decode cX3_worth 175 = .ok (.bipush (-21), 2) := by decide +kernel
theorem dX3_worth_177 : decode cX3_worth 177 = .ok (.if_icmp .ne 54, 3) := by decide +kernel
theorem dX3_worth_180 : decode cX3_worth 180 = .ok (.iinc 8 1, 3) := by decide +kernel
theorem dX3_worth_183 : decode cX3_worth 183 = .ok (.iinc 7 (-1), 3) := by decide +kernel
theorem dX3_worth_186 : decode cX3_worth 186 = .ok (.aload_n 0, 1) := by decide +kernel
theorem dX3_worth_187 : decode cX3_worth 187 = .ok (.getfield 26, 3) := by decide +kernel
theorem dX3_worth_190 : decode cX3_worth 190 = .ok (.iload 7, 2) := by decide +kernel
theorem dX3_worth_192 : decode cX3_worth 192 = .ok (.iaload, 1) := by decide +kernel
theorem dX3_worth_193 : decode cX3_worth 193 = .ok (.ifCond .ne 79, 3) := by decide +kernel
theorem dX3_worth_196 : decode cX3_worth 196 = .ok (.iload 8, 2) := by decide +kernel
theorem dX3_worth_198 : decode cX3_worth 198 = .ok (.aload_n 0, 1) := by decide +kernel
theorem dX3_worth_199 : decode cX3_worth 199 = .ok (.getfield 35, 3) := by decide +kernel
theorem dX3_worth_202 : decode cX3_worth 202 = .ok (.if_icmp .ge 70, 3) := by decide +kernel
theorem dX3_worth_205 : decode cX3_worth 205 = .ok (.aload_n 0, 1) := by decide +kernel
theorem dX3_worth_206 : decode cX3_worth 206 = .ok (.getfield 9, 3) := by decide +kernel
theorem dX3_worth_209 : decode cX3_worth 209 = .ok (.iload 8, 2) := by decide +kernel
theorem dX3_worth_211 : decode cX3_worth 211 = .ok (.iaload, 1) := by decide +kernel
theorem dX3_worth_212 : decode cX3_worth 212 = .ok (.iload 8, 2) := by decide +kernel
theorem dX3_worth_214 : decode cX3_worth 214 = .ok (.if_icmp .le 58, 3) := by decide +kernel
theorem dX3_worth_217 : decode cX3_worth 217 = .ok (.aload_n 0, 1) := by decide +kernel
theorem dX3_worth_218 : decode cX3_worth 218 = .ok (.getfield 9, 3) := by decide +kernel
theorem dX3_worth_221 : decode cX3_worth 221 = .ok (.iload 8, 2) := by decide +kernel
theorem dX3_worth_223 : decode cX3_worth 223 = .ok (.iaload, 1) := by decide +kernel
theorem dX3_worth_224 : decode cX3_worth 224 = .ok (.iconst 1, 1) := by decide +kernel
theorem dX3_worth_225 : decode cX3_worth 225 = .ok (.isub, 1) := by decide +kernel
theorem dX3_worth_226 : decode cX3_worth 226 = .ok (.istore 8, 2) := by decide +kernel
theorem dX3_worth_228 : decode cX3_worth 228 = .ok (.goto 44, 3) := by decide +kernel
theorem dX3_worth_231 : decode cX3_worth 231 = .ok (.iload 7, 2) := by decide +kernel
theorem dX3_worth_233 : decode cX3_worth 233 = .ok (.iconst 2, 1) := by decide +kernel
theorem dX3_worth_234 : decode cX3_worth 234 = .ok (.if_icmp .lt 38, 3) := by decide +kernel
theorem dX3_worth_237 : decode cX3_worth 237 = .ok (.iinc 7 (-1), 3) := by decide +kernel
theorem dX3_worth_240 : decode cX3_worth 240 = .ok (.aload_n 0, 1) := by decide +kernel
theorem dX3_worth_241 : decode cX3_worth 241 = .ok (.getfield 26, 3) := by decide +kernel
theorem dX3_worth_244 : decode cX3_worth 244 = .ok (.iload 7, 2) := by decide +kernel
theorem dX3_worth_246 : decode cX3_worth 246 = .ok (.iconst 1, 1) := by decide +kernel
theorem dX3_worth_247 : decode cX3_worth 247 = .ok (.isub, 1) := by decide +kernel
theorem dX3_worth_248 : decode cX3_worth 248 = .ok (.iload 9, 2) := by decide +kernel
theorem dX3_worth_250 : decode cX3_worth 250 = .ok (.aload_n 0, 1) := by decide +kernel
theorem dX3_worth_251 : decode cX3_worth 251 = .ok (.getfield 26, 3) := by decide +kernel
theorem dX3_worth_254 : decode cX3_worth 254 = .ok (.iload 7, 2) := by decide +kernel
theorem dX3_worth_256 : decode cX3_worth 256 = .ok (.iconst 1, 1) := by decide +kernel
theorem dX3_worth_257 : decode cX3_worth 257 = .ok (.isub, 1) := by decide +kernel
theorem dX3_worth_258 : decode cX3_worth 258 = .ok (.iaload, 1) := by decide +kernel
theorem dX3_worth_259 : decode cX3_worth 259 = .ok (.i2l, 1) := by decide +kernel
theorem dX3_worth_260 : decode cX3_worth 260 = .ok (.aload_n 0, 1) := by decide +kernel
theorem dX3_worth_261 : decode cX3_worth 261 = .ok (.getfield 26, 3) := by decide +kernel
theorem dX3_worth_264 : decode cX3_worth 264 = .ok (.iload 7, 2) := by decide +kernel
theorem dX3_worth_266 : decode cX3_worth 266 = .ok (.iaload, 1) := by decide +kernel
theorem dX3_worth_267 : decode cX3_worth 267 = .ok (.i2l, 1) := by decide +kernel
theorem dX3_worth_268 : decode cX3_worth 268 = .ok (.invokestatic 43, 3) := by decide +kernel
theorem dX3_worth_271 : decode cX3_worth 271 = .ok (.iastore, 1) := by decide +kernel
theorem dX3_worth_272 : decode cX3_worth 272 = .ok (.iinc 8 1, 3) := by decide +kernel
theorem dX3_worth_275 : decode cX3_worth 275 = .ok (.goto (-224), 3) := by decide +kernel
theorem dX3_worth_278 : decode cX3_worth 278 = .ok (.iconst 0, 1) := by decide +kernel
theorem dX3_worth_279 : decode cX3_worth 279 = .ok (.ireturn, 1) := by decide +kernel
theorem dX3_worked_0 : decode cX3_worked 0 = .ok (.iload_n 0, 1) := by decide +kernel
theorem dX3_worked_1 : decode cX3_worked 1 = .ok (.tableswitch 147 (-19) (-11) #[129, 147, 117, 105, 93, 75, 67, 59, 51], 51) := by decide +kernel
theorem dX3_worked_52 : decode cX3_worked 52 = .ok (.lload_n 1, 1) := by decide +kernel
theorem dX3_worked_53 : decode cX3_worked 53 = .ok (.lload_n 3, 1) := by decide +kernel
theorem dX3_worked_54 : decode cX3_worked 54 = .ok (.ladd, 1) := by decide +kernel
theorem dX3_worked_55 : decode cX3_worked 55 = .ok (.lstore 5, 2) := by decide +kernel
theorem dX3_worked_57 : decode cX3_worked 57 = .ok (.goto 109, 3) := by decide +kernel
theorem dX3_worked_60 : decode cX3_worked 60 = .ok (.lload_n 1, 1) := by decide +kernel
theorem dX3_worked_61 : decode cX3_worked 61 = .ok (.lload_n 3, 1) := by decide +kernel
theorem dX3_worked_62 : decode cX3_worked 62 = .ok (.lsub, 1) := by decide +kernel
theorem dX3_worked_63 : decode cX3_worked 63 = .ok (.lstore 5, 2) := by decide +kernel
theorem dX3_worked_65 : decode cX3_worked 65 = .ok (.goto 101, 3) := by decide +kernel
theorem dX3_worked_68 : decode cX3_worked 68 = .ok (.lload_n 1, 1) := by decide +kernel
theorem dX3_worked_69 : decode cX3_worked 69 = .ok (.lload_n 3, 1) := by decide +kernel
theorem dX3_worked_70 : decode cX3_worked 70 = .ok (.lmul, 1) := by decide +kernel
theorem dX3_worked_71 : decode cX3_worked 71 = .ok (.lstore 5, 2) := by decide +kernel
theorem dX3_worked_73 : decode cX3_worked 73 = .ok (.goto 93, 3) := by decide +kernel
theorem dX3_worked_76 : decode cX3_worked 76 = .ok (.lload_n 3, 1) := by decide +kernel
theorem dX3_worked_77 : decode cX3_worked 77 = .ok (.lconst 0, 1) := by decide +kernel
theorem dX3_worked_78 : decode cX3_worked 78 = .ok (.lcmp, 1) := by decide +kernel
theorem dX3_worked_79 : decode cX3_worked 79 = .ok (.ifCond .ne 7, 3) := by decide +kernel
theorem dX3_worked_82 : decode cX3_worked 82 = .ok (.lconst 0, 1) := by decide +kernel
theorem dX3_worked_83 : decode cX3_worked 83 = .ok (.goto 6, 3) := by decide +kernel
theorem dX3_worked_86 : decode cX3_worked 86 = .ok (.lload_n 1, 1) := by decide +kernel
theorem dX3_worked_87 : decode cX3_worked 87 = .ok (.lload_n 3, 1) := by decide +kernel
theorem dX3_worked_88 : decode cX3_worked 88 = .ok (.ldiv, 1) := by decide +kernel
theorem dX3_worked_89 : decode cX3_worked 89 = .ok (.lstore 5, 2) := by decide +kernel
theorem dX3_worked_91 : decode cX3_worked 91 = .ok (.goto 75, 3) := by decide +kernel
theorem dX3_worked_94 : decode cX3_worked 94 = .ok (.lload_n 1, 1) := by decide +kernel
theorem dX3_worked_95 : decode cX3_worked 95 = .ok (.lload_n 3, 1) := by decide +kernel
theorem dX3_worked_96 : decode cX3_worked 96 = .ok (.lcmp, 1) := by decide +kernel
theorem dX3_worked_97 : decode cX3_worked 97 = .ok (.ifCond .ne 7, 3) := by decide +kernel
theorem dX3_worked_100 : decode cX3_worked 100 = .ok (.iconst 1, 1) := by decide +kernel
theorem dX3_worked_101 : decode cX3_worked 101 = .ok (.goto 4, 3) := by decide +kernel
theorem dX3_worked_104 : decode cX3_worked 104 = .ok (.iconst 0, 1) := by decide +kernel
theorem dX3_worked_105 : decode cX3_worked 105 = .ok (.ireturn, 1) := by decide +kernel
theorem dX3_worked_106 : decode cX3_worked 106 = .ok (.lload_n 1, 1) := by decide +kernel
theorem dX3_worked_107 : decode cX3_worked 107 = .ok (.lload_n 3, 1) := by decide +kernel
theorem dX3_worked_108 : decode cX3_worked 108 = .ok (.lcmp, 1) := by decide +kernel
theorem dX3_worked_109 : decode cX3_worked 109 = .ok (.ifCond .ge 7, 3) := by decide +kernel
theorem dX3_worked_112 : decode cX3_worked 112 = .ok (.iconst 1, 1) := by decide +kernel
theorem dX3_worked_113 : decode cX3_worked 113 = .ok (.goto 4, 3) := by decide +kernel
theorem dX3_worked_116 : decode cX3_worked 116 = .ok (.iconst 0, 1) := by decide +kernel
theorem dX3_worked_117 : decode cX3_worked 117 = .ok (.ireturn, 1) := by decide +kernel
theorem dX3_worked_118 : decode cX3_worked 118 = .ok (.lload_n 1, 1) := by decide +kernel
theorem dX3_worked_119 : decode cX3_worked 119 = .ok (.lload_n 3, 1) := by decide +kernel
theorem dX3_worked_120 : decode cX3_worked 120 = .ok (.lcmp, 1) := by decide +kernel
theorem dX3_worked_121 : decode cX3_worked 121 = .ok (.ifCond .le 7, 3) := by decide +kernel
theorem dX3_worked_124 : decode cX3_worked 124 = .ok (.iconst 1, 1) := by decide +kernel
theorem dX3_worked_125 : decode cX3_worked 125 = .ok (.goto 4, 3) := by decide +kernel
theorem dX3_worked_128 : decode cX3_worked 128 = .ok (.iconst 0, 1) := by decide +kernel
theorem dX3_worked_129 : decode cX3_worked 129 = .ok (.ireturn, 1) := by decide +kernel
theorem dX3_worked_130 : decode cX3_worked 130 = .ok (.lload_n 1, 1) := by decide +kernel
theorem dX3_worked_131 : decode cX3_worked 131 = .ok (.lconst 0, 1) := by decide +kernel
theorem dX3_worked_132 : decode cX3_worked 132 = .ok (.lcmp, 1) := by decide +kernel
theorem dX3_worked_133 : decode cX3_worked 133 = .ok (.ifCond .eq 13, 3) := by decide +kernel
theorem dX3_worked_136 : decode cX3_worked 136 = .ok (.lload_n 3, 1) := by decide +kernel
theorem dX3_worked_137 : decode cX3_worked 137 = .ok (.lconst 0, 1) := by decide +kernel
theorem dX3_worked_138 : decode cX3_worked 138 = .ok (.lcmp, 1) := by decide +kernel
theorem dX3_worked_139 : decode cX3_worked 139 = .ok (.ifCond .eq 7, 3) := by decide +kernel
theorem dX3_worked_142 : decode cX3_worked 142 = .ok (.iconst 1, 1) := by decide +kernel
theorem dX3_worked_143 : decode cX3_worked 143 = .ok (.goto 4, 3) := by decide +kernel
theorem dX3_worked_146 : decode cX3_worked 146 = .ok (.iconst 0, 1) := by decide +kernel
theorem dX3_worked_147 : decode cX3_worked 147 = .ok (.ireturn, 1) := by decide +kernel
theorem dX3_worked_148 : decode cX3_worked 148 = .ok (.lload_n 1, 1) := by decide +kernel
theorem dX3_worked_149 : decode cX3_worked 149 = .ok (.lconst 0, 1) := by decide +kernel
theorem dX3_worked_150 : decode cX3_worked 150 = .ok (.lcmp, 1) := by decide +kernel
theorem dX3_worked_151 : decode cX3_worked 151 = .ok (.ifCond .ne 9, 3) := by decide +kernel
theorem dX3_worked_154 : decode cX3_worked 154 = .ok (.lload_n 3, 1) := by decide +kernel
theorem dX3_worked_155 : decode cX3_worked 155 = .ok (.lconst 0, 1) := by decide +kernel
theorem dX3_worked_156 : decode cX3_worked 156 = .ok (.lcmp, 1) := by decide +kernel
theorem dX3_worked_157 : decode cX3_worked 157 = .ok (.ifCond .eq 7, 3) := by decide +kernel
theorem dX3_worked_160 : decode cX3_worked 160 = .ok (.iconst 1, 1) := by decide +kernel
theorem dX3_worked_161 : decode cX3_worked 161 = .ok (.goto 4, 3) := by decide +kernel
theorem dX3_worked_164 : decode cX3_worked 164 = .ok (.iconst 0, 1) := by decide +kernel
theorem dX3_worked_165 : decode cX3_worked 165 = .ok (.ireturn, 1) := by decide +kernel
theorem dX3_worked_166 : decode cX3_worked 166 = .ok (.lload 5, 2) := by decide +kernel
theorem dX3_worked_168 : decode cX3_worked 168 = .ok (.ldc2_w 47, 3) := by decide +kernel
theorem dX3_worked_171 : decode cX3_worked 171 = .ok (.lcmp, 1) := by decide +kernel
theorem dX3_worked_172 : decode cX3_worked 172 = .ok (.ifCond .le 6, 3) := by decide +kernel
theorem dX3_worked_175 : decode cX3_worked 175 = .ok (.ldc 49, 2) := by decide +kernel
theorem dX3_worked_177 : decode cX3_worked 177 = .ok (.ireturn, 1) := by decide +kernel
theorem dX3_worked_178 : decode cX3_worked 178 = .ok (.lload 5, 2) := by decide +kernel
theorem dX3_worked_180 : decode cX3_worked 180 = .ok (.ldc2_w 50, 3) := by decide +kernel
theorem dX3_worked_183 : decode cX3_worked 183 = .ok (.lcmp, 1) := by decide +kernel
theorem dX3_worked_184 : decode cX3_worked 184 = .ok (.ifCond .ge 8, 3) := by decide +kernel
theorem dX3_worked_187 : decode cX3_worked 187 = .ok (.ldc 52, 2) := by decide +kernel
theorem dX3_worked_189 : decode cX3_worked 189 = .ok (.goto 6, 3) := by decide +kernel
theorem dX3_worked_192 : decode cX3_worked 192 = .ok (.lload 5, 2) := by decide +kernel
theorem dX3_worked_194 : decode cX3_worked 194 = .ok (.l2i, 1) := by decide +kernel
theorem dX3_worked_195 : decode cX3_worked 195 = .ok (.ireturn, 1) := by decide +kernel
theorem dX4_init_0 : decode cX4_init 0 = .ok (.aload_n 0, 1) := by decide +kernel
theorem dX4_init_1 : decode cX4_init 1 = .ok (.invokespecial 3, 3) := by decide +kernel
theorem dX4_init_4 : decode cX4_init 4 = .ok (.aload_n 0, 1) := by decide +kernel
theorem dX4_init_5 : decode cX4_init 5 = .ok (.new 9, 3) := by decide +kernel
theorem dX4_init_8 : decode cX4_init 8 = .ok (.dup, 1) := by decide +kernel
theorem dX4_init_9 : decode cX4_init 9 = .ok (.invokespecial 11, 3) := by decide +kernel
theorem dX4_init_12 : decode cX4_init 12 = .ok (.putfield 12, 3) := by decide +kernel
theorem dX4_init_15 : decode cX4_init 15 = .ok (.aload_n 0, 1) := by decide +kernel
theorem dX4_init_16 : decode cX4_init 16 = .ok (.aload_n 1, 1) := by decide +kernel
theorem dX4_init_17 : decode cX4_init 17 = .ok (.putfield 18, 3) := by decide +kernel
theorem dX4_init_20 : decode cX4_init 20 = .ok (.return_, 1) := by decide +kernel
theorem dX4_readLaw_0 : decode cX4_readLaw 0 = .ok (.aload_n 0, 1) := by decide +kernel
theorem dX4_readLaw_1 : decode cX4_readLaw 1 = .ok (.getfield 18, 3) := by decide +kernel
theorem dX4_readLaw_4 : decode cX4_readLaw 4 = .ok (.iconst 0, 1) := by decide +kernel
theorem dX4_readLaw_5 : decode cX4_readLaw 5 = .ok (.putfield 22, 3) := by decide +kernel
theorem dX4_readLaw_8 : decode cX4_readLaw 8 = .ok (.aload_n 0, 1) := by decide +kernel
theorem dX4_readLaw_9 : decode cX4_readLaw 9 = .ok (.getfield 12, 3) := by decide +kernel
theorem dX4_readLaw_12 : decode cX4_readLaw 12 = .ok (.iconst 0, 1) := by decide +kernel
theorem dX4_readLaw_13 : decode cX4_readLaw 13 = .ok (.putfield 28, 3) := by decide +kernel
theorem dX4_readLaw_16 : decode cX4_readLaw 16 = .ok (.iconst 0, 1) := by decide +kernel
theorem dX4_readLaw_17 : decode cX4_readLaw 17 = .ok (.istore_n 1, 1) := by decide +kernel
theorem dX4_readLaw_18 : decode cX4_readLaw 18 = .ok (.iload_n 1, 1) := by decide +kernel
theorem dX4_readLaw_19 : decode cX4_readLaw 19 = .ok (.sipush 240, 3) := by decide +kernel
theorem dX4_readLaw_22 : decode cX4_readLaw 22 = .ok (.if_icmp .gt 45, 3) := by decide +kernel
theorem dX4_readLaw_25 : decode cX4_readLaw 25 = .ok (.aload_n 0, 1) := by decide +kernel
theorem dX4_readLaw_26 : decode cX4_readLaw 26 = .ok (.invokevirtual 31, 3) := by decide +kernel
theorem dX4_readLaw_29 : decode cX4_readLaw 29 = .ok (.ifCond .ne 5, 3) := by decide +kernel
theorem dX4_readLaw_32 : decode cX4_readLaw 32 = .ok (.iconst 0, 1) := by decide +kernel
theorem dX4_readLaw_33 : decode cX4_readLaw 33 = .ok (.ireturn, 1) := by decide +kernel
theorem dX4_readLaw_34 : decode cX4_readLaw 34 = .ok (.aload_n 0, 1) := by decide +kernel
theorem dX4_readLaw_35 : decode cX4_readLaw 35 = .ok (.getfield 18, 3) := by decide +kernel
theorem dX4_readLaw_38 : decode cX4_readLaw 38 = .ok (.invokevirtual 35, 3) := by decide +kernel
theorem dX4_readLaw_41 : decode cX4_readLaw 41 = .ok (.iconst (-1), 1) := by decide +kernel
theorem dX4_readLaw_42 : decode cX4_readLaw 42 = .ok (.if_icmp .ne 5, 3) := by decide +kernel
theorem dX4_readLaw_45 : decode cX4_readLaw 45 = .ok (.iconst 1, 1) := by decide +kernel
theorem dX4_readLaw_46 : decode cX4_readLaw 46 = .ok (.ireturn, 1) := by decide +kernel
theorem dX4_readLaw_47 : decode cX4_readLaw 47 = .ok (.aload_n 0, 1) := by decide +kernel
theorem dX4_readLaw_48 : decode cX4_readLaw 48 = .ok (.getfield 18, 3) := by decide +kernel
theorem dX4_readLaw_51 : decode cX4_readLaw 51 = .ok (.bipush 59, 2) := by decide +kernel
theorem dX4_readLaw_53 : decode cX4_readLaw 53 = .ok (.invokevirtual 39, 3) := by decide +kernel
theorem dX4_readLaw_56 : decode cX4_readLaw 56 = .ok (.ifCond .ne 5, 3) := by decide +kernel
theorem dX4_readLaw_59 : decode cX4_readLaw 59 = .ok (.iconst 0, 1) := by decide +kernel
theorem dX4_readLaw_60 : decode cX4_readLaw 60 = .ok (.ireturn, 1) := by decide +kernel
theorem dX4_readLaw_61 : decode cX4_readLaw 61 = .ok (.iinc 1 1, 3) := by decide +kernel
theorem dX4_readLaw_64 : decode cX4_readLaw 64 = .ok (.goto (-46), 3) := by decide +kernel
theorem dX4_readLaw_67 : decode cX4_readLaw 67 = .ok (.iconst 0, 1) := by decide +kernel
theorem dX4_readLaw_68 : decode cX4_readLaw 68 = .ok (.ireturn, 1) := by decide +kernel
theorem dX4_readClause_0 : decode cX4_readClause 0 = .ok (.aload_n 0, 1) := by decide +kernel
theorem dX4_readClause_1 : decode cX4_readClause 1 = .ok (.getfield 18, 3) := by decide +kernel
theorem dX4_readClause_4 : decode cX4_readClause 4 = .ok (.bipush 121, 2) := by decide +kernel
theorem dX4_readClause_6 : decode cX4_readClause 6 = .ok (.invokevirtual 39, 3) := by decide +kernel
theorem dX4_readClause_9 : decode cX4_readClause 9 = .ok (.ifCond .eq 15, 3) := by decide +kernel
theorem dX4_readClause_12 : decode cX4_readClause 12 = .ok (.aload_n 0, 1) := by decide +kernel
theorem dX4_readClause_13 : decode cX4_readClause 13 = .ok (.getfield 18, 3) := by decide +kernel
theorem dX4_readClause_16 : decode cX4_readClause 16 = .ok (.bipush 58, 2) := by decide +kernel
theorem dX4_readClause_18 : decode cX4_readClause 18 = .ok (.invokevirtual 39, 3) := by decide +kernel
theorem dX4_readClause_21 : decode cX4_readClause 21 = .ok (.ifCond .ne 5, 3) := by decide +kernel
theorem dX4_readClause_24 : decode cX4_readClause 24 = .ok (.iconst 0, 1) := by decide +kernel
theorem dX4_readClause_25 : decode cX4_readClause 25 = .ok (.ireturn, 1) := by decide +kernel
theorem dX4_readClause_26 : decode cX4_readClause 26 = .ok (.aload_n 0, 1) := by decide +kernel
theorem dX4_readClause_27 : decode cX4_readClause 27 = .ok (.getfield 18, 3) := by decide +kernel
theorem dX4_readClause_30 : decode cX4_readClause 30 = .ok (.invokevirtual 35, 3) := by decide +kernel
theorem dX4_readClause_33 : decode cX4_readClause 33 = .ok (.istore_n 1, 1) := by decide +kernel
theorem dX4_readClause_34 : decode cX4_readClause 34 = .ok (.iload_n 1, 1) := by decide +kernel
theorem dX4_readClause_35 : decode cX4_readClause 35 = .ok (.bipush 33, 2) := by decide +kernel
theorem dX4_readClause_37 : decode cX4_readClause 37 = .ok (.if_icmp .eq 13, 3) := by decide +kernel
theorem dX4_readClause_40 : decode cX4_readClause 40 = .ok (.iload_n 1, 1) := by decide +kernel
theorem dX4_readClause_41 : decode cX4_readClause 41 = .ok (.bipush 40, 2) := by decide +kernel
theorem dX4_readClause_43 : decode cX4_readClause 43 = .ok (.if_icmp .eq 7, 3) := by decide +kernel
theorem dX4_readClause_46 : decode cX4_readClause 46 = .ok (.iconst 1, 1) := by decide +kernel
theorem dX4_readClause_47 : decode cX4_readClause 47 = .ok (.goto 4, 3) := by decide +kernel
theorem dX4_readClause_50 : decode cX4_readClause 50 = .ok (.iconst 0, 1) := by decide +kernel
theorem dX4_readClause_51 : decode cX4_readClause 51 = .ok (.istore_n 2, 1) := by decide +kernel
theorem dX4_readClause_52 : decode cX4_readClause 52 = .ok (.iload_n 2, 1) := by decide +kernel
theorem dX4_readClause_53 : decode cX4_readClause 53 = .ok (.ifCond .eq 31, 3) := by decide +kernel
theorem dX4_readClause_56 : decode cX4_readClause 56 = .ok (.aload_n 0, 1) := by decide +kernel
theorem dX4_readClause_57 : decode cX4_readClause 57 = .ok (.iconst 0, 1) := by decide +kernel
theorem dX4_readClause_58 : decode cX4_readClause 58 = .ok (.invokevirtual 43, 3) := by decide +kernel
theorem dX4_readClause_61 : decode cX4_readClause 61 = .ok (.ifCond .ne 5, 3) := by decide +kernel
theorem dX4_readClause_64 : decode cX4_readClause 64 = .ok (.iconst 0, 1) := by decide +kernel
theorem dX4_readClause_65 : decode cX4_readClause 65 = .ok (.ireturn, 1) := by decide +kernel
theorem dX4_readClause_66 : decode cX4_readClause 66 = .ok (.aload_n 0, 1) := by decide +kernel
theorem dX4_readClause_67 : decode cX4_readClause 67 = .ok (.invokevirtual 46, 3) := by decide +kernel
theorem dX4_readClause_70 : decode cX4_readClause 70 = .ok (.ifCond .ne 14, 3) := by decide +kernel
theorem dX4_readClause_73 : decode cX4_readClause 73 = .ok (.aload_n 0, 1) := by decide +kernel
theorem dX4_readClause_74 : decode cX4_readClause 74 = .ok (.getfield 12, 3) := by decide +kernel
theorem dX4_readClause_77 : decode cX4_readClause 77 = .ok (.bipush (-22), 2) := by decide +kernel
theorem dX4_readClause_79 : decode cX4_readClause 79 = .ok (.invokevirtual 49, 3) := by decide +kernel
theorem dX4_readClause_82 : decode cX4_readClause 82 = .ok (.iconst 1, 1) := by decide +kernel
theorem dX4_readClause_83 : decode cX4_readClause 83 = .ok (.ireturn, 1) := by decide +kernel
theorem dX4_readClause_84 : decode cX4_readClause 84 = .ok (.aload_n 0, 1) := by decide +kernel
theorem dX4_readClause_85 : decode cX4_readClause 85 = .ok (.iconst 0, 1) := by decide +kernel
theorem dX4_readClause_86 : decode cX4_readClause 86 = .ok (.iload_n 2, 1) := by decide +kernel
theorem dX4_readClause_87 : decode cX4_readClause 87 = .ok (.invokevirtual 53, 3) := by decide +kernel
theorem dX4_readClause_90 : decode cX4_readClause 90 = .ok (.ifCond .eq 22, 3) := by decide +kernel
theorem dX4_readClause_93 : decode cX4_readClause 93 = .ok (.aload_n 0, 1) := by decide +kernel
theorem dX4_readClause_94 : decode cX4_readClause 94 = .ok (.iconst 0, 1) := by decide +kernel
theorem dX4_readClause_95 : decode cX4_readClause 95 = .ok (.invokevirtual 57, 3) := by decide +kernel
theorem dX4_readClause_98 : decode cX4_readClause 98 = .ok (.ifCond .eq 14, 3) := by decide +kernel
theorem dX4_readClause_101 : decode cX4_readClause 101 = .ok (.aload_n 0, 1) := by decide +kernel
theorem dX4_readClause_102 : decode cX4_readClause 102 = .ok (.invokevirtual 60, 3) := by decide +kernel
theorem dX4_readClause_105 : decode cX4_readClause 105 = .ok (.ifCond .eq 7, 3) := by decide +kernel
theorem dX4_readClause_108 : decode cX4_readClause 108 = .ok (.iconst 1, 1) := by decide +kernel
theorem dX4_readClause_109 : decode cX4_readClause 109 = .ok (.goto 4, 3) := by decide +kernel
theorem dX4_readClause_112 : decode cX4_readClause 112 = .ok (.iconst 0, 1) := by decide +kernel
theorem dX4_readClause_113 : decode cX4_readClause 113 = .ok (.ireturn, 1) := by decide +kernel
theorem dX4_readAnswer_0 : decode cX4_readAnswer 0 = .ok (.aload_n 0, 1) := by decide +kernel
theorem dX4_readAnswer_1 : decode cX4_readAnswer 1 = .ok (.getfield 18, 3) := by decide +kernel
theorem dX4_readAnswer_4 : decode cX4_readAnswer 4 = .ok (.bipush 63, 2) := by decide +kernel
theorem dX4_readAnswer_6 : decode cX4_readAnswer 6 = .ok (.invokevirtual 39, 3) := by decide +kernel
theorem dX4_readAnswer_9 : decode cX4_readAnswer 9 = .ok (.ifCond .ne 5, 3) := by decide +kernel
theorem dX4_readAnswer_12 : decode cX4_readAnswer 12 = .ok (.iconst 0, 1) := by decide +kernel
theorem dX4_readAnswer_13 : decode cX4_readAnswer 13 = .ok (.ireturn, 1) := by decide +kernel
theorem dX4_readAnswer_14 : decode cX4_readAnswer 14 = .ok (.aload_n 0, 1) := by decide +kernel
theorem dX4_readAnswer_15 : decode cX4_readAnswer 15 = .ok (.getfield 12, 3) := by decide +kernel
theorem dX4_readAnswer_18 : decode cX4_readAnswer 18 = .ok (.invokevirtual 63, 3) := by decide +kernel
theorem dX4_readAnswer_21 : decode cX4_readAnswer 21 = .ok (.istore_n 1, 1) := by decide +kernel
theorem dX4_readAnswer_22 : decode cX4_readAnswer 22 = .ok (.aload_n 0, 1) := by decide +kernel
theorem dX4_readAnswer_23 : decode cX4_readAnswer 23 = .ok (.iconst 0, 1) := by decide +kernel
theorem dX4_readAnswer_24 : decode cX4_readAnswer 24 = .ok (.invokevirtual 43, 3) := by decide +kernel
theorem dX4_readAnswer_27 : decode cX4_readAnswer 27 = .ok (.ifCond .ne 5, 3) := by decide +kernel
theorem dX4_readAnswer_30 : decode cX4_readAnswer 30 = .ok (.iconst 0, 1) := by decide +kernel
theorem dX4_readAnswer_31 : decode cX4_readAnswer 31 = .ok (.ireturn, 1) := by decide +kernel
theorem dX4_readAnswer_32 : decode cX4_readAnswer 32 = .ok (.aload_n 0, 1) := by decide +kernel
theorem dX4_readAnswer_33 : decode cX4_readAnswer 33 = .ok (.getfield 12, 3) := by decide +kernel
theorem dX4_readAnswer_36 : decode cX4_readAnswer 36 = .ok (.bipush (-22), 2) := by decide +kernel
theorem dX4_readAnswer_38 : decode cX4_readAnswer 38 = .ok (.invokevirtual 49, 3) := by decide +kernel
theorem dX4_readAnswer_41 : decode cX4_readAnswer 41 = .ok (.aload_n 0, 1) := by decide +kernel
theorem dX4_readAnswer_42 : decode cX4_readAnswer 42 = .ok (.getfield 12, 3) := by decide +kernel
theorem dX4_readAnswer_45 : decode cX4_readAnswer 45 = .ok (.iload_n 1, 1) := by decide +kernel
theorem dX4_readAnswer_46 : decode cX4_readAnswer 46 = .ok (.invokevirtual 66, 3) := by decide +kernel
theorem dX4_readAnswer_49 : decode cX4_readAnswer 49 = .ok (.iconst 1, 1) := by decide +kernel
theorem dX4_readAnswer_50 : decode cX4_readAnswer 50 = .ok (.ireturn, 1) := by decide +kernel
theorem dX4_readMoreTruths_0 : decode cX4_readMoreTruths 0 = .ok (.aload_n 0, 1) := by decide +kernel
theorem dX4_readMoreTruths_1 : decode cX4_readMoreTruths 1 = .ok (.iload_n 1, 1) := by decide +kernel
theorem dX4_readMoreTruths_2 : decode cX4_readMoreTruths 2 = .ok (.invokevirtual 69, 3) := by decide +kernel
theorem dX4_readMoreTruths_5 : decode cX4_readMoreTruths 5 = .ok (.ifCond .ne 5, 3) := by decide +kernel
theorem dX4_readMoreTruths_8 : decode cX4_readMoreTruths 8 = .ok (.iconst 0, 1) := by decide +kernel
theorem dX4_readMoreTruths_9 : decode cX4_readMoreTruths 9 = .ok (.ireturn, 1) := by decide +kernel
theorem dX4_readMoreTruths_10 : decode cX4_readMoreTruths 10 = .ok (.iconst 0, 1) := by decide +kernel
theorem dX4_readMoreTruths_11 : decode cX4_readMoreTruths 11 = .ok (.istore_n 2, 1) := by decide +kernel
theorem dX4_readMoreTruths_12 : decode cX4_readMoreTruths 12 = .ok (.iload_n 2, 1) := by decide +kernel
theorem dX4_readMoreTruths_13 : decode cX4_readMoreTruths 13 = .ok (.sipush 240, 3) := by decide +kernel
theorem dX4_readMoreTruths_16 : decode cX4_readMoreTruths 16 = .ok (.if_icmp .ge 49, 3) := by decide +kernel
theorem dX4_readMoreTruths_19 : decode cX4_readMoreTruths 19 = .ok (.aload_n 0, 1) := by decide +kernel
theorem dX4_readMoreTruths_20 : decode cX4_readMoreTruths 20 = .ok (.getfield 18, 3) := by decide +kernel
theorem dX4_readMoreTruths_23 : decode cX4_readMoreTruths 23 = .ok (.bipush 124, 2) := by decide +kernel
theorem dX4_readMoreTruths_25 : decode cX4_readMoreTruths 25 = .ok (.invokevirtual 39, 3) := by decide +kernel
theorem dX4_readMoreTruths_28 : decode cX4_readMoreTruths 28 = .ok (.ifCond .eq 37, 3) := by decide +kernel
theorem dX4_readMoreTruths_31 : decode cX4_readMoreTruths 31 = .ok (.aload_n 0, 1) := by decide +kernel
theorem dX4_readMoreTruths_32 : decode cX4_readMoreTruths 32 = .ok (.iload_n 1, 1) := by decide +kernel
theorem dX4_readMoreTruths_33 : decode cX4_readMoreTruths 33 = .ok (.iconst 0, 1) := by decide +kernel
theorem dX4_readMoreTruths_34 : decode cX4_readMoreTruths 34 = .ok (.invokevirtual 53, 3) := by decide +kernel
theorem dX4_readMoreTruths_37 : decode cX4_readMoreTruths 37 = .ok (.ifCond .eq 11, 3) := by decide +kernel
theorem dX4_readMoreTruths_40 : decode cX4_readMoreTruths 40 = .ok (.aload_n 0, 1) := by decide +kernel
theorem dX4_readMoreTruths_41 : decode cX4_readMoreTruths 41 = .ok (.iload_n 1, 1) := by decide +kernel
theorem dX4_readMoreTruths_42 : decode cX4_readMoreTruths 42 = .ok (.invokevirtual 69, 3) := by decide +kernel
theorem dX4_readMoreTruths_45 : decode cX4_readMoreTruths 45 = .ok (.ifCond .ne 5, 3) := by decide +kernel
theorem dX4_readMoreTruths_48 : decode cX4_readMoreTruths 48 = .ok (.iconst 0, 1) := by decide +kernel
theorem dX4_readMoreTruths_49 : decode cX4_readMoreTruths 49 = .ok (.ireturn, 1) := by decide +kernel
theorem dX4_readMoreTruths_50 : decode cX4_readMoreTruths 50 = .ok (.aload_n 0, 1) := by decide +kernel
theorem dX4_readMoreTruths_51 : decode cX4_readMoreTruths 51 = .ok (.getfield 12, 3) := by decide +kernel
theorem dX4_readMoreTruths_54 : decode cX4_readMoreTruths 54 = .ok (.bipush (-20), 2) := by decide +kernel
theorem dX4_readMoreTruths_56 : decode cX4_readMoreTruths 56 = .ok (.invokevirtual 49, 3) := by decide +kernel
theorem dX4_readMoreTruths_59 : decode cX4_readMoreTruths 59 = .ok (.iinc 2 1, 3) := by decide +kernel
theorem dX4_readMoreTruths_62 : decode cX4_readMoreTruths 62 = .ok (.goto (-50), 3) := by decide +kernel
theorem dX4_readMoreTruths_65 : decode cX4_readMoreTruths 65 = .ok (.iconst 1, 1) := by decide +kernel
theorem dX4_readMoreTruths_66 : decode cX4_readMoreTruths 66 = .ok (.ireturn, 1) := by decide +kernel
theorem dX4_readMoreUnits_0 : decode cX4_readMoreUnits 0 = .ok (.iconst 0, 1) := by decide +kernel
theorem dX4_readMoreUnits_1 : decode cX4_readMoreUnits 1 = .ok (.istore_n 2, 1) := by decide +kernel
theorem dX4_readMoreUnits_2 : decode cX4_readMoreUnits 2 = .ok (.iload_n 2, 1) := by decide +kernel
theorem dX4_readMoreUnits_3 : decode cX4_readMoreUnits 3 = .ok (.sipush 240, 3) := by decide +kernel
theorem dX4_readMoreUnits_6 : decode cX4_readMoreUnits 6 = .ok (.if_icmp .ge 41, 3) := by decide +kernel
theorem dX4_readMoreUnits_9 : decode cX4_readMoreUnits 9 = .ok (.aload_n 0, 1) := by decide +kernel
theorem dX4_readMoreUnits_10 : decode cX4_readMoreUnits 10 = .ok (.getfield 18, 3) := by decide +kernel
theorem dX4_readMoreUnits_13 : decode cX4_readMoreUnits 13 = .ok (.bipush 38, 2) := by decide +kernel
theorem dX4_readMoreUnits_15 : decode cX4_readMoreUnits 15 = .ok (.invokevirtual 39, 3) := by decide +kernel
theorem dX4_readMoreUnits_18 : decode cX4_readMoreUnits 18 = .ok (.ifCond .eq 29, 3) := by decide +kernel
theorem dX4_readMoreUnits_21 : decode cX4_readMoreUnits 21 = .ok (.aload_n 0, 1) := by decide +kernel
theorem dX4_readMoreUnits_22 : decode cX4_readMoreUnits 22 = .ok (.iload_n 1, 1) := by decide +kernel
theorem dX4_readMoreUnits_23 : decode cX4_readMoreUnits 23 = .ok (.iconst 0, 1) := by decide +kernel
theorem dX4_readMoreUnits_24 : decode cX4_readMoreUnits 24 = .ok (.invokevirtual 53, 3) := by decide +kernel
theorem dX4_readMoreUnits_27 : decode cX4_readMoreUnits 27 = .ok (.ifCond .ne 5, 3) := by decide +kernel
theorem dX4_readMoreUnits_30 : decode cX4_readMoreUnits 30 = .ok (.iconst 0, 1) := by decide +kernel
theorem dX4_readMoreUnits_31 : decode cX4_readMoreUnits 31 = .ok (.ireturn, 1) := by decide +kernel
theorem dX4_readMoreUnits_32 : decode cX4_readMoreUnits 32 = .ok (.aload_n 0, 1) := by decide +kernel
theorem dX4_readMoreUnits_33 : decode cX4_readMoreUnits 33 = .ok (.getfield 12, 3) := by decide +kernel
theorem dX4_readMoreUnits_36 : decode cX4_readMoreUnits 36 = .ok (.bipush (-19), 2) := by decide +kernel
theorem dX4_readMoreUnits_38 : decode cX4_readMoreUnits 38 = .ok (.invokevirtual 49, 3) := by decide +kernel
theorem dX4_readMoreUnits_41 : decode cX4_readMoreUnits 41 = .ok (.iinc 2 1, 3) := by decide +kernel
theorem dX4_readMoreUnits_44 : decode cX4_readMoreUnits 44 = .ok (.goto (-42), 3) := by decide +kernel
theorem dX4_readMoreUnits_47 : decode cX4_readMoreUnits 47 = .ok (.iconst 1, 1) := by decide +kernel
theorem dX4_readMoreUnits_48 : decode cX4_readMoreUnits 48 = .ok (.ireturn, 1) := by decide +kernel
theorem dX4_readUnit_0 : decode cX4_readUnit 0 = .ok (.aload_n 0, 1) := by decide +kernel
theorem dX4_readUnit_1 : decode cX4_readUnit 1 = .ok (.getfield 18, 3) := by decide +kernel
theorem dX4_readUnit_4 : decode cX4_readUnit 4 = .ok (.invokevirtual 35, 3) := by decide +kernel
theorem dX4_readUnit_7 : decode cX4_readUnit 7 = .ok (.istore_n 3, 1) := by decide +kernel
theorem dX4_readUnit_8 : decode cX4_readUnit 8 = .ok (.iload_n 2, 1) := by decide +kernel
theorem dX4_readUnit_9 : decode cX4_readUnit 9 = .ok (.ifCond .ne 38, 3) := by decide +kernel
theorem dX4_readUnit_12 : decode cX4_readUnit 12 = .ok (.iload_n 3, 1) := by decide +kernel
theorem dX4_readUnit_13 : decode cX4_readUnit 13 = .ok (.bipush 33, 2) := by decide +kernel
theorem dX4_readUnit_15 : decode cX4_readUnit 15 = .ok (.if_icmp .eq 9, 3) := by decide +kernel
theorem dX4_readUnit_18 : decode cX4_readUnit 18 = .ok (.iload_n 3, 1) := by decide +kernel
theorem dX4_readUnit_19 : decode cX4_readUnit 19 = .ok (.bipush 40, 2) := by decide +kernel
theorem dX4_readUnit_21 : decode cX4_readUnit 21 = .ok (.if_icmp .ne 26, 3) := by decide +kernel
theorem dX4_readUnit_24 : decode cX4_readUnit 24 = .ok (.iload_n 1, 1) := by decide +kernel
theorem dX4_readUnit_25 : decode cX4_readUnit 25 = .ok (.bipush 6, 2) := by decide +kernel
theorem dX4_readUnit_27 : decode cX4_readUnit 27 = .ok (.if_icmp .ge 18, 3) := by decide +kernel
theorem dX4_readUnit_30 : decode cX4_readUnit 30 = .ok (.aload_n 0, 1) := by decide +kernel
theorem dX4_readUnit_31 : decode cX4_readUnit 31 = .ok (.iload_n 1, 1) := by decide +kernel
theorem dX4_readUnit_32 : decode cX4_readUnit 32 = .ok (.iconst 1, 1) := by decide +kernel
theorem dX4_readUnit_33 : decode cX4_readUnit 33 = .ok (.iadd, 1) := by decide +kernel
theorem dX4_readUnit_34 : decode cX4_readUnit 34 = .ok (.iload_n 3, 1) := by decide +kernel
theorem dX4_readUnit_35 : decode cX4_readUnit 35 = .ok (.invokevirtual 72, 3) := by decide +kernel
theorem dX4_readUnit_38 : decode cX4_readUnit 38 = .ok (.ifCond .eq 7, 3) := by decide +kernel
theorem dX4_readUnit_41 : decode cX4_readUnit 41 = .ok (.iconst 1, 1) := by decide +kernel
theorem dX4_readUnit_42 : decode cX4_readUnit 42 = .ok (.goto 4, 3) := by decide +kernel
theorem dX4_readUnit_45 : decode cX4_readUnit 45 = .ok (.iconst 0, 1) := by decide +kernel
theorem dX4_readUnit_46 : decode cX4_readUnit 46 = .ok (.ireturn, 1) := by decide +kernel
theorem dX4_readUnit_47 : decode cX4_readUnit 47 = .ok (.iload_n 2, 1) := by decide +kernel
theorem dX4_readUnit_48 : decode cX4_readUnit 48 = .ok (.ifCond .ne 13, 3) := by decide +kernel
theorem dX4_readUnit_51 : decode cX4_readUnit 51 = .ok (.aload_n 0, 1) := by decide +kernel
theorem dX4_readUnit_52 : decode cX4_readUnit 52 = .ok (.iload_n 1, 1) := by decide +kernel
theorem dX4_readUnit_53 : decode cX4_readUnit 53 = .ok (.invokevirtual 43, 3) := by decide +kernel
theorem dX4_readUnit_56 : decode cX4_readUnit 56 = .ok (.ifCond .ne 5, 3) := by decide +kernel
theorem dX4_readUnit_59 : decode cX4_readUnit 59 = .ok (.iconst 0, 1) := by decide +kernel
theorem dX4_readUnit_60 : decode cX4_readUnit 60 = .ok (.ireturn, 1) := by decide +kernel
theorem dX4_readUnit_61 : decode cX4_readUnit 61 = .ok (.aload_n 0, 1) := by decide +kernel
theorem dX4_readUnit_62 : decode cX4_readUnit 62 = .ok (.invokevirtual 46, 3) := by decide +kernel
theorem dX4_readUnit_65 : decode cX4_readUnit 65 = .ok (.istore 4, 2) := by decide +kernel
theorem dX4_readUnit_67 : decode cX4_readUnit 67 = .ok (.iload 4, 2) := by decide +kernel
theorem dX4_readUnit_69 : decode cX4_readUnit 69 = .ok (.ifCond .ne 5, 3) := by decide +kernel
theorem dX4_readUnit_72 : decode cX4_readUnit 72 = .ok (.iconst 0, 1) := by decide +kernel
theorem dX4_readUnit_73 : decode cX4_readUnit 73 = .ok (.ireturn, 1) := by decide +kernel
theorem dX4_readUnit_74 : decode cX4_readUnit 74 = .ok (.aload_n 0, 1) := by decide +kernel
theorem dX4_readUnit_75 : decode cX4_readUnit 75 = .ok (.getfield 18, 3) := by decide +kernel
theorem dX4_readUnit_78 : decode cX4_readUnit 78 = .ok (.dup, 1) := by decide +kernel
theorem dX4_readUnit_79 : decode cX4_readUnit 79 = .ok (.getfield 22, 3) := by decide +kernel
theorem dX4_readUnit_82 : decode cX4_readUnit 82 = .ok (.iconst 1, 1) := by decide +kernel
theorem dX4_readUnit_83 : decode cX4_readUnit 83 = .ok (.iadd, 1) := by decide +kernel
theorem dX4_readUnit_84 : decode cX4_readUnit 84 = .ok (.putfield 22, 3) := by decide +kernel
theorem dX4_readUnit_87 : decode cX4_readUnit 87 = .ok (.aload_n 0, 1) := by decide +kernel
theorem dX4_readUnit_88 : decode cX4_readUnit 88 = .ok (.iload_n 1, 1) := by decide +kernel
theorem dX4_readUnit_89 : decode cX4_readUnit 89 = .ok (.invokevirtual 43, 3) := by decide +kernel
theorem dX4_readUnit_92 : decode cX4_readUnit 92 = .ok (.ifCond .ne 5, 3) := by decide +kernel
theorem dX4_readUnit_95 : decode cX4_readUnit 95 = .ok (.iconst 0, 1) := by decide +kernel
theorem dX4_readUnit_96 : decode cX4_readUnit 96 = .ok (.ireturn, 1) := by decide +kernel
theorem dX4_readUnit_97 : decode cX4_readUnit 97 = .ok (.aload_n 0, 1) := by decide +kernel
theorem dX4_readUnit_98 : decode cX4_readUnit 98 = .ok (.getfield 12, 3) := by decide +kernel
theorem dX4_readUnit_101 : decode cX4_readUnit 101 = .ok (.iload 4, 2) := by decide +kernel
theorem dX4_readUnit_103 : decode cX4_readUnit 103 = .ok (.invokevirtual 49, 3) := by decide +kernel
theorem dX4_readUnit_106 : decode cX4_readUnit 106 = .ok (.iconst 1, 1) := by decide +kernel
theorem dX4_readUnit_107 : decode cX4_readUnit 107 = .ok (.ireturn, 1) := by decide +kernel
theorem dX4_readNested_0 : decode cX4_readNested 0 = .ok (.aload_n 0, 1) := by decide +kernel
theorem dX4_readNested_1 : decode cX4_readNested 1 = .ok (.getfield 18, 3) := by decide +kernel
theorem dX4_readNested_4 : decode cX4_readNested 4 = .ok (.dup, 1) := by decide +kernel
theorem dX4_readNested_5 : decode cX4_readNested 5 = .ok (.getfield 22, 3) := by decide +kernel
theorem dX4_readNested_8 : decode cX4_readNested 8 = .ok (.iconst 1, 1) := by decide +kernel
theorem dX4_readNested_9 : decode cX4_readNested 9 = .ok (.iadd, 1) := by decide +kernel
theorem dX4_readNested_10 : decode cX4_readNested 10 = .ok (.putfield 22, 3) := by decide +kernel
theorem dX4_readNested_13 : decode cX4_readNested 13 = .ok (.aload_n 0, 1) := by decide +kernel
theorem dX4_readNested_14 : decode cX4_readNested 14 = .ok (.iload_n 1, 1) := by decide +kernel
theorem dX4_readNested_15 : decode cX4_readNested 15 = .ok (.iconst 0, 1) := by decide +kernel
theorem dX4_readNested_16 : decode cX4_readNested 16 = .ok (.invokevirtual 53, 3) := by decide +kernel
theorem dX4_readNested_19 : decode cX4_readNested 19 = .ok (.ifCond .ne 5, 3) := by decide +kernel
theorem dX4_readNested_22 : decode cX4_readNested 22 = .ok (.iconst 0, 1) := by decide +kernel
theorem dX4_readNested_23 : decode cX4_readNested 23 = .ok (.ireturn, 1) := by decide +kernel
theorem dX4_readNested_24 : decode cX4_readNested 24 = .ok (.iload_n 2, 1) := by decide +kernel
theorem dX4_readNested_25 : decode cX4_readNested 25 = .ok (.bipush 40, 2) := by decide +kernel
theorem dX4_readNested_27 : decode cX4_readNested 27 = .ok (.if_icmp .ne 29, 3) := by decide +kernel
theorem dX4_readNested_30 : decode cX4_readNested 30 = .ok (.aload_n 0, 1) := by decide +kernel
theorem dX4_readNested_31 : decode cX4_readNested 31 = .ok (.iload_n 1, 1) := by decide +kernel
theorem dX4_readNested_32 : decode cX4_readNested 32 = .ok (.invokevirtual 57, 3) := by decide +kernel
theorem dX4_readNested_35 : decode cX4_readNested 35 = .ok (.ifCond .eq 19, 3) := by decide +kernel
theorem dX4_readNested_38 : decode cX4_readNested 38 = .ok (.aload_n 0, 1) := by decide +kernel
theorem dX4_readNested_39 : decode cX4_readNested 39 = .ok (.getfield 18, 3) := by decide +kernel
theorem dX4_readNested_42 : decode cX4_readNested 42 = .ok (.bipush 41, 2) := by decide +kernel
theorem dX4_readNested_44 : decode cX4_readNested 44 = .ok (.invokevirtual 39, 3) := by decide +kernel
theorem dX4_readNested_47 : decode cX4_readNested 47 = .ok (.ifCond .eq 7, 3) := by decide +kernel
theorem dX4_readNested_50 : decode cX4_readNested 50 = .ok (.iconst 1, 1) := by decide +kernel
theorem dX4_readNested_51 : decode cX4_readNested 51 = .ok (.goto 4, 3) := by decide +kernel
theorem dX4_readNested_54 : decode cX4_readNested 54 = .ok (.iconst 0, 1) := by decide +kernel
theorem dX4_readNested_55 : decode cX4_readNested 55 = .ok (.ireturn, 1) := by decide +kernel
theorem dX4_readNested_56 : decode cX4_readNested 56 = .ok (.aload_n 0, 1) := by decide +kernel
theorem dX4_readNested_57 : decode cX4_readNested 57 = .ok (.getfield 12, 3) := by decide +kernel
theorem dX4_readNested_60 : decode cX4_readNested 60 = .ok (.bipush (-18), 2) := by decide +kernel
theorem dX4_readNested_62 : decode cX4_readNested 62 = .ok (.invokevirtual 49, 3) := by decide +kernel
theorem dX4_readNested_65 : decode cX4_readNested 65 = .ok (.iconst 1, 1) := by decide +kernel
theorem dX4_readNested_66 : decode cX4_readNested 66 = .ok (.ireturn, 1) := by decide +kernel
theorem dX4_comparison_0 : decode cX4_comparison 0 = .ok (.aload_n 0, 1) := by decide +kernel
theorem dX4_comparison_1 : decode cX4_comparison 1 = .ok (.getfield 18, 3) := by decide +kernel
theorem dX4_comparison_4 : decode cX4_comparison 4 = .ok (.invokevirtual 35, 3) := by decide +kernel
theorem dX4_comparison_7 : decode cX4_comparison 7 = .ok (.tableswitch 34 60 62 #[28, 25, 31], 25) := by decide +kernel
theorem dX4_comparison_32 : decode cX4_comparison 32 = .ok (.bipush (-15), 2) := by decide +kernel
theorem dX4_comparison_34 : decode cX4_comparison 34 = .ok (.ireturn, 1) := by decide +kernel
theorem dX4_comparison_35 : decode cX4_comparison 35 = .ok (.bipush (-16), 2) := by decide +kernel
theorem dX4_comparison_37 : decode cX4_comparison 37 = .ok (.ireturn, 1) := by decide +kernel
theorem dX4_comparison_38 : decode cX4_comparison 38 = .ok (.bipush (-17), 2) := by decide +kernel
theorem dX4_comparison_40 : decode cX4_comparison 40 = .ok (.ireturn, 1) := by decide +kernel
theorem dX4_comparison_41 : decode cX4_comparison 41 = .ok (.iconst 0, 1) := by decide +kernel
theorem dX4_comparison_42 : decode cX4_comparison 42 = .ok (.ireturn, 1) := by decide +kernel
theorem dX4_readSum_0 : decode cX4_readSum 0 = .ok (.aload_n 0, 1) := by decide +kernel
theorem dX4_readSum_1 : decode cX4_readSum 1 = .ok (.iload_n 1, 1) := by decide +kernel
theorem dX4_readSum_2 : decode cX4_readSum 2 = .ok (.invokevirtual 76, 3) := by decide +kernel
theorem dX4_readSum_5 : decode cX4_readSum 5 = .ok (.ifCond .ne 5, 3) := by decide +kernel
theorem dX4_readSum_8 : decode cX4_readSum 8 = .ok (.iconst 0, 1) := by decide +kernel
theorem dX4_readSum_9 : decode cX4_readSum 9 = .ok (.ireturn, 1) := by decide +kernel
theorem dX4_readSum_10 : decode cX4_readSum 10 = .ok (.iconst 0, 1) := by decide +kernel
theorem dX4_readSum_11 : decode cX4_readSum 11 = .ok (.istore_n 2, 1) := by decide +kernel
theorem dX4_readSum_12 : decode cX4_readSum 12 = .ok (.iload_n 2, 1) := by decide +kernel
theorem dX4_readSum_13 : decode cX4_readSum 13 = .ok (.sipush 240, 3) := by decide +kernel
theorem dX4_readSum_16 : decode cX4_readSum 16 = .ok (.if_icmp .ge 74, 3) := by decide +kernel
theorem dX4_readSum_19 : decode cX4_readSum 19 = .ok (.aload_n 0, 1) := by decide +kernel
theorem dX4_readSum_20 : decode cX4_readSum 20 = .ok (.getfield 18, 3) := by decide +kernel
theorem dX4_readSum_23 : decode cX4_readSum 23 = .ok (.invokevirtual 35, 3) := by decide +kernel
theorem dX4_readSum_26 : decode cX4_readSum 26 = .ok (.istore_n 3, 1) := by decide +kernel
theorem dX4_readSum_27 : decode cX4_readSum 27 = .ok (.iload_n 3, 1) := by decide +kernel
theorem dX4_readSum_28 : decode cX4_readSum 28 = .ok (.bipush 43, 2) := by decide +kernel
theorem dX4_readSum_30 : decode cX4_readSum 30 = .ok (.if_icmp .eq 11, 3) := by decide +kernel
theorem dX4_readSum_33 : decode cX4_readSum 33 = .ok (.iload_n 3, 1) := by decide +kernel
theorem dX4_readSum_34 : decode cX4_readSum 34 = .ok (.bipush 45, 2) := by decide +kernel
theorem dX4_readSum_36 : decode cX4_readSum 36 = .ok (.if_icmp .eq 5, 3) := by decide +kernel
theorem dX4_readSum_39 : decode cX4_readSum 39 = .ok (.iconst 1, 1) := by decide +kernel
theorem dX4_readSum_40 : decode cX4_readSum 40 = .ok (.ireturn, 1) := by decide +kernel
theorem dX4_readSum_41 : decode cX4_readSum 41 = .ok (.aload_n 0, 1) := by decide +kernel
theorem dX4_readSum_42 : decode cX4_readSum 42 = .ok (.getfield 18, 3) := by decide +kernel
theorem dX4_readSum_45 : decode cX4_readSum 45 = .ok (.dup, 1) := by decide +kernel
theorem dX4_readSum_46 : decode cX4_readSum 46 = .ok (.getfield 22, 3) := by decide +kernel
theorem dX4_readSum_49 : decode cX4_readSum 49 = .ok (.iconst 1, 1) := by decide +kernel
theorem dX4_readSum_50 : decode cX4_readSum 50 = .ok (.iadd, 1) := by decide +kernel
theorem dX4_readSum_51 : decode cX4_readSum 51 = .ok (.putfield 22, 3) := by decide +kernel
theorem dX4_readSum_54 : decode cX4_readSum 54 = .ok (.aload_n 0, 1) := by decide +kernel
theorem dX4_readSum_55 : decode cX4_readSum 55 = .ok (.iload_n 1, 1) := by decide +kernel
theorem dX4_readSum_56 : decode cX4_readSum 56 = .ok (.invokevirtual 76, 3) := by decide +kernel
theorem dX4_readSum_59 : decode cX4_readSum 59 = .ok (.ifCond .ne 5, 3) := by decide +kernel
theorem dX4_readSum_62 : decode cX4_readSum 62 = .ok (.iconst 0, 1) := by decide +kernel
theorem dX4_readSum_63 : decode cX4_readSum 63 = .ok (.ireturn, 1) := by decide +kernel
theorem dX4_readSum_64 : decode cX4_readSum 64 = .ok (.aload_n 0, 1) := by decide +kernel
theorem dX4_readSum_65 : decode cX4_readSum 65 = .ok (.getfield 12, 3) := by decide +kernel
theorem dX4_readSum_68 : decode cX4_readSum 68 = .ok (.iload_n 3, 1) := by decide +kernel
theorem dX4_readSum_69 : decode cX4_readSum 69 = .ok (.bipush 43, 2) := by decide +kernel
theorem dX4_readSum_71 : decode cX4_readSum 71 = .ok (.if_icmp .ne 8, 3) := by decide +kernel
theorem dX4_readSum_74 : decode cX4_readSum 74 = .ok (.bipush (-11), 2) := by decide +kernel
theorem dX4_readSum_76 : decode cX4_readSum 76 = .ok (.goto 5, 3) := by decide +kernel
theorem dX4_readSum_79 : decode cX4_readSum 79 = .ok (.bipush (-12), 2) := by decide +kernel
theorem dX4_readSum_81 : decode cX4_readSum 81 = .ok (.invokevirtual 49, 3) := by decide +kernel
theorem dX4_readSum_84 : decode cX4_readSum 84 = .ok (.iinc 2 1, 3) := by decide +kernel
theorem dX4_readSum_87 : decode cX4_readSum 87 = .ok (.goto (-75), 3) := by decide +kernel
theorem dX4_readSum_90 : decode cX4_readSum 90 = .ok (.iconst 0, 1) := by decide +kernel
theorem dX4_readSum_91 : decode cX4_readSum 91 = .ok (.ireturn, 1) := by decide +kernel
theorem dX4_readTerm_0 : decode cX4_readTerm 0 = .ok (.aload_n 0, 1) := by decide +kernel
theorem dX4_readTerm_1 : decode cX4_readTerm 1 = .ok (.iload_n 1, 1) := by decide +kernel
theorem dX4_readTerm_2 : decode cX4_readTerm 2 = .ok (.invokevirtual 79, 3) := by decide +kernel
theorem dX4_readTerm_5 : decode cX4_readTerm 5 = .ok (.ifCond .ne 5, 3) := by decide +kernel
theorem dX4_readTerm_8 : decode cX4_readTerm 8 = .ok (.iconst 0, 1) := by decide +kernel
theorem dX4_readTerm_9 : decode cX4_readTerm 9 = .ok (.ireturn, 1) := by decide +kernel
theorem dX4_readTerm_10 : decode cX4_readTerm 10 = .ok (.iconst 0, 1) := by decide +kernel
theorem dX4_readTerm_11 : decode cX4_readTerm 11 = .ok (.istore_n 2, 1) := by decide +kernel
theorem dX4_readTerm_12 : decode cX4_readTerm 12 = .ok (.iload_n 2, 1) := by decide +kernel
theorem dX4_readTerm_13 : decode cX4_readTerm 13 = .ok (.sipush 240, 3) := by decide +kernel
theorem dX4_readTerm_16 : decode cX4_readTerm 16 = .ok (.if_icmp .ge 74, 3) := by decide +kernel
theorem dX4_readTerm_19 : decode cX4_readTerm 19 = .ok (.aload_n 0, 1) := by decide +kernel
theorem dX4_readTerm_20 : decode cX4_readTerm 20 = .ok (.getfield 18, 3) := by decide +kernel
theorem dX4_readTerm_23 : decode cX4_readTerm 23 = .ok (.invokevirtual 35, 3) := by decide +kernel
theorem dX4_readTerm_26 : decode cX4_readTerm 26 = .ok (.istore_n 3, 1) := by decide +kernel
theorem dX4_readTerm_27 : decode cX4_readTerm 27 = .ok (.iload_n 3, 1) := by decide +kernel
theorem dX4_readTerm_28 : decode cX4_readTerm 28 = .ok (.bipush 42, 2) := by decide +kernel
theorem dX4_readTerm_30 : decode cX4_readTerm 30 = .ok (.if_icmp .eq 11, 3) := by decide +kernel
theorem dX4_readTerm_33 : decode cX4_readTerm 33 = .ok (.iload_n 3, 1) := by decide +kernel
theorem dX4_readTerm_34 : decode cX4_readTerm 34 = .ok (.bipush 47, 2) := by decide +kernel
theorem dX4_readTerm_36 : decode cX4_readTerm 36 = .ok (.if_icmp .eq 5, 3) := by decide +kernel
theorem dX4_readTerm_39 : decode cX4_readTerm 39 = .ok (.iconst 1, 1) := by decide +kernel
theorem dX4_readTerm_40 : decode cX4_readTerm 40 = .ok (.ireturn, 1) := by decide +kernel
theorem dX4_readTerm_41 : decode cX4_readTerm 41 = .ok (.aload_n 0, 1) := by decide +kernel
theorem dX4_readTerm_42 : decode cX4_readTerm 42 = .ok (.getfield 18, 3) := by decide +kernel
theorem dX4_readTerm_45 : decode cX4_readTerm 45 = .ok (.dup, 1) := by decide +kernel
theorem dX4_readTerm_46 : decode cX4_readTerm 46 = .ok (.getfield 22, 3) := by decide +kernel
theorem dX4_readTerm_49 : decode cX4_readTerm 49 = .ok (.iconst 1, 1) := by decide +kernel
theorem dX4_readTerm_50 : decode cX4_readTerm 50 = .ok (.iadd, 1) := by decide +kernel
theorem dX4_readTerm_51 : decode cX4_readTerm 51 = .ok (.putfield 22, 3) := by decide +kernel
theorem dX4_readTerm_54 : decode cX4_readTerm 54 = .ok (.aload_n 0, 1) := by decide +kernel
theorem dX4_readTerm_55 : decode cX4_readTerm 55 = .ok (.iload_n 1, 1) := by decide +kernel
theorem dX4_readTerm_56 : decode cX4_readTerm 56 = .ok (.invokevirtual 79, 3) := by decide +kernel
theorem dX4_readTerm_59 : decode cX4_readTerm 59 = .ok (.ifCond .ne 5, 3) := by decide +kernel
theorem dX4_readTerm_62 : decode cX4_readTerm 62 = .ok (.iconst 0, 1) := by decide +kernel
theorem dX4_readTerm_63 : decode cX4_readTerm 63 = .ok (.ireturn, 1) := by decide +kernel
theorem dX4_readTerm_64 : decode cX4_readTerm 64 = .ok (.aload_n 0, 1) := by decide +kernel
theorem dX4_readTerm_65 : decode cX4_readTerm 65 = .ok (.getfield 12, 3) := by decide +kernel
theorem dX4_readTerm_68 : decode cX4_readTerm 68 = .ok (.iload_n 3, 1) := by decide +kernel
theorem dX4_readTerm_69 : decode cX4_readTerm 69 = .ok (.bipush 42, 2) := by decide +kernel
theorem dX4_readTerm_71 : decode cX4_readTerm 71 = .ok (.if_icmp .ne 8, 3) := by decide +kernel
theorem dX4_readTerm_74 : decode cX4_readTerm 74 = .ok (.bipush (-13), 2) := by decide +kernel
theorem dX4_readTerm_76 : decode cX4_readTerm 76 = .ok (.goto 5, 3) := by decide +kernel
theorem dX4_readTerm_79 : decode cX4_readTerm 79 = .ok (.bipush (-14), 2) := by decide +kernel
theorem dX4_readTerm_81 : decode cX4_readTerm 81 = .ok (.invokevirtual 49, 3) := by decide +kernel
theorem dX4_readTerm_84 : decode cX4_readTerm 84 = .ok (.iinc 2 1, 3) := by decide +kernel
theorem dX4_readTerm_87 : decode cX4_readTerm 87 = .ok (.goto (-75), 3) := by decide +kernel
theorem dX4_readTerm_90 : decode cX4_readTerm 90 = .ok (.iconst 0, 1) := by decide +kernel
theorem dX4_readTerm_91 : decode cX4_readTerm 91 = .ok (.ireturn, 1) := by decide +kernel
theorem dX4_readAtom_0 : decode cX4_readAtom 0 = .ok (.aload_n 0, 1) := by decide +kernel
theorem dX4_readAtom_1 : decode cX4_readAtom 1 = .ok (.getfield 18, 3) := by decide +kernel
theorem dX4_readAtom_4 : decode cX4_readAtom 4 = .ok (.invokevirtual 35, 3) := by decide +kernel
theorem dX4_readAtom_7 : decode cX4_readAtom 7 = .ok (.istore_n 2, 1) := by decide +kernel
theorem dX4_readAtom_8 : decode cX4_readAtom 8 = .ok (.iload_n 2, 1) := by decide +kernel
theorem dX4_readAtom_9 : decode cX4_readAtom 9 = .ok (.bipush 91, 2) := by decide +kernel
theorem dX4_readAtom_11 : decode cX4_readAtom 11 = .ok (.if_icmp .ne 52, 3) := by decide +kernel
theorem dX4_readAtom_14 : decode cX4_readAtom 14 = .ok (.iload_n 1, 1) := by decide +kernel
theorem dX4_readAtom_15 : decode cX4_readAtom 15 = .ok (.bipush 6, 2) := by decide +kernel
theorem dX4_readAtom_17 : decode cX4_readAtom 17 = .ok (.if_icmp .lt 5, 3) := by decide +kernel
theorem dX4_readAtom_20 : decode cX4_readAtom 20 = .ok (.iconst 0, 1) := by decide +kernel
theorem dX4_readAtom_21 : decode cX4_readAtom 21 = .ok (.ireturn, 1) := by decide +kernel
theorem dX4_readAtom_22 : decode cX4_readAtom 22 = .ok (.aload_n 0, 1) := by decide +kernel
theorem dX4_readAtom_23 : decode cX4_readAtom 23 = .ok (.getfield 18, 3) := by decide +kernel
theorem dX4_readAtom_26 : decode cX4_readAtom 26 = .ok (.dup, 1) := by decide +kernel
theorem dX4_readAtom_27 : decode cX4_readAtom 27 = .ok (.getfield 22, 3) := by decide +kernel
theorem dX4_readAtom_30 : decode cX4_readAtom 30 = .ok (.iconst 1, 1) := by decide +kernel
theorem dX4_readAtom_31 : decode cX4_readAtom 31 = .ok (.iadd, 1) := by decide +kernel
theorem dX4_readAtom_32 : decode cX4_readAtom 32 = .ok (.putfield 22, 3) := by decide +kernel
theorem dX4_readAtom_35 : decode cX4_readAtom 35 = .ok (.aload_n 0, 1) := by decide +kernel
theorem dX4_readAtom_36 : decode cX4_readAtom 36 = .ok (.iload_n 1, 1) := by decide +kernel
theorem dX4_readAtom_37 : decode cX4_readAtom 37 = .ok (.iconst 1, 1) := by decide +kernel
theorem dX4_readAtom_38 : decode cX4_readAtom 38 = .ok (.iadd, 1) := by decide +kernel
theorem dX4_readAtom_39 : decode cX4_readAtom 39 = .ok (.invokevirtual 43, 3) := by decide +kernel
theorem dX4_readAtom_42 : decode cX4_readAtom 42 = .ok (.ifCond .eq 19, 3) := by decide +kernel
theorem dX4_readAtom_45 : decode cX4_readAtom 45 = .ok (.aload_n 0, 1) := by decide +kernel
theorem dX4_readAtom_46 : decode cX4_readAtom 46 = .ok (.getfield 18, 3) := by decide +kernel
theorem dX4_readAtom_49 : decode cX4_readAtom 49 = .ok (.bipush 93, 2) := by decide +kernel
theorem dX4_readAtom_51 : decode cX4_readAtom 51 = .ok (.invokevirtual 39, 3) := by decide +kernel
theorem dX4_readAtom_54 : decode cX4_readAtom 54 = .ok (.ifCond .eq 7, 3) := by decide +kernel
theorem dX4_readAtom_57 : decode cX4_readAtom 57 = .ok (.iconst 1, 1) := by decide +kernel
theorem dX4_readAtom_58 : decode cX4_readAtom 58 = .ok (.goto 4, 3) := by decide +kernel
theorem dX4_readAtom_61 : decode cX4_readAtom 61 = .ok (.iconst 0, 1) := by decide +kernel
theorem dX4_readAtom_62 : decode cX4_readAtom 62 = .ok (.ireturn, 1) := by decide +kernel
theorem dX4_readAtom_63 : decode cX4_readAtom 63 = .ok (.iload_n 2, 1) := by decide +kernel
theorem dX4_readAtom_64 : decode cX4_readAtom 64 = .ok (.iconst (-1), 1) := by decide +kernel
theorem dX4_readAtom_65 : decode cX4_readAtom 65 = .ok (.if_icmp .ne 7, 3) := by decide +kernel
theorem dX4_readAtom_68 : decode cX4_readAtom 68 = .ok (.iconst (-1), 1) := by decide +kernel
theorem dX4_readAtom_69 : decode cX4_readAtom 69 = .ok (.goto 10, 3) := by decide +kernel
theorem dX4_readAtom_72 : decode cX4_readAtom 72 = .ok (.ldc 82, 2) := by decide +kernel
theorem dX4_readAtom_74 : decode cX4_readAtom 74 = .ok (.iload_n 2, 1) := by decide +kernel
theorem dX4_readAtom_75 : decode cX4_readAtom 75 = .ok (.i2c, 1) := by decide +kernel
theorem dX4_readAtom_76 : decode cX4_readAtom 76 = .ok (.invokevirtual 84, 3) := by decide +kernel
theorem dX4_readAtom_79 : decode cX4_readAtom 79 = .ok (.istore_n 3, 1) := by decide +kernel
theorem dX4_readAtom_80 : decode cX4_readAtom 80 = .ok (.iload_n 3, 1) := by decide +kernel
theorem dX4_readAtom_81 : decode cX4_readAtom 81 = .ok (.ifCond .lt 26, 3) := by decide +kernel
theorem dX4_readAtom_84 : decode cX4_readAtom 84 = .ok (.aload_n 0, 1) := by decide +kernel
theorem dX4_readAtom_85 : decode cX4_readAtom 85 = .ok (.getfield 18, 3) := by decide +kernel
theorem dX4_readAtom_88 : decode cX4_readAtom 88 = .ok (.dup, 1) := by decide +kernel
theorem dX4_readAtom_89 : decode cX4_readAtom 89 = .ok (.getfield 22, 3) := by decide +kernel
theorem dX4_readAtom_92 : decode cX4_readAtom 92 = .ok (.iconst 1, 1) := by decide +kernel
theorem dX4_readAtom_93 : decode cX4_readAtom 93 = .ok (.iadd, 1) := by decide +kernel
theorem dX4_readAtom_94 : decode cX4_readAtom 94 = .ok (.putfield 22, 3) := by decide +kernel
theorem dX4_readAtom_97 : decode cX4_readAtom 97 = .ok (.aload_n 0, 1) := by decide +kernel
theorem dX4_readAtom_98 : decode cX4_readAtom 98 = .ok (.getfield 12, 3) := by decide +kernel
theorem dX4_readAtom_101 : decode cX4_readAtom 101 = .ok (.iload_n 3, 1) := by decide +kernel
theorem dX4_readAtom_102 : decode cX4_readAtom 102 = .ok (.invokevirtual 90, 3) := by decide +kernel
theorem dX4_readAtom_105 : decode cX4_readAtom 105 = .ok (.iconst 1, 1) := by decide +kernel
theorem dX4_readAtom_106 : decode cX4_readAtom 106 = .ok (.ireturn, 1) := by decide +kernel
theorem dX4_readAtom_107 : decode cX4_readAtom 107 = .ok (.aload_n 0, 1) := by decide +kernel
theorem dX4_readAtom_108 : decode cX4_readAtom 108 = .ok (.getfield 18, 3) := by decide +kernel
theorem dX4_readAtom_111 : decode cX4_readAtom 111 = .ok (.iconst 4, 1) := by decide +kernel
theorem dX4_readAtom_112 : decode cX4_readAtom 112 = .ok (.invokevirtual 93, 3) := by decide +kernel
theorem dX4_readAtom_115 : decode cX4_readAtom 115 = .ok (.istore 4, 2) := by decide +kernel
theorem dX4_readAtom_117 : decode cX4_readAtom 117 = .ok (.aload_n 0, 1) := by decide +kernel
theorem dX4_readAtom_118 : decode cX4_readAtom 118 = .ok (.getfield 12, 3) := by decide +kernel
theorem dX4_readAtom_121 : decode cX4_readAtom 121 = .ok (.iload 4, 2) := by decide +kernel
theorem dX4_readAtom_123 : decode cX4_readAtom 123 = .ok (.invokevirtual 49, 3) := by decide +kernel
theorem dX4_readAtom_126 : decode cX4_readAtom 126 = .ok (.iload 4, 2) := by decide +kernel
theorem dX4_readAtom_128 : decode cX4_readAtom 128 = .ok (.iconst (-1), 1) := by decide +kernel
theorem dX4_readAtom_129 : decode cX4_readAtom 129 = .ok (.if_icmp .eq 7, 3) := by decide +kernel
theorem dX4_readAtom_132 : decode cX4_readAtom 132 = .ok (.iconst 1, 1) := by decide +kernel
theorem dX4_readAtom_133 : decode cX4_readAtom 133 = .ok (.goto 4, 3) := by decide +kernel
theorem dX4_readAtom_136 : decode cX4_readAtom 136 = .ok (.iconst 0, 1) := by decide +kernel
theorem dX4_readAtom_137 : decode cX4_readAtom 137 = .ok (.ireturn, 1) := by decide +kernel
theorem dX5_init_0 : decode cX5_init 0 = .ok (.aload_n 0, 1) := by decide +kernel
theorem dX5_init_1 : decode cX5_init 1 = .ok (.invokespecial 3, 3) := by decide +kernel
theorem dX5_init_4 : decode cX5_init 4 = .ok (.aload_n 0, 1) := by decide +kernel
theorem dX5_init_5 : decode cX5_init 5 = .ok (.bipush 10, 2) := by decide +kernel
theorem dX5_init_7 : decode cX5_init 7 = .ok (.newarray .int, 2) := by decide +kernel
theorem dX5_init_9 : decode cX5_init 9 = .ok (.putfield 9, 3) := by decide +kernel
theorem dX5_init_12 : decode cX5_init 12 = .ok (.aload_n 0, 1) := by decide +kernel
theorem dX5_init_13 : decode cX5_init 13 = .ok (.bipush 10, 2) := by decide +kernel
theorem dX5_init_15 : decode cX5_init 15 = .ok (.newarray .int, 2) := by decide +kernel
theorem dX5_init_17 : decode cX5_init 17 = .ok (.putfield 15, 3) := by decide +kernel
theorem dX5_init_20 : decode cX5_init 20 = .ok (.aload_n 0, 1) := by decide +kernel
theorem dX5_init_21 : decode cX5_init 21 = .ok (.bipush 19, 2) := by decide +kernel
theorem dX5_init_23 : decode cX5_init 23 = .ok (.newarray .int, 2) := by decide +kernel
theorem dX5_init_25 : decode cX5_init 25 = .ok (.putfield 18, 3) := by decide +kernel
theorem dX5_init_28 : decode cX5_init 28 = .ok (.aload_n 0, 1) := by decide +kernel
theorem dX5_init_29 : decode cX5_init 29 = .ok (.aload_n 1, 1) := by decide +kernel
theorem dX5_init_30 : decode cX5_init 30 = .ok (.putfield 21, 3) := by decide +kernel
theorem dX5_init_33 : decode cX5_init 33 = .ok (.return_, 1) := by decide +kernel
theorem dX5_add_0 : decode cX5_add 0 = .ok (.aload_n 0, 1) := by decide +kernel
theorem dX5_add_1 : decode cX5_add 1 = .ok (.getfield 25, 3) := by decide +kernel
theorem dX5_add_4 : decode cX5_add 4 = .ok (.bipush 10, 2) := by decide +kernel
theorem dX5_add_6 : decode cX5_add 6 = .ok (.if_icmp .lt 5, 3) := by decide +kernel
theorem dX5_add_9 : decode cX5_add 9 = .ok (.iconst 0, 1) := by decide +kernel
theorem dX5_add_10 : decode cX5_add 10 = .ok (.ireturn, 1) := by decide +kernel
theorem dX5_add_11 : decode cX5_add 11 = .ok (.aload_n 0, 1) := by decide +kernel
theorem dX5_add_12 : decode cX5_add 12 = .ok (.getfield 9, 3) := by decide +kernel
theorem dX5_add_15 : decode cX5_add 15 = .ok (.aload_n 0, 1) := by decide +kernel
theorem dX5_add_16 : decode cX5_add 16 = .ok (.getfield 25, 3) := by decide +kernel
theorem dX5_add_19 : decode cX5_add 19 = .ok (.iload_n 1, 1) := by decide +kernel
theorem dX5_add_20 : decode cX5_add 20 = .ok (.iastore, 1) := by decide +kernel
theorem dX5_add_21 : decode cX5_add 21 = .ok (.aload_n 0, 1) := by decide +kernel
theorem dX5_add_22 : decode cX5_add 22 = .ok (.getfield 15, 3) := by decide +kernel
theorem dX5_add_25 : decode cX5_add 25 = .ok (.aload_n 0, 1) := by decide +kernel
theorem dX5_add_26 : decode cX5_add 26 = .ok (.getfield 25, 3) := by decide +kernel
theorem dX5_add_29 : decode cX5_add 29 = .ok (.iload_n 2, 1) := by decide +kernel
theorem dX5_add_30 : decode cX5_add 30 = .ok (.iastore, 1) := by decide +kernel
theorem dX5_add_31 : decode cX5_add 31 = .ok (.aload_n 0, 1) := by decide +kernel
theorem dX5_add_32 : decode cX5_add 32 = .ok (.dup, 1) := by decide +kernel
theorem dX5_add_33 : decode cX5_add 33 = .ok (.getfield 25, 3) := by decide +kernel
theorem dX5_add_36 : decode cX5_add 36 = .ok (.iconst 1, 1) := by decide +kernel
theorem dX5_add_37 : decode cX5_add 37 = .ok (.iadd, 1) := by decide +kernel
theorem dX5_add_38 : decode cX5_add 38 = .ok (.putfield 25, 3) := by decide +kernel
theorem dX5_add_41 : decode cX5_add 41 = .ok (.iconst 1, 1) := by decide +kernel
theorem dX5_add_42 : decode cX5_add 42 = .ok (.ireturn, 1) := by decide +kernel
theorem dX5_ways_0 : decode cX5_ways 0 = .ok (.iconst 1, 1) := by decide +kernel
theorem dX5_ways_1 : decode cX5_ways 1 = .ok (.aload_n 0, 1) := by decide +kernel
theorem dX5_ways_2 : decode cX5_ways 2 = .ok (.getfield 21, 3) := by decide +kernel
theorem dX5_ways_5 : decode cX5_ways 5 = .ok (.getfield 29, 3) := by decide +kernel
theorem dX5_ways_8 : decode cX5_ways 8 = .ok (.aload_n 0, 1) := by decide +kernel
theorem dX5_ways_9 : decode cX5_ways 9 = .ok (.getfield 21, 3) := by decide +kernel
theorem dX5_ways_12 : decode cX5_ways 12 = .ok (.getfield 29, 3) := by decide +kernel
theorem dX5_ways_15 : decode cX5_ways 15 = .ok (.iconst 1, 1) := by decide +kernel
theorem dX5_ways_16 : decode cX5_ways 16 = .ok (.isub, 1) := by decide +kernel
theorem dX5_ways_17 : decode cX5_ways 17 = .ok (.imul, 1) := by decide +kernel
theorem dX5_ways_18 : decode cX5_ways 18 = .ok (.bipush 9, 2) := by decide +kernel
theorem dX5_ways_20 : decode cX5_ways 20 = .ok (.imul, 1) := by decide +kernel
theorem dX5_ways_21 : decode cX5_ways 21 = .ok (.iadd, 1) := by decide +kernel
theorem dX5_ways_22 : decode cX5_ways 22 = .ok (.ireturn, 1) := by decide +kernel
theorem dX5_wayAt_0 : decode cX5_wayAt 0 = .ok (.aload_n 0, 1) := by decide +kernel
theorem dX5_wayAt_1 : decode cX5_wayAt 1 = .ok (.getfield 21, 3) := by decide +kernel
theorem dX5_wayAt_4 : decode cX5_wayAt 4 = .ok (.getfield 29, 3) := by decide +kernel
theorem dX5_wayAt_7 : decode cX5_wayAt 7 = .ok (.iconst 1, 1) := by decide +kernel
theorem dX5_wayAt_8 : decode cX5_wayAt 8 = .ok (.isub, 1) := by decide +kernel
theorem dX5_wayAt_9 : decode cX5_wayAt 9 = .ok (.istore_n 2, 1) := by decide +kernel
theorem dX5_wayAt_10 : decode cX5_wayAt 10 = .ok (.iload_n 1, 1) := by decide +kernel
theorem dX5_wayAt_11 : decode cX5_wayAt 11 = .ok (.iconst 1, 1) := by decide +kernel
theorem dX5_wayAt_12 : decode cX5_wayAt 12 = .ok (.if_icmp .lt 8, 3) := by decide +kernel
theorem dX5_wayAt_15 : decode cX5_wayAt 15 = .ok (.iload_n 2, 1) := by decide +kernel
theorem dX5_wayAt_16 : decode cX5_wayAt 16 = .ok (.iconst 1, 1) := by decide +kernel
theorem dX5_wayAt_17 : decode cX5_wayAt 17 = .ok (.if_icmp .ge 5, 3) := by decide +kernel
theorem dX5_wayAt_20 : decode cX5_wayAt 20 = .ok (.iconst 0, 1) := by decide +kernel
theorem dX5_wayAt_21 : decode cX5_wayAt 21 = .ok (.ireturn, 1) := by decide +kernel
theorem dX5_wayAt_22 : decode cX5_wayAt 22 = .ok (.iload_n 1, 1) := by decide +kernel
theorem dX5_wayAt_23 : decode cX5_wayAt 23 = .ok (.iconst 1, 1) := by decide +kernel
theorem dX5_wayAt_24 : decode cX5_wayAt 24 = .ok (.isub, 1) := by decide +kernel
theorem dX5_wayAt_25 : decode cX5_wayAt 25 = .ok (.bipush 9, 2) := by decide +kernel
theorem dX5_wayAt_27 : decode cX5_wayAt 27 = .ok (.idiv, 1) := by decide +kernel
theorem dX5_wayAt_28 : decode cX5_wayAt 28 = .ok (.istore_n 3, 1) := by decide +kernel
theorem dX5_wayAt_29 : decode cX5_wayAt 29 = .ok (.iload_n 3, 1) := by decide +kernel
theorem dX5_wayAt_30 : decode cX5_wayAt 30 = .ok (.iload_n 2, 1) := by decide +kernel
theorem dX5_wayAt_31 : decode cX5_wayAt 31 = .ok (.idiv, 1) := by decide +kernel
theorem dX5_wayAt_32 : decode cX5_wayAt 32 = .ok (.istore 4, 2) := by decide +kernel
theorem dX5_wayAt_34 : decode cX5_wayAt 34 = .ok (.iload_n 3, 1) := by decide +kernel
theorem dX5_wayAt_35 : decode cX5_wayAt 35 = .ok (.iload_n 2, 1) := by decide +kernel
theorem dX5_wayAt_36 : decode cX5_wayAt 36 = .ok (.irem, 1) := by decide +kernel
theorem dX5_wayAt_37 : decode cX5_wayAt 37 = .ok (.istore 5, 2) := by decide +kernel
theorem dX5_wayAt_39 : decode cX5_wayAt 39 = .ok (.iload 5, 2) := by decide +kernel
theorem dX5_wayAt_41 : decode cX5_wayAt 41 = .ok (.iload 4, 2) := by decide +kernel
theorem dX5_wayAt_43 : decode cX5_wayAt 43 = .ok (.if_icmp .lt 6, 3) := by decide +kernel
theorem dX5_wayAt_46 : decode cX5_wayAt 46 = .ok (.iinc 5 1, 3) := by decide +kernel
theorem dX5_wayAt_49 : decode cX5_wayAt 49 = .ok (.sipush 1000, 3) := by decide +kernel
theorem dX5_wayAt_52 : decode cX5_wayAt 52 = .ok (.bipush 100, 2) := by decide +kernel
theorem dX5_wayAt_54 : decode cX5_wayAt 54 = .ok (.iload 4, 2) := by decide +kernel
theorem dX5_wayAt_56 : decode cX5_wayAt 56 = .ok (.imul, 1) := by decide +kernel
theorem dX5_wayAt_57 : decode cX5_wayAt 57 = .ok (.iadd, 1) := by decide +kernel
theorem dX5_wayAt_58 : decode cX5_wayAt 58 = .ok (.bipush 10, 2) := by decide +kernel
theorem dX5_wayAt_60 : decode cX5_wayAt 60 = .ok (.iload 5, 2) := by decide +kernel
theorem dX5_wayAt_62 : decode cX5_wayAt 62 = .ok (.imul, 1) := by decide +kernel
theorem dX5_wayAt_63 : decode cX5_wayAt 63 = .ok (.iadd, 1) := by decide +kernel
theorem dX5_wayAt_64 : decode cX5_wayAt 64 = .ok (.iload_n 1, 1) := by decide +kernel
theorem dX5_wayAt_65 : decode cX5_wayAt 65 = .ok (.iconst 1, 1) := by decide +kernel
theorem dX5_wayAt_66 : decode cX5_wayAt 66 = .ok (.isub, 1) := by decide +kernel
theorem dX5_wayAt_67 : decode cX5_wayAt 67 = .ok (.bipush 9, 2) := by decide +kernel
theorem dX5_wayAt_69 : decode cX5_wayAt 69 = .ok (.irem, 1) := by decide +kernel
theorem dX5_wayAt_70 : decode cX5_wayAt 70 = .ok (.iadd, 1) := by decide +kernel
theorem dX5_wayAt_71 : decode cX5_wayAt 71 = .ok (.iconst 1, 1) := by decide +kernel
theorem dX5_wayAt_72 : decode cX5_wayAt 72 = .ok (.iadd, 1) := by decide +kernel
theorem dX5_wayAt_73 : decode cX5_wayAt 73 = .ok (.ireturn, 1) := by decide +kernel
theorem dX5_gainBy_0 : decode cX5_gainBy 0 = .ok (.iload_n 0, 1) := by decide +kernel
theorem dX5_gainBy_1 : decode cX5_gainBy 1 = .ok (.ifCond .ne 5, 3) := by decide +kernel
theorem dX5_gainBy_4 : decode cX5_gainBy 4 = .ok (.iconst 0, 1) := by decide +kernel
theorem dX5_gainBy_5 : decode cX5_gainBy 5 = .ok (.ireturn, 1) := by decide +kernel
theorem dX5_gainBy_6 : decode cX5_gainBy 6 = .ok (.iload_n 0, 1) := by decide +kernel
theorem dX5_gainBy_7 : decode cX5_gainBy 7 = .ok (.bipush 100, 2) := by decide +kernel
theorem dX5_gainBy_9 : decode cX5_gainBy 9 = .ok (.idiv, 1) := by decide +kernel
theorem dX5_gainBy_10 : decode cX5_gainBy 10 = .ok (.bipush 10, 2) := by decide +kernel
theorem dX5_gainBy_12 : decode cX5_gainBy 12 = .ok (.irem, 1) := by decide +kernel
theorem dX5_gainBy_13 : decode cX5_gainBy 13 = .ok (.iload_n 1, 1) := by decide +kernel
theorem dX5_gainBy_14 : decode cX5_gainBy 14 = .ok (.if_icmp .ne 9, 3) := by decide +kernel
theorem dX5_gainBy_17 : decode cX5_gainBy 17 = .ok (.iload_n 0, 1) := by decide +kernel
theorem dX5_gainBy_18 : decode cX5_gainBy 18 = .ok (.bipush 10, 2) := by decide +kernel
theorem dX5_gainBy_20 : decode cX5_gainBy 20 = .ok (.irem, 1) := by decide +kernel
theorem dX5_gainBy_21 : decode cX5_gainBy 21 = .ok (.ineg, 1) := by decide +kernel
theorem dX5_gainBy_22 : decode cX5_gainBy 22 = .ok (.ireturn, 1) := by decide +kernel
theorem dX5_gainBy_23 : decode cX5_gainBy 23 = .ok (.iload_n 0, 1) := by decide +kernel
theorem dX5_gainBy_24 : decode cX5_gainBy 24 = .ok (.bipush 10, 2) := by decide +kernel
theorem dX5_gainBy_26 : decode cX5_gainBy 26 = .ok (.idiv, 1) := by decide +kernel
theorem dX5_gainBy_27 : decode cX5_gainBy 27 = .ok (.bipush 10, 2) := by decide +kernel
theorem dX5_gainBy_29 : decode cX5_gainBy 29 = .ok (.irem, 1) := by decide +kernel
theorem dX5_gainBy_30 : decode cX5_gainBy 30 = .ok (.iload_n 1, 1) := by decide +kernel
theorem dX5_gainBy_31 : decode cX5_gainBy 31 = .ok (.if_icmp .ne 10, 3) := by decide +kernel
theorem dX5_gainBy_34 : decode cX5_gainBy 34 = .ok (.iload_n 0, 1) := by decide +kernel
theorem dX5_gainBy_35 : decode cX5_gainBy 35 = .ok (.bipush 10, 2) := by decide +kernel
theorem dX5_gainBy_37 : decode cX5_gainBy 37 = .ok (.irem, 1) := by decide +kernel
theorem dX5_gainBy_38 : decode cX5_gainBy 38 = .ok (.goto 4, 3) := by decide +kernel
theorem dX5_gainBy_41 : decode cX5_gainBy 41 = .ok (.iconst 0, 1) := by decide +kernel
theorem dX5_gainBy_42 : decode cX5_gainBy 42 = .ok (.ireturn, 1) := by decide +kernel
theorem dX5_fits_0 : decode cX5_fits 0 = .ok (.iconst 0, 1) := by decide +kernel
theorem dX5_fits_1 : decode cX5_fits 1 = .ok (.istore_n 2, 1) := by decide +kernel
theorem dX5_fits_2 : decode cX5_fits 2 = .ok (.iload_n 2, 1) := by decide +kernel
theorem dX5_fits_3 : decode cX5_fits 3 = .ok (.aload_n 0, 1) := by decide +kernel
theorem dX5_fits_4 : decode cX5_fits 4 = .ok (.getfield 25, 3) := by decide +kernel
theorem dX5_fits_7 : decode cX5_fits 7 = .ok (.if_icmp .ge 30, 3) := by decide +kernel
theorem dX5_fits_10 : decode cX5_fits 10 = .ok (.iload_n 1, 1) := by decide +kernel
theorem dX5_fits_11 : decode cX5_fits 11 = .ok (.aload_n 0, 1) := by decide +kernel
theorem dX5_fits_12 : decode cX5_fits 12 = .ok (.getfield 9, 3) := by decide +kernel
theorem dX5_fits_15 : decode cX5_fits 15 = .ok (.iload_n 2, 1) := by decide +kernel
theorem dX5_fits_16 : decode cX5_fits 16 = .ok (.iaload, 1) := by decide +kernel
theorem dX5_fits_17 : decode cX5_fits 17 = .ok (.invokestatic 34, 3) := by decide +kernel
theorem dX5_fits_20 : decode cX5_fits 20 = .ok (.aload_n 0, 1) := by decide +kernel
theorem dX5_fits_21 : decode cX5_fits 21 = .ok (.getfield 15, 3) := by decide +kernel
theorem dX5_fits_24 : decode cX5_fits 24 = .ok (.iload_n 2, 1) := by decide +kernel
theorem dX5_fits_25 : decode cX5_fits 25 = .ok (.iaload, 1) := by decide +kernel
theorem dX5_fits_26 : decode cX5_fits 26 = .ok (.if_icmp .eq 5, 3) := by decide +kernel
theorem dX5_fits_29 : decode cX5_fits 29 = .ok (.iconst 0, 1) := by decide +kernel
theorem dX5_fits_30 : decode cX5_fits 30 = .ok (.ireturn, 1) := by decide +kernel
theorem dX5_fits_31 : decode cX5_fits 31 = .ok (.iinc 2 1, 3) := by decide +kernel
theorem dX5_fits_34 : decode cX5_fits 34 = .ok (.goto (-32), 3) := by decide +kernel
theorem dX5_fits_37 : decode cX5_fits 37 = .ok (.iconst 1, 1) := by decide +kernel
theorem dX5_fits_38 : decode cX5_fits 38 = .ok (.ireturn, 1) := by decide +kernel
theorem dX5_waysThatFit_0 : decode cX5_waysThatFit 0 = .ok (.iconst 0, 1) := by decide +kernel
theorem dX5_waysThatFit_1 : decode cX5_waysThatFit 1 = .ok (.istore_n 1, 1) := by decide +kernel
theorem dX5_waysThatFit_2 : decode cX5_waysThatFit 2 = .ok (.iconst 0, 1) := by decide +kernel
theorem dX5_waysThatFit_3 : decode cX5_waysThatFit 3 = .ok (.istore_n 2, 1) := by decide +kernel
theorem dX5_waysThatFit_4 : decode cX5_waysThatFit 4 = .ok (.iload_n 2, 1) := by decide +kernel
theorem dX5_waysThatFit_5 : decode cX5_waysThatFit 5 = .ok (.aload_n 0, 1) := by decide +kernel
theorem dX5_waysThatFit_6 : decode cX5_waysThatFit 6 = .ok (.invokevirtual 38, 3) := by decide +kernel
theorem dX5_waysThatFit_9 : decode cX5_waysThatFit 9 = .ok (.if_icmp .ge 24, 3) := by decide +kernel
theorem dX5_waysThatFit_12 : decode cX5_waysThatFit 12 = .ok (.aload_n 0, 1) := by decide +kernel
theorem dX5_waysThatFit_13 : decode cX5_waysThatFit 13 = .ok (.aload_n 0, 1) := by decide +kernel
theorem dX5_waysThatFit_14 : decode cX5_waysThatFit 14 = .ok (.iload_n 2, 1) := by decide +kernel
theorem dX5_waysThatFit_15 : decode cX5_waysThatFit 15 = .ok (.invokevirtual 42, 3) := by decide +kernel
theorem dX5_waysThatFit_18 : decode cX5_waysThatFit 18 = .ok (.invokevirtual 46, 3) := by decide +kernel
theorem dX5_waysThatFit_21 : decode cX5_waysThatFit 21 = .ok (.ifCond .eq 6, 3) := by decide +kernel
theorem dX5_waysThatFit_24 : decode cX5_waysThatFit 24 = .ok (.iinc 1 1, 3) := by decide +kernel
theorem dX5_waysThatFit_27 : decode cX5_waysThatFit 27 = .ok (.iinc 2 1, 3) := by decide +kernel
theorem dX5_waysThatFit_30 : decode cX5_waysThatFit 30 = .ok (.goto (-26), 3) := by decide +kernel
theorem dX5_waysThatFit_33 : decode cX5_waysThatFit 33 = .ok (.iload_n 1, 1) := by decide +kernel
theorem dX5_waysThatFit_34 : decode cX5_waysThatFit 34 = .ok (.ireturn, 1) := by decide +kernel
theorem dX5_wayThatFits_0 : decode cX5_wayThatFits 0 = .ok (.iload_n 1, 1) := by decide +kernel
theorem dX5_wayThatFits_1 : decode cX5_wayThatFits 1 = .ok (.istore_n 2, 1) := by decide +kernel
theorem dX5_wayThatFits_2 : decode cX5_wayThatFits 2 = .ok (.iconst 0, 1) := by decide +kernel
theorem dX5_wayThatFits_3 : decode cX5_wayThatFits 3 = .ok (.istore_n 3, 1) := by decide +kernel
theorem dX5_wayThatFits_4 : decode cX5_wayThatFits 4 = .ok (.iload_n 3, 1) := by decide +kernel
theorem dX5_wayThatFits_5 : decode cX5_wayThatFits 5 = .ok (.aload_n 0, 1) := by decide +kernel
theorem dX5_wayThatFits_6 : decode cX5_wayThatFits 6 = .ok (.invokevirtual 38, 3) := by decide +kernel
theorem dX5_wayThatFits_9 : decode cX5_wayThatFits 9 = .ok (.if_icmp .ge 38, 3) := by decide +kernel
theorem dX5_wayThatFits_12 : decode cX5_wayThatFits 12 = .ok (.aload_n 0, 1) := by decide +kernel
theorem dX5_wayThatFits_13 : decode cX5_wayThatFits 13 = .ok (.iload_n 3, 1) := by decide +kernel
theorem dX5_wayThatFits_14 : decode cX5_wayThatFits 14 = .ok (.invokevirtual 42, 3) := by decide +kernel
theorem dX5_wayThatFits_17 : decode cX5_wayThatFits 17 = .ok (.istore 4, 2) := by decide +kernel
theorem dX5_wayThatFits_19 : decode cX5_wayThatFits 19 = .ok (.aload_n 0, 1) := by decide +kernel
theorem dX5_wayThatFits_20 : decode cX5_wayThatFits 20 = .ok (.iload 4, 2) := by decide +kernel
theorem dX5_wayThatFits_22 : decode cX5_wayThatFits 22 = .ok (.invokevirtual 46, 3) := by decide +kernel
theorem dX5_wayThatFits_25 : decode cX5_wayThatFits 25 = .ok (.ifCond .ne 6, 3) := by decide +kernel
theorem dX5_wayThatFits_28 : decode cX5_wayThatFits 28 = .ok (.goto 13, 3) := by decide +kernel
theorem dX5_wayThatFits_31 : decode cX5_wayThatFits 31 = .ok (.iload_n 2, 1) := by decide +kernel
theorem dX5_wayThatFits_32 : decode cX5_wayThatFits 32 = .ok (.ifCond .ne 6, 3) := by decide +kernel
theorem dX5_wayThatFits_35 : decode cX5_wayThatFits 35 = .ok (.iload 4, 2) := by decide +kernel
theorem dX5_wayThatFits_37 : decode cX5_wayThatFits 37 = .ok (.ireturn, 1) := by decide +kernel
theorem dX5_wayThatFits_38 : decode cX5_wayThatFits 38 = .ok (.iinc 2 (-1), 3) := by decide +kernel
theorem dX5_wayThatFits_41 : decode cX5_wayThatFits 41 = .ok (.iinc 3 1, 3) := by decide +kernel
theorem dX5_wayThatFits_44 : decode cX5_wayThatFits 44 = .ok (.goto (-40), 3) := by decide +kernel
theorem dX5_wayThatFits_47 : decode cX5_wayThatFits 47 = .ok (.iconst (-1), 1) := by decide +kernel
theorem dX5_wayThatFits_48 : decode cX5_wayThatFits 48 = .ok (.ireturn, 1) := by decide +kernel
theorem dX5_nextToMeasure_0 : decode cX5_nextToMeasure 0 = .ok (.iconst (-1), 1) := by decide +kernel
theorem dX5_nextToMeasure_1 : decode cX5_nextToMeasure 1 = .ok (.istore_n 1, 1) := by decide +kernel
theorem dX5_nextToMeasure_2 : decode cX5_nextToMeasure 2 = .ok (.aload_n 0, 1) := by decide +kernel
theorem dX5_nextToMeasure_3 : decode cX5_nextToMeasure 3 = .ok (.invokevirtual 38, 3) := by decide +kernel
theorem dX5_nextToMeasure_6 : decode cX5_nextToMeasure 6 = .ok (.iconst 1, 1) := by decide +kernel
theorem dX5_nextToMeasure_7 : decode cX5_nextToMeasure 7 = .ok (.iadd, 1) := by decide +kernel
theorem dX5_nextToMeasure_8 : decode cX5_nextToMeasure 8 = .ok (.istore_n 2, 1) := by decide +kernel
theorem dX5_nextToMeasure_9 : decode cX5_nextToMeasure 9 = .ok (.iconst 0, 1) := by decide +kernel
theorem dX5_nextToMeasure_10 : decode cX5_nextToMeasure 10 = .ok (.istore_n 3, 1) := by decide +kernel
theorem dX5_nextToMeasure_11 : decode cX5_nextToMeasure 11 = .ok (.iload_n 3, 1) := by decide +kernel
theorem dX5_nextToMeasure_12 : decode cX5_nextToMeasure 12 = .ok (.aload_n 0, 1) := by decide +kernel
theorem dX5_nextToMeasure_13 : decode cX5_nextToMeasure 13 = .ok (.getfield 21, 3) := by decide +kernel
theorem dX5_nextToMeasure_16 : decode cX5_nextToMeasure 16 = .ok (.getfield 29, 3) := by decide +kernel
theorem dX5_nextToMeasure_19 : decode cX5_nextToMeasure 19 = .ok (.if_icmp .ge 32, 3) := by decide +kernel
theorem dX5_nextToMeasure_22 : decode cX5_nextToMeasure 22 = .ok (.aload_n 0, 1) := by decide +kernel
theorem dX5_nextToMeasure_23 : decode cX5_nextToMeasure 23 = .ok (.iload_n 3, 1) := by decide +kernel
theorem dX5_nextToMeasure_24 : decode cX5_nextToMeasure 24 = .ok (.invokevirtual 50, 3) := by decide +kernel
theorem dX5_nextToMeasure_27 : decode cX5_nextToMeasure 27 = .ok (.istore 4, 2) := by decide +kernel
theorem dX5_nextToMeasure_29 : decode cX5_nextToMeasure 29 = .ok (.iload 4, 2) := by decide +kernel
theorem dX5_nextToMeasure_31 : decode cX5_nextToMeasure 31 = .ok (.ifCond .le 14, 3) := by decide +kernel
theorem dX5_nextToMeasure_34 : decode cX5_nextToMeasure 34 = .ok (.iload 4, 2) := by decide +kernel
theorem dX5_nextToMeasure_36 : decode cX5_nextToMeasure 36 = .ok (.iload_n 2, 1) := by decide +kernel
theorem dX5_nextToMeasure_37 : decode cX5_nextToMeasure 37 = .ok (.if_icmp .ge 8, 3) := by decide +kernel
theorem dX5_nextToMeasure_40 : decode cX5_nextToMeasure 40 = .ok (.iload 4, 2) := by decide +kernel
theorem dX5_nextToMeasure_42 : decode cX5_nextToMeasure 42 = .ok (.istore_n 2, 1) := by decide +kernel
theorem dX5_nextToMeasure_43 : decode cX5_nextToMeasure 43 = .ok (.iload_n 3, 1) := by decide +kernel
theorem dX5_nextToMeasure_44 : decode cX5_nextToMeasure 44 = .ok (.istore_n 1, 1) := by decide +kernel
theorem dX5_nextToMeasure_45 : decode cX5_nextToMeasure 45 = .ok (.iinc 3 1, 3) := by decide +kernel
theorem dX5_nextToMeasure_48 : decode cX5_nextToMeasure 48 = .ok (.goto (-37), 3) := by decide +kernel
theorem dX5_nextToMeasure_51 : decode cX5_nextToMeasure 51 = .ok (.iload_n 1, 1) := by decide +kernel
theorem dX5_nextToMeasure_52 : decode cX5_nextToMeasure 52 = .ok (.ireturn, 1) := by decide +kernel
theorem dX5_mostLeftBy_0 : decode cX5_mostLeftBy 0 = .ok (.iconst 0, 1) := by decide +kernel
theorem dX5_mostLeftBy_1 : decode cX5_mostLeftBy 1 = .ok (.istore_n 2, 1) := by decide +kernel
theorem dX5_mostLeftBy_2 : decode cX5_mostLeftBy 2 = .ok (.iload_n 2, 1) := by decide +kernel
theorem dX5_mostLeftBy_3 : decode cX5_mostLeftBy 3 = .ok (.aload_n 0, 1) := by decide +kernel
theorem dX5_mostLeftBy_4 : decode cX5_mostLeftBy 4 = .ok (.getfield 18, 3) := by decide +kernel
theorem dX5_mostLeftBy_7 : decode cX5_mostLeftBy 7 = .ok (.arraylength, 1) := by decide +kernel
theorem dX5_mostLeftBy_8 : decode cX5_mostLeftBy 8 = .ok (.if_icmp .ge 16, 3) := by decide +kernel
theorem dX5_mostLeftBy_11 : decode cX5_mostLeftBy 11 = .ok (.aload_n 0, 1) := by decide +kernel
theorem dX5_mostLeftBy_12 : decode cX5_mostLeftBy 12 = .ok (.getfield 18, 3) := by decide +kernel
theorem dX5_mostLeftBy_15 : decode cX5_mostLeftBy 15 = .ok (.iload_n 2, 1) := by decide +kernel
theorem dX5_mostLeftBy_16 : decode cX5_mostLeftBy 16 = .ok (.iconst 0, 1) := by decide +kernel
theorem dX5_mostLeftBy_17 : decode cX5_mostLeftBy 17 = .ok (.iastore, 1) := by decide +kernel
theorem dX5_mostLeftBy_18 : decode cX5_mostLeftBy 18 = .ok (.iinc 2 1, 3) := by decide +kernel
theorem dX5_mostLeftBy_21 : decode cX5_mostLeftBy 21 = .ok (.goto (-19), 3) := by decide +kernel
theorem dX5_mostLeftBy_24 : decode cX5_mostLeftBy 24 = .ok (.iconst 0, 1) := by decide +kernel
theorem dX5_mostLeftBy_25 : decode cX5_mostLeftBy 25 = .ok (.istore_n 2, 1) := by decide +kernel
theorem dX5_mostLeftBy_26 : decode cX5_mostLeftBy 26 = .ok (.iconst 0, 1) := by decide +kernel
theorem dX5_mostLeftBy_27 : decode cX5_mostLeftBy 27 = .ok (.istore_n 3, 1) := by decide +kernel
theorem dX5_mostLeftBy_28 : decode cX5_mostLeftBy 28 = .ok (.iload_n 3, 1) := by decide +kernel
theorem dX5_mostLeftBy_29 : decode cX5_mostLeftBy 29 = .ok (.aload_n 0, 1) := by decide +kernel
theorem dX5_mostLeftBy_30 : decode cX5_mostLeftBy 30 = .ok (.invokevirtual 38, 3) := by decide +kernel
theorem dX5_mostLeftBy_33 : decode cX5_mostLeftBy 33 = .ok (.if_icmp .ge 59, 3) := by decide +kernel
theorem dX5_mostLeftBy_36 : decode cX5_mostLeftBy 36 = .ok (.aload_n 0, 1) := by decide +kernel
theorem dX5_mostLeftBy_37 : decode cX5_mostLeftBy 37 = .ok (.iload_n 3, 1) := by decide +kernel
theorem dX5_mostLeftBy_38 : decode cX5_mostLeftBy 38 = .ok (.invokevirtual 42, 3) := by decide +kernel
theorem dX5_mostLeftBy_41 : decode cX5_mostLeftBy 41 = .ok (.istore 4, 2) := by decide +kernel
theorem dX5_mostLeftBy_43 : decode cX5_mostLeftBy 43 = .ok (.aload_n 0, 1) := by decide +kernel
theorem dX5_mostLeftBy_44 : decode cX5_mostLeftBy 44 = .ok (.iload 4, 2) := by decide +kernel
theorem dX5_mostLeftBy_46 : decode cX5_mostLeftBy 46 = .ok (.invokevirtual 46, 3) := by decide +kernel
theorem dX5_mostLeftBy_49 : decode cX5_mostLeftBy 49 = .ok (.ifCond .eq 37, 3) := by decide +kernel
theorem dX5_mostLeftBy_52 : decode cX5_mostLeftBy 52 = .ok (.iload 4, 2) := by decide +kernel
theorem dX5_mostLeftBy_54 : decode cX5_mostLeftBy 54 = .ok (.iload_n 1, 1) := by decide +kernel
theorem dX5_mostLeftBy_55 : decode cX5_mostLeftBy 55 = .ok (.invokestatic 34, 3) := by decide +kernel
theorem dX5_mostLeftBy_58 : decode cX5_mostLeftBy 58 = .ok (.bipush 9, 2) := by decide +kernel
theorem dX5_mostLeftBy_60 : decode cX5_mostLeftBy 60 = .ok (.iadd, 1) := by decide +kernel
theorem dX5_mostLeftBy_61 : decode cX5_mostLeftBy 61 = .ok (.istore 5, 2) := by decide +kernel
theorem dX5_mostLeftBy_63 : decode cX5_mostLeftBy 63 = .ok (.aload_n 0, 1) := by decide +kernel
theorem dX5_mostLeftBy_64 : decode cX5_mostLeftBy 64 = .ok (.getfield 18, 3) := by decide +kernel
theorem dX5_mostLeftBy_67 : decode cX5_mostLeftBy 67 = .ok (.iload 5, 2) := by decide +kernel
theorem dX5_mostLeftBy_69 : decode cX5_mostLeftBy 69 = .ok (.dup2, 1) := by decide +kernel
theorem dX5_mostLeftBy_70 : decode cX5_mostLeftBy 70 = .ok (.iaload, 1) := by decide +kernel
theorem dX5_mostLeftBy_71 : decode cX5_mostLeftBy 71 = .ok (.iconst 1, 1) := by decide +kernel
theorem dX5_mostLeftBy_72 : decode cX5_mostLeftBy 72 = .ok (.iadd, 1) := by decide +kernel
theorem dX5_mostLeftBy_73 : decode cX5_mostLeftBy 73 = .ok (.iastore, 1) := by decide +kernel
theorem dX5_mostLeftBy_74 : decode cX5_mostLeftBy 74 = .ok (.iload_n 2, 1) := by decide +kernel
theorem dX5_mostLeftBy_75 : decode cX5_mostLeftBy 75 = .ok (.aload_n 0, 1) := by decide +kernel
theorem dX5_mostLeftBy_76 : decode cX5_mostLeftBy 76 = .ok (.getfield 18, 3) := by decide +kernel
theorem dX5_mostLeftBy_79 : decode cX5_mostLeftBy 79 = .ok (.iload 5, 2) := by decide +kernel
theorem dX5_mostLeftBy_81 : decode cX5_mostLeftBy 81 = .ok (.iaload, 1) := by decide +kernel
theorem dX5_mostLeftBy_82 : decode cX5_mostLeftBy 82 = .ok (.invokestatic 53, 3) := by decide +kernel
theorem dX5_mostLeftBy_85 : decode cX5_mostLeftBy 85 = .ok (.istore_n 2, 1) := by decide +kernel
theorem dX5_mostLeftBy_86 : decode cX5_mostLeftBy 86 = .ok (.iinc 3 1, 3) := by decide +kernel
theorem dX5_mostLeftBy_89 : decode cX5_mostLeftBy 89 = .ok (.goto (-61), 3) := by decide +kernel
theorem dX5_mostLeftBy_92 : decode cX5_mostLeftBy 92 = .ok (.iload_n 2, 1) := by decide +kernel
theorem dX5_mostLeftBy_93 : decode cX5_mostLeftBy 93 = .ok (.ireturn, 1) := by decide +kernel
theorem dX6_init_0 : decode cX6_init 0 = .ok (.aload_n 0, 1) := by decide +kernel
theorem dX6_init_1 : decode cX6_init 1 = .ok (.invokespecial 3, 3) := by decide +kernel
theorem dX6_init_4 : decode cX6_init 4 = .ok (.aload_n 0, 1) := by decide +kernel
theorem dX6_init_5 : decode cX6_init 5 = .ok (.new 9, 3) := by decide +kernel
theorem dX6_init_8 : decode cX6_init 8 = .ok (.dup, 1) := by decide +kernel
theorem dX6_init_9 : decode cX6_init 9 = .ok (.invokespecial 11, 3) := by decide +kernel
theorem dX6_init_12 : decode cX6_init 12 = .ok (.putfield 12, 3) := by decide +kernel
theorem dX6_init_15 : decode cX6_init 15 = .ok (.aload_n 0, 1) := by decide +kernel
theorem dX6_init_16 : decode cX6_init 16 = .ok (.iconst 4, 1) := by decide +kernel
theorem dX6_init_17 : decode cX6_init 17 = .ok (.newarray .int, 2) := by decide +kernel
theorem dX6_init_19 : decode cX6_init 19 = .ok (.putfield 18, 3) := by decide +kernel
theorem dX6_init_22 : decode cX6_init 22 = .ok (.aload_n 0, 1) := by decide +kernel
theorem dX6_init_23 : decode cX6_init 23 = .ok (.aload_n 1, 1) := by decide +kernel
theorem dX6_init_24 : decode cX6_init 24 = .ok (.putfield 22, 3) := by decide +kernel
theorem dX6_init_27 : decode cX6_init 27 = .ok (.aload_n 0, 1) := by decide +kernel
theorem dX6_init_28 : decode cX6_init 28 = .ok (.aload_n 2, 1) := by decide +kernel
theorem dX6_init_29 : decode cX6_init 29 = .ok (.putfield 26, 3) := by decide +kernel
theorem dX6_init_32 : decode cX6_init 32 = .ok (.aload_n 0, 1) := by decide +kernel
theorem dX6_init_33 : decode cX6_init 33 = .ok (.aload_n 3, 1) := by decide +kernel
theorem dX6_init_34 : decode cX6_init 34 = .ok (.putfield 30, 3) := by decide +kernel
theorem dX6_init_37 : decode cX6_init 37 = .ok (.return_, 1) := by decide +kernel
theorem dX6_after_0 : decode cX6_after 0 = .ok (.aload_n 0, 1) := by decide +kernel
theorem dX6_after_1 : decode cX6_after 1 = .ok (.getfield 12, 3) := by decide +kernel
theorem dX6_after_4 : decode cX6_after 4 = .ok (.aload_n 0, 1) := by decide +kernel
theorem dX6_after_5 : decode cX6_after 5 = .ok (.getfield 30, 3) := by decide +kernel
theorem dX6_after_8 : decode cX6_after 8 = .ok (.invokevirtual 33, 3) := by decide +kernel
theorem dX6_after_11 : decode cX6_after 11 = .ok (.aload_n 0, 1) := by decide +kernel
theorem dX6_after_12 : decode cX6_after 12 = .ok (.getfield 12, 3) := by decide +kernel
theorem dX6_after_15 : decode cX6_after 15 = .ok (.iload_n 2, 1) := by decide +kernel
theorem dX6_after_16 : decode cX6_after 16 = .ok (.putfield 37, 3) := by decide +kernel
theorem dX6_after_19 : decode cX6_after 19 = .ok (.iconst 0, 1) := by decide +kernel
theorem dX6_after_20 : decode cX6_after 20 = .ok (.istore_n 3, 1) := by decide +kernel
theorem dX6_after_21 : decode cX6_after 21 = .ok (.iload_n 3, 1) := by decide +kernel
theorem dX6_after_22 : decode cX6_after 22 = .ok (.iload_n 1, 1) := by decide +kernel
theorem dX6_after_23 : decode cX6_after 23 = .ok (.if_icmp .ge 29, 3) := by decide +kernel
theorem dX6_after_26 : decode cX6_after 26 = .ok (.aload_n 0, 1) := by decide +kernel
theorem dX6_after_27 : decode cX6_after 27 = .ok (.getfield 26, 3) := by decide +kernel
theorem dX6_after_30 : decode cX6_after 30 = .ok (.aload_n 0, 1) := by decide +kernel
theorem dX6_after_31 : decode cX6_after 31 = .ok (.getfield 12, 3) := by decide +kernel
theorem dX6_after_34 : decode cX6_after 34 = .ok (.aload_n 0, 1) := by decide +kernel
theorem dX6_after_35 : decode cX6_after 35 = .ok (.getfield 22, 3) := by decide +kernel
theorem dX6_after_38 : decode cX6_after 38 = .ok (.getfield 41, 3) := by decide +kernel
theorem dX6_after_41 : decode cX6_after 41 = .ok (.iconst 0, 1) := by decide +kernel
theorem dX6_after_42 : decode cX6_after 42 = .ok (.iaload, 1) := by decide +kernel
theorem dX6_after_43 : decode cX6_after 43 = .ok (.invokevirtual 46, 3) := by decide +kernel
theorem dX6_after_46 : decode cX6_after 46 = .ok (.iinc 3 1, 3) := by decide +kernel
theorem dX6_after_49 : decode cX6_after 49 = .ok (.goto (-28), 3) := by decide +kernel
theorem dX6_after_52 : decode cX6_after 52 = .ok (.aload_n 0, 1) := by decide +kernel
theorem dX6_after_53 : decode cX6_after 53 = .ok (.getfield 12, 3) := by decide +kernel
theorem dX6_after_56 : decode cX6_after 56 = .ok (.areturn, 1) := by decide +kernel
theorem dX6_canBe_0 : decode cX6_canBe 0 = .ok (.iload_n 1, 1) := by decide +kernel
theorem dX6_canBe_1 : decode cX6_canBe 1 = .ok (.tableswitch 113 0 2 #[27, 53, 79], 27) := by decide +kernel
theorem dX6_canBe_28 : decode cX6_canBe 28 = .ok (.aload_n 0, 1) := by decide +kernel
theorem dX6_canBe_29 : decode cX6_canBe 29 = .ok (.getfield 22, 3) := by decide +kernel
theorem dX6_canBe_32 : decode cX6_canBe 32 = .ok (.iload_n 2, 1) := by decide +kernel
theorem dX6_canBe_33 : decode cX6_canBe 33 = .ok (.invokevirtual 52, 3) := by decide +kernel
theorem dX6_canBe_36 : decode cX6_canBe 36 = .ok (.ifCond .eq 16, 3) := by decide +kernel
theorem dX6_canBe_39 : decode cX6_canBe 39 = .ok (.aload 4, 2) := by decide +kernel
theorem dX6_canBe_41 : decode cX6_canBe 41 = .ok (.iload_n 2, 1) := by decide +kernel
theorem dX6_canBe_42 : decode cX6_canBe 42 = .ok (.invokevirtual 56, 3) := by decide +kernel
theorem dX6_canBe_45 : decode cX6_canBe 45 = .ok (.ifCond .ne 7, 3) := by decide +kernel
theorem dX6_canBe_48 : decode cX6_canBe 48 = .ok (.iconst 1, 1) := by decide +kernel
theorem dX6_canBe_49 : decode cX6_canBe 49 = .ok (.goto 4, 3) := by decide +kernel
theorem dX6_canBe_52 : decode cX6_canBe 52 = .ok (.iconst 0, 1) := by decide +kernel
theorem dX6_canBe_53 : decode cX6_canBe 53 = .ok (.ireturn, 1) := by decide +kernel
theorem dX6_canBe_54 : decode cX6_canBe 54 = .ok (.aload_n 0, 1) := by decide +kernel
theorem dX6_canBe_55 : decode cX6_canBe 55 = .ok (.getfield 22, 3) := by decide +kernel
theorem dX6_canBe_58 : decode cX6_canBe 58 = .ok (.iload_n 2, 1) := by decide +kernel
theorem dX6_canBe_59 : decode cX6_canBe 59 = .ok (.invokevirtual 52, 3) := by decide +kernel
theorem dX6_canBe_62 : decode cX6_canBe 62 = .ok (.ifCond .eq 16, 3) := by decide +kernel
theorem dX6_canBe_65 : decode cX6_canBe 65 = .ok (.aload 4, 2) := by decide +kernel
theorem dX6_canBe_67 : decode cX6_canBe 67 = .ok (.iload_n 2, 1) := by decide +kernel
theorem dX6_canBe_68 : decode cX6_canBe 68 = .ok (.invokevirtual 56, 3) := by decide +kernel
theorem dX6_canBe_71 : decode cX6_canBe 71 = .ok (.ifCond .eq 7, 3) := by decide +kernel
theorem dX6_canBe_74 : decode cX6_canBe 74 = .ok (.iconst 1, 1) := by decide +kernel
theorem dX6_canBe_75 : decode cX6_canBe 75 = .ok (.goto 4, 3) := by decide +kernel
theorem dX6_canBe_78 : decode cX6_canBe 78 = .ok (.iconst 0, 1) := by decide +kernel
theorem dX6_canBe_79 : decode cX6_canBe 79 = .ok (.ireturn, 1) := by decide +kernel
theorem dX6_canBe_80 : decode cX6_canBe 80 = .ok (.aload_n 0, 1) := by decide +kernel
theorem dX6_canBe_81 : decode cX6_canBe 81 = .ok (.getfield 22, 3) := by decide +kernel
theorem dX6_canBe_84 : decode cX6_canBe 84 = .ok (.invokevirtual 59, 3) := by decide +kernel
theorem dX6_canBe_87 : decode cX6_canBe 87 = .ok (.ifCond .eq 25, 3) := by decide +kernel
theorem dX6_canBe_90 : decode cX6_canBe 90 = .ok (.iload_n 2, 1) := by decide +kernel
theorem dX6_canBe_91 : decode cX6_canBe 91 = .ok (.iconst 1, 1) := by decide +kernel
theorem dX6_canBe_92 : decode cX6_canBe 92 = .ok (.if_icmp .lt 20, 3) := by decide +kernel
theorem dX6_canBe_95 : decode cX6_canBe 95 = .ok (.iload_n 2, 1) := by decide +kernel
theorem dX6_canBe_96 : decode cX6_canBe 96 = .ok (.sipush 9999, 3) := by decide +kernel
theorem dX6_canBe_99 : decode cX6_canBe 99 = .ok (.aload 4, 2) := by decide +kernel
theorem dX6_canBe_101 : decode cX6_canBe 101 = .ok (.getfield 63, 3) := by decide +kernel
theorem dX6_canBe_104 : decode cX6_canBe 104 = .ok (.isub, 1) := by decide +kernel
theorem dX6_canBe_105 : decode cX6_canBe 105 = .ok (.if_icmp .gt 7, 3) := by decide +kernel
theorem dX6_canBe_108 : decode cX6_canBe 108 = .ok (.iconst 1, 1) := by decide +kernel
theorem dX6_canBe_109 : decode cX6_canBe 109 = .ok (.goto 4, 3) := by decide +kernel
theorem dX6_canBe_112 : decode cX6_canBe 112 = .ok (.iconst 0, 1) := by decide +kernel
theorem dX6_canBe_113 : decode cX6_canBe 113 = .ok (.ireturn, 1) := by decide +kernel
theorem dX6_canBe_114 : decode cX6_canBe 114 = .ok (.aload_n 0, 1) := by decide +kernel
theorem dX6_canBe_115 : decode cX6_canBe 115 = .ok (.getfield 22, 3) := by decide +kernel
theorem dX6_canBe_118 : decode cX6_canBe 118 = .ok (.iload_n 2, 1) := by decide +kernel
theorem dX6_canBe_119 : decode cX6_canBe 119 = .ok (.invokevirtual 66, 3) := by decide +kernel
theorem dX6_canBe_122 : decode cX6_canBe 122 = .ok (.ifCond .eq 35, 3) := by decide +kernel
theorem dX6_canBe_125 : decode cX6_canBe 125 = .ok (.iload_n 3, 1) := by decide +kernel
theorem dX6_canBe_126 : decode cX6_canBe 126 = .ok (.iconst 1, 1) := by decide +kernel
theorem dX6_canBe_127 : decode cX6_canBe 127 = .ok (.if_icmp .lt 30, 3) := by decide +kernel
theorem dX6_canBe_130 : decode cX6_canBe 130 = .ok (.iload_n 3, 1) := by decide +kernel
theorem dX6_canBe_131 : decode cX6_canBe 131 = .ok (.aload_n 0, 1) := by decide +kernel
theorem dX6_canBe_132 : decode cX6_canBe 132 = .ok (.getfield 22, 3) := by decide +kernel
theorem dX6_canBe_135 : decode cX6_canBe 135 = .ok (.getfield 69, 3) := by decide +kernel
theorem dX6_canBe_138 : decode cX6_canBe 138 = .ok (.iload_n 2, 1) := by decide +kernel
theorem dX6_canBe_139 : decode cX6_canBe 139 = .ok (.aaload, 1) := by decide +kernel
theorem dX6_canBe_140 : decode cX6_canBe 140 = .ok (.iconst 1, 1) := by decide +kernel
theorem dX6_canBe_141 : decode cX6_canBe 141 = .ok (.iaload, 1) := by decide +kernel
theorem dX6_canBe_142 : decode cX6_canBe 142 = .ok (.aload 4, 2) := by decide +kernel
theorem dX6_canBe_144 : decode cX6_canBe 144 = .ok (.getfield 73, 3) := by decide +kernel
theorem dX6_canBe_147 : decode cX6_canBe 147 = .ok (.iload_n 2, 1) := by decide +kernel
theorem dX6_canBe_148 : decode cX6_canBe 148 = .ok (.iaload, 1) := by decide +kernel
theorem dX6_canBe_149 : decode cX6_canBe 149 = .ok (.isub, 1) := by decide +kernel
theorem dX6_canBe_150 : decode cX6_canBe 150 = .ok (.if_icmp .gt 7, 3) := by decide +kernel
theorem dX6_canBe_153 : decode cX6_canBe 153 = .ok (.iconst 1, 1) := by decide +kernel
theorem dX6_canBe_154 : decode cX6_canBe 154 = .ok (.goto 4, 3) := by decide +kernel
theorem dX6_canBe_157 : decode cX6_canBe 157 = .ok (.iconst 0, 1) := by decide +kernel
theorem dX6_canBe_158 : decode cX6_canBe 158 = .ok (.ireturn, 1) := by decide +kernel
theorem dX6_stepsThatCanBe_0 : decode cX6_stepsThatCanBe 0 = .ok (.aload_n 0, 1) := by decide +kernel
theorem dX6_stepsThatCanBe_1 : decode cX6_stepsThatCanBe 1 = .ok (.getfield 12, 3) := by decide +kernel
theorem dX6_stepsThatCanBe_4 : decode cX6_stepsThatCanBe 4 = .ok (.aload_n 0, 1) := by decide +kernel
theorem dX6_stepsThatCanBe_5 : decode cX6_stepsThatCanBe 5 = .ok (.getfield 30, 3) := by decide +kernel
theorem dX6_stepsThatCanBe_8 : decode cX6_stepsThatCanBe 8 = .ok (.invokevirtual 33, 3) := by decide +kernel
theorem dX6_stepsThatCanBe_11 : decode cX6_stepsThatCanBe 11 = .ok (.iconst 0, 1) := by decide +kernel
theorem dX6_stepsThatCanBe_12 : decode cX6_stepsThatCanBe 12 = .ok (.istore_n 2, 1) := by decide +kernel
theorem dX6_stepsThatCanBe_13 : decode cX6_stepsThatCanBe 13 = .ok (.iload_n 2, 1) := by decide +kernel
theorem dX6_stepsThatCanBe_14 : decode cX6_stepsThatCanBe 14 = .ok (.aload_n 1, 1) := by decide +kernel
theorem dX6_stepsThatCanBe_15 : decode cX6_stepsThatCanBe 15 = .ok (.getfield 76, 3) := by decide +kernel
theorem dX6_stepsThatCanBe_18 : decode cX6_stepsThatCanBe 18 = .ok (.if_icmp .ge 107, 3) := by decide +kernel
theorem dX6_stepsThatCanBe_21 : decode cX6_stepsThatCanBe 21 = .ok (.aload_n 1, 1) := by decide +kernel
theorem dX6_stepsThatCanBe_22 : decode cX6_stepsThatCanBe 22 = .ok (.getfield 81, 3) := by decide +kernel
theorem dX6_stepsThatCanBe_25 : decode cX6_stepsThatCanBe 25 = .ok (.iload_n 2, 1) := by decide +kernel
theorem dX6_stepsThatCanBe_26 : decode cX6_stepsThatCanBe 26 = .ok (.iaload, 1) := by decide +kernel
theorem dX6_stepsThatCanBe_27 : decode cX6_stepsThatCanBe 27 = .ok (.istore_n 3, 1) := by decide +kernel
theorem dX6_stepsThatCanBe_28 : decode cX6_stepsThatCanBe 28 = .ok (.aload_n 0, 1) := by decide +kernel
theorem dX6_stepsThatCanBe_29 : decode cX6_stepsThatCanBe 29 = .ok (.iload_n 3, 1) := by decide +kernel
theorem dX6_stepsThatCanBe_30 : decode cX6_stepsThatCanBe 30 = .ok (.aload_n 1, 1) := by decide +kernel
theorem dX6_stepsThatCanBe_31 : decode cX6_stepsThatCanBe 31 = .ok (.getfield 84, 3) := by decide +kernel
theorem dX6_stepsThatCanBe_34 : decode cX6_stepsThatCanBe 34 = .ok (.iload_n 2, 1) := by decide +kernel
theorem dX6_stepsThatCanBe_35 : decode cX6_stepsThatCanBe 35 = .ok (.iaload, 1) := by decide +kernel
theorem dX6_stepsThatCanBe_36 : decode cX6_stepsThatCanBe 36 = .ok (.aload_n 1, 1) := by decide +kernel
theorem dX6_stepsThatCanBe_37 : decode cX6_stepsThatCanBe 37 = .ok (.getfield 87, 3) := by decide +kernel
theorem dX6_stepsThatCanBe_40 : decode cX6_stepsThatCanBe 40 = .ok (.iload_n 2, 1) := by decide +kernel
theorem dX6_stepsThatCanBe_41 : decode cX6_stepsThatCanBe 41 = .ok (.iaload, 1) := by decide +kernel
theorem dX6_stepsThatCanBe_42 : decode cX6_stepsThatCanBe 42 = .ok (.aload_n 0, 1) := by decide +kernel
theorem dX6_stepsThatCanBe_43 : decode cX6_stepsThatCanBe 43 = .ok (.getfield 12, 3) := by decide +kernel
theorem dX6_stepsThatCanBe_46 : decode cX6_stepsThatCanBe 46 = .ok (.invokevirtual 90, 3) := by decide +kernel
theorem dX6_stepsThatCanBe_49 : decode cX6_stepsThatCanBe 49 = .ok (.ifCond .ne 5, 3) := by decide +kernel
theorem dX6_stepsThatCanBe_52 : decode cX6_stepsThatCanBe 52 = .ok (.iload_n 2, 1) := by decide +kernel
theorem dX6_stepsThatCanBe_53 : decode cX6_stepsThatCanBe 53 = .ok (.ireturn, 1) := by decide +kernel
theorem dX6_stepsThatCanBe_54 : decode cX6_stepsThatCanBe 54 = .ok (.aload_n 0, 1) := by decide +kernel
theorem dX6_stepsThatCanBe_55 : decode cX6_stepsThatCanBe 55 = .ok (.getfield 12, 3) := by decide +kernel
theorem dX6_stepsThatCanBe_58 : decode cX6_stepsThatCanBe 58 = .ok (.iload_n 3, 1) := by decide +kernel
theorem dX6_stepsThatCanBe_59 : decode cX6_stepsThatCanBe 59 = .ok (.aload_n 1, 1) := by decide +kernel
theorem dX6_stepsThatCanBe_60 : decode cX6_stepsThatCanBe 60 = .ok (.getfield 84, 3) := by decide +kernel
theorem dX6_stepsThatCanBe_63 : decode cX6_stepsThatCanBe 63 = .ok (.iload_n 2, 1) := by decide +kernel
theorem dX6_stepsThatCanBe_64 : decode cX6_stepsThatCanBe 64 = .ok (.iaload, 1) := by decide +kernel
theorem dX6_stepsThatCanBe_65 : decode cX6_stepsThatCanBe 65 = .ok (.aload_n 1, 1) := by decide +kernel
theorem dX6_stepsThatCanBe_66 : decode cX6_stepsThatCanBe 66 = .ok (.getfield 87, 3) := by decide +kernel
theorem dX6_stepsThatCanBe_69 : decode cX6_stepsThatCanBe 69 = .ok (.iload_n 2, 1) := by decide +kernel
theorem dX6_stepsThatCanBe_70 : decode cX6_stepsThatCanBe 70 = .ok (.iaload, 1) := by decide +kernel
theorem dX6_stepsThatCanBe_71 : decode cX6_stepsThatCanBe 71 = .ok (.invokevirtual 94, 3) := by decide +kernel
theorem dX6_stepsThatCanBe_74 : decode cX6_stepsThatCanBe 74 = .ok (.iconst 0, 1) := by decide +kernel
theorem dX6_stepsThatCanBe_75 : decode cX6_stepsThatCanBe 75 = .ok (.istore 4, 2) := by decide +kernel
theorem dX6_stepsThatCanBe_77 : decode cX6_stepsThatCanBe 77 = .ok (.iload_n 3, 1) := by decide +kernel
theorem dX6_stepsThatCanBe_78 : decode cX6_stepsThatCanBe 78 = .ok (.iconst 2, 1) := by decide +kernel
theorem dX6_stepsThatCanBe_79 : decode cX6_stepsThatCanBe 79 = .ok (.if_icmp .ne 40, 3) := by decide +kernel
theorem dX6_stepsThatCanBe_82 : decode cX6_stepsThatCanBe 82 = .ok (.iload 4, 2) := by decide +kernel
theorem dX6_stepsThatCanBe_84 : decode cX6_stepsThatCanBe 84 = .ok (.aload_n 1, 1) := by decide +kernel
theorem dX6_stepsThatCanBe_85 : decode cX6_stepsThatCanBe 85 = .ok (.getfield 84, 3) := by decide +kernel
theorem dX6_stepsThatCanBe_88 : decode cX6_stepsThatCanBe 88 = .ok (.iload_n 2, 1) := by decide +kernel
theorem dX6_stepsThatCanBe_89 : decode cX6_stepsThatCanBe 89 = .ok (.iaload, 1) := by decide +kernel
theorem dX6_stepsThatCanBe_90 : decode cX6_stepsThatCanBe 90 = .ok (.if_icmp .ge 29, 3) := by decide +kernel
theorem dX6_stepsThatCanBe_93 : decode cX6_stepsThatCanBe 93 = .ok (.aload_n 0, 1) := by decide +kernel
theorem dX6_stepsThatCanBe_94 : decode cX6_stepsThatCanBe 94 = .ok (.getfield 26, 3) := by decide +kernel
theorem dX6_stepsThatCanBe_97 : decode cX6_stepsThatCanBe 97 = .ok (.aload_n 0, 1) := by decide +kernel
theorem dX6_stepsThatCanBe_98 : decode cX6_stepsThatCanBe 98 = .ok (.getfield 12, 3) := by decide +kernel
theorem dX6_stepsThatCanBe_101 : decode cX6_stepsThatCanBe 101 = .ok (.aload_n 0, 1) := by decide +kernel
theorem dX6_stepsThatCanBe_102 : decode cX6_stepsThatCanBe 102 = .ok (.getfield 22, 3) := by decide +kernel
theorem dX6_stepsThatCanBe_105 : decode cX6_stepsThatCanBe 105 = .ok (.getfield 41, 3) := by decide +kernel
theorem dX6_stepsThatCanBe_108 : decode cX6_stepsThatCanBe 108 = .ok (.iconst 0, 1) := by decide +kernel
theorem dX6_stepsThatCanBe_109 : decode cX6_stepsThatCanBe 109 = .ok (.iaload, 1) := by decide +kernel
theorem dX6_stepsThatCanBe_110 : decode cX6_stepsThatCanBe 110 = .ok (.invokevirtual 46, 3) := by decide +kernel
theorem dX6_stepsThatCanBe_113 : decode cX6_stepsThatCanBe 113 = .ok (.iinc 4 1, 3) := by decide +kernel
theorem dX6_stepsThatCanBe_116 : decode cX6_stepsThatCanBe 116 = .ok (.goto (-39), 3) := by decide +kernel
theorem dX6_stepsThatCanBe_119 : decode cX6_stepsThatCanBe 119 = .ok (.iinc 2 1, 3) := by decide +kernel
theorem dX6_stepsThatCanBe_122 : decode cX6_stepsThatCanBe 122 = .ok (.goto (-109), 3) := by decide +kernel
theorem dX6_stepsThatCanBe_125 : decode cX6_stepsThatCanBe 125 = .ok (.aload_n 1, 1) := by decide +kernel
theorem dX6_stepsThatCanBe_126 : decode cX6_stepsThatCanBe 126 = .ok (.getfield 76, 3) := by decide +kernel
theorem dX6_stepsThatCanBe_129 : decode cX6_stepsThatCanBe 129 = .ok (.ireturn, 1) := by decide +kernel
theorem dX6_daysUntilDry_0 : decode cX6_daysUntilDry 0 = .ok (.aload_n 0, 1) := by decide +kernel
theorem dX6_daysUntilDry_1 : decode cX6_daysUntilDry 1 = .ok (.getfield 12, 3) := by decide +kernel
theorem dX6_daysUntilDry_4 : decode cX6_daysUntilDry 4 = .ok (.aload_n 0, 1) := by decide +kernel
theorem dX6_daysUntilDry_5 : decode cX6_daysUntilDry 5 = .ok (.getfield 30, 3) := by decide +kernel
theorem dX6_daysUntilDry_8 : decode cX6_daysUntilDry 8 = .ok (.invokevirtual 33, 3) := by decide +kernel
theorem dX6_daysUntilDry_11 : decode cX6_daysUntilDry 11 = .ok (.iconst 0, 1) := by decide +kernel
theorem dX6_daysUntilDry_12 : decode cX6_daysUntilDry 12 = .ok (.istore_n 2, 1) := by decide +kernel
theorem dX6_daysUntilDry_13 : decode cX6_daysUntilDry 13 = .ok (.iload_n 2, 1) := by decide +kernel
theorem dX6_daysUntilDry_14 : decode cX6_daysUntilDry 14 = .ok (.bipush 99, 2) := by decide +kernel
theorem dX6_daysUntilDry_16 : decode cX6_daysUntilDry 16 = .ok (.if_icmp .gt 43, 3) := by decide +kernel
theorem dX6_daysUntilDry_19 : decode cX6_daysUntilDry 19 = .ok (.aload_n 0, 1) := by decide +kernel
theorem dX6_daysUntilDry_20 : decode cX6_daysUntilDry 20 = .ok (.getfield 12, 3) := by decide +kernel
theorem dX6_daysUntilDry_23 : decode cX6_daysUntilDry 23 = .ok (.getfield 73, 3) := by decide +kernel
theorem dX6_daysUntilDry_26 : decode cX6_daysUntilDry 26 = .ok (.iload_n 1, 1) := by decide +kernel
theorem dX6_daysUntilDry_27 : decode cX6_daysUntilDry 27 = .ok (.iaload, 1) := by decide +kernel
theorem dX6_daysUntilDry_28 : decode cX6_daysUntilDry 28 = .ok (.ifCond .ne 5, 3) := by decide +kernel
theorem dX6_daysUntilDry_31 : decode cX6_daysUntilDry 31 = .ok (.iload_n 2, 1) := by decide +kernel
theorem dX6_daysUntilDry_32 : decode cX6_daysUntilDry 32 = .ok (.ireturn, 1) := by decide +kernel
theorem dX6_daysUntilDry_33 : decode cX6_daysUntilDry 33 = .ok (.aload_n 0, 1) := by decide +kernel
theorem dX6_daysUntilDry_34 : decode cX6_daysUntilDry 34 = .ok (.getfield 26, 3) := by decide +kernel
theorem dX6_daysUntilDry_37 : decode cX6_daysUntilDry 37 = .ok (.aload_n 0, 1) := by decide +kernel
theorem dX6_daysUntilDry_38 : decode cX6_daysUntilDry 38 = .ok (.getfield 12, 3) := by decide +kernel
theorem dX6_daysUntilDry_41 : decode cX6_daysUntilDry 41 = .ok (.aload_n 0, 1) := by decide +kernel
theorem dX6_daysUntilDry_42 : decode cX6_daysUntilDry 42 = .ok (.getfield 22, 3) := by decide +kernel
theorem dX6_daysUntilDry_45 : decode cX6_daysUntilDry 45 = .ok (.getfield 41, 3) := by decide +kernel
theorem dX6_daysUntilDry_48 : decode cX6_daysUntilDry 48 = .ok (.iconst 0, 1) := by decide +kernel
theorem dX6_daysUntilDry_49 : decode cX6_daysUntilDry 49 = .ok (.iaload, 1) := by decide +kernel
theorem dX6_daysUntilDry_50 : decode cX6_daysUntilDry 50 = .ok (.invokevirtual 46, 3) := by decide +kernel
theorem dX6_daysUntilDry_53 : decode cX6_daysUntilDry 53 = .ok (.iinc 2 1, 3) := by decide +kernel
theorem dX6_daysUntilDry_56 : decode cX6_daysUntilDry 56 = .ok (.goto (-43), 3) := by decide +kernel
theorem dX6_daysUntilDry_59 : decode cX6_daysUntilDry 59 = .ok (.iconst (-1), 1) := by decide +kernel
theorem dX6_daysUntilDry_60 : decode cX6_daysUntilDry 60 = .ok (.ireturn, 1) := by decide +kernel
theorem dX6_fewestKeys_0 : decode cX6_fewestKeys 0 = .ok (.iconst (-1), 1) := by decide +kernel
theorem dX6_fewestKeys_1 : decode cX6_fewestKeys 1 = .ok (.istore_n 2, 1) := by decide +kernel
theorem dX6_fewestKeys_2 : decode cX6_fewestKeys 2 = .ok (.aload_n 0, 1) := by decide +kernel
theorem dX6_fewestKeys_3 : decode cX6_fewestKeys 3 = .ok (.getfield 22, 3) := by decide +kernel
theorem dX6_fewestKeys_6 : decode cX6_fewestKeys 6 = .ok (.getfield 98, 3) := by decide +kernel
theorem dX6_fewestKeys_9 : decode cX6_fewestKeys 9 = .ok (.iconst 1, 1) := by decide +kernel
theorem dX6_fewestKeys_10 : decode cX6_fewestKeys 10 = .ok (.iadd, 1) := by decide +kernel
theorem dX6_fewestKeys_11 : decode cX6_fewestKeys 11 = .ok (.istore_n 3, 1) := by decide +kernel
theorem dX6_fewestKeys_12 : decode cX6_fewestKeys 12 = .ok (.iconst 0, 1) := by decide +kernel
theorem dX6_fewestKeys_13 : decode cX6_fewestKeys 13 = .ok (.istore 4, 2) := by decide +kernel
theorem dX6_fewestKeys_15 : decode cX6_fewestKeys 15 = .ok (.iload 4, 2) := by decide +kernel
theorem dX6_fewestKeys_17 : decode cX6_fewestKeys 17 = .ok (.iconst 1, 1) := by decide +kernel
theorem dX6_fewestKeys_18 : decode cX6_fewestKeys 18 = .ok (.aload_n 0, 1) := by decide +kernel
theorem dX6_fewestKeys_19 : decode cX6_fewestKeys 19 = .ok (.getfield 22, 3) := by decide +kernel
theorem dX6_fewestKeys_22 : decode cX6_fewestKeys 22 = .ok (.getfield 98, 3) := by decide +kernel
theorem dX6_fewestKeys_25 : decode cX6_fewestKeys 25 = .ok (.ishl, 1) := by decide +kernel
theorem dX6_fewestKeys_26 : decode cX6_fewestKeys 26 = .ok (.if_icmp .ge 37, 3) := by decide +kernel
theorem dX6_fewestKeys_29 : decode cX6_fewestKeys 29 = .ok (.iload 4, 2) := by decide +kernel
theorem dX6_fewestKeys_31 : decode cX6_fewestKeys 31 = .ok (.invokestatic 101, 3) := by decide +kernel
theorem dX6_fewestKeys_34 : decode cX6_fewestKeys 34 = .ok (.iload_n 3, 1) := by decide +kernel
theorem dX6_fewestKeys_35 : decode cX6_fewestKeys 35 = .ok (.if_icmp .ge 22, 3) := by decide +kernel
theorem dX6_fewestKeys_38 : decode cX6_fewestKeys 38 = .ok (.aload_n 0, 1) := by decide +kernel
theorem dX6_fewestKeys_39 : decode cX6_fewestKeys 39 = .ok (.iload_n 1, 1) := by decide +kernel
theorem dX6_fewestKeys_40 : decode cX6_fewestKeys 40 = .ok (.iload 4, 2) := by decide +kernel
theorem dX6_fewestKeys_42 : decode cX6_fewestKeys 42 = .ok (.invokevirtual 107, 3) := by decide +kernel
theorem dX6_fewestKeys_45 : decode cX6_fewestKeys 45 = .ok (.ifCond .eq 12, 3) := by decide +kernel
theorem dX6_fewestKeys_48 : decode cX6_fewestKeys 48 = .ok (.iload 4, 2) := by decide +kernel
theorem dX6_fewestKeys_50 : decode cX6_fewestKeys 50 = .ok (.istore_n 2, 1) := by decide +kernel
theorem dX6_fewestKeys_51 : decode cX6_fewestKeys 51 = .ok (.iload 4, 2) := by decide +kernel
theorem dX6_fewestKeys_53 : decode cX6_fewestKeys 53 = .ok (.invokestatic 101, 3) := by decide +kernel
theorem dX6_fewestKeys_56 : decode cX6_fewestKeys 56 = .ok (.istore_n 3, 1) := by decide +kernel
theorem dX6_fewestKeys_57 : decode cX6_fewestKeys 57 = .ok (.iinc 4 1, 3) := by decide +kernel
theorem dX6_fewestKeys_60 : decode cX6_fewestKeys 60 = .ok (.goto (-45), 3) := by decide +kernel
theorem dX6_fewestKeys_63 : decode cX6_fewestKeys 63 = .ok (.iload_n 2, 1) := by decide +kernel
theorem dX6_fewestKeys_64 : decode cX6_fewestKeys 64 = .ok (.ireturn, 1) := by decide +kernel
theorem dX6_staysDeep_0 : decode cX6_staysDeep 0 = .ok (.aload_n 0, 1) := by decide +kernel
theorem dX6_staysDeep_1 : decode cX6_staysDeep 1 = .ok (.getfield 12, 3) := by decide +kernel
theorem dX6_staysDeep_4 : decode cX6_staysDeep 4 = .ok (.aload_n 0, 1) := by decide +kernel
theorem dX6_staysDeep_5 : decode cX6_staysDeep 5 = .ok (.getfield 30, 3) := by decide +kernel
theorem dX6_staysDeep_8 : decode cX6_staysDeep 8 = .ok (.invokevirtual 33, 3) := by decide +kernel
theorem dX6_staysDeep_11 : decode cX6_staysDeep 11 = .ok (.aload_n 0, 1) := by decide +kernel
theorem dX6_staysDeep_12 : decode cX6_staysDeep 12 = .ok (.getfield 12, 3) := by decide +kernel
theorem dX6_staysDeep_15 : decode cX6_staysDeep 15 = .ok (.iload_n 2, 1) := by decide +kernel
theorem dX6_staysDeep_16 : decode cX6_staysDeep 16 = .ok (.putfield 37, 3) := by decide +kernel
theorem dX6_staysDeep_19 : decode cX6_staysDeep 19 = .ok (.iconst 0, 1) := by decide +kernel
theorem dX6_staysDeep_20 : decode cX6_staysDeep 20 = .ok (.istore_n 3, 1) := by decide +kernel
theorem dX6_staysDeep_21 : decode cX6_staysDeep 21 = .ok (.iload_n 3, 1) := by decide +kernel
theorem dX6_staysDeep_22 : decode cX6_staysDeep 22 = .ok (.iload_n 1, 1) := by decide +kernel
theorem dX6_staysDeep_23 : decode cX6_staysDeep 23 = .ok (.if_icmp .ge 45, 3) := by decide +kernel
theorem dX6_staysDeep_26 : decode cX6_staysDeep 26 = .ok (.aload_n 0, 1) := by decide +kernel
theorem dX6_staysDeep_27 : decode cX6_staysDeep 27 = .ok (.getfield 26, 3) := by decide +kernel
theorem dX6_staysDeep_30 : decode cX6_staysDeep 30 = .ok (.aload_n 0, 1) := by decide +kernel
theorem dX6_staysDeep_31 : decode cX6_staysDeep 31 = .ok (.getfield 12, 3) := by decide +kernel
theorem dX6_staysDeep_34 : decode cX6_staysDeep 34 = .ok (.aload_n 0, 1) := by decide +kernel
theorem dX6_staysDeep_35 : decode cX6_staysDeep 35 = .ok (.getfield 22, 3) := by decide +kernel
theorem dX6_staysDeep_38 : decode cX6_staysDeep 38 = .ok (.getfield 41, 3) := by decide +kernel
theorem dX6_staysDeep_41 : decode cX6_staysDeep 41 = .ok (.iconst 0, 1) := by decide +kernel
theorem dX6_staysDeep_42 : decode cX6_staysDeep 42 = .ok (.iaload, 1) := by decide +kernel
theorem dX6_staysDeep_43 : decode cX6_staysDeep 43 = .ok (.invokevirtual 46, 3) := by decide +kernel
theorem dX6_staysDeep_46 : decode cX6_staysDeep 46 = .ok (.aload_n 0, 1) := by decide +kernel
theorem dX6_staysDeep_47 : decode cX6_staysDeep 47 = .ok (.getfield 22, 3) := by decide +kernel
theorem dX6_staysDeep_50 : decode cX6_staysDeep 50 = .ok (.aload_n 0, 1) := by decide +kernel
theorem dX6_staysDeep_51 : decode cX6_staysDeep 51 = .ok (.getfield 12, 3) := by decide +kernel
theorem dX6_staysDeep_54 : decode cX6_staysDeep 54 = .ok (.invokevirtual 111, 3) := by decide +kernel
theorem dX6_staysDeep_57 : decode cX6_staysDeep 57 = .ok (.ifCond .eq 5, 3) := by decide +kernel
theorem dX6_staysDeep_60 : decode cX6_staysDeep 60 = .ok (.iconst 0, 1) := by decide +kernel
theorem dX6_staysDeep_61 : decode cX6_staysDeep 61 = .ok (.ireturn, 1) := by decide +kernel
theorem dX6_staysDeep_62 : decode cX6_staysDeep 62 = .ok (.iinc 3 1, 3) := by decide +kernel
theorem dX6_staysDeep_65 : decode cX6_staysDeep 65 = .ok (.goto (-44), 3) := by decide +kernel
theorem dX6_staysDeep_68 : decode cX6_staysDeep 68 = .ok (.iconst 1, 1) := by decide +kernel
theorem dX6_staysDeep_69 : decode cX6_staysDeep 69 = .ok (.ireturn, 1) := by decide +kernel
theorem dX6_keysThatKeepMost_0 : decode cX6_keysThatKeepMost 0 = .ok (.iconst 0, 1) := by decide +kernel
theorem dX6_keysThatKeepMost_1 : decode cX6_keysThatKeepMost 1 = .ok (.istore_n 2, 1) := by decide +kernel
theorem dX6_keysThatKeepMost_2 : decode cX6_keysThatKeepMost 2 = .ok (.bipush 8, 2) := by decide +kernel
theorem dX6_keysThatKeepMost_4 : decode cX6_keysThatKeepMost 4 = .ok (.istore_n 3, 1) := by decide +kernel
theorem dX6_keysThatKeepMost_5 : decode cX6_keysThatKeepMost 5 = .ok (.iconst 0, 1) := by decide +kernel
theorem dX6_keysThatKeepMost_6 : decode cX6_keysThatKeepMost 6 = .ok (.istore 4, 2) := by decide +kernel
theorem dX6_keysThatKeepMost_8 : decode cX6_keysThatKeepMost 8 = .ok (.iload 4, 2) := by decide +kernel
theorem dX6_keysThatKeepMost_10 : decode cX6_keysThatKeepMost 10 = .ok (.iconst 1, 1) := by decide +kernel
theorem dX6_keysThatKeepMost_11 : decode cX6_keysThatKeepMost 11 = .ok (.aload_n 0, 1) := by decide +kernel
theorem dX6_keysThatKeepMost_12 : decode cX6_keysThatKeepMost 12 = .ok (.getfield 22, 3) := by decide +kernel
theorem dX6_keysThatKeepMost_15 : decode cX6_keysThatKeepMost 15 = .ok (.getfield 98, 3) := by decide +kernel
theorem dX6_keysThatKeepMost_18 : decode cX6_keysThatKeepMost 18 = .ok (.ishl, 1) := by decide +kernel
theorem dX6_keysThatKeepMost_19 : decode cX6_keysThatKeepMost 19 = .ok (.if_icmp .ge 82, 3) := by decide +kernel
theorem dX6_keysThatKeepMost_22 : decode cX6_keysThatKeepMost 22 = .ok (.iload 4, 2) := by decide +kernel
theorem dX6_keysThatKeepMost_24 : decode cX6_keysThatKeepMost 24 = .ok (.invokestatic 101, 3) := by decide +kernel
theorem dX6_keysThatKeepMost_27 : decode cX6_keysThatKeepMost 27 = .ok (.iload_n 2, 1) := by decide +kernel
theorem dX6_keysThatKeepMost_28 : decode cX6_keysThatKeepMost 28 = .ok (.invokestatic 101, 3) := by decide +kernel
theorem dX6_keysThatKeepMost_31 : decode cX6_keysThatKeepMost 31 = .ok (.if_icmp .ge 7, 3) := by decide +kernel
theorem dX6_keysThatKeepMost_34 : decode cX6_keysThatKeepMost 34 = .ok (.iconst 1, 1) := by decide +kernel
theorem dX6_keysThatKeepMost_35 : decode cX6_keysThatKeepMost 35 = .ok (.goto 4, 3) := by decide +kernel
theorem dX6_keysThatKeepMost_38 : decode cX6_keysThatKeepMost 38 = .ok (.iconst 0, 1) := by decide +kernel
theorem dX6_keysThatKeepMost_39 : decode cX6_keysThatKeepMost 39 = .ok (.istore 5, 2) := by decide +kernel
theorem dX6_keysThatKeepMost_41 : decode cX6_keysThatKeepMost 41 = .ok (.iload_n 3, 1) := by decide +kernel
theorem dX6_keysThatKeepMost_42 : decode cX6_keysThatKeepMost 42 = .ok (.ifCond .ne 11, 3) := by decide +kernel
theorem dX6_keysThatKeepMost_45 : decode cX6_keysThatKeepMost 45 = .ok (.iload 5, 2) := by decide +kernel
theorem dX6_keysThatKeepMost_47 : decode cX6_keysThatKeepMost 47 = .ok (.ifCond .ne 6, 3) := by decide +kernel
theorem dX6_keysThatKeepMost_50 : decode cX6_keysThatKeepMost 50 = .ok (.goto 45, 3) := by decide +kernel
theorem dX6_keysThatKeepMost_53 : decode cX6_keysThatKeepMost 53 = .ok (.aload_n 0, 1) := by decide +kernel
theorem dX6_keysThatKeepMost_54 : decode cX6_keysThatKeepMost 54 = .ok (.getfield 22, 3) := by decide +kernel
theorem dX6_keysThatKeepMost_57 : decode cX6_keysThatKeepMost 57 = .ok (.aload_n 0, 1) := by decide +kernel
theorem dX6_keysThatKeepMost_58 : decode cX6_keysThatKeepMost 58 = .ok (.iload_n 1, 1) := by decide +kernel
theorem dX6_keysThatKeepMost_59 : decode cX6_keysThatKeepMost 59 = .ok (.iload 4, 2) := by decide +kernel
theorem dX6_keysThatKeepMost_61 : decode cX6_keysThatKeepMost 61 = .ok (.invokevirtual 115, 3) := by decide +kernel
theorem dX6_keysThatKeepMost_64 : decode cX6_keysThatKeepMost 64 = .ok (.invokevirtual 111, 3) := by decide +kernel
theorem dX6_keysThatKeepMost_67 : decode cX6_keysThatKeepMost 67 = .ok (.invokestatic 101, 3) := by decide +kernel
theorem dX6_keysThatKeepMost_70 : decode cX6_keysThatKeepMost 70 = .ok (.istore 6, 2) := by decide +kernel
theorem dX6_keysThatKeepMost_72 : decode cX6_keysThatKeepMost 72 = .ok (.iload 6, 2) := by decide +kernel
theorem dX6_keysThatKeepMost_74 : decode cX6_keysThatKeepMost 74 = .ok (.iload_n 3, 1) := by decide +kernel
theorem dX6_keysThatKeepMost_75 : decode cX6_keysThatKeepMost 75 = .ok (.if_icmp .lt 14, 3) := by decide +kernel
theorem dX6_keysThatKeepMost_78 : decode cX6_keysThatKeepMost 78 = .ok (.iload 6, 2) := by decide +kernel
theorem dX6_keysThatKeepMost_80 : decode cX6_keysThatKeepMost 80 = .ok (.iload_n 3, 1) := by decide +kernel
theorem dX6_keysThatKeepMost_81 : decode cX6_keysThatKeepMost 81 = .ok (.if_icmp .ne 14, 3) := by decide +kernel
theorem dX6_keysThatKeepMost_84 : decode cX6_keysThatKeepMost 84 = .ok (.iload 5, 2) := by decide +kernel
theorem dX6_keysThatKeepMost_86 : decode cX6_keysThatKeepMost 86 = .ok (.ifCond .eq 9, 3) := by decide +kernel
theorem dX6_keysThatKeepMost_89 : decode cX6_keysThatKeepMost 89 = .ok (.iload 4, 2) := by decide +kernel
theorem dX6_keysThatKeepMost_91 : decode cX6_keysThatKeepMost 91 = .ok (.istore_n 2, 1) := by decide +kernel
theorem dX6_keysThatKeepMost_92 : decode cX6_keysThatKeepMost 92 = .ok (.iload 6, 2) := by decide +kernel
theorem dX6_keysThatKeepMost_94 : decode cX6_keysThatKeepMost 94 = .ok (.istore_n 3, 1) := by decide +kernel
theorem dX6_keysThatKeepMost_95 : decode cX6_keysThatKeepMost 95 = .ok (.iinc 4 1, 3) := by decide +kernel
theorem dX6_keysThatKeepMost_98 : decode cX6_keysThatKeepMost 98 = .ok (.goto (-90), 3) := by decide +kernel
theorem dX6_keysThatKeepMost_101 : decode cX6_keysThatKeepMost 101 = .ok (.iload_n 2, 1) := by decide +kernel
theorem dX6_keysThatKeepMost_102 : decode cX6_keysThatKeepMost 102 = .ok (.ireturn, 1) := by decide +kernel
theorem dX6_fewestThatLack_0 : decode cX6_fewestThatLack 0 = .ok (.iconst (-1), 1) := by decide +kernel
theorem dX6_fewestThatLack_1 : decode cX6_fewestThatLack 1 = .ok (.istore_n 2, 1) := by decide +kernel
theorem dX6_fewestThatLack_2 : decode cX6_fewestThatLack 2 = .ok (.aload_n 0, 1) := by decide +kernel
theorem dX6_fewestThatLack_3 : decode cX6_fewestThatLack 3 = .ok (.getfield 22, 3) := by decide +kernel
theorem dX6_fewestThatLack_6 : decode cX6_fewestThatLack 6 = .ok (.getfield 119, 3) := by decide +kernel
theorem dX6_fewestThatLack_9 : decode cX6_fewestThatLack 9 = .ok (.iconst 1, 1) := by decide +kernel
theorem dX6_fewestThatLack_10 : decode cX6_fewestThatLack 10 = .ok (.iadd, 1) := by decide +kernel
theorem dX6_fewestThatLack_11 : decode cX6_fewestThatLack 11 = .ok (.istore_n 3, 1) := by decide +kernel
theorem dX6_fewestThatLack_12 : decode cX6_fewestThatLack 12 = .ok (.iconst 1, 1) := by decide +kernel
theorem dX6_fewestThatLack_13 : decode cX6_fewestThatLack 13 = .ok (.istore 4, 2) := by decide +kernel
theorem dX6_fewestThatLack_15 : decode cX6_fewestThatLack 15 = .ok (.iload 4, 2) := by decide +kernel
theorem dX6_fewestThatLack_17 : decode cX6_fewestThatLack 17 = .ok (.iconst 1, 1) := by decide +kernel
theorem dX6_fewestThatLack_18 : decode cX6_fewestThatLack 18 = .ok (.aload_n 0, 1) := by decide +kernel
theorem dX6_fewestThatLack_19 : decode cX6_fewestThatLack 19 = .ok (.getfield 22, 3) := by decide +kernel
theorem dX6_fewestThatLack_22 : decode cX6_fewestThatLack 22 = .ok (.getfield 119, 3) := by decide +kernel
theorem dX6_fewestThatLack_25 : decode cX6_fewestThatLack 25 = .ok (.ishl, 1) := by decide +kernel
theorem dX6_fewestThatLack_26 : decode cX6_fewestThatLack 26 = .ok (.if_icmp .ge 37, 3) := by decide +kernel
theorem dX6_fewestThatLack_29 : decode cX6_fewestThatLack 29 = .ok (.iload 4, 2) := by decide +kernel
theorem dX6_fewestThatLack_31 : decode cX6_fewestThatLack 31 = .ok (.invokestatic 101, 3) := by decide +kernel
theorem dX6_fewestThatLack_34 : decode cX6_fewestThatLack 34 = .ok (.iload_n 3, 1) := by decide +kernel
theorem dX6_fewestThatLack_35 : decode cX6_fewestThatLack 35 = .ok (.if_icmp .ge 22, 3) := by decide +kernel
theorem dX6_fewestThatLack_38 : decode cX6_fewestThatLack 38 = .ok (.aload_n 0, 1) := by decide +kernel
theorem dX6_fewestThatLack_39 : decode cX6_fewestThatLack 39 = .ok (.iload 4, 2) := by decide +kernel
theorem dX6_fewestThatLack_41 : decode cX6_fewestThatLack 41 = .ok (.iload_n 1, 1) := by decide +kernel
theorem dX6_fewestThatLack_42 : decode cX6_fewestThatLack 42 = .ok (.invokevirtual 122, 3) := by decide +kernel
theorem dX6_fewestThatLack_45 : decode cX6_fewestThatLack 45 = .ok (.ifCond .eq 12, 3) := by decide +kernel
theorem dX6_fewestThatLack_48 : decode cX6_fewestThatLack 48 = .ok (.iload 4, 2) := by decide +kernel
theorem dX6_fewestThatLack_50 : decode cX6_fewestThatLack 50 = .ok (.istore_n 2, 1) := by decide +kernel
theorem dX6_fewestThatLack_51 : decode cX6_fewestThatLack 51 = .ok (.iload 4, 2) := by decide +kernel
theorem dX6_fewestThatLack_53 : decode cX6_fewestThatLack 53 = .ok (.invokestatic 101, 3) := by decide +kernel
theorem dX6_fewestThatLack_56 : decode cX6_fewestThatLack 56 = .ok (.istore_n 3, 1) := by decide +kernel
theorem dX6_fewestThatLack_57 : decode cX6_fewestThatLack 57 = .ok (.iinc 4 1, 3) := by decide +kernel
theorem dX6_fewestThatLack_60 : decode cX6_fewestThatLack 60 = .ok (.goto (-45), 3) := by decide +kernel
theorem dX6_fewestThatLack_63 : decode cX6_fewestThatLack 63 = .ok (.iload_n 2, 1) := by decide +kernel
theorem dX6_fewestThatLack_64 : decode cX6_fewestThatLack 64 = .ok (.ireturn, 1) := by decide +kernel
theorem dX6_lacks_0 : decode cX6_lacks 0 = .ok (.iconst 0, 1) := by decide +kernel
theorem dX6_lacks_1 : decode cX6_lacks 1 = .ok (.istore_n 3, 1) := by decide +kernel
theorem dX6_lacks_2 : decode cX6_lacks 2 = .ok (.iconst 0, 1) := by decide +kernel
theorem dX6_lacks_3 : decode cX6_lacks 3 = .ok (.istore 4, 2) := by decide +kernel
theorem dX6_lacks_5 : decode cX6_lacks 5 = .ok (.iconst 0, 1) := by decide +kernel
theorem dX6_lacks_6 : decode cX6_lacks 6 = .ok (.istore 5, 2) := by decide +kernel
theorem dX6_lacks_8 : decode cX6_lacks 8 = .ok (.iload 5, 2) := by decide +kernel
theorem dX6_lacks_10 : decode cX6_lacks 10 = .ok (.aload_n 0, 1) := by decide +kernel
theorem dX6_lacks_11 : decode cX6_lacks 11 = .ok (.getfield 22, 3) := by decide +kernel
theorem dX6_lacks_14 : decode cX6_lacks 14 = .ok (.getfield 119, 3) := by decide +kernel
theorem dX6_lacks_17 : decode cX6_lacks 17 = .ok (.if_icmp .ge 85, 3) := by decide +kernel
theorem dX6_lacks_20 : decode cX6_lacks 20 = .ok (.iload_n 1, 1) := by decide +kernel
theorem dX6_lacks_21 : decode cX6_lacks 21 = .ok (.iload 5, 2) := by decide +kernel
theorem dX6_lacks_23 : decode cX6_lacks 23 = .ok (.ishr, 1) := by decide +kernel
theorem dX6_lacks_24 : decode cX6_lacks 24 = .ok (.iconst 1, 1) := by decide +kernel
theorem dX6_lacks_25 : decode cX6_lacks 25 = .ok (.iand, 1) := by decide +kernel
theorem dX6_lacks_26 : decode cX6_lacks 26 = .ok (.ifCond .eq 70, 3) := by decide +kernel
theorem dX6_lacks_29 : decode cX6_lacks 29 = .ok (.iload_n 3, 1) := by decide +kernel
theorem dX6_lacks_30 : decode cX6_lacks 30 = .ok (.aload_n 0, 1) := by decide +kernel
theorem dX6_lacks_31 : decode cX6_lacks 31 = .ok (.getfield 30, 3) := by decide +kernel
theorem dX6_lacks_34 : decode cX6_lacks 34 = .ok (.getfield 73, 3) := by decide +kernel
theorem dX6_lacks_37 : decode cX6_lacks 37 = .ok (.iload 5, 2) := by decide +kernel
theorem dX6_lacks_39 : decode cX6_lacks 39 = .ok (.iaload, 1) := by decide +kernel
theorem dX6_lacks_40 : decode cX6_lacks 40 = .ok (.iload_n 2, 1) := by decide +kernel
theorem dX6_lacks_41 : decode cX6_lacks 41 = .ok (.aload_n 0, 1) := by decide +kernel
theorem dX6_lacks_42 : decode cX6_lacks 42 = .ok (.getfield 22, 3) := by decide +kernel
theorem dX6_lacks_45 : decode cX6_lacks 45 = .ok (.getfield 41, 3) := by decide +kernel
theorem dX6_lacks_48 : decode cX6_lacks 48 = .ok (.iconst 0, 1) := by decide +kernel
theorem dX6_lacks_49 : decode cX6_lacks 49 = .ok (.iaload, 1) := by decide +kernel
theorem dX6_lacks_50 : decode cX6_lacks 50 = .ok (.imul, 1) := by decide +kernel
theorem dX6_lacks_51 : decode cX6_lacks 51 = .ok (.iadd, 1) := by decide +kernel
theorem dX6_lacks_52 : decode cX6_lacks 52 = .ok (.iadd, 1) := by decide +kernel
theorem dX6_lacks_53 : decode cX6_lacks 53 = .ok (.istore_n 3, 1) := by decide +kernel
theorem dX6_lacks_54 : decode cX6_lacks 54 = .ok (.iload 4, 2) := by decide +kernel
theorem dX6_lacks_56 : decode cX6_lacks 56 = .ok (.iload_n 2, 1) := by decide +kernel
theorem dX6_lacks_57 : decode cX6_lacks 57 = .ok (.aload_n 0, 1) := by decide +kernel
theorem dX6_lacks_58 : decode cX6_lacks 58 = .ok (.getfield 22, 3) := by decide +kernel
theorem dX6_lacks_61 : decode cX6_lacks 61 = .ok (.getfield 41, 3) := by decide +kernel
theorem dX6_lacks_64 : decode cX6_lacks 64 = .ok (.iconst 1, 1) := by decide +kernel
theorem dX6_lacks_65 : decode cX6_lacks 65 = .ok (.iaload, 1) := by decide +kernel
theorem dX6_lacks_66 : decode cX6_lacks 66 = .ok (.aload_n 0, 1) := by decide +kernel
theorem dX6_lacks_67 : decode cX6_lacks 67 = .ok (.getfield 22, 3) := by decide +kernel
theorem dX6_lacks_70 : decode cX6_lacks 70 = .ok (.getfield 69, 3) := by decide +kernel
theorem dX6_lacks_73 : decode cX6_lacks 73 = .ok (.iload 5, 2) := by decide +kernel
theorem dX6_lacks_75 : decode cX6_lacks 75 = .ok (.aaload, 1) := by decide +kernel
theorem dX6_lacks_76 : decode cX6_lacks 76 = .ok (.iconst 4, 1) := by decide +kernel
theorem dX6_lacks_77 : decode cX6_lacks 77 = .ok (.iaload, 1) := by decide +kernel
theorem dX6_lacks_78 : decode cX6_lacks 78 = .ok (.iadd, 1) := by decide +kernel
theorem dX6_lacks_79 : decode cX6_lacks 79 = .ok (.imul, 1) := by decide +kernel
theorem dX6_lacks_80 : decode cX6_lacks 80 = .ok (.aload_n 0, 1) := by decide +kernel
theorem dX6_lacks_81 : decode cX6_lacks 81 = .ok (.getfield 22, 3) := by decide +kernel
theorem dX6_lacks_84 : decode cX6_lacks 84 = .ok (.getfield 69, 3) := by decide +kernel
theorem dX6_lacks_87 : decode cX6_lacks 87 = .ok (.iload 5, 2) := by decide +kernel
theorem dX6_lacks_89 : decode cX6_lacks 89 = .ok (.aaload, 1) := by decide +kernel
theorem dX6_lacks_90 : decode cX6_lacks 90 = .ok (.iconst 3, 1) := by decide +kernel
theorem dX6_lacks_91 : decode cX6_lacks 91 = .ok (.iaload, 1) := by decide +kernel
theorem dX6_lacks_92 : decode cX6_lacks 92 = .ok (.iadd, 1) := by decide +kernel
theorem dX6_lacks_93 : decode cX6_lacks 93 = .ok (.iadd, 1) := by decide +kernel
theorem dX6_lacks_94 : decode cX6_lacks 94 = .ok (.istore 4, 2) := by decide +kernel
theorem dX6_lacks_96 : decode cX6_lacks 96 = .ok (.iinc 5 1, 3) := by decide +kernel
theorem dX6_lacks_99 : decode cX6_lacks 99 = .ok (.goto (-91), 3) := by decide +kernel
theorem dX6_lacks_102 : decode cX6_lacks 102 = .ok (.iconst 0, 1) := by decide +kernel
theorem dX6_lacks_103 : decode cX6_lacks 103 = .ok (.istore 5, 2) := by decide +kernel
theorem dX6_lacks_105 : decode cX6_lacks 105 = .ok (.iload 5, 2) := by decide +kernel
theorem dX6_lacks_107 : decode cX6_lacks 107 = .ok (.aload_n 0, 1) := by decide +kernel
theorem dX6_lacks_108 : decode cX6_lacks 108 = .ok (.getfield 22, 3) := by decide +kernel
theorem dX6_lacks_111 : decode cX6_lacks 111 = .ok (.getfield 98, 3) := by decide +kernel
theorem dX6_lacks_114 : decode cX6_lacks 114 = .ok (.if_icmp .ge 69, 3) := by decide +kernel
theorem dX6_lacks_117 : decode cX6_lacks 117 = .ok (.iload_n 1, 1) := by decide +kernel
theorem dX6_lacks_118 : decode cX6_lacks 118 = .ok (.aload_n 0, 1) := by decide +kernel
theorem dX6_lacks_119 : decode cX6_lacks 119 = .ok (.getfield 22, 3) := by decide +kernel
theorem dX6_lacks_122 : decode cX6_lacks 122 = .ok (.getfield 125, 3) := by decide +kernel
theorem dX6_lacks_125 : decode cX6_lacks 125 = .ok (.iload 5, 2) := by decide +kernel
theorem dX6_lacks_127 : decode cX6_lacks 127 = .ok (.aaload, 1) := by decide +kernel
theorem dX6_lacks_128 : decode cX6_lacks 128 = .ok (.iconst 0, 1) := by decide +kernel
theorem dX6_lacks_129 : decode cX6_lacks 129 = .ok (.iaload, 1) := by decide +kernel
theorem dX6_lacks_130 : decode cX6_lacks 130 = .ok (.ishr, 1) := by decide +kernel
theorem dX6_lacks_131 : decode cX6_lacks 131 = .ok (.iconst 1, 1) := by decide +kernel
theorem dX6_lacks_132 : decode cX6_lacks 132 = .ok (.iand, 1) := by decide +kernel
theorem dX6_lacks_133 : decode cX6_lacks 133 = .ok (.istore 6, 2) := by decide +kernel
theorem dX6_lacks_135 : decode cX6_lacks 135 = .ok (.iload_n 1, 1) := by decide +kernel
theorem dX6_lacks_136 : decode cX6_lacks 136 = .ok (.aload_n 0, 1) := by decide +kernel
theorem dX6_lacks_137 : decode cX6_lacks 137 = .ok (.getfield 22, 3) := by decide +kernel
theorem dX6_lacks_140 : decode cX6_lacks 140 = .ok (.getfield 125, 3) := by decide +kernel
theorem dX6_lacks_143 : decode cX6_lacks 143 = .ok (.iload 5, 2) := by decide +kernel
theorem dX6_lacks_145 : decode cX6_lacks 145 = .ok (.aaload, 1) := by decide +kernel
theorem dX6_lacks_146 : decode cX6_lacks 146 = .ok (.iconst 1, 1) := by decide +kernel
theorem dX6_lacks_147 : decode cX6_lacks 147 = .ok (.iaload, 1) := by decide +kernel
theorem dX6_lacks_148 : decode cX6_lacks 148 = .ok (.ishr, 1) := by decide +kernel
theorem dX6_lacks_149 : decode cX6_lacks 149 = .ok (.iconst 1, 1) := by decide +kernel
theorem dX6_lacks_150 : decode cX6_lacks 150 = .ok (.iand, 1) := by decide +kernel
theorem dX6_lacks_151 : decode cX6_lacks 151 = .ok (.istore 7, 2) := by decide +kernel
theorem dX6_lacks_153 : decode cX6_lacks 153 = .ok (.iload 6, 2) := by decide +kernel
theorem dX6_lacks_155 : decode cX6_lacks 155 = .ok (.iload 7, 2) := by decide +kernel
theorem dX6_lacks_157 : decode cX6_lacks 157 = .ok (.if_icmp .eq 20, 3) := by decide +kernel
theorem dX6_lacks_160 : decode cX6_lacks 160 = .ok (.iload_n 3, 1) := by decide +kernel
theorem dX6_lacks_161 : decode cX6_lacks 161 = .ok (.iload_n 2, 1) := by decide +kernel
theorem dX6_lacks_162 : decode cX6_lacks 162 = .ok (.aload_n 0, 1) := by decide +kernel
theorem dX6_lacks_163 : decode cX6_lacks 163 = .ok (.getfield 22, 3) := by decide +kernel
theorem dX6_lacks_166 : decode cX6_lacks 166 = .ok (.getfield 125, 3) := by decide +kernel
theorem dX6_lacks_169 : decode cX6_lacks 169 = .ok (.iload 5, 2) := by decide +kernel
theorem dX6_lacks_171 : decode cX6_lacks 171 = .ok (.aaload, 1) := by decide +kernel
theorem dX6_lacks_172 : decode cX6_lacks 172 = .ok (.iconst 2, 1) := by decide +kernel
theorem dX6_lacks_173 : decode cX6_lacks 173 = .ok (.iaload, 1) := by decide +kernel
theorem dX6_lacks_174 : decode cX6_lacks 174 = .ok (.imul, 1) := by decide +kernel
theorem dX6_lacks_175 : decode cX6_lacks 175 = .ok (.iadd, 1) := by decide +kernel
theorem dX6_lacks_176 : decode cX6_lacks 176 = .ok (.istore_n 3, 1) := by decide +kernel
theorem dX6_lacks_177 : decode cX6_lacks 177 = .ok (.iinc 5 1, 3) := by decide +kernel
theorem dX6_lacks_180 : decode cX6_lacks 180 = .ok (.goto (-75), 3) := by decide +kernel
theorem dX6_lacks_183 : decode cX6_lacks 183 = .ok (.iload_n 3, 1) := by decide +kernel
theorem dX6_lacks_184 : decode cX6_lacks 184 = .ok (.iload 4, 2) := by decide +kernel
theorem dX6_lacks_186 : decode cX6_lacks 186 = .ok (.if_icmp .ge 7, 3) := by decide +kernel
theorem dX6_lacks_189 : decode cX6_lacks 189 = .ok (.iconst 1, 1) := by decide +kernel
theorem dX6_lacks_190 : decode cX6_lacks 190 = .ok (.goto 4, 3) := by decide +kernel
theorem dX6_lacks_193 : decode cX6_lacks 193 = .ok (.iconst 0, 1) := by decide +kernel
theorem dX6_lacks_194 : decode cX6_lacks 194 = .ok (.ireturn, 1) := by decide +kernel
theorem dX6_levelOfRest_0 : decode cX6_levelOfRest 0 = .ok (.aload_n 0, 1) := by decide +kernel
theorem dX6_levelOfRest_1 : decode cX6_levelOfRest 1 = .ok (.getfield 22, 3) := by decide +kernel
theorem dX6_levelOfRest_4 : decode cX6_levelOfRest 4 = .ok (.iload_n 1, 1) := by decide +kernel
theorem dX6_levelOfRest_5 : decode cX6_levelOfRest 5 = .ok (.aload_n 0, 1) := by decide +kernel
theorem dX6_levelOfRest_6 : decode cX6_levelOfRest 6 = .ok (.getfield 30, 3) := by decide +kernel
theorem dX6_levelOfRest_9 : decode cX6_levelOfRest 9 = .ok (.getfield 37, 3) := by decide +kernel
theorem dX6_levelOfRest_12 : decode cX6_levelOfRest 12 = .ok (.invokevirtual 128, 3) := by decide +kernel
theorem dX6_levelOfRest_15 : decode cX6_levelOfRest 15 = .ok (.istore_n 2, 1) := by decide +kernel
theorem dX6_levelOfRest_16 : decode cX6_levelOfRest 16 = .ok (.iconst 0, 1) := by decide +kernel
theorem dX6_levelOfRest_17 : decode cX6_levelOfRest 17 = .ok (.istore_n 3, 1) := by decide +kernel
theorem dX6_levelOfRest_18 : decode cX6_levelOfRest 18 = .ok (.iconst 0, 1) := by decide +kernel
theorem dX6_levelOfRest_19 : decode cX6_levelOfRest 19 = .ok (.istore 4, 2) := by decide +kernel
theorem dX6_levelOfRest_21 : decode cX6_levelOfRest 21 = .ok (.iload 4, 2) := by decide +kernel
theorem dX6_levelOfRest_23 : decode cX6_levelOfRest 23 = .ok (.aload_n 0, 1) := by decide +kernel
theorem dX6_levelOfRest_24 : decode cX6_levelOfRest 24 = .ok (.getfield 22, 3) := by decide +kernel
theorem dX6_levelOfRest_27 : decode cX6_levelOfRest 27 = .ok (.getfield 119, 3) := by decide +kernel
theorem dX6_levelOfRest_30 : decode cX6_levelOfRest 30 = .ok (.if_icmp .ge 29, 3) := by decide +kernel
theorem dX6_levelOfRest_33 : decode cX6_levelOfRest 33 = .ok (.iload_n 3, 1) := by decide +kernel
theorem dX6_levelOfRest_34 : decode cX6_levelOfRest 34 = .ok (.iload_n 2, 1) := by decide +kernel
theorem dX6_levelOfRest_35 : decode cX6_levelOfRest 35 = .ok (.iload 4, 2) := by decide +kernel
theorem dX6_levelOfRest_37 : decode cX6_levelOfRest 37 = .ok (.ishr, 1) := by decide +kernel
theorem dX6_levelOfRest_38 : decode cX6_levelOfRest 38 = .ok (.iconst 1, 1) := by decide +kernel
theorem dX6_levelOfRest_39 : decode cX6_levelOfRest 39 = .ok (.iand, 1) := by decide +kernel
theorem dX6_levelOfRest_40 : decode cX6_levelOfRest 40 = .ok (.aload_n 0, 1) := by decide +kernel
theorem dX6_levelOfRest_41 : decode cX6_levelOfRest 41 = .ok (.getfield 30, 3) := by decide +kernel
theorem dX6_levelOfRest_44 : decode cX6_levelOfRest 44 = .ok (.getfield 73, 3) := by decide +kernel
theorem dX6_levelOfRest_47 : decode cX6_levelOfRest 47 = .ok (.iload 4, 2) := by decide +kernel
theorem dX6_levelOfRest_49 : decode cX6_levelOfRest 49 = .ok (.iaload, 1) := by decide +kernel
theorem dX6_levelOfRest_50 : decode cX6_levelOfRest 50 = .ok (.imul, 1) := by decide +kernel
theorem dX6_levelOfRest_51 : decode cX6_levelOfRest 51 = .ok (.iadd, 1) := by decide +kernel
theorem dX6_levelOfRest_52 : decode cX6_levelOfRest 52 = .ok (.istore_n 3, 1) := by decide +kernel
theorem dX6_levelOfRest_53 : decode cX6_levelOfRest 53 = .ok (.iinc 4 1, 3) := by decide +kernel
theorem dX6_levelOfRest_56 : decode cX6_levelOfRest 56 = .ok (.goto (-35), 3) := by decide +kernel
theorem dX6_levelOfRest_59 : decode cX6_levelOfRest 59 = .ok (.iconst 0, 1) := by decide +kernel
theorem dX6_levelOfRest_60 : decode cX6_levelOfRest 60 = .ok (.istore 4, 2) := by decide +kernel
theorem dX6_levelOfRest_62 : decode cX6_levelOfRest 62 = .ok (.iload 4, 2) := by decide +kernel
theorem dX6_levelOfRest_64 : decode cX6_levelOfRest 64 = .ok (.sipush 1000, 3) := by decide +kernel
theorem dX6_levelOfRest_67 : decode cX6_levelOfRest 67 = .ok (.if_icmp .ge 23, 3) := by decide +kernel
theorem dX6_levelOfRest_70 : decode cX6_levelOfRest 70 = .ok (.aload_n 0, 1) := by decide +kernel
theorem dX6_levelOfRest_71 : decode cX6_levelOfRest 71 = .ok (.iload 4, 2) := by decide +kernel
theorem dX6_levelOfRest_73 : decode cX6_levelOfRest 73 = .ok (.iload_n 2, 1) := by decide +kernel
theorem dX6_levelOfRest_74 : decode cX6_levelOfRest 74 = .ok (.invokevirtual 132, 3) := by decide +kernel
theorem dX6_levelOfRest_77 : decode cX6_levelOfRest 77 = .ok (.iload_n 3, 1) := by decide +kernel
theorem dX6_levelOfRest_78 : decode cX6_levelOfRest 78 = .ok (.if_icmp .lt 6, 3) := by decide +kernel
theorem dX6_levelOfRest_81 : decode cX6_levelOfRest 81 = .ok (.iload 4, 2) := by decide +kernel
theorem dX6_levelOfRest_83 : decode cX6_levelOfRest 83 = .ok (.ireturn, 1) := by decide +kernel
theorem dX6_levelOfRest_84 : decode cX6_levelOfRest 84 = .ok (.iinc 4 1, 3) := by decide +kernel
theorem dX6_levelOfRest_87 : decode cX6_levelOfRest 87 = .ok (.goto (-25), 3) := by decide +kernel
theorem dX6_levelOfRest_90 : decode cX6_levelOfRest 90 = .ok (.iconst (-1), 1) := by decide +kernel
theorem dX6_levelOfRest_91 : decode cX6_levelOfRest 91 = .ok (.ireturn, 1) := by decide +kernel
theorem dX6_heldUpTo_0 : decode cX6_heldUpTo 0 = .ok (.iconst 0, 1) := by decide +kernel
theorem dX6_heldUpTo_1 : decode cX6_heldUpTo 1 = .ok (.istore_n 3, 1) := by decide +kernel
theorem dX6_heldUpTo_2 : decode cX6_heldUpTo 2 = .ok (.iconst 0, 1) := by decide +kernel
theorem dX6_heldUpTo_3 : decode cX6_heldUpTo 3 = .ok (.istore 4, 2) := by decide +kernel
theorem dX6_heldUpTo_5 : decode cX6_heldUpTo 5 = .ok (.iload 4, 2) := by decide +kernel
theorem dX6_heldUpTo_7 : decode cX6_heldUpTo 7 = .ok (.aload_n 0, 1) := by decide +kernel
theorem dX6_heldUpTo_8 : decode cX6_heldUpTo 8 = .ok (.getfield 22, 3) := by decide +kernel
theorem dX6_heldUpTo_11 : decode cX6_heldUpTo 11 = .ok (.getfield 119, 3) := by decide +kernel
theorem dX6_heldUpTo_14 : decode cX6_heldUpTo 14 = .ok (.if_icmp .ge 37, 3) := by decide +kernel
theorem dX6_heldUpTo_17 : decode cX6_heldUpTo 17 = .ok (.iload_n 3, 1) := by decide +kernel
theorem dX6_heldUpTo_18 : decode cX6_heldUpTo 18 = .ok (.iload_n 2, 1) := by decide +kernel
theorem dX6_heldUpTo_19 : decode cX6_heldUpTo 19 = .ok (.iload 4, 2) := by decide +kernel
theorem dX6_heldUpTo_21 : decode cX6_heldUpTo 21 = .ok (.ishr, 1) := by decide +kernel
theorem dX6_heldUpTo_22 : decode cX6_heldUpTo 22 = .ok (.iconst 1, 1) := by decide +kernel
theorem dX6_heldUpTo_23 : decode cX6_heldUpTo 23 = .ok (.iand, 1) := by decide +kernel
theorem dX6_heldUpTo_24 : decode cX6_heldUpTo 24 = .ok (.iconst 0, 1) := by decide +kernel
theorem dX6_heldUpTo_25 : decode cX6_heldUpTo 25 = .ok (.iload_n 1, 1) := by decide +kernel
theorem dX6_heldUpTo_26 : decode cX6_heldUpTo 26 = .ok (.aload_n 0, 1) := by decide +kernel
theorem dX6_heldUpTo_27 : decode cX6_heldUpTo 27 = .ok (.getfield 22, 3) := by decide +kernel
theorem dX6_heldUpTo_30 : decode cX6_heldUpTo 30 = .ok (.getfield 69, 3) := by decide +kernel
theorem dX6_heldUpTo_33 : decode cX6_heldUpTo 33 = .ok (.iload 4, 2) := by decide +kernel
theorem dX6_heldUpTo_35 : decode cX6_heldUpTo 35 = .ok (.aaload, 1) := by decide +kernel
theorem dX6_heldUpTo_36 : decode cX6_heldUpTo 36 = .ok (.iconst 2, 1) := by decide +kernel
theorem dX6_heldUpTo_37 : decode cX6_heldUpTo 37 = .ok (.iaload, 1) := by decide +kernel
theorem dX6_heldUpTo_38 : decode cX6_heldUpTo 38 = .ok (.isub, 1) := by decide +kernel
theorem dX6_heldUpTo_39 : decode cX6_heldUpTo 39 = .ok (.invokestatic 135, 3) := by decide +kernel
theorem dX6_heldUpTo_42 : decode cX6_heldUpTo 42 = .ok (.imul, 1) := by decide +kernel
theorem dX6_heldUpTo_43 : decode cX6_heldUpTo 43 = .ok (.iadd, 1) := by decide +kernel
theorem dX6_heldUpTo_44 : decode cX6_heldUpTo 44 = .ok (.istore_n 3, 1) := by decide +kernel
theorem dX6_heldUpTo_45 : decode cX6_heldUpTo 45 = .ok (.iinc 4 1, 3) := by decide +kernel
theorem dX6_heldUpTo_48 : decode cX6_heldUpTo 48 = .ok (.goto (-43), 3) := by decide +kernel
theorem dX6_heldUpTo_51 : decode cX6_heldUpTo 51 = .ok (.iload_n 3, 1) := by decide +kernel
theorem dX6_heldUpTo_52 : decode cX6_heldUpTo 52 = .ok (.ireturn, 1) := by decide +kernel
theorem dX6_mostOpenApart_0 : decode cX6_mostOpenApart 0 = .ok (.iconst 0, 1) := by decide +kernel
theorem dX6_mostOpenApart_1 : decode cX6_mostOpenApart 1 = .ok (.istore_n 1, 1) := by decide +kernel
theorem dX6_mostOpenApart_2 : decode cX6_mostOpenApart 2 = .ok (.iconst 0, 1) := by decide +kernel
theorem dX6_mostOpenApart_3 : decode cX6_mostOpenApart 3 = .ok (.istore_n 2, 1) := by decide +kernel
theorem dX6_mostOpenApart_4 : decode cX6_mostOpenApart 4 = .ok (.iload_n 2, 1) := by decide +kernel
theorem dX6_mostOpenApart_5 : decode cX6_mostOpenApart 5 = .ok (.iconst 1, 1) := by decide +kernel
theorem dX6_mostOpenApart_6 : decode cX6_mostOpenApart 6 = .ok (.aload_n 0, 1) := by decide +kernel
theorem dX6_mostOpenApart_7 : decode cX6_mostOpenApart 7 = .ok (.getfield 22, 3) := by decide +kernel
theorem dX6_mostOpenApart_10 : decode cX6_mostOpenApart 10 = .ok (.getfield 98, 3) := by decide +kernel
theorem dX6_mostOpenApart_13 : decode cX6_mostOpenApart 13 = .ok (.ishl, 1) := by decide +kernel
theorem dX6_mostOpenApart_14 : decode cX6_mostOpenApart 14 = .ok (.if_icmp .ge 30, 3) := by decide +kernel
theorem dX6_mostOpenApart_17 : decode cX6_mostOpenApart 17 = .ok (.iload_n 2, 1) := by decide +kernel
theorem dX6_mostOpenApart_18 : decode cX6_mostOpenApart 18 = .ok (.invokestatic 101, 3) := by decide +kernel
theorem dX6_mostOpenApart_21 : decode cX6_mostOpenApart 21 = .ok (.iload_n 1, 1) := by decide +kernel
theorem dX6_mostOpenApart_22 : decode cX6_mostOpenApart 22 = .ok (.invokestatic 101, 3) := by decide +kernel
theorem dX6_mostOpenApart_25 : decode cX6_mostOpenApart 25 = .ok (.if_icmp .le 13, 3) := by decide +kernel
theorem dX6_mostOpenApart_28 : decode cX6_mostOpenApart 28 = .ok (.aload_n 0, 1) := by decide +kernel
theorem dX6_mostOpenApart_29 : decode cX6_mostOpenApart 29 = .ok (.iload_n 2, 1) := by decide +kernel
theorem dX6_mostOpenApart_30 : decode cX6_mostOpenApart 30 = .ok (.invokevirtual 140, 3) := by decide +kernel
theorem dX6_mostOpenApart_33 : decode cX6_mostOpenApart 33 = .ok (.ifCond .eq 5, 3) := by decide +kernel
theorem dX6_mostOpenApart_36 : decode cX6_mostOpenApart 36 = .ok (.iload_n 2, 1) := by decide +kernel
theorem dX6_mostOpenApart_37 : decode cX6_mostOpenApart 37 = .ok (.istore_n 1, 1) := by decide +kernel
theorem dX6_mostOpenApart_38 : decode cX6_mostOpenApart 38 = .ok (.iinc 2 1, 3) := by decide +kernel
theorem dX6_mostOpenApart_41 : decode cX6_mostOpenApart 41 = .ok (.goto (-37), 3) := by decide +kernel
theorem dX6_mostOpenApart_44 : decode cX6_mostOpenApart 44 = .ok (.iload_n 1, 1) := by decide +kernel
theorem dX6_mostOpenApart_45 : decode cX6_mostOpenApart 45 = .ok (.ireturn, 1) := by decide +kernel
theorem dX6_keepsApart_0 : decode cX6_keepsApart 0 = .ok (.iconst 0, 1) := by decide +kernel
theorem dX6_keepsApart_1 : decode cX6_keepsApart 1 = .ok (.istore_n 2, 1) := by decide +kernel
theorem dX6_keepsApart_2 : decode cX6_keepsApart 2 = .ok (.iconst 0, 1) := by decide +kernel
theorem dX6_keepsApart_3 : decode cX6_keepsApart 3 = .ok (.istore_n 3, 1) := by decide +kernel
theorem dX6_keepsApart_4 : decode cX6_keepsApart 4 = .ok (.iload_n 3, 1) := by decide +kernel
theorem dX6_keepsApart_5 : decode cX6_keepsApart 5 = .ok (.aload_n 0, 1) := by decide +kernel
theorem dX6_keepsApart_6 : decode cX6_keepsApart 6 = .ok (.getfield 22, 3) := by decide +kernel
theorem dX6_keepsApart_9 : decode cX6_keepsApart 9 = .ok (.getfield 119, 3) := by decide +kernel
theorem dX6_keepsApart_12 : decode cX6_keepsApart 12 = .ok (.if_icmp .ge 31, 3) := by decide +kernel
theorem dX6_keepsApart_15 : decode cX6_keepsApart 15 = .ok (.iload_n 2, 1) := by decide +kernel
theorem dX6_keepsApart_16 : decode cX6_keepsApart 16 = .ok (.aload_n 0, 1) := by decide +kernel
theorem dX6_keepsApart_17 : decode cX6_keepsApart 17 = .ok (.getfield 30, 3) := by decide +kernel
theorem dX6_keepsApart_20 : decode cX6_keepsApart 20 = .ok (.getfield 143, 3) := by decide +kernel
theorem dX6_keepsApart_23 : decode cX6_keepsApart 23 = .ok (.iload_n 3, 1) := by decide +kernel
theorem dX6_keepsApart_24 : decode cX6_keepsApart 24 = .ok (.iaload, 1) := by decide +kernel
theorem dX6_keepsApart_25 : decode cX6_keepsApart 25 = .ok (.ifCond .le 9, 3) := by decide +kernel
theorem dX6_keepsApart_28 : decode cX6_keepsApart 28 = .ok (.iconst 1, 1) := by decide +kernel
theorem dX6_keepsApart_29 : decode cX6_keepsApart 29 = .ok (.iload_n 3, 1) := by decide +kernel
theorem dX6_keepsApart_30 : decode cX6_keepsApart 30 = .ok (.ishl, 1) := by decide +kernel
theorem dX6_keepsApart_31 : decode cX6_keepsApart 31 = .ok (.goto 4, 3) := by decide +kernel
theorem dX6_keepsApart_34 : decode cX6_keepsApart 34 = .ok (.iconst 0, 1) := by decide +kernel
theorem dX6_keepsApart_35 : decode cX6_keepsApart 35 = .ok (.ior, 1) := by decide +kernel
theorem dX6_keepsApart_36 : decode cX6_keepsApart 36 = .ok (.istore_n 2, 1) := by decide +kernel
theorem dX6_keepsApart_37 : decode cX6_keepsApart 37 = .ok (.iinc 3 1, 3) := by decide +kernel
theorem dX6_keepsApart_40 : decode cX6_keepsApart 40 = .ok (.goto (-36), 3) := by decide +kernel
theorem dX6_keepsApart_43 : decode cX6_keepsApart 43 = .ok (.iconst 0, 1) := by decide +kernel
theorem dX6_keepsApart_44 : decode cX6_keepsApart 44 = .ok (.istore_n 3, 1) := by decide +kernel
theorem dX6_keepsApart_45 : decode cX6_keepsApart 45 = .ok (.iload_n 3, 1) := by decide +kernel
theorem dX6_keepsApart_46 : decode cX6_keepsApart 46 = .ok (.aload_n 0, 1) := by decide +kernel
theorem dX6_keepsApart_47 : decode cX6_keepsApart 47 = .ok (.getfield 22, 3) := by decide +kernel
theorem dX6_keepsApart_50 : decode cX6_keepsApart 50 = .ok (.getfield 119, 3) := by decide +kernel
theorem dX6_keepsApart_53 : decode cX6_keepsApart 53 = .ok (.if_icmp .ge 47, 3) := by decide +kernel
theorem dX6_keepsApart_56 : decode cX6_keepsApart 56 = .ok (.iload_n 2, 1) := by decide +kernel
theorem dX6_keepsApart_57 : decode cX6_keepsApart 57 = .ok (.iconst 1, 1) := by decide +kernel
theorem dX6_keepsApart_58 : decode cX6_keepsApart 58 = .ok (.iload_n 3, 1) := by decide +kernel
theorem dX6_keepsApart_59 : decode cX6_keepsApart 59 = .ok (.ishl, 1) := by decide +kernel
theorem dX6_keepsApart_60 : decode cX6_keepsApart 60 = .ok (.iconst (-1), 1) := by decide +kernel
theorem dX6_keepsApart_61 : decode cX6_keepsApart 61 = .ok (.ixor, 1) := by decide +kernel
theorem dX6_keepsApart_62 : decode cX6_keepsApart 62 = .ok (.iand, 1) := by decide +kernel
theorem dX6_keepsApart_63 : decode cX6_keepsApart 63 = .ok (.istore 4, 2) := by decide +kernel
theorem dX6_keepsApart_65 : decode cX6_keepsApart 65 = .ok (.aload_n 0, 1) := by decide +kernel
theorem dX6_keepsApart_66 : decode cX6_keepsApart 66 = .ok (.getfield 30, 3) := by decide +kernel
theorem dX6_keepsApart_69 : decode cX6_keepsApart 69 = .ok (.getfield 146, 3) := by decide +kernel
theorem dX6_keepsApart_72 : decode cX6_keepsApart 72 = .ok (.iload_n 3, 1) := by decide +kernel
theorem dX6_keepsApart_73 : decode cX6_keepsApart 73 = .ok (.iaload, 1) := by decide +kernel
theorem dX6_keepsApart_74 : decode cX6_keepsApart 74 = .ok (.ifCond .le 20, 3) := by decide +kernel
theorem dX6_keepsApart_77 : decode cX6_keepsApart 77 = .ok (.aload_n 0, 1) := by decide +kernel
theorem dX6_keepsApart_78 : decode cX6_keepsApart 78 = .ok (.getfield 22, 3) := by decide +kernel
theorem dX6_keepsApart_81 : decode cX6_keepsApart 81 = .ok (.iload_n 3, 1) := by decide +kernel
theorem dX6_keepsApart_82 : decode cX6_keepsApart 82 = .ok (.iload_n 1, 1) := by decide +kernel
theorem dX6_keepsApart_83 : decode cX6_keepsApart 83 = .ok (.invokevirtual 128, 3) := by decide +kernel
theorem dX6_keepsApart_86 : decode cX6_keepsApart 86 = .ok (.iload 4, 2) := by decide +kernel
theorem dX6_keepsApart_88 : decode cX6_keepsApart 88 = .ok (.iand, 1) := by decide +kernel
theorem dX6_keepsApart_89 : decode cX6_keepsApart 89 = .ok (.ifCond .eq 5, 3) := by decide +kernel
theorem dX6_keepsApart_92 : decode cX6_keepsApart 92 = .ok (.iconst 0, 1) := by decide +kernel
theorem dX6_keepsApart_93 : decode cX6_keepsApart 93 = .ok (.ireturn, 1) := by decide +kernel
theorem dX6_keepsApart_94 : decode cX6_keepsApart 94 = .ok (.iinc 3 1, 3) := by decide +kernel
theorem dX6_keepsApart_97 : decode cX6_keepsApart 97 = .ok (.goto (-52), 3) := by decide +kernel
theorem dX6_keepsApart_100 : decode cX6_keepsApart 100 = .ok (.iconst 1, 1) := by decide +kernel
theorem dX6_keepsApart_101 : decode cX6_keepsApart 101 = .ok (.ireturn, 1) := by decide +kernel
theorem dX6_wallsThatGive_0 : decode cX6_wallsThatGive 0 = .ok (.iconst 0, 1) := by decide +kernel
theorem dX6_wallsThatGive_1 : decode cX6_wallsThatGive 1 = .ok (.istore_n 1, 1) := by decide +kernel
theorem dX6_wallsThatGive_2 : decode cX6_wallsThatGive 2 = .ok (.iconst 0, 1) := by decide +kernel
theorem dX6_wallsThatGive_3 : decode cX6_wallsThatGive 3 = .ok (.istore_n 2, 1) := by decide +kernel
theorem dX6_wallsThatGive_4 : decode cX6_wallsThatGive 4 = .ok (.iload_n 2, 1) := by decide +kernel
theorem dX6_wallsThatGive_5 : decode cX6_wallsThatGive 5 = .ok (.iconst 1, 1) := by decide +kernel
theorem dX6_wallsThatGive_6 : decode cX6_wallsThatGive 6 = .ok (.iadd, 1) := by decide +kernel
theorem dX6_wallsThatGive_7 : decode cX6_wallsThatGive 7 = .ok (.aload_n 0, 1) := by decide +kernel
theorem dX6_wallsThatGive_8 : decode cX6_wallsThatGive 8 = .ok (.getfield 22, 3) := by decide +kernel
theorem dX6_wallsThatGive_11 : decode cX6_wallsThatGive 11 = .ok (.getfield 119, 3) := by decide +kernel
theorem dX6_wallsThatGive_14 : decode cX6_wallsThatGive 14 = .ok (.if_icmp .ge 53, 3) := by decide +kernel
theorem dX6_wallsThatGive_17 : decode cX6_wallsThatGive 17 = .ok (.aload_n 0, 1) := by decide +kernel
theorem dX6_wallsThatGive_18 : decode cX6_wallsThatGive 18 = .ok (.getfield 30, 3) := by decide +kernel
theorem dX6_wallsThatGive_21 : decode cX6_wallsThatGive 21 = .ok (.getfield 73, 3) := by decide +kernel
theorem dX6_wallsThatGive_24 : decode cX6_wallsThatGive 24 = .ok (.iload_n 2, 1) := by decide +kernel
theorem dX6_wallsThatGive_25 : decode cX6_wallsThatGive 25 = .ok (.iaload, 1) := by decide +kernel
theorem dX6_wallsThatGive_26 : decode cX6_wallsThatGive 26 = .ok (.aload_n 0, 1) := by decide +kernel
theorem dX6_wallsThatGive_27 : decode cX6_wallsThatGive 27 = .ok (.getfield 30, 3) := by decide +kernel
theorem dX6_wallsThatGive_30 : decode cX6_wallsThatGive 30 = .ok (.getfield 73, 3) := by decide +kernel
theorem dX6_wallsThatGive_33 : decode cX6_wallsThatGive 33 = .ok (.iload_n 2, 1) := by decide +kernel
theorem dX6_wallsThatGive_34 : decode cX6_wallsThatGive 34 = .ok (.iconst 1, 1) := by decide +kernel
theorem dX6_wallsThatGive_35 : decode cX6_wallsThatGive 35 = .ok (.iadd, 1) := by decide +kernel
theorem dX6_wallsThatGive_36 : decode cX6_wallsThatGive 36 = .ok (.iaload, 1) := by decide +kernel
theorem dX6_wallsThatGive_37 : decode cX6_wallsThatGive 37 = .ok (.isub, 1) := by decide +kernel
theorem dX6_wallsThatGive_38 : decode cX6_wallsThatGive 38 = .ok (.invokestatic 149, 3) := by decide +kernel
theorem dX6_wallsThatGive_41 : decode cX6_wallsThatGive 41 = .ok (.aload_n 0, 1) := by decide +kernel
theorem dX6_wallsThatGive_42 : decode cX6_wallsThatGive 42 = .ok (.getfield 22, 3) := by decide +kernel
theorem dX6_wallsThatGive_45 : decode cX6_wallsThatGive 45 = .ok (.getfield 69, 3) := by decide +kernel
theorem dX6_wallsThatGive_48 : decode cX6_wallsThatGive 48 = .ok (.iload_n 2, 1) := by decide +kernel
theorem dX6_wallsThatGive_49 : decode cX6_wallsThatGive 49 = .ok (.aaload, 1) := by decide +kernel
theorem dX6_wallsThatGive_50 : decode cX6_wallsThatGive 50 = .ok (.iconst 5, 1) := by decide +kernel
theorem dX6_wallsThatGive_51 : decode cX6_wallsThatGive 51 = .ok (.iaload, 1) := by decide +kernel
theorem dX6_wallsThatGive_52 : decode cX6_wallsThatGive 52 = .ok (.if_icmp .le 9, 3) := by decide +kernel
theorem dX6_wallsThatGive_55 : decode cX6_wallsThatGive 55 = .ok (.iload_n 1, 1) := by decide +kernel
theorem dX6_wallsThatGive_56 : decode cX6_wallsThatGive 56 = .ok (.iconst 1, 1) := by decide +kernel
theorem dX6_wallsThatGive_57 : decode cX6_wallsThatGive 57 = .ok (.iload_n 2, 1) := by decide +kernel
theorem dX6_wallsThatGive_58 : decode cX6_wallsThatGive 58 = .ok (.ishl, 1) := by decide +kernel
theorem dX6_wallsThatGive_59 : decode cX6_wallsThatGive 59 = .ok (.ior, 1) := by decide +kernel
theorem dX6_wallsThatGive_60 : decode cX6_wallsThatGive 60 = .ok (.istore_n 1, 1) := by decide +kernel
theorem dX6_wallsThatGive_61 : decode cX6_wallsThatGive 61 = .ok (.iinc 2 1, 3) := by decide +kernel
theorem dX6_wallsThatGive_64 : decode cX6_wallsThatGive 64 = .ok (.goto (-60), 3) := by decide +kernel
theorem dX6_wallsThatGive_67 : decode cX6_wallsThatGive 67 = .ok (.iload_n 1, 1) := by decide +kernel
theorem dX6_wallsThatGive_68 : decode cX6_wallsThatGive 68 = .ok (.ireturn, 1) := by decide +kernel
theorem dX6_keysOfFeud_0 : decode cX6_keysOfFeud 0 = .ok (.aload_n 0, 1) := by decide +kernel
theorem dX6_keysOfFeud_1 : decode cX6_keysOfFeud 1 = .ok (.getfield 30, 3) := by decide +kernel
theorem dX6_keysOfFeud_4 : decode cX6_keysOfFeud 4 = .ok (.getfield 37, 3) := by decide +kernel
theorem dX6_keysOfFeud_7 : decode cX6_keysOfFeud 7 = .ok (.iconst 1, 1) := by decide +kernel
theorem dX6_keysOfFeud_8 : decode cX6_keysOfFeud 8 = .ok (.iload_n 1, 1) := by decide +kernel
theorem dX6_keysOfFeud_9 : decode cX6_keysOfFeud 9 = .ok (.ishl, 1) := by decide +kernel
theorem dX6_keysOfFeud_10 : decode cX6_keysOfFeud 10 = .ok (.iconst 1, 1) := by decide +kernel
theorem dX6_keysOfFeud_11 : decode cX6_keysOfFeud 11 = .ok (.iload_n 2, 1) := by decide +kernel
theorem dX6_keysOfFeud_12 : decode cX6_keysOfFeud 12 = .ok (.ishl, 1) := by decide +kernel
theorem dX6_keysOfFeud_13 : decode cX6_keysOfFeud 13 = .ok (.ior, 1) := by decide +kernel
theorem dX6_keysOfFeud_14 : decode cX6_keysOfFeud 14 = .ok (.iconst (-1), 1) := by decide +kernel
theorem dX6_keysOfFeud_15 : decode cX6_keysOfFeud 15 = .ok (.ixor, 1) := by decide +kernel
theorem dX6_keysOfFeud_16 : decode cX6_keysOfFeud 16 = .ok (.iand, 1) := by decide +kernel
theorem dX6_keysOfFeud_17 : decode cX6_keysOfFeud 17 = .ok (.istore 5, 2) := by decide +kernel
theorem dX6_keysOfFeud_19 : decode cX6_keysOfFeud 19 = .ok (.iload_n 1, 1) := by decide +kernel
theorem dX6_keysOfFeud_20 : decode cX6_keysOfFeud 20 = .ok (.iload_n 2, 1) := by decide +kernel
theorem dX6_keysOfFeud_21 : decode cX6_keysOfFeud 21 = .ok (.if_icmp .ne 13, 3) := by decide +kernel
theorem dX6_keysOfFeud_24 : decode cX6_keysOfFeud 24 = .ok (.iload 5, 2) := by decide +kernel
theorem dX6_keysOfFeud_26 : decode cX6_keysOfFeud 26 = .ok (.iload_n 3, 1) := by decide +kernel
theorem dX6_keysOfFeud_27 : decode cX6_keysOfFeud 27 = .ok (.iload 4, 2) := by decide +kernel
theorem dX6_keysOfFeud_29 : decode cX6_keysOfFeud 29 = .ok (.iand, 1) := by decide +kernel
theorem dX6_keysOfFeud_30 : decode cX6_keysOfFeud 30 = .ok (.iload_n 1, 1) := by decide +kernel
theorem dX6_keysOfFeud_31 : decode cX6_keysOfFeud 31 = .ok (.ishl, 1) := by decide +kernel
theorem dX6_keysOfFeud_32 : decode cX6_keysOfFeud 32 = .ok (.ior, 1) := by decide +kernel
theorem dX6_keysOfFeud_33 : decode cX6_keysOfFeud 33 = .ok (.ireturn, 1) := by decide +kernel
theorem dX6_keysOfFeud_34 : decode cX6_keysOfFeud 34 = .ok (.iload 5, 2) := by decide +kernel
theorem dX6_keysOfFeud_36 : decode cX6_keysOfFeud 36 = .ok (.iload_n 3, 1) := by decide +kernel
theorem dX6_keysOfFeud_37 : decode cX6_keysOfFeud 37 = .ok (.iload_n 1, 1) := by decide +kernel
theorem dX6_keysOfFeud_38 : decode cX6_keysOfFeud 38 = .ok (.ishl, 1) := by decide +kernel
theorem dX6_keysOfFeud_39 : decode cX6_keysOfFeud 39 = .ok (.ior, 1) := by decide +kernel
theorem dX6_keysOfFeud_40 : decode cX6_keysOfFeud 40 = .ok (.iload 4, 2) := by decide +kernel
theorem dX6_keysOfFeud_42 : decode cX6_keysOfFeud 42 = .ok (.iload_n 2, 1) := by decide +kernel
theorem dX6_keysOfFeud_43 : decode cX6_keysOfFeud 43 = .ok (.ishl, 1) := by decide +kernel
theorem dX6_keysOfFeud_44 : decode cX6_keysOfFeud 44 = .ok (.ior, 1) := by decide +kernel
theorem dX6_keysOfFeud_45 : decode cX6_keysOfFeud 45 = .ok (.ireturn, 1) := by decide +kernel
theorem dX6_gapAfter_0 : decode cX6_gapAfter 0 = .ok (.aload_n 0, 1) := by decide +kernel
theorem dX6_gapAfter_1 : decode cX6_gapAfter 1 = .ok (.iload_n 3, 1) := by decide +kernel
theorem dX6_gapAfter_2 : decode cX6_gapAfter 2 = .ok (.iload 4, 2) := by decide +kernel
theorem dX6_gapAfter_4 : decode cX6_gapAfter 4 = .ok (.invokevirtual 115, 3) := by decide +kernel
theorem dX6_gapAfter_7 : decode cX6_gapAfter 7 = .ok (.astore 5, 2) := by decide +kernel
theorem dX6_gapAfter_9 : decode cX6_gapAfter 9 = .ok (.aload 5, 2) := by decide +kernel
theorem dX6_gapAfter_11 : decode cX6_gapAfter 11 = .ok (.getfield 73, 3) := by decide +kernel
theorem dX6_gapAfter_14 : decode cX6_gapAfter 14 = .ok (.iload_n 1, 1) := by decide +kernel
theorem dX6_gapAfter_15 : decode cX6_gapAfter 15 = .ok (.iaload, 1) := by decide +kernel
theorem dX6_gapAfter_16 : decode cX6_gapAfter 16 = .ok (.aload 5, 2) := by decide +kernel
theorem dX6_gapAfter_18 : decode cX6_gapAfter 18 = .ok (.getfield 73, 3) := by decide +kernel
theorem dX6_gapAfter_21 : decode cX6_gapAfter 21 = .ok (.iload_n 2, 1) := by decide +kernel
theorem dX6_gapAfter_22 : decode cX6_gapAfter 22 = .ok (.iaload, 1) := by decide +kernel
theorem dX6_gapAfter_23 : decode cX6_gapAfter 23 = .ok (.isub, 1) := by decide +kernel
theorem dX6_gapAfter_24 : decode cX6_gapAfter 24 = .ok (.ireturn, 1) := by decide +kernel
theorem dX6_restAmongGaps_0 : decode cX6_restAmongGaps 0 = .ok (.iconst 0, 1) := by decide +kernel
theorem dX6_restAmongGaps_1 : decode cX6_restAmongGaps 1 = .ok (.istore_n 2, 1) := by decide +kernel
theorem dX6_restAmongGaps_2 : decode cX6_restAmongGaps 2 = .ok (.iconst 0, 1) := by decide +kernel
theorem dX6_restAmongGaps_3 : decode cX6_restAmongGaps 3 = .ok (.istore_n 3, 1) := by decide +kernel
theorem dX6_restAmongGaps_4 : decode cX6_restAmongGaps 4 = .ok (.iload_n 3, 1) := by decide +kernel
theorem dX6_restAmongGaps_5 : decode cX6_restAmongGaps 5 = .ok (.aload_n 0, 1) := by decide +kernel
theorem dX6_restAmongGaps_6 : decode cX6_restAmongGaps 6 = .ok (.getfield 18, 3) := by decide +kernel
theorem dX6_restAmongGaps_9 : decode cX6_restAmongGaps 9 = .ok (.arraylength, 1) := by decide +kernel
theorem dX6_restAmongGaps_10 : decode cX6_restAmongGaps 10 = .ok (.if_icmp .ge 62, 3) := by decide +kernel
theorem dX6_restAmongGaps_13 : decode cX6_restAmongGaps 13 = .ok (.aload_n 0, 1) := by decide +kernel
theorem dX6_restAmongGaps_14 : decode cX6_restAmongGaps 14 = .ok (.getfield 18, 3) := by decide +kernel
theorem dX6_restAmongGaps_17 : decode cX6_restAmongGaps 17 = .ok (.iload_n 3, 1) := by decide +kernel
theorem dX6_restAmongGaps_18 : decode cX6_restAmongGaps 18 = .ok (.iconst 2, 1) := by decide +kernel
theorem dX6_restAmongGaps_19 : decode cX6_restAmongGaps 19 = .ok (.ixor, 1) := by decide +kernel
theorem dX6_restAmongGaps_20 : decode cX6_restAmongGaps 20 = .ok (.iaload, 1) := by decide +kernel
theorem dX6_restAmongGaps_21 : decode cX6_restAmongGaps 21 = .ok (.aload_n 0, 1) := by decide +kernel
theorem dX6_restAmongGaps_22 : decode cX6_restAmongGaps 22 = .ok (.getfield 18, 3) := by decide +kernel
theorem dX6_restAmongGaps_25 : decode cX6_restAmongGaps 25 = .ok (.iload_n 3, 1) := by decide +kernel
theorem dX6_restAmongGaps_26 : decode cX6_restAmongGaps 26 = .ok (.iaload, 1) := by decide +kernel
theorem dX6_restAmongGaps_27 : decode cX6_restAmongGaps 27 = .ok (.if_icmp .gt 39, 3) := by decide +kernel
theorem dX6_restAmongGaps_30 : decode cX6_restAmongGaps 30 = .ok (.aload_n 0, 1) := by decide +kernel
theorem dX6_restAmongGaps_31 : decode cX6_restAmongGaps 31 = .ok (.getfield 18, 3) := by decide +kernel
theorem dX6_restAmongGaps_34 : decode cX6_restAmongGaps 34 = .ok (.iload_n 3, 1) := by decide +kernel
theorem dX6_restAmongGaps_35 : decode cX6_restAmongGaps 35 = .ok (.iconst 1, 1) := by decide +kernel
theorem dX6_restAmongGaps_36 : decode cX6_restAmongGaps 36 = .ok (.ixor, 1) := by decide +kernel
theorem dX6_restAmongGaps_37 : decode cX6_restAmongGaps 37 = .ok (.iaload, 1) := by decide +kernel
theorem dX6_restAmongGaps_38 : decode cX6_restAmongGaps 38 = .ok (.aload_n 0, 1) := by decide +kernel
theorem dX6_restAmongGaps_39 : decode cX6_restAmongGaps 39 = .ok (.getfield 18, 3) := by decide +kernel
theorem dX6_restAmongGaps_42 : decode cX6_restAmongGaps 42 = .ok (.iload_n 3, 1) := by decide +kernel
theorem dX6_restAmongGaps_43 : decode cX6_restAmongGaps 43 = .ok (.iaload, 1) := by decide +kernel
theorem dX6_restAmongGaps_44 : decode cX6_restAmongGaps 44 = .ok (.if_icmp .lt 22, 3) := by decide +kernel
theorem dX6_restAmongGaps_47 : decode cX6_restAmongGaps 47 = .ok (.iload_n 2, 1) := by decide +kernel
theorem dX6_restAmongGaps_48 : decode cX6_restAmongGaps 48 = .ok (.iload_n 1, 1) := by decide +kernel
theorem dX6_restAmongGaps_49 : decode cX6_restAmongGaps 49 = .ok (.if_icmp .ne 14, 3) := by decide +kernel
theorem dX6_restAmongGaps_52 : decode cX6_restAmongGaps 52 = .ok (.bipush 10, 2) := by decide +kernel
theorem dX6_restAmongGaps_54 : decode cX6_restAmongGaps 54 = .ok (.iload_n 3, 1) := by decide +kernel
theorem dX6_restAmongGaps_55 : decode cX6_restAmongGaps 55 = .ok (.iconst 1, 1) := by decide +kernel
theorem dX6_restAmongGaps_56 : decode cX6_restAmongGaps 56 = .ok (.ishr, 1) := by decide +kernel
theorem dX6_restAmongGaps_57 : decode cX6_restAmongGaps 57 = .ok (.imul, 1) := by decide +kernel
theorem dX6_restAmongGaps_58 : decode cX6_restAmongGaps 58 = .ok (.iload_n 3, 1) := by decide +kernel
theorem dX6_restAmongGaps_59 : decode cX6_restAmongGaps 59 = .ok (.iconst 1, 1) := by decide +kernel
theorem dX6_restAmongGaps_60 : decode cX6_restAmongGaps 60 = .ok (.iand, 1) := by decide +kernel
theorem dX6_restAmongGaps_61 : decode cX6_restAmongGaps 61 = .ok (.iadd, 1) := by decide +kernel
theorem dX6_restAmongGaps_62 : decode cX6_restAmongGaps 62 = .ok (.ireturn, 1) := by decide +kernel
theorem dX6_restAmongGaps_63 : decode cX6_restAmongGaps 63 = .ok (.iinc 2 1, 3) := by decide +kernel
theorem dX6_restAmongGaps_66 : decode cX6_restAmongGaps 66 = .ok (.iinc 3 1, 3) := by decide +kernel
theorem dX6_restAmongGaps_69 : decode cX6_restAmongGaps 69 = .ok (.goto (-65), 3) := by decide +kernel
theorem dX6_restAmongGaps_72 : decode cX6_restAmongGaps 72 = .ok (.iload_n 1, 1) := by decide +kernel
theorem dX6_restAmongGaps_73 : decode cX6_restAmongGaps 73 = .ok (.iconst (-1), 1) := by decide +kernel
theorem dX6_restAmongGaps_74 : decode cX6_restAmongGaps 74 = .ok (.if_icmp .ne 7, 3) := by decide +kernel
theorem dX6_restAmongGaps_77 : decode cX6_restAmongGaps 77 = .ok (.iload_n 2, 1) := by decide +kernel
theorem dX6_restAmongGaps_78 : decode cX6_restAmongGaps 78 = .ok (.goto 4, 3) := by decide +kernel
theorem dX6_restAmongGaps_81 : decode cX6_restAmongGaps 81 = .ok (.iconst (-1), 1) := by decide +kernel
theorem dX6_restAmongGaps_82 : decode cX6_restAmongGaps 82 = .ok (.ireturn, 1) := by decide +kernel
theorem dX6_darkestPond_0 : decode cX6_darkestPond 0 = .ok (.iconst (-1), 1) := by decide +kernel
theorem dX6_darkestPond_1 : decode cX6_darkestPond 1 = .ok (.istore_n 1, 1) := by decide +kernel
theorem dX6_darkestPond_2 : decode cX6_darkestPond 2 = .ok (.iconst 0, 1) := by decide +kernel
theorem dX6_darkestPond_3 : decode cX6_darkestPond 3 = .ok (.istore_n 2, 1) := by decide +kernel
theorem dX6_darkestPond_4 : decode cX6_darkestPond 4 = .ok (.iconst 0, 1) := by decide +kernel
theorem dX6_darkestPond_5 : decode cX6_darkestPond 5 = .ok (.istore_n 3, 1) := by decide +kernel
theorem dX6_darkestPond_6 : decode cX6_darkestPond 6 = .ok (.iload_n 3, 1) := by decide +kernel
theorem dX6_darkestPond_7 : decode cX6_darkestPond 7 = .ok (.aload_n 0, 1) := by decide +kernel
theorem dX6_darkestPond_8 : decode cX6_darkestPond 8 = .ok (.getfield 22, 3) := by decide +kernel
theorem dX6_darkestPond_11 : decode cX6_darkestPond 11 = .ok (.getfield 119, 3) := by decide +kernel
theorem dX6_darkestPond_14 : decode cX6_darkestPond 14 = .ok (.if_icmp .ge 44, 3) := by decide +kernel
theorem dX6_darkestPond_17 : decode cX6_darkestPond 17 = .ok (.aload_n 0, 1) := by decide +kernel
theorem dX6_darkestPond_18 : decode cX6_darkestPond 18 = .ok (.getfield 30, 3) := by decide +kernel
theorem dX6_darkestPond_21 : decode cX6_darkestPond 21 = .ok (.getfield 73, 3) := by decide +kernel
theorem dX6_darkestPond_24 : decode cX6_darkestPond 24 = .ok (.iload_n 3, 1) := by decide +kernel
theorem dX6_darkestPond_25 : decode cX6_darkestPond 25 = .ok (.iaload, 1) := by decide +kernel
theorem dX6_darkestPond_26 : decode cX6_darkestPond 26 = .ok (.aload_n 0, 1) := by decide +kernel
theorem dX6_darkestPond_27 : decode cX6_darkestPond 27 = .ok (.getfield 22, 3) := by decide +kernel
theorem dX6_darkestPond_30 : decode cX6_darkestPond 30 = .ok (.getfield 69, 3) := by decide +kernel
theorem dX6_darkestPond_33 : decode cX6_darkestPond 33 = .ok (.iload_n 3, 1) := by decide +kernel
theorem dX6_darkestPond_34 : decode cX6_darkestPond 34 = .ok (.aaload, 1) := by decide +kernel
theorem dX6_darkestPond_35 : decode cX6_darkestPond 35 = .ok (.bipush 6, 2) := by decide +kernel
theorem dX6_darkestPond_37 : decode cX6_darkestPond 37 = .ok (.iaload, 1) := by decide +kernel
theorem dX6_darkestPond_38 : decode cX6_darkestPond 38 = .ok (.isub, 1) := by decide +kernel
theorem dX6_darkestPond_39 : decode cX6_darkestPond 39 = .ok (.istore 4, 2) := by decide +kernel
theorem dX6_darkestPond_41 : decode cX6_darkestPond 41 = .ok (.iload 4, 2) := by decide +kernel
theorem dX6_darkestPond_43 : decode cX6_darkestPond 43 = .ok (.iload_n 2, 1) := by decide +kernel
theorem dX6_darkestPond_44 : decode cX6_darkestPond 44 = .ok (.if_icmp .le 8, 3) := by decide +kernel
theorem dX6_darkestPond_47 : decode cX6_darkestPond 47 = .ok (.iload 4, 2) := by decide +kernel
theorem dX6_darkestPond_49 : decode cX6_darkestPond 49 = .ok (.istore_n 2, 1) := by decide +kernel
theorem dX6_darkestPond_50 : decode cX6_darkestPond 50 = .ok (.iload_n 3, 1) := by decide +kernel
theorem dX6_darkestPond_51 : decode cX6_darkestPond 51 = .ok (.istore_n 1, 1) := by decide +kernel
theorem dX6_darkestPond_52 : decode cX6_darkestPond 52 = .ok (.iinc 3 1, 3) := by decide +kernel
theorem dX6_darkestPond_55 : decode cX6_darkestPond 55 = .ok (.goto (-49), 3) := by decide +kernel
theorem dX6_darkestPond_58 : decode cX6_darkestPond 58 = .ok (.iload_n 1, 1) := by decide +kernel
theorem dX6_darkestPond_59 : decode cX6_darkestPond 59 = .ok (.ireturn, 1) := by decide +kernel
theorem dX6_rentOf_0 : decode cX6_rentOf 0 = .ok (.aload_n 0, 1) := by decide +kernel
theorem dX6_rentOf_1 : decode cX6_rentOf 1 = .ok (.getfield 30, 3) := by decide +kernel
theorem dX6_rentOf_4 : decode cX6_rentOf 4 = .ok (.getfield 73, 3) := by decide +kernel
theorem dX6_rentOf_7 : decode cX6_rentOf 7 = .ok (.iload_n 1, 1) := by decide +kernel
theorem dX6_rentOf_8 : decode cX6_rentOf 8 = .ok (.iaload, 1) := by decide +kernel
theorem dX6_rentOf_9 : decode cX6_rentOf 9 = .ok (.istore_n 2, 1) := by decide +kernel
theorem dX6_rentOf_10 : decode cX6_rentOf 10 = .ok (.iconst 0, 1) := by decide +kernel
theorem dX6_rentOf_11 : decode cX6_rentOf 11 = .ok (.istore_n 3, 1) := by decide +kernel
theorem dX6_rentOf_12 : decode cX6_rentOf 12 = .ok (.iload_n 3, 1) := by decide +kernel
theorem dX6_rentOf_13 : decode cX6_rentOf 13 = .ok (.aload_n 0, 1) := by decide +kernel
theorem dX6_rentOf_14 : decode cX6_rentOf 14 = .ok (.getfield 22, 3) := by decide +kernel
theorem dX6_rentOf_17 : decode cX6_rentOf 17 = .ok (.getfield 98, 3) := by decide +kernel
theorem dX6_rentOf_20 : decode cX6_rentOf 20 = .ok (.if_icmp .ge 42, 3) := by decide +kernel
theorem dX6_rentOf_23 : decode cX6_rentOf 23 = .ok (.aload_n 0, 1) := by decide +kernel
theorem dX6_rentOf_24 : decode cX6_rentOf 24 = .ok (.getfield 22, 3) := by decide +kernel
theorem dX6_rentOf_27 : decode cX6_rentOf 27 = .ok (.getfield 125, 3) := by decide +kernel
theorem dX6_rentOf_30 : decode cX6_rentOf 30 = .ok (.iload_n 3, 1) := by decide +kernel
theorem dX6_rentOf_31 : decode cX6_rentOf 31 = .ok (.aaload, 1) := by decide +kernel
theorem dX6_rentOf_32 : decode cX6_rentOf 32 = .ok (.iconst 0, 1) := by decide +kernel
theorem dX6_rentOf_33 : decode cX6_rentOf 33 = .ok (.iaload, 1) := by decide +kernel
theorem dX6_rentOf_34 : decode cX6_rentOf 34 = .ok (.iload_n 1, 1) := by decide +kernel
theorem dX6_rentOf_35 : decode cX6_rentOf 35 = .ok (.if_icmp .eq 18, 3) := by decide +kernel
theorem dX6_rentOf_38 : decode cX6_rentOf 38 = .ok (.aload_n 0, 1) := by decide +kernel
theorem dX6_rentOf_39 : decode cX6_rentOf 39 = .ok (.getfield 22, 3) := by decide +kernel
theorem dX6_rentOf_42 : decode cX6_rentOf 42 = .ok (.getfield 125, 3) := by decide +kernel
theorem dX6_rentOf_45 : decode cX6_rentOf 45 = .ok (.iload_n 3, 1) := by decide +kernel
theorem dX6_rentOf_46 : decode cX6_rentOf 46 = .ok (.aaload, 1) := by decide +kernel
theorem dX6_rentOf_47 : decode cX6_rentOf 47 = .ok (.iconst 1, 1) := by decide +kernel
theorem dX6_rentOf_48 : decode cX6_rentOf 48 = .ok (.iaload, 1) := by decide +kernel
theorem dX6_rentOf_49 : decode cX6_rentOf 49 = .ok (.iload_n 1, 1) := by decide +kernel
theorem dX6_rentOf_50 : decode cX6_rentOf 50 = .ok (.if_icmp .ne 6, 3) := by decide +kernel
theorem dX6_rentOf_53 : decode cX6_rentOf 53 = .ok (.iinc 2 5, 3) := by decide +kernel
theorem dX6_rentOf_56 : decode cX6_rentOf 56 = .ok (.iinc 3 1, 3) := by decide +kernel
theorem dX6_rentOf_59 : decode cX6_rentOf 59 = .ok (.goto (-47), 3) := by decide +kernel
theorem dX6_rentOf_62 : decode cX6_rentOf 62 = .ok (.aload_n 0, 1) := by decide +kernel
theorem dX6_rentOf_63 : decode cX6_rentOf 63 = .ok (.getfield 30, 3) := by decide +kernel
theorem dX6_rentOf_66 : decode cX6_rentOf 66 = .ok (.getfield 73, 3) := by decide +kernel
theorem dX6_rentOf_69 : decode cX6_rentOf 69 = .ok (.iload_n 1, 1) := by decide +kernel
theorem dX6_rentOf_70 : decode cX6_rentOf 70 = .ok (.iaload, 1) := by decide +kernel
theorem dX6_rentOf_71 : decode cX6_rentOf 71 = .ok (.aload_n 0, 1) := by decide +kernel
theorem dX6_rentOf_72 : decode cX6_rentOf 72 = .ok (.getfield 22, 3) := by decide +kernel
theorem dX6_rentOf_75 : decode cX6_rentOf 75 = .ok (.getfield 69, 3) := by decide +kernel
theorem dX6_rentOf_78 : decode cX6_rentOf 78 = .ok (.iload_n 1, 1) := by decide +kernel
theorem dX6_rentOf_79 : decode cX6_rentOf 79 = .ok (.aaload, 1) := by decide +kernel
theorem dX6_rentOf_80 : decode cX6_rentOf 80 = .ok (.iconst 3, 1) := by decide +kernel
theorem dX6_rentOf_81 : decode cX6_rentOf 81 = .ok (.iaload, 1) := by decide +kernel
theorem dX6_rentOf_82 : decode cX6_rentOf 82 = .ok (.if_icmp .ge 10, 3) := by decide +kernel
theorem dX6_rentOf_85 : decode cX6_rentOf 85 = .ok (.iload_n 2, 1) := by decide +kernel
theorem dX6_rentOf_86 : decode cX6_rentOf 86 = .ok (.bipush 10, 2) := by decide +kernel
theorem dX6_rentOf_88 : decode cX6_rentOf 88 = .ok (.isub, 1) := by decide +kernel
theorem dX6_rentOf_89 : decode cX6_rentOf 89 = .ok (.goto 4, 3) := by decide +kernel
theorem dX6_rentOf_92 : decode cX6_rentOf 92 = .ok (.iload_n 2, 1) := by decide +kernel
theorem dX6_rentOf_93 : decode cX6_rentOf 93 = .ok (.ireturn, 1) := by decide +kernel
theorem dX6_groups_0 : decode cX6_groups 0 = .ok (.iconst 0, 1) := by decide +kernel
theorem dX6_groups_1 : decode cX6_groups 1 = .ok (.istore_n 1, 1) := by decide +kernel
theorem dX6_groups_2 : decode cX6_groups 2 = .ok (.iconst 0, 1) := by decide +kernel
theorem dX6_groups_3 : decode cX6_groups 3 = .ok (.istore_n 2, 1) := by decide +kernel
theorem dX6_groups_4 : decode cX6_groups 4 = .ok (.iconst 0, 1) := by decide +kernel
theorem dX6_groups_5 : decode cX6_groups 5 = .ok (.istore_n 3, 1) := by decide +kernel
theorem dX6_groups_6 : decode cX6_groups 6 = .ok (.iload_n 3, 1) := by decide +kernel
theorem dX6_groups_7 : decode cX6_groups 7 = .ok (.aload_n 0, 1) := by decide +kernel
theorem dX6_groups_8 : decode cX6_groups 8 = .ok (.getfield 22, 3) := by decide +kernel
theorem dX6_groups_11 : decode cX6_groups 11 = .ok (.getfield 119, 3) := by decide +kernel
theorem dX6_groups_14 : decode cX6_groups 14 = .ok (.if_icmp .ge 38, 3) := by decide +kernel
theorem dX6_groups_17 : decode cX6_groups 17 = .ok (.iload_n 1, 1) := by decide +kernel
theorem dX6_groups_18 : decode cX6_groups 18 = .ok (.iload_n 3, 1) := by decide +kernel
theorem dX6_groups_19 : decode cX6_groups 19 = .ok (.ishr, 1) := by decide +kernel
theorem dX6_groups_20 : decode cX6_groups 20 = .ok (.iconst 1, 1) := by decide +kernel
theorem dX6_groups_21 : decode cX6_groups 21 = .ok (.iand, 1) := by decide +kernel
theorem dX6_groups_22 : decode cX6_groups 22 = .ok (.ifCond .ne 24, 3) := by decide +kernel
theorem dX6_groups_25 : decode cX6_groups 25 = .ok (.iload_n 1, 1) := by decide +kernel
theorem dX6_groups_26 : decode cX6_groups 26 = .ok (.aload_n 0, 1) := by decide +kernel
theorem dX6_groups_27 : decode cX6_groups 27 = .ok (.getfield 22, 3) := by decide +kernel
theorem dX6_groups_30 : decode cX6_groups 30 = .ok (.iload_n 3, 1) := by decide +kernel
theorem dX6_groups_31 : decode cX6_groups 31 = .ok (.aload_n 0, 1) := by decide +kernel
theorem dX6_groups_32 : decode cX6_groups 32 = .ok (.getfield 30, 3) := by decide +kernel
theorem dX6_groups_35 : decode cX6_groups 35 = .ok (.getfield 37, 3) := by decide +kernel
theorem dX6_groups_38 : decode cX6_groups 38 = .ok (.invokevirtual 128, 3) := by decide +kernel
theorem dX6_groups_41 : decode cX6_groups 41 = .ok (.ior, 1) := by decide +kernel
theorem dX6_groups_42 : decode cX6_groups 42 = .ok (.istore_n 1, 1) := by decide +kernel
theorem dX6_groups_43 : decode cX6_groups 43 = .ok (.iinc 2 1, 3) := by decide +kernel
theorem dX6_groups_46 : decode cX6_groups 46 = .ok (.iinc 3 1, 3) := by decide +kernel
theorem dX6_groups_49 : decode cX6_groups 49 = .ok (.goto (-43), 3) := by decide +kernel
theorem dX6_groups_52 : decode cX6_groups 52 = .ok (.iload_n 2, 1) := by decide +kernel
theorem dX6_groups_53 : decode cX6_groups 53 = .ok (.ireturn, 1) := by decide +kernel
theorem dX6_fullestPipe_0 : decode cX6_fullestPipe 0 = .ok (.iconst (-1), 1) := by decide +kernel
theorem dX6_fullestPipe_1 : decode cX6_fullestPipe 1 = .ok (.istore_n 1, 1) := by decide +kernel
theorem dX6_fullestPipe_2 : decode cX6_fullestPipe 2 = .ok (.iconst 0, 1) := by decide +kernel
theorem dX6_fullestPipe_3 : decode cX6_fullestPipe 3 = .ok (.istore_n 2, 1) := by decide +kernel
theorem dX6_fullestPipe_4 : decode cX6_fullestPipe 4 = .ok (.iconst 0, 1) := by decide +kernel
theorem dX6_fullestPipe_5 : decode cX6_fullestPipe 5 = .ok (.istore_n 3, 1) := by decide +kernel
theorem dX6_fullestPipe_6 : decode cX6_fullestPipe 6 = .ok (.iload_n 3, 1) := by decide +kernel
theorem dX6_fullestPipe_7 : decode cX6_fullestPipe 7 = .ok (.aload_n 0, 1) := by decide +kernel
theorem dX6_fullestPipe_8 : decode cX6_fullestPipe 8 = .ok (.getfield 22, 3) := by decide +kernel
theorem dX6_fullestPipe_11 : decode cX6_fullestPipe 11 = .ok (.getfield 98, 3) := by decide +kernel
theorem dX6_fullestPipe_14 : decode cX6_fullestPipe 14 = .ok (.if_icmp .ge 49, 3) := by decide +kernel
theorem dX6_fullestPipe_17 : decode cX6_fullestPipe 17 = .ok (.aload_n 0, 1) := by decide +kernel
theorem dX6_fullestPipe_18 : decode cX6_fullestPipe 18 = .ok (.getfield 30, 3) := by decide +kernel
theorem dX6_fullestPipe_21 : decode cX6_fullestPipe 21 = .ok (.iload_n 3, 1) := by decide +kernel
theorem dX6_fullestPipe_22 : decode cX6_fullestPipe 22 = .ok (.invokevirtual 56, 3) := by decide +kernel
theorem dX6_fullestPipe_25 : decode cX6_fullestPipe 25 = .ok (.ifCond .eq 18, 3) := by decide +kernel
theorem dX6_fullestPipe_28 : decode cX6_fullestPipe 28 = .ok (.aload_n 0, 1) := by decide +kernel
theorem dX6_fullestPipe_29 : decode cX6_fullestPipe 29 = .ok (.getfield 26, 3) := by decide +kernel
theorem dX6_fullestPipe_32 : decode cX6_fullestPipe 32 = .ok (.iload_n 3, 1) := by decide +kernel
theorem dX6_fullestPipe_33 : decode cX6_fullestPipe 33 = .ok (.aload_n 0, 1) := by decide +kernel
theorem dX6_fullestPipe_34 : decode cX6_fullestPipe 34 = .ok (.getfield 30, 3) := by decide +kernel
theorem dX6_fullestPipe_37 : decode cX6_fullestPipe 37 = .ok (.invokevirtual 152, 3) := by decide +kernel
theorem dX6_fullestPipe_40 : decode cX6_fullestPipe 40 = .ok (.goto 4, 3) := by decide +kernel
theorem dX6_fullestPipe_43 : decode cX6_fullestPipe 43 = .ok (.iconst 0, 1) := by decide +kernel
theorem dX6_fullestPipe_44 : decode cX6_fullestPipe 44 = .ok (.istore 4, 2) := by decide +kernel
theorem dX6_fullestPipe_46 : decode cX6_fullestPipe 46 = .ok (.iload 4, 2) := by decide +kernel
theorem dX6_fullestPipe_48 : decode cX6_fullestPipe 48 = .ok (.iload_n 2, 1) := by decide +kernel
theorem dX6_fullestPipe_49 : decode cX6_fullestPipe 49 = .ok (.if_icmp .le 8, 3) := by decide +kernel
theorem dX6_fullestPipe_52 : decode cX6_fullestPipe 52 = .ok (.iload 4, 2) := by decide +kernel
theorem dX6_fullestPipe_54 : decode cX6_fullestPipe 54 = .ok (.istore_n 2, 1) := by decide +kernel
theorem dX6_fullestPipe_55 : decode cX6_fullestPipe 55 = .ok (.iload_n 3, 1) := by decide +kernel
theorem dX6_fullestPipe_56 : decode cX6_fullestPipe 56 = .ok (.istore_n 1, 1) := by decide +kernel
theorem dX6_fullestPipe_57 : decode cX6_fullestPipe 57 = .ok (.iinc 3 1, 3) := by decide +kernel
theorem dX6_fullestPipe_60 : decode cX6_fullestPipe 60 = .ok (.goto (-54), 3) := by decide +kernel
theorem dX6_fullestPipe_63 : decode cX6_fullestPipe 63 = .ok (.iload_n 1, 1) := by decide +kernel
theorem dX6_fullestPipe_64 : decode cX6_fullestPipe 64 = .ok (.ireturn, 1) := by decide +kernel
theorem dX7_init_0 : decode cX7_init 0 = .ok (.aload_n 0, 1) := by decide +kernel
theorem dX7_init_1 : decode cX7_init 1 = .ok (.invokespecial 3, 3) := by decide +kernel
theorem dX7_init_4 : decode cX7_init 4 = .ok (.aload_n 0, 1) := by decide +kernel
theorem dX7_init_5 : decode cX7_init 5 = .ok (.bipush 16, 2) := by decide +kernel
theorem dX7_init_7 : decode cX7_init 7 = .ok (.newarray .int, 2) := by decide +kernel
theorem dX7_init_9 : decode cX7_init 9 = .ok (.putfield 9, 3) := by decide +kernel
theorem dX7_init_12 : decode cX7_init 12 = .ok (.aload_n 0, 1) := by decide +kernel
theorem dX7_init_13 : decode cX7_init 13 = .ok (.bipush 16, 2) := by decide +kernel
theorem dX7_init_15 : decode cX7_init 15 = .ok (.newarray .int, 2) := by decide +kernel
theorem dX7_init_17 : decode cX7_init 17 = .ok (.putfield 15, 3) := by decide +kernel
theorem dX7_init_20 : decode cX7_init 20 = .ok (.aload_n 0, 1) := by decide +kernel
theorem dX7_init_21 : decode cX7_init 21 = .ok (.bipush 16, 2) := by decide +kernel
theorem dX7_init_23 : decode cX7_init 23 = .ok (.newarray .int, 2) := by decide +kernel
theorem dX7_init_25 : decode cX7_init 25 = .ok (.putfield 18, 3) := by decide +kernel
theorem dX7_init_28 : decode cX7_init 28 = .ok (.return_, 1) := by decide +kernel
theorem dX7_become_0 : decode cX7_become 0 = .ok (.aload_n 1, 1) := by decide +kernel
theorem dX7_become_1 : decode cX7_become 1 = .ok (.getfield 9, 3) := by decide +kernel
theorem dX7_become_4 : decode cX7_become 4 = .ok (.iconst 0, 1) := by decide +kernel
theorem dX7_become_5 : decode cX7_become 5 = .ok (.aload_n 0, 1) := by decide +kernel
theorem dX7_become_6 : decode cX7_become 6 = .ok (.getfield 9, 3) := by decide +kernel
theorem dX7_become_9 : decode cX7_become 9 = .ok (.iconst 0, 1) := by decide +kernel
theorem dX7_become_10 : decode cX7_become 10 = .ok (.bipush 16, 2) := by decide +kernel
theorem dX7_become_12 : decode cX7_become 12 = .ok (.invokestatic 21, 3) := by decide +kernel
theorem dX7_become_15 : decode cX7_become 15 = .ok (.aload_n 1, 1) := by decide +kernel
theorem dX7_become_16 : decode cX7_become 16 = .ok (.getfield 15, 3) := by decide +kernel
theorem dX7_become_19 : decode cX7_become 19 = .ok (.iconst 0, 1) := by decide +kernel
theorem dX7_become_20 : decode cX7_become 20 = .ok (.aload_n 0, 1) := by decide +kernel
theorem dX7_become_21 : decode cX7_become 21 = .ok (.getfield 15, 3) := by decide +kernel
theorem dX7_become_24 : decode cX7_become 24 = .ok (.iconst 0, 1) := by decide +kernel
theorem dX7_become_25 : decode cX7_become 25 = .ok (.bipush 16, 2) := by decide +kernel
theorem dX7_become_27 : decode cX7_become 27 = .ok (.invokestatic 21, 3) := by decide +kernel
theorem dX7_become_30 : decode cX7_become 30 = .ok (.aload_n 1, 1) := by decide +kernel
theorem dX7_become_31 : decode cX7_become 31 = .ok (.getfield 18, 3) := by decide +kernel
theorem dX7_become_34 : decode cX7_become 34 = .ok (.iconst 0, 1) := by decide +kernel
theorem dX7_become_35 : decode cX7_become 35 = .ok (.aload_n 0, 1) := by decide +kernel
theorem dX7_become_36 : decode cX7_become 36 = .ok (.getfield 18, 3) := by decide +kernel
theorem dX7_become_39 : decode cX7_become 39 = .ok (.iconst 0, 1) := by decide +kernel
theorem dX7_become_40 : decode cX7_become 40 = .ok (.bipush 16, 2) := by decide +kernel
theorem dX7_become_42 : decode cX7_become 42 = .ok (.invokestatic 21, 3) := by decide +kernel
theorem dX7_become_45 : decode cX7_become 45 = .ok (.aload_n 0, 1) := by decide +kernel
theorem dX7_become_46 : decode cX7_become 46 = .ok (.aload_n 1, 1) := by decide +kernel
theorem dX7_become_47 : decode cX7_become 47 = .ok (.getfield 27, 3) := by decide +kernel
theorem dX7_become_50 : decode cX7_become 50 = .ok (.putfield 27, 3) := by decide +kernel
theorem dX7_become_53 : decode cX7_become 53 = .ok (.return_, 1) := by decide +kernel
theorem dX7_readFrom_0 : decode cX7_readFrom 0 = .ok (.aload_n 1, 1) := by decide +kernel
theorem dX7_readFrom_1 : decode cX7_readFrom 1 = .ok (.iconst 0, 1) := by decide +kernel
theorem dX7_readFrom_2 : decode cX7_readFrom 2 = .ok (.putfield 31, 3) := by decide +kernel
theorem dX7_readFrom_5 : decode cX7_readFrom 5 = .ok (.aload_n 0, 1) := by decide +kernel
theorem dX7_readFrom_6 : decode cX7_readFrom 6 = .ok (.iconst 0, 1) := by decide +kernel
theorem dX7_readFrom_7 : decode cX7_readFrom 7 = .ok (.putfield 27, 3) := by decide +kernel
theorem dX7_readFrom_10 : decode cX7_readFrom 10 = .ok (.iconst 0, 1) := by decide +kernel
theorem dX7_readFrom_11 : decode cX7_readFrom 11 = .ok (.istore_n 2, 1) := by decide +kernel
theorem dX7_readFrom_12 : decode cX7_readFrom 12 = .ok (.iload_n 2, 1) := by decide +kernel
theorem dX7_readFrom_13 : decode cX7_readFrom 13 = .ok (.bipush 16, 2) := by decide +kernel
theorem dX7_readFrom_15 : decode cX7_readFrom 15 = .ok (.if_icmp .ge 60, 3) := by decide +kernel
theorem dX7_readFrom_18 : decode cX7_readFrom 18 = .ok (.aload_n 0, 1) := by decide +kernel
theorem dX7_readFrom_19 : decode cX7_readFrom 19 = .ok (.aload_n 1, 1) := by decide +kernel
theorem dX7_readFrom_20 : decode cX7_readFrom 20 = .ok (.iload_n 2, 1) := by decide +kernel
theorem dX7_readFrom_21 : decode cX7_readFrom 21 = .ok (.invokevirtual 36, 3) := by decide +kernel
theorem dX7_readFrom_24 : decode cX7_readFrom 24 = .ok (.ifCond .ne 5, 3) := by decide +kernel
theorem dX7_readFrom_27 : decode cX7_readFrom 27 = .ok (.iconst 0, 1) := by decide +kernel
theorem dX7_readFrom_28 : decode cX7_readFrom 28 = .ok (.ireturn, 1) := by decide +kernel
theorem dX7_readFrom_29 : decode cX7_readFrom 29 = .ok (.aload_n 0, 1) := by decide +kernel
theorem dX7_readFrom_30 : decode cX7_readFrom 30 = .ok (.dup, 1) := by decide +kernel
theorem dX7_readFrom_31 : decode cX7_readFrom 31 = .ok (.getfield 27, 3) := by decide +kernel
theorem dX7_readFrom_34 : decode cX7_readFrom 34 = .ok (.iconst 1, 1) := by decide +kernel
theorem dX7_readFrom_35 : decode cX7_readFrom 35 = .ok (.iadd, 1) := by decide +kernel
theorem dX7_readFrom_36 : decode cX7_readFrom 36 = .ok (.putfield 27, 3) := by decide +kernel
theorem dX7_readFrom_39 : decode cX7_readFrom 39 = .ok (.aload_n 1, 1) := by decide +kernel
theorem dX7_readFrom_40 : decode cX7_readFrom 40 = .ok (.invokevirtual 40, 3) := by decide +kernel
theorem dX7_readFrom_43 : decode cX7_readFrom 43 = .ok (.iconst (-1), 1) := by decide +kernel
theorem dX7_readFrom_44 : decode cX7_readFrom 44 = .ok (.if_icmp .ne 5, 3) := by decide +kernel
theorem dX7_readFrom_47 : decode cX7_readFrom 47 = .ok (.iconst 1, 1) := by decide +kernel
theorem dX7_readFrom_48 : decode cX7_readFrom 48 = .ok (.ireturn, 1) := by decide +kernel
theorem dX7_readFrom_49 : decode cX7_readFrom 49 = .ok (.aload_n 0, 1) := by decide +kernel
theorem dX7_readFrom_50 : decode cX7_readFrom 50 = .ok (.getfield 27, 3) := by decide +kernel
theorem dX7_readFrom_53 : decode cX7_readFrom 53 = .ok (.bipush 16, 2) := by decide +kernel
theorem dX7_readFrom_55 : decode cX7_readFrom 55 = .ok (.if_icmp .eq 12, 3) := by decide +kernel
theorem dX7_readFrom_58 : decode cX7_readFrom 58 = .ok (.aload_n 1, 1) := by decide +kernel
theorem dX7_readFrom_59 : decode cX7_readFrom 59 = .ok (.bipush 59, 2) := by decide +kernel
theorem dX7_readFrom_61 : decode cX7_readFrom 61 = .ok (.invokevirtual 44, 3) := by decide +kernel
theorem dX7_readFrom_64 : decode cX7_readFrom 64 = .ok (.ifCond .ne 5, 3) := by decide +kernel
theorem dX7_readFrom_67 : decode cX7_readFrom 67 = .ok (.iconst 0, 1) := by decide +kernel
theorem dX7_readFrom_68 : decode cX7_readFrom 68 = .ok (.ireturn, 1) := by decide +kernel
theorem dX7_readFrom_69 : decode cX7_readFrom 69 = .ok (.iinc 2 1, 3) := by decide +kernel
theorem dX7_readFrom_72 : decode cX7_readFrom 72 = .ok (.goto (-60), 3) := by decide +kernel
theorem dX7_readFrom_75 : decode cX7_readFrom 75 = .ok (.iconst 0, 1) := by decide +kernel
theorem dX7_readFrom_76 : decode cX7_readFrom 76 = .ok (.ireturn, 1) := by decide +kernel
theorem dX7_readStep_0 : decode cX7_readStep 0 = .ok (.aload_n 1, 1) := by decide +kernel
theorem dX7_readStep_1 : decode cX7_readStep 1 = .ok (.invokevirtual 40, 3) := by decide +kernel
theorem dX7_readStep_4 : decode cX7_readStep 4 = .ok (.istore_n 3, 1) := by decide +kernel
theorem dX7_readStep_5 : decode cX7_readStep 5 = .ok (.iload_n 3, 1) := by decide +kernel
theorem dX7_readStep_6 : decode cX7_readStep 6 = .ok (.iconst (-1), 1) := by decide +kernel
theorem dX7_readStep_7 : decode cX7_readStep 7 = .ok (.if_icmp .ne 7, 3) := by decide +kernel
theorem dX7_readStep_10 : decode cX7_readStep 10 = .ok (.iconst (-1), 1) := by decide +kernel
theorem dX7_readStep_11 : decode cX7_readStep 11 = .ok (.goto 10, 3) := by decide +kernel
theorem dX7_readStep_14 : decode cX7_readStep 14 = .ok (.ldc 48, 2) := by decide +kernel
theorem dX7_readStep_16 : decode cX7_readStep 16 = .ok (.iload_n 3, 1) := by decide +kernel
theorem dX7_readStep_17 : decode cX7_readStep 17 = .ok (.i2c, 1) := by decide +kernel
theorem dX7_readStep_18 : decode cX7_readStep 18 = .ok (.invokevirtual 50, 3) := by decide +kernel
theorem dX7_readStep_21 : decode cX7_readStep 21 = .ok (.istore 4, 2) := by decide +kernel
theorem dX7_readStep_23 : decode cX7_readStep 23 = .ok (.iload 4, 2) := by decide +kernel
theorem dX7_readStep_25 : decode cX7_readStep 25 = .ok (.ifCond .ge 5, 3) := by decide +kernel
theorem dX7_readStep_28 : decode cX7_readStep 28 = .ok (.iconst 0, 1) := by decide +kernel
theorem dX7_readStep_29 : decode cX7_readStep 29 = .ok (.ireturn, 1) := by decide +kernel
theorem dX7_readStep_30 : decode cX7_readStep 30 = .ok (.aload_n 1, 1) := by decide +kernel
theorem dX7_readStep_31 : decode cX7_readStep 31 = .ok (.dup, 1) := by decide +kernel
theorem dX7_readStep_32 : decode cX7_readStep 32 = .ok (.getfield 31, 3) := by decide +kernel
theorem dX7_readStep_35 : decode cX7_readStep 35 = .ok (.iconst 1, 1) := by decide +kernel
theorem dX7_readStep_36 : decode cX7_readStep 36 = .ok (.iadd, 1) := by decide +kernel
theorem dX7_readStep_37 : decode cX7_readStep 37 = .ok (.putfield 31, 3) := by decide +kernel
theorem dX7_readStep_40 : decode cX7_readStep 40 = .ok (.aload_n 0, 1) := by decide +kernel
theorem dX7_readStep_41 : decode cX7_readStep 41 = .ok (.getfield 9, 3) := by decide +kernel
theorem dX7_readStep_44 : decode cX7_readStep 44 = .ok (.iload_n 2, 1) := by decide +kernel
theorem dX7_readStep_45 : decode cX7_readStep 45 = .ok (.iload 4, 2) := by decide +kernel
theorem dX7_readStep_47 : decode cX7_readStep 47 = .ok (.iastore, 1) := by decide +kernel
theorem dX7_readStep_48 : decode cX7_readStep 48 = .ok (.aload_n 0, 1) := by decide +kernel
theorem dX7_readStep_49 : decode cX7_readStep 49 = .ok (.getfield 15, 3) := by decide +kernel
theorem dX7_readStep_52 : decode cX7_readStep 52 = .ok (.iload_n 2, 1) := by decide +kernel
theorem dX7_readStep_53 : decode cX7_readStep 53 = .ok (.aload_n 1, 1) := by decide +kernel
theorem dX7_readStep_54 : decode cX7_readStep 54 = .ok (.invokevirtual 56, 3) := by decide +kernel
theorem dX7_readStep_57 : decode cX7_readStep 57 = .ok (.iastore, 1) := by decide +kernel
theorem dX7_readStep_58 : decode cX7_readStep 58 = .ok (.aload_n 0, 1) := by decide +kernel
theorem dX7_readStep_59 : decode cX7_readStep 59 = .ok (.getfield 18, 3) := by decide +kernel
theorem dX7_readStep_62 : decode cX7_readStep 62 = .ok (.iload_n 2, 1) := by decide +kernel
theorem dX7_readStep_63 : decode cX7_readStep 63 = .ok (.iconst (-1), 1) := by decide +kernel
theorem dX7_readStep_64 : decode cX7_readStep 64 = .ok (.iastore, 1) := by decide +kernel
theorem dX7_readStep_65 : decode cX7_readStep 65 = .ok (.aload_n 0, 1) := by decide +kernel
theorem dX7_readStep_66 : decode cX7_readStep 66 = .ok (.getfield 15, 3) := by decide +kernel
theorem dX7_readStep_69 : decode cX7_readStep 69 = .ok (.iload_n 2, 1) := by decide +kernel
theorem dX7_readStep_70 : decode cX7_readStep 70 = .ok (.iaload, 1) := by decide +kernel
theorem dX7_readStep_71 : decode cX7_readStep 71 = .ok (.iconst (-1), 1) := by decide +kernel
theorem dX7_readStep_72 : decode cX7_readStep 72 = .ok (.if_icmp .eq 9, 3) := by decide +kernel
theorem dX7_readStep_75 : decode cX7_readStep 75 = .ok (.iload 4, 2) := by decide +kernel
theorem dX7_readStep_77 : decode cX7_readStep 77 = .ok (.iconst 3, 1) := by decide +kernel
theorem dX7_readStep_78 : decode cX7_readStep 78 = .ok (.if_icmp .eq 19, 3) := by decide +kernel
theorem dX7_readStep_81 : decode cX7_readStep 81 = .ok (.aload_n 0, 1) := by decide +kernel
theorem dX7_readStep_82 : decode cX7_readStep 82 = .ok (.getfield 15, 3) := by decide +kernel
theorem dX7_readStep_85 : decode cX7_readStep 85 = .ok (.iload_n 2, 1) := by decide +kernel
theorem dX7_readStep_86 : decode cX7_readStep 86 = .ok (.iaload, 1) := by decide +kernel
theorem dX7_readStep_87 : decode cX7_readStep 87 = .ok (.iconst (-1), 1) := by decide +kernel
theorem dX7_readStep_88 : decode cX7_readStep 88 = .ok (.if_icmp .eq 7, 3) := by decide +kernel
theorem dX7_readStep_91 : decode cX7_readStep 91 = .ok (.iconst 1, 1) := by decide +kernel
theorem dX7_readStep_92 : decode cX7_readStep 92 = .ok (.goto 4, 3) := by decide +kernel
theorem dX7_readStep_95 : decode cX7_readStep 95 = .ok (.iconst 0, 1) := by decide +kernel
theorem dX7_readStep_96 : decode cX7_readStep 96 = .ok (.ireturn, 1) := by decide +kernel
theorem dX7_readStep_97 : decode cX7_readStep 97 = .ok (.aload_n 0, 1) := by decide +kernel
theorem dX7_readStep_98 : decode cX7_readStep 98 = .ok (.getfield 18, 3) := by decide +kernel
theorem dX7_readStep_101 : decode cX7_readStep 101 = .ok (.iload_n 2, 1) := by decide +kernel
theorem dX7_readStep_102 : decode cX7_readStep 102 = .ok (.aload_n 1, 1) := by decide +kernel
theorem dX7_readStep_103 : decode cX7_readStep 103 = .ok (.invokevirtual 56, 3) := by decide +kernel
theorem dX7_readStep_106 : decode cX7_readStep 106 = .ok (.iastore, 1) := by decide +kernel
theorem dX7_readStep_107 : decode cX7_readStep 107 = .ok (.aload_n 0, 1) := by decide +kernel
theorem dX7_readStep_108 : decode cX7_readStep 108 = .ok (.getfield 18, 3) := by decide +kernel
theorem dX7_readStep_111 : decode cX7_readStep 111 = .ok (.iload_n 2, 1) := by decide +kernel
theorem dX7_readStep_112 : decode cX7_readStep 112 = .ok (.iaload, 1) := by decide +kernel
theorem dX7_readStep_113 : decode cX7_readStep 113 = .ok (.iconst (-1), 1) := by decide +kernel
theorem dX7_readStep_114 : decode cX7_readStep 114 = .ok (.if_icmp .eq 7, 3) := by decide +kernel
theorem dX7_readStep_117 : decode cX7_readStep 117 = .ok (.iconst 1, 1) := by decide +kernel
theorem dX7_readStep_118 : decode cX7_readStep 118 = .ok (.goto 4, 3) := by decide +kernel
theorem dX7_readStep_121 : decode cX7_readStep 121 = .ok (.iconst 0, 1) := by decide +kernel
theorem dX7_readStep_122 : decode cX7_readStep 122 = .ok (.ireturn, 1) := by decide +kernel
theorem dX7_partOfStep_0 : decode cX7_partOfStep 0 = .ok (.iload_n 2, 1) := by decide +kernel
theorem dX7_partOfStep_1 : decode cX7_partOfStep 1 = .ok (.lookupswitch 41 #[(0, 27), (1, 34)], 27) := by decide +kernel
theorem dX7_partOfStep_28 : decode cX7_partOfStep 28 = .ok (.aload_n 0, 1) := by decide +kernel
theorem dX7_partOfStep_29 : decode cX7_partOfStep 29 = .ok (.getfield 9, 3) := by decide +kernel
theorem dX7_partOfStep_32 : decode cX7_partOfStep 32 = .ok (.iload_n 1, 1) := by decide +kernel
theorem dX7_partOfStep_33 : decode cX7_partOfStep 33 = .ok (.iaload, 1) := by decide +kernel
theorem dX7_partOfStep_34 : decode cX7_partOfStep 34 = .ok (.ireturn, 1) := by decide +kernel
theorem dX7_partOfStep_35 : decode cX7_partOfStep 35 = .ok (.aload_n 0, 1) := by decide +kernel
theorem dX7_partOfStep_36 : decode cX7_partOfStep 36 = .ok (.getfield 15, 3) := by decide +kernel
theorem dX7_partOfStep_39 : decode cX7_partOfStep 39 = .ok (.iload_n 1, 1) := by decide +kernel
theorem dX7_partOfStep_40 : decode cX7_partOfStep 40 = .ok (.iaload, 1) := by decide +kernel
theorem dX7_partOfStep_41 : decode cX7_partOfStep 41 = .ok (.ireturn, 1) := by decide +kernel
theorem dX7_partOfStep_42 : decode cX7_partOfStep 42 = .ok (.aload_n 0, 1) := by decide +kernel
theorem dX7_partOfStep_43 : decode cX7_partOfStep 43 = .ok (.getfield 18, 3) := by decide +kernel
theorem dX7_partOfStep_46 : decode cX7_partOfStep 46 = .ok (.iload_n 1, 1) := by decide +kernel
theorem dX7_partOfStep_47 : decode cX7_partOfStep 47 = .ok (.iaload, 1) := by decide +kernel
theorem dX7_partOfStep_48 : decode cX7_partOfStep 48 = .ok (.ireturn, 1) := by decide +kernel
theorem dX8_init_0 : decode cX8_init 0 = .ok (.aload_n 0, 1) := by decide +kernel
theorem dX8_init_1 : decode cX8_init 1 = .ok (.invokespecial 3, 3) := by decide +kernel
theorem dX8_init_4 : decode cX8_init 4 = .ok (.aload_n 0, 1) := by decide +kernel
theorem dX8_init_5 : decode cX8_init 5 = .ok (.sipush 240, 3) := by decide +kernel
theorem dX8_init_8 : decode cX8_init 8 = .ok (.newarray .int, 2) := by decide +kernel
theorem dX8_init_10 : decode cX8_init 10 = .ok (.putfield 9, 3) := by decide +kernel
theorem dX8_init_13 : decode cX8_init 13 = .ok (.return_, 1) := by decide +kernel
theorem dX8_filledBytes_0 : decode cX8_filledBytes 0 = .ok (.iconst 0, 1) := by decide +kernel
theorem dX8_filledBytes_1 : decode cX8_filledBytes 1 = .ok (.istore_n 1, 1) := by decide +kernel
theorem dX8_filledBytes_2 : decode cX8_filledBytes 2 = .ok (.iconst 0, 1) := by decide +kernel
theorem dX8_filledBytes_3 : decode cX8_filledBytes 3 = .ok (.istore_n 2, 1) := by decide +kernel
theorem dX8_filledBytes_4 : decode cX8_filledBytes 4 = .ok (.iload_n 2, 1) := by decide +kernel
theorem dX8_filledBytes_5 : decode cX8_filledBytes 5 = .ok (.bipush 32, 2) := by decide +kernel
theorem dX8_filledBytes_7 : decode cX8_filledBytes 7 = .ok (.if_icmp .ge 22, 3) := by decide +kernel
theorem dX8_filledBytes_10 : decode cX8_filledBytes 10 = .ok (.iload_n 0, 1) := by decide +kernel
theorem dX8_filledBytes_11 : decode cX8_filledBytes 11 = .ok (.iload_n 2, 1) := by decide +kernel
theorem dX8_filledBytes_12 : decode cX8_filledBytes 12 = .ok (.iushr, 1) := by decide +kernel
theorem dX8_filledBytes_13 : decode cX8_filledBytes 13 = .ok (.sipush 255, 3) := by decide +kernel
theorem dX8_filledBytes_16 : decode cX8_filledBytes 16 = .ok (.iand, 1) := by decide +kernel
theorem dX8_filledBytes_17 : decode cX8_filledBytes 17 = .ok (.ifCond .eq 6, 3) := by decide +kernel
theorem dX8_filledBytes_20 : decode cX8_filledBytes 20 = .ok (.iinc 1 1, 3) := by decide +kernel
theorem dX8_filledBytes_23 : decode cX8_filledBytes 23 = .ok (.iinc 2 8, 3) := by decide +kernel
theorem dX8_filledBytes_26 : decode cX8_filledBytes 26 = .ok (.goto (-22), 3) := by decide +kernel
theorem dX8_filledBytes_29 : decode cX8_filledBytes 29 = .ok (.iload_n 1, 1) := by decide +kernel
theorem dX8_filledBytes_30 : decode cX8_filledBytes 30 = .ok (.ireturn, 1) := by decide +kernel
theorem dX8_put_0 : decode cX8_put 0 = .ok (.bipush 24, 2) := by decide +kernel
theorem dX8_put_2 : decode cX8_put 2 = .ok (.istore_n 2, 1) := by decide +kernel
theorem dX8_put_3 : decode cX8_put 3 = .ok (.iload_n 2, 1) := by decide +kernel
theorem dX8_put_4 : decode cX8_put 4 = .ok (.ifCond .lt 53, 3) := by decide +kernel
theorem dX8_put_7 : decode cX8_put 7 = .ok (.iload_n 1, 1) := by decide +kernel
theorem dX8_put_8 : decode cX8_put 8 = .ok (.iload_n 2, 1) := by decide +kernel
theorem dX8_put_9 : decode cX8_put 9 = .ok (.iushr, 1) := by decide +kernel
theorem dX8_put_10 : decode cX8_put 10 = .ok (.sipush 255, 3) := by decide +kernel
theorem dX8_put_13 : decode cX8_put 13 = .ok (.iand, 1) := by decide +kernel
theorem dX8_put_14 : decode cX8_put 14 = .ok (.istore_n 3, 1) := by decide +kernel
theorem dX8_put_15 : decode cX8_put 15 = .ok (.iload_n 3, 1) := by decide +kernel
theorem dX8_put_16 : decode cX8_put 16 = .ok (.ifCond .eq 35, 3) := by decide +kernel
theorem dX8_put_19 : decode cX8_put 19 = .ok (.aload_n 0, 1) := by decide +kernel
theorem dX8_put_20 : decode cX8_put 20 = .ok (.getfield 15, 3) := by decide +kernel
theorem dX8_put_23 : decode cX8_put 23 = .ok (.aload_n 0, 1) := by decide +kernel
theorem dX8_put_24 : decode cX8_put 24 = .ok (.getfield 9, 3) := by decide +kernel
theorem dX8_put_27 : decode cX8_put 27 = .ok (.arraylength, 1) := by decide +kernel
theorem dX8_put_28 : decode cX8_put 28 = .ok (.if_icmp .ge 23, 3) := by decide +kernel
theorem dX8_put_31 : decode cX8_put 31 = .ok (.aload_n 0, 1) := by decide +kernel
theorem dX8_put_32 : decode cX8_put 32 = .ok (.getfield 9, 3) := by decide +kernel
theorem dX8_put_35 : decode cX8_put 35 = .ok (.aload_n 0, 1) := by decide +kernel
theorem dX8_put_36 : decode cX8_put 36 = .ok (.getfield 15, 3) := by decide +kernel
theorem dX8_put_39 : decode cX8_put 39 = .ok (.iload_n 3, 1) := by decide +kernel
theorem dX8_put_40 : decode cX8_put 40 = .ok (.iastore, 1) := by decide +kernel
theorem dX8_put_41 : decode cX8_put 41 = .ok (.aload_n 0, 1) := by decide +kernel
theorem dX8_put_42 : decode cX8_put 42 = .ok (.dup, 1) := by decide +kernel
theorem dX8_put_43 : decode cX8_put 43 = .ok (.getfield 15, 3) := by decide +kernel
theorem dX8_put_46 : decode cX8_put 46 = .ok (.iconst 1, 1) := by decide +kernel
theorem dX8_put_47 : decode cX8_put 47 = .ok (.iadd, 1) := by decide +kernel
theorem dX8_put_48 : decode cX8_put 48 = .ok (.putfield 15, 3) := by decide +kernel
theorem dX8_put_51 : decode cX8_put 51 = .ok (.iinc 2 (-8), 3) := by decide +kernel
theorem dX8_put_54 : decode cX8_put 54 = .ok (.goto (-51), 3) := by decide +kernel
theorem dX8_put_57 : decode cX8_put 57 = .ok (.return_, 1) := by decide +kernel
theorem dX8_look_0 : decode cX8_look 0 = .ok (.aload_n 0, 1) := by decide +kernel
theorem dX8_look_1 : decode cX8_look 1 = .ok (.getfield 19, 3) := by decide +kernel
theorem dX8_look_4 : decode cX8_look 4 = .ok (.aload_n 0, 1) := by decide +kernel
theorem dX8_look_5 : decode cX8_look 5 = .ok (.getfield 15, 3) := by decide +kernel
theorem dX8_look_8 : decode cX8_look 8 = .ok (.if_icmp .ge 30, 3) := by decide +kernel
theorem dX8_look_11 : decode cX8_look 11 = .ok (.aload_n 0, 1) := by decide +kernel
theorem dX8_look_12 : decode cX8_look 12 = .ok (.getfield 9, 3) := by decide +kernel
theorem dX8_look_15 : decode cX8_look 15 = .ok (.aload_n 0, 1) := by decide +kernel
theorem dX8_look_16 : decode cX8_look 16 = .ok (.getfield 19, 3) := by decide +kernel
theorem dX8_look_19 : decode cX8_look 19 = .ok (.iaload, 1) := by decide +kernel
theorem dX8_look_20 : decode cX8_look 20 = .ok (.bipush 32, 2) := by decide +kernel
theorem dX8_look_22 : decode cX8_look 22 = .ok (.if_icmp .ne 16, 3) := by decide +kernel
theorem dX8_look_25 : decode cX8_look 25 = .ok (.aload_n 0, 1) := by decide +kernel
theorem dX8_look_26 : decode cX8_look 26 = .ok (.dup, 1) := by decide +kernel
theorem dX8_look_27 : decode cX8_look 27 = .ok (.getfield 19, 3) := by decide +kernel
theorem dX8_look_30 : decode cX8_look 30 = .ok (.iconst 1, 1) := by decide +kernel
theorem dX8_look_31 : decode cX8_look 31 = .ok (.iadd, 1) := by decide +kernel
theorem dX8_look_32 : decode cX8_look 32 = .ok (.putfield 19, 3) := by decide +kernel
theorem dX8_look_35 : decode cX8_look 35 = .ok (.goto (-35), 3) := by decide +kernel
theorem dX8_look_38 : decode cX8_look 38 = .ok (.aload_n 0, 1) := by decide +kernel
theorem dX8_look_39 : decode cX8_look 39 = .ok (.getfield 19, 3) := by decide +kernel
theorem dX8_look_42 : decode cX8_look 42 = .ok (.aload_n 0, 1) := by decide +kernel
theorem dX8_look_43 : decode cX8_look 43 = .ok (.getfield 15, 3) := by decide +kernel
theorem dX8_look_46 : decode cX8_look 46 = .ok (.if_icmp .ge 15, 3) := by decide +kernel
theorem dX8_look_49 : decode cX8_look 49 = .ok (.aload_n 0, 1) := by decide +kernel
theorem dX8_look_50 : decode cX8_look 50 = .ok (.getfield 9, 3) := by decide +kernel
theorem dX8_look_53 : decode cX8_look 53 = .ok (.aload_n 0, 1) := by decide +kernel
theorem dX8_look_54 : decode cX8_look 54 = .ok (.getfield 19, 3) := by decide +kernel
theorem dX8_look_57 : decode cX8_look 57 = .ok (.iaload, 1) := by decide +kernel
theorem dX8_look_58 : decode cX8_look 58 = .ok (.goto 4, 3) := by decide +kernel
theorem dX8_look_61 : decode cX8_look 61 = .ok (.iconst (-1), 1) := by decide +kernel
theorem dX8_look_62 : decode cX8_look 62 = .ok (.ireturn, 1) := by decide +kernel
theorem dX8_take_0 : decode cX8_take 0 = .ok (.aload_n 0, 1) := by decide +kernel
theorem dX8_take_1 : decode cX8_take 1 = .ok (.invokevirtual 22, 3) := by decide +kernel
theorem dX8_take_4 : decode cX8_take 4 = .ok (.iload_n 1, 1) := by decide +kernel
theorem dX8_take_5 : decode cX8_take 5 = .ok (.if_icmp .eq 5, 3) := by decide +kernel
theorem dX8_take_8 : decode cX8_take 8 = .ok (.iconst 0, 1) := by decide +kernel
theorem dX8_take_9 : decode cX8_take 9 = .ok (.ireturn, 1) := by decide +kernel
theorem dX8_take_10 : decode cX8_take 10 = .ok (.aload_n 0, 1) := by decide +kernel
theorem dX8_take_11 : decode cX8_take 11 = .ok (.dup, 1) := by decide +kernel
theorem dX8_take_12 : decode cX8_take 12 = .ok (.getfield 19, 3) := by decide +kernel
theorem dX8_take_15 : decode cX8_take 15 = .ok (.iconst 1, 1) := by decide +kernel
theorem dX8_take_16 : decode cX8_take 16 = .ok (.iadd, 1) := by decide +kernel
theorem dX8_take_17 : decode cX8_take 17 = .ok (.putfield 19, 3) := by decide +kernel
theorem dX8_take_20 : decode cX8_take 20 = .ok (.iconst 1, 1) := by decide +kernel
theorem dX8_take_21 : decode cX8_take 21 = .ok (.ireturn, 1) := by decide +kernel
theorem dX8_isOnDigit_0 : decode cX8_isOnDigit 0 = .ok (.aload_n 0, 1) := by decide +kernel
theorem dX8_isOnDigit_1 : decode cX8_isOnDigit 1 = .ok (.getfield 19, 3) := by decide +kernel
theorem dX8_isOnDigit_4 : decode cX8_isOnDigit 4 = .ok (.aload_n 0, 1) := by decide +kernel
theorem dX8_isOnDigit_5 : decode cX8_isOnDigit 5 = .ok (.getfield 15, 3) := by decide +kernel
theorem dX8_isOnDigit_8 : decode cX8_isOnDigit 8 = .ok (.if_icmp .ge 35, 3) := by decide +kernel
theorem dX8_isOnDigit_11 : decode cX8_isOnDigit 11 = .ok (.aload_n 0, 1) := by decide +kernel
theorem dX8_isOnDigit_12 : decode cX8_isOnDigit 12 = .ok (.getfield 9, 3) := by decide +kernel
theorem dX8_isOnDigit_15 : decode cX8_isOnDigit 15 = .ok (.aload_n 0, 1) := by decide +kernel
theorem dX8_isOnDigit_16 : decode cX8_isOnDigit 16 = .ok (.getfield 19, 3) := by decide +kernel
theorem dX8_isOnDigit_19 : decode cX8_isOnDigit 19 = .ok (.iaload, 1) := by decide +kernel
theorem dX8_isOnDigit_20 : decode cX8_isOnDigit 20 = .ok (.bipush 48, 2) := by decide +kernel
theorem dX8_isOnDigit_22 : decode cX8_isOnDigit 22 = .ok (.if_icmp .lt 21, 3) := by decide +kernel
theorem dX8_isOnDigit_25 : decode cX8_isOnDigit 25 = .ok (.aload_n 0, 1) := by decide +kernel
theorem dX8_isOnDigit_26 : decode cX8_isOnDigit 26 = .ok (.getfield 9, 3) := by decide +kernel
theorem dX8_isOnDigit_29 : decode cX8_isOnDigit 29 = .ok (.aload_n 0, 1) := by decide +kernel
theorem dX8_isOnDigit_30 : decode cX8_isOnDigit 30 = .ok (.getfield 19, 3) := by decide +kernel
theorem dX8_isOnDigit_33 : decode cX8_isOnDigit 33 = .ok (.iaload, 1) := by decide +kernel
theorem dX8_isOnDigit_34 : decode cX8_isOnDigit 34 = .ok (.bipush 57, 2) := by decide +kernel
theorem dX8_isOnDigit_36 : decode cX8_isOnDigit 36 = .ok (.if_icmp .gt 7, 3) := by decide +kernel
theorem dX8_isOnDigit_39 : decode cX8_isOnDigit 39 = .ok (.iconst 1, 1) := by decide +kernel
theorem dX8_isOnDigit_40 : decode cX8_isOnDigit 40 = .ok (.goto 4, 3) := by decide +kernel
theorem dX8_isOnDigit_43 : decode cX8_isOnDigit 43 = .ok (.iconst 0, 1) := by decide +kernel
theorem dX8_isOnDigit_44 : decode cX8_isOnDigit 44 = .ok (.ireturn, 1) := by decide +kernel
theorem dX8_takeNumber_0 : decode cX8_takeNumber 0 = .ok (.aload_n 0, 1) := by decide +kernel
theorem dX8_takeNumber_1 : decode cX8_takeNumber 1 = .ok (.invokevirtual 22, 3) := by decide +kernel
theorem dX8_takeNumber_4 : decode cX8_takeNumber 4 = .ok (.pop, 1) := by decide +kernel
theorem dX8_takeNumber_5 : decode cX8_takeNumber 5 = .ok (.aload_n 0, 1) := by decide +kernel
theorem dX8_takeNumber_6 : decode cX8_takeNumber 6 = .ok (.invokevirtual 26, 3) := by decide +kernel
theorem dX8_takeNumber_9 : decode cX8_takeNumber 9 = .ok (.ifCond .ne 5, 3) := by decide +kernel
theorem dX8_takeNumber_12 : decode cX8_takeNumber 12 = .ok (.iconst (-1), 1) := by decide +kernel
theorem dX8_takeNumber_13 : decode cX8_takeNumber 13 = .ok (.ireturn, 1) := by decide +kernel
theorem dX8_takeNumber_14 : decode cX8_takeNumber 14 = .ok (.iconst 0, 1) := by decide +kernel
theorem dX8_takeNumber_15 : decode cX8_takeNumber 15 = .ok (.istore_n 2, 1) := by decide +kernel
theorem dX8_takeNumber_16 : decode cX8_takeNumber 16 = .ok (.iconst 0, 1) := by decide +kernel
theorem dX8_takeNumber_17 : decode cX8_takeNumber 17 = .ok (.istore_n 3, 1) := by decide +kernel
theorem dX8_takeNumber_18 : decode cX8_takeNumber 18 = .ok (.iload_n 3, 1) := by decide +kernel
theorem dX8_takeNumber_19 : decode cX8_takeNumber 19 = .ok (.iload_n 1, 1) := by decide +kernel
theorem dX8_takeNumber_20 : decode cX8_takeNumber 20 = .ok (.if_icmp .gt 51, 3) := by decide +kernel
theorem dX8_takeNumber_23 : decode cX8_takeNumber 23 = .ok (.aload_n 0, 1) := by decide +kernel
theorem dX8_takeNumber_24 : decode cX8_takeNumber 24 = .ok (.invokevirtual 26, 3) := by decide +kernel
theorem dX8_takeNumber_27 : decode cX8_takeNumber 27 = .ok (.ifCond .eq 44, 3) := by decide +kernel
theorem dX8_takeNumber_30 : decode cX8_takeNumber 30 = .ok (.iload_n 3, 1) := by decide +kernel
theorem dX8_takeNumber_31 : decode cX8_takeNumber 31 = .ok (.iload_n 1, 1) := by decide +kernel
theorem dX8_takeNumber_32 : decode cX8_takeNumber 32 = .ok (.if_icmp .ne 5, 3) := by decide +kernel
theorem dX8_takeNumber_35 : decode cX8_takeNumber 35 = .ok (.iconst (-1), 1) := by decide +kernel
theorem dX8_takeNumber_36 : decode cX8_takeNumber 36 = .ok (.ireturn, 1) := by decide +kernel
theorem dX8_takeNumber_37 : decode cX8_takeNumber 37 = .ok (.iload_n 2, 1) := by decide +kernel
theorem dX8_takeNumber_38 : decode cX8_takeNumber 38 = .ok (.bipush 10, 2) := by decide +kernel
theorem dX8_takeNumber_40 : decode cX8_takeNumber 40 = .ok (.imul, 1) := by decide +kernel
theorem dX8_takeNumber_41 : decode cX8_takeNumber 41 = .ok (.aload_n 0, 1) := by decide +kernel
theorem dX8_takeNumber_42 : decode cX8_takeNumber 42 = .ok (.getfield 9, 3) := by decide +kernel
theorem dX8_takeNumber_45 : decode cX8_takeNumber 45 = .ok (.aload_n 0, 1) := by decide +kernel
theorem dX8_takeNumber_46 : decode cX8_takeNumber 46 = .ok (.getfield 19, 3) := by decide +kernel
theorem dX8_takeNumber_49 : decode cX8_takeNumber 49 = .ok (.iaload, 1) := by decide +kernel
theorem dX8_takeNumber_50 : decode cX8_takeNumber 50 = .ok (.iadd, 1) := by decide +kernel
theorem dX8_takeNumber_51 : decode cX8_takeNumber 51 = .ok (.bipush 48, 2) := by decide +kernel
theorem dX8_takeNumber_53 : decode cX8_takeNumber 53 = .ok (.isub, 1) := by decide +kernel
theorem dX8_takeNumber_54 : decode cX8_takeNumber 54 = .ok (.istore_n 2, 1) := by decide +kernel
theorem dX8_takeNumber_55 : decode cX8_takeNumber 55 = .ok (.aload_n 0, 1) := by decide +kernel
theorem dX8_takeNumber_56 : decode cX8_takeNumber 56 = .ok (.dup, 1) := by decide +kernel
theorem dX8_takeNumber_57 : decode cX8_takeNumber 57 = .ok (.getfield 19, 3) := by decide +kernel
theorem dX8_takeNumber_60 : decode cX8_takeNumber 60 = .ok (.iconst 1, 1) := by decide +kernel
theorem dX8_takeNumber_61 : decode cX8_takeNumber 61 = .ok (.iadd, 1) := by decide +kernel
theorem dX8_takeNumber_62 : decode cX8_takeNumber 62 = .ok (.putfield 19, 3) := by decide +kernel
theorem dX8_takeNumber_65 : decode cX8_takeNumber 65 = .ok (.iinc 3 1, 3) := by decide +kernel
theorem dX8_takeNumber_68 : decode cX8_takeNumber 68 = .ok (.goto (-50), 3) := by decide +kernel
theorem dX8_takeNumber_71 : decode cX8_takeNumber 71 = .ok (.iload_n 2, 1) := by decide +kernel
theorem dX8_takeNumber_72 : decode cX8_takeNumber 72 = .ok (.ireturn, 1) := by decide +kernel
theorem dX8_takeDigit_0 : decode cX8_takeDigit 0 = .ok (.aload_n 0, 1) := by decide +kernel
theorem dX8_takeDigit_1 : decode cX8_takeDigit 1 = .ok (.invokevirtual 22, 3) := by decide +kernel
theorem dX8_takeDigit_4 : decode cX8_takeDigit 4 = .ok (.pop, 1) := by decide +kernel
theorem dX8_takeDigit_5 : decode cX8_takeDigit 5 = .ok (.aload_n 0, 1) := by decide +kernel
theorem dX8_takeDigit_6 : decode cX8_takeDigit 6 = .ok (.invokevirtual 26, 3) := by decide +kernel
theorem dX8_takeDigit_9 : decode cX8_takeDigit 9 = .ok (.ifCond .ne 5, 3) := by decide +kernel
theorem dX8_takeDigit_12 : decode cX8_takeDigit 12 = .ok (.iconst (-1), 1) := by decide +kernel
theorem dX8_takeDigit_13 : decode cX8_takeDigit 13 = .ok (.ireturn, 1) := by decide +kernel
theorem dX8_takeDigit_14 : decode cX8_takeDigit 14 = .ok (.aload_n 0, 1) := by decide +kernel
theorem dX8_takeDigit_15 : decode cX8_takeDigit 15 = .ok (.dup, 1) := by decide +kernel
theorem dX8_takeDigit_16 : decode cX8_takeDigit 16 = .ok (.getfield 19, 3) := by decide +kernel
theorem dX8_takeDigit_19 : decode cX8_takeDigit 19 = .ok (.iconst 1, 1) := by decide +kernel
theorem dX8_takeDigit_20 : decode cX8_takeDigit 20 = .ok (.iadd, 1) := by decide +kernel
theorem dX8_takeDigit_21 : decode cX8_takeDigit 21 = .ok (.putfield 19, 3) := by decide +kernel
theorem dX8_takeDigit_24 : decode cX8_takeDigit 24 = .ok (.aload_n 0, 1) := by decide +kernel
theorem dX8_takeDigit_25 : decode cX8_takeDigit 25 = .ok (.getfield 9, 3) := by decide +kernel
theorem dX8_takeDigit_28 : decode cX8_takeDigit 28 = .ok (.aload_n 0, 1) := by decide +kernel
theorem dX8_takeDigit_29 : decode cX8_takeDigit 29 = .ok (.getfield 19, 3) := by decide +kernel
theorem dX8_takeDigit_32 : decode cX8_takeDigit 32 = .ok (.iconst 1, 1) := by decide +kernel
theorem dX8_takeDigit_33 : decode cX8_takeDigit 33 = .ok (.isub, 1) := by decide +kernel
theorem dX8_takeDigit_34 : decode cX8_takeDigit 34 = .ok (.iaload, 1) := by decide +kernel
theorem dX8_takeDigit_35 : decode cX8_takeDigit 35 = .ok (.bipush 48, 2) := by decide +kernel
theorem dX8_takeDigit_37 : decode cX8_takeDigit 37 = .ok (.isub, 1) := by decide +kernel
theorem dX8_takeDigit_38 : decode cX8_takeDigit 38 = .ok (.ireturn, 1) := by decide +kernel
theorem dX9_init_0 : decode cX9_init 0 = .ok (.aload_n 0, 1) := by decide +kernel
theorem dX9_init_1 : decode cX9_init 1 = .ok (.invokespecial 3, 3) := by decide +kernel
theorem dX9_init_4 : decode cX9_init 4 = .ok (.aload_n 0, 1) := by decide +kernel
theorem dX9_init_5 : decode cX9_init 5 = .ok (.ldc 9, 2) := by decide +kernel
theorem dX9_init_7 : decode cX9_init 7 = .ok (.invokevirtual 11, 3) := by decide +kernel
theorem dX9_init_10 : decode cX9_init 10 = .ok (.newarray .int, 2) := by decide +kernel
theorem dX9_init_12 : decode cX9_init 12 = .ok (.putfield 17, 3) := by decide +kernel
theorem dX9_init_15 : decode cX9_init 15 = .ok (.aload_n 0, 1) := by decide +kernel
theorem dX9_init_16 : decode cX9_init 16 = .ok (.bipush 7, 2) := by decide +kernel
theorem dX9_init_18 : decode cX9_init 18 = .ok (.ldc 23, 2) := by decide +kernel
theorem dX9_init_20 : decode cX9_init 20 = .ok (.invokevirtual 11, 3) := by decide +kernel
theorem dX9_init_23 : decode cX9_init 23 = .ok (.multianewarray 25 2, 4) := by decide +kernel
theorem dX9_init_27 : decode cX9_init 27 = .ok (.putfield 27, 3) := by decide +kernel
theorem dX9_init_30 : decode cX9_init 30 = .ok (.aload_n 0, 1) := by decide +kernel
theorem dX9_init_31 : decode cX9_init 31 = .ok (.bipush 9, 2) := by decide +kernel
theorem dX9_init_33 : decode cX9_init 33 = .ok (.ldc 30, 2) := by decide +kernel
theorem dX9_init_35 : decode cX9_init 35 = .ok (.invokevirtual 11, 3) := by decide +kernel
theorem dX9_init_38 : decode cX9_init 38 = .ok (.multianewarray 25 2, 4) := by decide +kernel
theorem dX9_init_42 : decode cX9_init 42 = .ok (.putfield 32, 3) := by decide +kernel
theorem dX9_init_45 : decode cX9_init 45 = .ok (.return_, 1) := by decide +kernel
theorem dX9_isTold_0 : decode cX9_isTold 0 = .ok (.aload_n 0, 1) := by decide +kernel
theorem dX9_isTold_1 : decode cX9_isTold 1 = .ok (.getfield 35, 3) := by decide +kernel
theorem dX9_isTold_4 : decode cX9_isTold 4 = .ok (.ifCond .le 7, 3) := by decide +kernel
theorem dX9_isTold_7 : decode cX9_isTold 7 = .ok (.iconst 1, 1) := by decide +kernel
theorem dX9_isTold_8 : decode cX9_isTold 8 = .ok (.goto 4, 3) := by decide +kernel
theorem dX9_isTold_11 : decode cX9_isTold 11 = .ok (.iconst 0, 1) := by decide +kernel
theorem dX9_isTold_12 : decode cX9_isTold 12 = .ok (.ireturn, 1) := by decide +kernel
theorem dX9_hasPond_0 : decode cX9_hasPond 0 = .ok (.iload_n 1, 1) := by decide +kernel
theorem dX9_hasPond_1 : decode cX9_hasPond 1 = .ok (.ifCond .lt 15, 3) := by decide +kernel
theorem dX9_hasPond_4 : decode cX9_hasPond 4 = .ok (.iload_n 1, 1) := by decide +kernel
theorem dX9_hasPond_5 : decode cX9_hasPond 5 = .ok (.aload_n 0, 1) := by decide +kernel
theorem dX9_hasPond_6 : decode cX9_hasPond 6 = .ok (.getfield 35, 3) := by decide +kernel
theorem dX9_hasPond_9 : decode cX9_hasPond 9 = .ok (.if_icmp .ge 7, 3) := by decide +kernel
theorem dX9_hasPond_12 : decode cX9_hasPond 12 = .ok (.iconst 1, 1) := by decide +kernel
theorem dX9_hasPond_13 : decode cX9_hasPond 13 = .ok (.goto 4, 3) := by decide +kernel
theorem dX9_hasPond_16 : decode cX9_hasPond 16 = .ok (.iconst 0, 1) := by decide +kernel
theorem dX9_hasPond_17 : decode cX9_hasPond 17 = .ok (.ireturn, 1) := by decide +kernel
theorem dX9_hasPipe_0 : decode cX9_hasPipe 0 = .ok (.iload_n 1, 1) := by decide +kernel
theorem dX9_hasPipe_1 : decode cX9_hasPipe 1 = .ok (.ifCond .lt 15, 3) := by decide +kernel
theorem dX9_hasPipe_4 : decode cX9_hasPipe 4 = .ok (.iload_n 1, 1) := by decide +kernel
theorem dX9_hasPipe_5 : decode cX9_hasPipe 5 = .ok (.aload_n 0, 1) := by decide +kernel
theorem dX9_hasPipe_6 : decode cX9_hasPipe 6 = .ok (.getfield 39, 3) := by decide +kernel
theorem dX9_hasPipe_9 : decode cX9_hasPipe 9 = .ok (.if_icmp .ge 7, 3) := by decide +kernel
theorem dX9_hasPipe_12 : decode cX9_hasPipe 12 = .ok (.iconst 1, 1) := by decide +kernel
theorem dX9_hasPipe_13 : decode cX9_hasPipe 13 = .ok (.goto 4, 3) := by decide +kernel
theorem dX9_hasPipe_16 : decode cX9_hasPipe 16 = .ok (.iconst 0, 1) := by decide +kernel
theorem dX9_hasPipe_17 : decode cX9_hasPipe 17 = .ok (.ireturn, 1) := by decide +kernel
theorem dX9_become_0 : decode cX9_become 0 = .ok (.aload_n 1, 1) := by decide +kernel
theorem dX9_become_1 : decode cX9_become 1 = .ok (.getfield 17, 3) := by decide +kernel
theorem dX9_become_4 : decode cX9_become 4 = .ok (.aload_n 0, 1) := by decide +kernel
theorem dX9_become_5 : decode cX9_become 5 = .ok (.getfield 17, 3) := by decide +kernel
theorem dX9_become_8 : decode cX9_become 8 = .ok (.invokestatic 42, 3) := by decide +kernel
theorem dX9_become_11 : decode cX9_become 11 = .ok (.iconst 0, 1) := by decide +kernel
theorem dX9_become_12 : decode cX9_become 12 = .ok (.istore_n 2, 1) := by decide +kernel
theorem dX9_become_13 : decode cX9_become 13 = .ok (.iload_n 2, 1) := by decide +kernel
theorem dX9_become_14 : decode cX9_become 14 = .ok (.bipush 7, 2) := by decide +kernel
theorem dX9_become_16 : decode cX9_become 16 = .ok (.if_icmp .ge 24, 3) := by decide +kernel
theorem dX9_become_19 : decode cX9_become 19 = .ok (.aload_n 1, 1) := by decide +kernel
theorem dX9_become_20 : decode cX9_become 20 = .ok (.getfield 27, 3) := by decide +kernel
theorem dX9_become_23 : decode cX9_become 23 = .ok (.iload_n 2, 1) := by decide +kernel
theorem dX9_become_24 : decode cX9_become 24 = .ok (.aaload, 1) := by decide +kernel
theorem dX9_become_25 : decode cX9_become 25 = .ok (.aload_n 0, 1) := by decide +kernel
theorem dX9_become_26 : decode cX9_become 26 = .ok (.getfield 27, 3) := by decide +kernel
theorem dX9_become_29 : decode cX9_become 29 = .ok (.iload_n 2, 1) := by decide +kernel
theorem dX9_become_30 : decode cX9_become 30 = .ok (.aaload, 1) := by decide +kernel
theorem dX9_become_31 : decode cX9_become 31 = .ok (.invokestatic 42, 3) := by decide +kernel
theorem dX9_become_34 : decode cX9_become 34 = .ok (.iinc 2 1, 3) := by decide +kernel
theorem dX9_become_37 : decode cX9_become 37 = .ok (.goto (-24), 3) := by decide +kernel
theorem dX9_become_40 : decode cX9_become 40 = .ok (.iconst 0, 1) := by decide +kernel
theorem dX9_become_41 : decode cX9_become 41 = .ok (.istore_n 2, 1) := by decide +kernel
theorem dX9_become_42 : decode cX9_become 42 = .ok (.iload_n 2, 1) := by decide +kernel
theorem dX9_become_43 : decode cX9_become 43 = .ok (.bipush 9, 2) := by decide +kernel
theorem dX9_become_45 : decode cX9_become 45 = .ok (.if_icmp .ge 24, 3) := by decide +kernel
theorem dX9_become_48 : decode cX9_become 48 = .ok (.aload_n 1, 1) := by decide +kernel
theorem dX9_become_49 : decode cX9_become 49 = .ok (.getfield 32, 3) := by decide +kernel
theorem dX9_become_52 : decode cX9_become 52 = .ok (.iload_n 2, 1) := by decide +kernel
theorem dX9_become_53 : decode cX9_become 53 = .ok (.aaload, 1) := by decide +kernel
theorem dX9_become_54 : decode cX9_become 54 = .ok (.aload_n 0, 1) := by decide +kernel
theorem dX9_become_55 : decode cX9_become 55 = .ok (.getfield 32, 3) := by decide +kernel
theorem dX9_become_58 : decode cX9_become 58 = .ok (.iload_n 2, 1) := by decide +kernel
theorem dX9_become_59 : decode cX9_become 59 = .ok (.aaload, 1) := by decide +kernel
theorem dX9_become_60 : decode cX9_become 60 = .ok (.invokestatic 42, 3) := by decide +kernel
theorem dX9_become_63 : decode cX9_become 63 = .ok (.iinc 2 1, 3) := by decide +kernel
theorem dX9_become_66 : decode cX9_become 66 = .ok (.goto (-24), 3) := by decide +kernel
theorem dX9_become_69 : decode cX9_become 69 = .ok (.aload_n 0, 1) := by decide +kernel
theorem dX9_become_70 : decode cX9_become 70 = .ok (.aload_n 1, 1) := by decide +kernel
theorem dX9_become_71 : decode cX9_become 71 = .ok (.getfield 35, 3) := by decide +kernel
theorem dX9_become_74 : decode cX9_become 74 = .ok (.putfield 35, 3) := by decide +kernel
theorem dX9_become_77 : decode cX9_become 77 = .ok (.aload_n 0, 1) := by decide +kernel
theorem dX9_become_78 : decode cX9_become 78 = .ok (.aload_n 1, 1) := by decide +kernel
theorem dX9_become_79 : decode cX9_become 79 = .ok (.getfield 39, 3) := by decide +kernel
theorem dX9_become_82 : decode cX9_become 82 = .ok (.putfield 39, 3) := by decide +kernel
theorem dX9_become_85 : decode cX9_become 85 = .ok (.return_, 1) := by decide +kernel
theorem dX9_readFrom_0 : decode cX9_readFrom 0 = .ok (.aload_n 1, 1) := by decide +kernel
theorem dX9_readFrom_1 : decode cX9_readFrom 1 = .ok (.iconst 0, 1) := by decide +kernel
theorem dX9_readFrom_2 : decode cX9_readFrom 2 = .ok (.putfield 46, 3) := by decide +kernel
theorem dX9_readFrom_5 : decode cX9_readFrom 5 = .ok (.aload_n 0, 1) := by decide +kernel
theorem dX9_readFrom_6 : decode cX9_readFrom 6 = .ok (.iconst 0, 1) := by decide +kernel
theorem dX9_readFrom_7 : decode cX9_readFrom 7 = .ok (.putfield 51, 3) := by decide +kernel
theorem dX9_readFrom_10 : decode cX9_readFrom 10 = .ok (.aload_n 0, 1) := by decide +kernel
theorem dX9_readFrom_11 : decode cX9_readFrom 11 = .ok (.iconst 0, 1) := by decide +kernel
theorem dX9_readFrom_12 : decode cX9_readFrom 12 = .ok (.putfield 35, 3) := by decide +kernel
theorem dX9_readFrom_15 : decode cX9_readFrom 15 = .ok (.aload_n 0, 1) := by decide +kernel
theorem dX9_readFrom_16 : decode cX9_readFrom 16 = .ok (.iconst 0, 1) := by decide +kernel
theorem dX9_readFrom_17 : decode cX9_readFrom 17 = .ok (.putfield 39, 3) := by decide +kernel
theorem dX9_readFrom_20 : decode cX9_readFrom 20 = .ok (.getstatic 54, 3) := by decide +kernel
theorem dX9_readFrom_23 : decode cX9_readFrom 23 = .ok (.aload_n 0, 1) := by decide +kernel
theorem dX9_readFrom_24 : decode cX9_readFrom 24 = .ok (.getfield 17, 3) := by decide +kernel
theorem dX9_readFrom_27 : decode cX9_readFrom 27 = .ok (.invokestatic 42, 3) := by decide +kernel
theorem dX9_readFrom_30 : decode cX9_readFrom 30 = .ok (.iconst 0, 1) := by decide +kernel
theorem dX9_readFrom_31 : decode cX9_readFrom 31 = .ok (.istore_n 2, 1) := by decide +kernel
theorem dX9_readFrom_32 : decode cX9_readFrom 32 = .ok (.iload_n 2, 1) := by decide +kernel
theorem dX9_readFrom_33 : decode cX9_readFrom 33 = .ok (.sipush 240, 3) := by decide +kernel
theorem dX9_readFrom_36 : decode cX9_readFrom 36 = .ok (.if_icmp .gt 43, 3) := by decide +kernel
theorem dX9_readFrom_39 : decode cX9_readFrom 39 = .ok (.aload_n 0, 1) := by decide +kernel
theorem dX9_readFrom_40 : decode cX9_readFrom 40 = .ok (.aload_n 1, 1) := by decide +kernel
theorem dX9_readFrom_41 : decode cX9_readFrom 41 = .ok (.invokevirtual 57, 3) := by decide +kernel
theorem dX9_readFrom_44 : decode cX9_readFrom 44 = .ok (.ifCond .ne 5, 3) := by decide +kernel
theorem dX9_readFrom_47 : decode cX9_readFrom 47 = .ok (.iconst 0, 1) := by decide +kernel
theorem dX9_readFrom_48 : decode cX9_readFrom 48 = .ok (.ireturn, 1) := by decide +kernel
theorem dX9_readFrom_49 : decode cX9_readFrom 49 = .ok (.aload_n 1, 1) := by decide +kernel
theorem dX9_readFrom_50 : decode cX9_readFrom 50 = .ok (.invokevirtual 61, 3) := by decide +kernel
theorem dX9_readFrom_53 : decode cX9_readFrom 53 = .ok (.iconst (-1), 1) := by decide +kernel
theorem dX9_readFrom_54 : decode cX9_readFrom 54 = .ok (.if_icmp .ne 8, 3) := by decide +kernel
theorem dX9_readFrom_57 : decode cX9_readFrom 57 = .ok (.aload_n 0, 1) := by decide +kernel
theorem dX9_readFrom_58 : decode cX9_readFrom 58 = .ok (.invokevirtual 64, 3) := by decide +kernel
theorem dX9_readFrom_61 : decode cX9_readFrom 61 = .ok (.ireturn, 1) := by decide +kernel
theorem dX9_readFrom_62 : decode cX9_readFrom 62 = .ok (.aload_n 1, 1) := by decide +kernel
theorem dX9_readFrom_63 : decode cX9_readFrom 63 = .ok (.bipush 59, 2) := by decide +kernel
theorem dX9_readFrom_65 : decode cX9_readFrom 65 = .ok (.invokevirtual 68, 3) := by decide +kernel
theorem dX9_readFrom_68 : decode cX9_readFrom 68 = .ok (.ifCond .ne 5, 3) := by decide +kernel
theorem dX9_readFrom_71 : decode cX9_readFrom 71 = .ok (.iconst 0, 1) := by decide +kernel
theorem dX9_readFrom_72 : decode cX9_readFrom 72 = .ok (.ireturn, 1) := by decide +kernel
theorem dX9_readFrom_73 : decode cX9_readFrom 73 = .ok (.iinc 2 1, 3) := by decide +kernel
theorem dX9_readFrom_76 : decode cX9_readFrom 76 = .ok (.goto (-44), 3) := by decide +kernel
theorem dX9_readFrom_79 : decode cX9_readFrom 79 = .ok (.iconst 0, 1) := by decide +kernel
theorem dX9_readFrom_80 : decode cX9_readFrom 80 = .ok (.ireturn, 1) := by decide +kernel
theorem dX9_readClause_0 : decode cX9_readClause 0 = .ok (.aload_n 1, 1) := by decide +kernel
theorem dX9_readClause_1 : decode cX9_readClause 1 = .ok (.invokevirtual 61, 3) := by decide +kernel
theorem dX9_readClause_4 : decode cX9_readClause 4 = .ok (.istore_n 2, 1) := by decide +kernel
theorem dX9_readClause_5 : decode cX9_readClause 5 = .ok (.iload_n 2, 1) := by decide +kernel
theorem dX9_readClause_6 : decode cX9_readClause 6 = .ok (.bipush 115, 2) := by decide +kernel
theorem dX9_readClause_8 : decode cX9_readClause 8 = .ok (.if_icmp .ne 48, 3) := by decide +kernel
theorem dX9_readClause_11 : decode cX9_readClause 11 = .ok (.aload_n 0, 1) := by decide +kernel
theorem dX9_readClause_12 : decode cX9_readClause 12 = .ok (.getfield 51, 3) := by decide +kernel
theorem dX9_readClause_15 : decode cX9_readClause 15 = .ok (.iconst 1, 1) := by decide +kernel
theorem dX9_readClause_16 : decode cX9_readClause 16 = .ok (.if_icmp .ge 40, 3) := by decide +kernel
theorem dX9_readClause_19 : decode cX9_readClause 19 = .ok (.aload_n 1, 1) := by decide +kernel
theorem dX9_readClause_20 : decode cX9_readClause 20 = .ok (.dup, 1) := by decide +kernel
theorem dX9_readClause_21 : decode cX9_readClause 21 = .ok (.getfield 46, 3) := by decide +kernel
theorem dX9_readClause_24 : decode cX9_readClause 24 = .ok (.iconst 1, 1) := by decide +kernel
theorem dX9_readClause_25 : decode cX9_readClause 25 = .ok (.iadd, 1) := by decide +kernel
theorem dX9_readClause_26 : decode cX9_readClause 26 = .ok (.putfield 46, 3) := by decide +kernel
theorem dX9_readClause_29 : decode cX9_readClause 29 = .ok (.aload_n 0, 1) := by decide +kernel
theorem dX9_readClause_30 : decode cX9_readClause 30 = .ok (.dup, 1) := by decide +kernel
theorem dX9_readClause_31 : decode cX9_readClause 31 = .ok (.getfield 51, 3) := by decide +kernel
theorem dX9_readClause_34 : decode cX9_readClause 34 = .ok (.iconst 1, 1) := by decide +kernel
theorem dX9_readClause_35 : decode cX9_readClause 35 = .ok (.iadd, 1) := by decide +kernel
theorem dX9_readClause_36 : decode cX9_readClause 36 = .ok (.putfield 51, 3) := by decide +kernel
theorem dX9_readClause_39 : decode cX9_readClause 39 = .ok (.aload_n 1, 1) := by decide +kernel
theorem dX9_readClause_40 : decode cX9_readClause 40 = .ok (.ldc 9, 2) := by decide +kernel
theorem dX9_readClause_42 : decode cX9_readClause 42 = .ok (.getstatic 72, 3) := by decide +kernel
theorem dX9_readClause_45 : decode cX9_readClause 45 = .ok (.getstatic 75, 3) := by decide +kernel
theorem dX9_readClause_48 : decode cX9_readClause 48 = .ok (.aload_n 0, 1) := by decide +kernel
theorem dX9_readClause_49 : decode cX9_readClause 49 = .ok (.getfield 17, 3) := by decide +kernel
theorem dX9_readClause_52 : decode cX9_readClause 52 = .ok (.invokestatic 78, 3) := by decide +kernel
theorem dX9_readClause_55 : decode cX9_readClause 55 = .ok (.ireturn, 1) := by decide +kernel
theorem dX9_readClause_56 : decode cX9_readClause 56 = .ok (.iload_n 2, 1) := by decide +kernel
theorem dX9_readClause_57 : decode cX9_readClause 57 = .ok (.bipush 112, 2) := by decide +kernel
theorem dX9_readClause_59 : decode cX9_readClause 59 = .ok (.if_icmp .ne 71, 3) := by decide +kernel
theorem dX9_readClause_62 : decode cX9_readClause 62 = .ok (.aload_n 0, 1) := by decide +kernel
theorem dX9_readClause_63 : decode cX9_readClause 63 = .ok (.getfield 35, 3) := by decide +kernel
theorem dX9_readClause_66 : decode cX9_readClause 66 = .ok (.bipush 7, 2) := by decide +kernel
theorem dX9_readClause_68 : decode cX9_readClause 68 = .ok (.if_icmp .ge 62, 3) := by decide +kernel
theorem dX9_readClause_71 : decode cX9_readClause 71 = .ok (.aload_n 1, 1) := by decide +kernel
theorem dX9_readClause_72 : decode cX9_readClause 72 = .ok (.dup, 1) := by decide +kernel
theorem dX9_readClause_73 : decode cX9_readClause 73 = .ok (.getfield 46, 3) := by decide +kernel
theorem dX9_readClause_76 : decode cX9_readClause 76 = .ok (.iconst 1, 1) := by decide +kernel
theorem dX9_readClause_77 : decode cX9_readClause 77 = .ok (.iadd, 1) := by decide +kernel
theorem dX9_readClause_78 : decode cX9_readClause 78 = .ok (.putfield 46, 3) := by decide +kernel
theorem dX9_readClause_81 : decode cX9_readClause 81 = .ok (.getstatic 82, 3) := by decide +kernel
theorem dX9_readClause_84 : decode cX9_readClause 84 = .ok (.aload_n 0, 1) := by decide +kernel
theorem dX9_readClause_85 : decode cX9_readClause 85 = .ok (.getfield 27, 3) := by decide +kernel
theorem dX9_readClause_88 : decode cX9_readClause 88 = .ok (.aload_n 0, 1) := by decide +kernel
theorem dX9_readClause_89 : decode cX9_readClause 89 = .ok (.getfield 35, 3) := by decide +kernel
theorem dX9_readClause_92 : decode cX9_readClause 92 = .ok (.aaload, 1) := by decide +kernel
theorem dX9_readClause_93 : decode cX9_readClause 93 = .ok (.invokestatic 42, 3) := by decide +kernel
theorem dX9_readClause_96 : decode cX9_readClause 96 = .ok (.aload_n 0, 1) := by decide +kernel
theorem dX9_readClause_97 : decode cX9_readClause 97 = .ok (.dup, 1) := by decide +kernel
theorem dX9_readClause_98 : decode cX9_readClause 98 = .ok (.getfield 35, 3) := by decide +kernel
theorem dX9_readClause_101 : decode cX9_readClause 101 = .ok (.iconst 1, 1) := by decide +kernel
theorem dX9_readClause_102 : decode cX9_readClause 102 = .ok (.iadd, 1) := by decide +kernel
theorem dX9_readClause_103 : decode cX9_readClause 103 = .ok (.putfield 35, 3) := by decide +kernel
theorem dX9_readClause_106 : decode cX9_readClause 106 = .ok (.aload_n 1, 1) := by decide +kernel
theorem dX9_readClause_107 : decode cX9_readClause 107 = .ok (.ldc 23, 2) := by decide +kernel
theorem dX9_readClause_109 : decode cX9_readClause 109 = .ok (.getstatic 85, 3) := by decide +kernel
theorem dX9_readClause_112 : decode cX9_readClause 112 = .ok (.getstatic 88, 3) := by decide +kernel
theorem dX9_readClause_115 : decode cX9_readClause 115 = .ok (.aload_n 0, 1) := by decide +kernel
theorem dX9_readClause_116 : decode cX9_readClause 116 = .ok (.getfield 27, 3) := by decide +kernel
theorem dX9_readClause_119 : decode cX9_readClause 119 = .ok (.aload_n 0, 1) := by decide +kernel
theorem dX9_readClause_120 : decode cX9_readClause 120 = .ok (.getfield 35, 3) := by decide +kernel
theorem dX9_readClause_123 : decode cX9_readClause 123 = .ok (.iconst 1, 1) := by decide +kernel
theorem dX9_readClause_124 : decode cX9_readClause 124 = .ok (.isub, 1) := by decide +kernel
theorem dX9_readClause_125 : decode cX9_readClause 125 = .ok (.aaload, 1) := by decide +kernel
theorem dX9_readClause_126 : decode cX9_readClause 126 = .ok (.invokestatic 78, 3) := by decide +kernel
theorem dX9_readClause_129 : decode cX9_readClause 129 = .ok (.ireturn, 1) := by decide +kernel
theorem dX9_readClause_130 : decode cX9_readClause 130 = .ok (.iload_n 2, 1) := by decide +kernel
theorem dX9_readClause_131 : decode cX9_readClause 131 = .ok (.bipush 105, 2) := by decide +kernel
theorem dX9_readClause_133 : decode cX9_readClause 133 = .ok (.if_icmp .ne 71, 3) := by decide +kernel
theorem dX9_readClause_136 : decode cX9_readClause 136 = .ok (.aload_n 0, 1) := by decide +kernel
theorem dX9_readClause_137 : decode cX9_readClause 137 = .ok (.getfield 39, 3) := by decide +kernel
theorem dX9_readClause_140 : decode cX9_readClause 140 = .ok (.bipush 9, 2) := by decide +kernel
theorem dX9_readClause_142 : decode cX9_readClause 142 = .ok (.if_icmp .ge 62, 3) := by decide +kernel
theorem dX9_readClause_145 : decode cX9_readClause 145 = .ok (.aload_n 1, 1) := by decide +kernel
theorem dX9_readClause_146 : decode cX9_readClause 146 = .ok (.dup, 1) := by decide +kernel
theorem dX9_readClause_147 : decode cX9_readClause 147 = .ok (.getfield 46, 3) := by decide +kernel
theorem dX9_readClause_150 : decode cX9_readClause 150 = .ok (.iconst 1, 1) := by decide +kernel
theorem dX9_readClause_151 : decode cX9_readClause 151 = .ok (.iadd, 1) := by decide +kernel
theorem dX9_readClause_152 : decode cX9_readClause 152 = .ok (.putfield 46, 3) := by decide +kernel
theorem dX9_readClause_155 : decode cX9_readClause 155 = .ok (.getstatic 91, 3) := by decide +kernel
theorem dX9_readClause_158 : decode cX9_readClause 158 = .ok (.aload_n 0, 1) := by decide +kernel
theorem dX9_readClause_159 : decode cX9_readClause 159 = .ok (.getfield 32, 3) := by decide +kernel
theorem dX9_readClause_162 : decode cX9_readClause 162 = .ok (.aload_n 0, 1) := by decide +kernel
theorem dX9_readClause_163 : decode cX9_readClause 163 = .ok (.getfield 39, 3) := by decide +kernel
theorem dX9_readClause_166 : decode cX9_readClause 166 = .ok (.aaload, 1) := by decide +kernel
theorem dX9_readClause_167 : decode cX9_readClause 167 = .ok (.invokestatic 42, 3) := by decide +kernel
theorem dX9_readClause_170 : decode cX9_readClause 170 = .ok (.aload_n 0, 1) := by decide +kernel
theorem dX9_readClause_171 : decode cX9_readClause 171 = .ok (.dup, 1) := by decide +kernel
theorem dX9_readClause_172 : decode cX9_readClause 172 = .ok (.getfield 39, 3) := by decide +kernel
theorem dX9_readClause_175 : decode cX9_readClause 175 = .ok (.iconst 1, 1) := by decide +kernel
theorem dX9_readClause_176 : decode cX9_readClause 176 = .ok (.iadd, 1) := by decide +kernel
theorem dX9_readClause_177 : decode cX9_readClause 177 = .ok (.putfield 39, 3) := by decide +kernel
theorem dX9_readClause_180 : decode cX9_readClause 180 = .ok (.aload_n 1, 1) := by decide +kernel
theorem dX9_readClause_181 : decode cX9_readClause 181 = .ok (.ldc 30, 2) := by decide +kernel
theorem dX9_readClause_183 : decode cX9_readClause 183 = .ok (.getstatic 94, 3) := by decide +kernel
theorem dX9_readClause_186 : decode cX9_readClause 186 = .ok (.getstatic 97, 3) := by decide +kernel
theorem dX9_readClause_189 : decode cX9_readClause 189 = .ok (.aload_n 0, 1) := by decide +kernel
theorem dX9_readClause_190 : decode cX9_readClause 190 = .ok (.getfield 32, 3) := by decide +kernel
theorem dX9_readClause_193 : decode cX9_readClause 193 = .ok (.aload_n 0, 1) := by decide +kernel
theorem dX9_readClause_194 : decode cX9_readClause 194 = .ok (.getfield 39, 3) := by decide +kernel
theorem dX9_readClause_197 : decode cX9_readClause 197 = .ok (.iconst 1, 1) := by decide +kernel
theorem dX9_readClause_198 : decode cX9_readClause 198 = .ok (.isub, 1) := by decide +kernel
theorem dX9_readClause_199 : decode cX9_readClause 199 = .ok (.aaload, 1) := by decide +kernel
theorem dX9_readClause_200 : decode cX9_readClause 200 = .ok (.invokestatic 78, 3) := by decide +kernel
theorem dX9_readClause_203 : decode cX9_readClause 203 = .ok (.ireturn, 1) := by decide +kernel
theorem dX9_readClause_204 : decode cX9_readClause 204 = .ok (.iconst 0, 1) := by decide +kernel
theorem dX9_readClause_205 : decode cX9_readClause 205 = .ok (.ireturn, 1) := by decide +kernel
theorem dX9_readItems_0 : decode cX9_readItems 0 = .ok (.iconst 0, 1) := by decide +kernel
theorem dX9_readItems_1 : decode cX9_readItems 1 = .ok (.istore 5, 2) := by decide +kernel
theorem dX9_readItems_3 : decode cX9_readItems 3 = .ok (.iconst 0, 1) := by decide +kernel
theorem dX9_readItems_4 : decode cX9_readItems 4 = .ok (.istore 6, 2) := by decide +kernel
theorem dX9_readItems_6 : decode cX9_readItems 6 = .ok (.iload 6, 2) := by decide +kernel
theorem dX9_readItems_8 : decode cX9_readItems 8 = .ok (.aload 4, 2) := by decide +kernel
theorem dX9_readItems_10 : decode cX9_readItems 10 = .ok (.arraylength, 1) := by decide +kernel
theorem dX9_readItems_11 : decode cX9_readItems 11 = .ok (.if_icmp .gt 140, 3) := by decide +kernel
theorem dX9_readItems_14 : decode cX9_readItems 14 = .ok (.aload_n 0, 1) := by decide +kernel
theorem dX9_readItems_15 : decode cX9_readItems 15 = .ok (.invokevirtual 61, 3) := by decide +kernel
theorem dX9_readItems_18 : decode cX9_readItems 18 = .ok (.istore 7, 2) := by decide +kernel
theorem dX9_readItems_20 : decode cX9_readItems 20 = .ok (.iload 7, 2) := by decide +kernel
theorem dX9_readItems_22 : decode cX9_readItems 22 = .ok (.iconst (-1), 1) := by decide +kernel
theorem dX9_readItems_23 : decode cX9_readItems 23 = .ok (.if_icmp .eq 10, 3) := by decide +kernel
theorem dX9_readItems_26 : decode cX9_readItems 26 = .ok (.iload 7, 2) := by decide +kernel
theorem dX9_readItems_28 : decode cX9_readItems 28 = .ok (.bipush 59, 2) := by decide +kernel
theorem dX9_readItems_30 : decode cX9_readItems 30 = .ok (.if_icmp .ne 5, 3) := by decide +kernel
theorem dX9_readItems_33 : decode cX9_readItems 33 = .ok (.iconst 1, 1) := by decide +kernel
theorem dX9_readItems_34 : decode cX9_readItems 34 = .ok (.ireturn, 1) := by decide +kernel
theorem dX9_readItems_35 : decode cX9_readItems 35 = .ok (.aload_n 1, 1) := by decide +kernel
theorem dX9_readItems_36 : decode cX9_readItems 36 = .ok (.iload 7, 2) := by decide +kernel
theorem dX9_readItems_38 : decode cX9_readItems 38 = .ok (.i2c, 1) := by decide +kernel
theorem dX9_readItems_39 : decode cX9_readItems 39 = .ok (.invokevirtual 100, 3) := by decide +kernel
theorem dX9_readItems_42 : decode cX9_readItems 42 = .ok (.istore 8, 2) := by decide +kernel
theorem dX9_readItems_44 : decode cX9_readItems 44 = .ok (.iload 8, 2) := by decide +kernel
theorem dX9_readItems_46 : decode cX9_readItems 46 = .ok (.ifCond .lt 21, 3) := by decide +kernel
theorem dX9_readItems_49 : decode cX9_readItems 49 = .ok (.iload 8, 2) := by decide +kernel
theorem dX9_readItems_51 : decode cX9_readItems 51 = .ok (.aload 4, 2) := by decide +kernel
theorem dX9_readItems_53 : decode cX9_readItems 53 = .ok (.arraylength, 1) := by decide +kernel
theorem dX9_readItems_54 : decode cX9_readItems 54 = .ok (.if_icmp .ge 13, 3) := by decide +kernel
theorem dX9_readItems_57 : decode cX9_readItems 57 = .ok (.iload 5, 2) := by decide +kernel
theorem dX9_readItems_59 : decode cX9_readItems 59 = .ok (.iload 8, 2) := by decide +kernel
theorem dX9_readItems_61 : decode cX9_readItems 61 = .ok (.ishr, 1) := by decide +kernel
theorem dX9_readItems_62 : decode cX9_readItems 62 = .ok (.iconst 1, 1) := by decide +kernel
theorem dX9_readItems_63 : decode cX9_readItems 63 = .ok (.iand, 1) := by decide +kernel
theorem dX9_readItems_64 : decode cX9_readItems 64 = .ok (.ifCond .eq 5, 3) := by decide +kernel
theorem dX9_readItems_67 : decode cX9_readItems 67 = .ok (.iconst 0, 1) := by decide +kernel
theorem dX9_readItems_68 : decode cX9_readItems 68 = .ok (.ireturn, 1) := by decide +kernel
theorem dX9_readItems_69 : decode cX9_readItems 69 = .ok (.iload 5, 2) := by decide +kernel
theorem dX9_readItems_71 : decode cX9_readItems 71 = .ok (.iconst 1, 1) := by decide +kernel
theorem dX9_readItems_72 : decode cX9_readItems 72 = .ok (.iload 8, 2) := by decide +kernel
theorem dX9_readItems_74 : decode cX9_readItems 74 = .ok (.ishl, 1) := by decide +kernel
theorem dX9_readItems_75 : decode cX9_readItems 75 = .ok (.ior, 1) := by decide +kernel
theorem dX9_readItems_76 : decode cX9_readItems 76 = .ok (.istore 5, 2) := by decide +kernel
theorem dX9_readItems_78 : decode cX9_readItems 78 = .ok (.aload_n 0, 1) := by decide +kernel
theorem dX9_readItems_79 : decode cX9_readItems 79 = .ok (.dup, 1) := by decide +kernel
theorem dX9_readItems_80 : decode cX9_readItems 80 = .ok (.getfield 46, 3) := by decide +kernel
theorem dX9_readItems_83 : decode cX9_readItems 83 = .ok (.iconst 1, 1) := by decide +kernel
theorem dX9_readItems_84 : decode cX9_readItems 84 = .ok (.iadd, 1) := by decide +kernel
theorem dX9_readItems_85 : decode cX9_readItems 85 = .ok (.putfield 46, 3) := by decide +kernel
theorem dX9_readItems_88 : decode cX9_readItems 88 = .ok (.aload 4, 2) := by decide +kernel
theorem dX9_readItems_90 : decode cX9_readItems 90 = .ok (.iload 8, 2) := by decide +kernel
theorem dX9_readItems_92 : decode cX9_readItems 92 = .ok (.aload_n 0, 1) := by decide +kernel
theorem dX9_readItems_93 : decode cX9_readItems 93 = .ok (.iconst 2, 1) := by decide +kernel
theorem dX9_readItems_94 : decode cX9_readItems 94 = .ok (.invokevirtual 104, 3) := by decide +kernel
theorem dX9_readItems_97 : decode cX9_readItems 97 = .ok (.iastore, 1) := by decide +kernel
theorem dX9_readItems_98 : decode cX9_readItems 98 = .ok (.aload 4, 2) := by decide +kernel
theorem dX9_readItems_100 : decode cX9_readItems 100 = .ok (.iload 8, 2) := by decide +kernel
theorem dX9_readItems_102 : decode cX9_readItems 102 = .ok (.iaload, 1) := by decide +kernel
theorem dX9_readItems_103 : decode cX9_readItems 103 = .ok (.iconst (-1), 1) := by decide +kernel
theorem dX9_readItems_104 : decode cX9_readItems 104 = .ok (.if_icmp .ne 5, 3) := by decide +kernel
theorem dX9_readItems_107 : decode cX9_readItems 107 = .ok (.iconst 0, 1) := by decide +kernel
theorem dX9_readItems_108 : decode cX9_readItems 108 = .ok (.ireturn, 1) := by decide +kernel
theorem dX9_readItems_109 : decode cX9_readItems 109 = .ok (.aload 4, 2) := by decide +kernel
theorem dX9_readItems_111 : decode cX9_readItems 111 = .ok (.iload 8, 2) := by decide +kernel
theorem dX9_readItems_113 : decode cX9_readItems 113 = .ok (.iaload, 1) := by decide +kernel
theorem dX9_readItems_114 : decode cX9_readItems 114 = .ok (.aload_n 2, 1) := by decide +kernel
theorem dX9_readItems_115 : decode cX9_readItems 115 = .ok (.iload 8, 2) := by decide +kernel
theorem dX9_readItems_117 : decode cX9_readItems 117 = .ok (.iaload, 1) := by decide +kernel
theorem dX9_readItems_118 : decode cX9_readItems 118 = .ok (.if_icmp .lt 15, 3) := by decide +kernel
theorem dX9_readItems_121 : decode cX9_readItems 121 = .ok (.aload 4, 2) := by decide +kernel
theorem dX9_readItems_123 : decode cX9_readItems 123 = .ok (.iload 8, 2) := by decide +kernel
theorem dX9_readItems_125 : decode cX9_readItems 125 = .ok (.iaload, 1) := by decide +kernel
theorem dX9_readItems_126 : decode cX9_readItems 126 = .ok (.aload_n 3, 1) := by decide +kernel
theorem dX9_readItems_127 : decode cX9_readItems 127 = .ok (.iload 8, 2) := by decide +kernel
theorem dX9_readItems_129 : decode cX9_readItems 129 = .ok (.iaload, 1) := by decide +kernel
theorem dX9_readItems_130 : decode cX9_readItems 130 = .ok (.if_icmp .le 15, 3) := by decide +kernel
theorem dX9_readItems_133 : decode cX9_readItems 133 = .ok (.aload_n 0, 1) := by decide +kernel
theorem dX9_readItems_134 : decode cX9_readItems 134 = .ok (.dup, 1) := by decide +kernel
theorem dX9_readItems_135 : decode cX9_readItems 135 = .ok (.getfield 46, 3) := by decide +kernel
theorem dX9_readItems_138 : decode cX9_readItems 138 = .ok (.iconst 1, 1) := by decide +kernel
theorem dX9_readItems_139 : decode cX9_readItems 139 = .ok (.isub, 1) := by decide +kernel
theorem dX9_readItems_140 : decode cX9_readItems 140 = .ok (.putfield 46, 3) := by decide +kernel
theorem dX9_readItems_143 : decode cX9_readItems 143 = .ok (.iconst 0, 1) := by decide +kernel
theorem dX9_readItems_144 : decode cX9_readItems 144 = .ok (.ireturn, 1) := by decide +kernel
theorem dX9_readItems_145 : decode cX9_readItems 145 = .ok (.iinc 6 1, 3) := by decide +kernel
theorem dX9_readItems_148 : decode cX9_readItems 148 = .ok (.goto (-142), 3) := by decide +kernel
theorem dX9_readItems_151 : decode cX9_readItems 151 = .ok (.iconst 0, 1) := by decide +kernel
theorem dX9_readItems_152 : decode cX9_readItems 152 = .ok (.ireturn, 1) := by decide +kernel
theorem dX9_stands_0 : decode cX9_stands 0 = .ok (.iconst 0, 1) := by decide +kernel
theorem dX9_stands_1 : decode cX9_stands 1 = .ok (.istore_n 1, 1) := by decide +kernel
theorem dX9_stands_2 : decode cX9_stands 2 = .ok (.iload_n 1, 1) := by decide +kernel
theorem dX9_stands_3 : decode cX9_stands 3 = .ok (.aload_n 0, 1) := by decide +kernel
theorem dX9_stands_4 : decode cX9_stands 4 = .ok (.getfield 35, 3) := by decide +kernel
theorem dX9_stands_7 : decode cX9_stands 7 = .ok (.if_icmp .ge 30, 3) := by decide +kernel
theorem dX9_stands_10 : decode cX9_stands 10 = .ok (.aload_n 0, 1) := by decide +kernel
theorem dX9_stands_11 : decode cX9_stands 11 = .ok (.getfield 27, 3) := by decide +kernel
theorem dX9_stands_14 : decode cX9_stands 14 = .ok (.iload_n 1, 1) := by decide +kernel
theorem dX9_stands_15 : decode cX9_stands 15 = .ok (.aaload, 1) := by decide +kernel
theorem dX9_stands_16 : decode cX9_stands 16 = .ok (.iconst 0, 1) := by decide +kernel
theorem dX9_stands_17 : decode cX9_stands 17 = .ok (.iaload, 1) := by decide +kernel
theorem dX9_stands_18 : decode cX9_stands 18 = .ok (.aload_n 0, 1) := by decide +kernel
theorem dX9_stands_19 : decode cX9_stands 19 = .ok (.getfield 27, 3) := by decide +kernel
theorem dX9_stands_22 : decode cX9_stands 22 = .ok (.iload_n 1, 1) := by decide +kernel
theorem dX9_stands_23 : decode cX9_stands 23 = .ok (.aaload, 1) := by decide +kernel
theorem dX9_stands_24 : decode cX9_stands 24 = .ok (.iconst 1, 1) := by decide +kernel
theorem dX9_stands_25 : decode cX9_stands 25 = .ok (.iaload, 1) := by decide +kernel
theorem dX9_stands_26 : decode cX9_stands 26 = .ok (.if_icmp .le 5, 3) := by decide +kernel
theorem dX9_stands_29 : decode cX9_stands 29 = .ok (.iconst 0, 1) := by decide +kernel
theorem dX9_stands_30 : decode cX9_stands 30 = .ok (.ireturn, 1) := by decide +kernel
theorem dX9_stands_31 : decode cX9_stands 31 = .ok (.iinc 1 1, 3) := by decide +kernel
theorem dX9_stands_34 : decode cX9_stands 34 = .ok (.goto (-32), 3) := by decide +kernel
theorem dX9_stands_37 : decode cX9_stands 37 = .ok (.iconst 0, 1) := by decide +kernel
theorem dX9_stands_38 : decode cX9_stands 38 = .ok (.istore_n 1, 1) := by decide +kernel
theorem dX9_stands_39 : decode cX9_stands 39 = .ok (.iload_n 1, 1) := by decide +kernel
theorem dX9_stands_40 : decode cX9_stands 40 = .ok (.aload_n 0, 1) := by decide +kernel
theorem dX9_stands_41 : decode cX9_stands 41 = .ok (.getfield 39, 3) := by decide +kernel
theorem dX9_stands_44 : decode cX9_stands 44 = .ok (.if_icmp .ge 50, 3) := by decide +kernel
theorem dX9_stands_47 : decode cX9_stands 47 = .ok (.aload_n 0, 1) := by decide +kernel
theorem dX9_stands_48 : decode cX9_stands 48 = .ok (.getfield 32, 3) := by decide +kernel
theorem dX9_stands_51 : decode cX9_stands 51 = .ok (.iload_n 1, 1) := by decide +kernel
theorem dX9_stands_52 : decode cX9_stands 52 = .ok (.aaload, 1) := by decide +kernel
theorem dX9_stands_53 : decode cX9_stands 53 = .ok (.iconst 0, 1) := by decide +kernel
theorem dX9_stands_54 : decode cX9_stands 54 = .ok (.iaload, 1) := by decide +kernel
theorem dX9_stands_55 : decode cX9_stands 55 = .ok (.istore_n 2, 1) := by decide +kernel
theorem dX9_stands_56 : decode cX9_stands 56 = .ok (.aload_n 0, 1) := by decide +kernel
theorem dX9_stands_57 : decode cX9_stands 57 = .ok (.getfield 32, 3) := by decide +kernel
theorem dX9_stands_60 : decode cX9_stands 60 = .ok (.iload_n 1, 1) := by decide +kernel
theorem dX9_stands_61 : decode cX9_stands 61 = .ok (.aaload, 1) := by decide +kernel
theorem dX9_stands_62 : decode cX9_stands 62 = .ok (.iconst 1, 1) := by decide +kernel
theorem dX9_stands_63 : decode cX9_stands 63 = .ok (.iaload, 1) := by decide +kernel
theorem dX9_stands_64 : decode cX9_stands 64 = .ok (.istore_n 3, 1) := by decide +kernel
theorem dX9_stands_65 : decode cX9_stands 65 = .ok (.aload_n 0, 1) := by decide +kernel
theorem dX9_stands_66 : decode cX9_stands 66 = .ok (.iload_n 2, 1) := by decide +kernel
theorem dX9_stands_67 : decode cX9_stands 67 = .ok (.invokevirtual 107, 3) := by decide +kernel
theorem dX9_stands_70 : decode cX9_stands 70 = .ok (.ifCond .eq 16, 3) := by decide +kernel
theorem dX9_stands_73 : decode cX9_stands 73 = .ok (.aload_n 0, 1) := by decide +kernel
theorem dX9_stands_74 : decode cX9_stands 74 = .ok (.iload_n 3, 1) := by decide +kernel
theorem dX9_stands_75 : decode cX9_stands 75 = .ok (.invokevirtual 107, 3) := by decide +kernel
theorem dX9_stands_78 : decode cX9_stands 78 = .ok (.ifCond .eq 8, 3) := by decide +kernel
theorem dX9_stands_81 : decode cX9_stands 81 = .ok (.iload_n 2, 1) := by decide +kernel
theorem dX9_stands_82 : decode cX9_stands 82 = .ok (.iload_n 3, 1) := by decide +kernel
theorem dX9_stands_83 : decode cX9_stands 83 = .ok (.if_icmp .ne 5, 3) := by decide +kernel
theorem dX9_stands_86 : decode cX9_stands 86 = .ok (.iconst 0, 1) := by decide +kernel
theorem dX9_stands_87 : decode cX9_stands 87 = .ok (.ireturn, 1) := by decide +kernel
theorem dX9_stands_88 : decode cX9_stands 88 = .ok (.iinc 1 1, 3) := by decide +kernel
theorem dX9_stands_91 : decode cX9_stands 91 = .ok (.goto (-52), 3) := by decide +kernel
theorem dX9_stands_94 : decode cX9_stands 94 = .ok (.aload_n 0, 1) := by decide +kernel
theorem dX9_stands_95 : decode cX9_stands 95 = .ok (.invokevirtual 110, 3) := by decide +kernel
theorem dX9_stands_98 : decode cX9_stands 98 = .ok (.ireturn, 1) := by decide +kernel
theorem dX9_sumOfPonds_0 : decode cX9_sumOfPonds 0 = .ok (.iconst 0, 1) := by decide +kernel
theorem dX9_sumOfPonds_1 : decode cX9_sumOfPonds 1 = .ok (.istore_n 2, 1) := by decide +kernel
theorem dX9_sumOfPonds_2 : decode cX9_sumOfPonds 2 = .ok (.iconst 0, 1) := by decide +kernel
theorem dX9_sumOfPonds_3 : decode cX9_sumOfPonds 3 = .ok (.istore_n 3, 1) := by decide +kernel
theorem dX9_sumOfPonds_4 : decode cX9_sumOfPonds 4 = .ok (.iload_n 3, 1) := by decide +kernel
theorem dX9_sumOfPonds_5 : decode cX9_sumOfPonds 5 = .ok (.aload_n 0, 1) := by decide +kernel
theorem dX9_sumOfPonds_6 : decode cX9_sumOfPonds 6 = .ok (.getfield 35, 3) := by decide +kernel
theorem dX9_sumOfPonds_9 : decode cX9_sumOfPonds 9 = .ok (.if_icmp .ge 20, 3) := by decide +kernel
theorem dX9_sumOfPonds_12 : decode cX9_sumOfPonds 12 = .ok (.iload_n 2, 1) := by decide +kernel
theorem dX9_sumOfPonds_13 : decode cX9_sumOfPonds 13 = .ok (.aload_n 0, 1) := by decide +kernel
theorem dX9_sumOfPonds_14 : decode cX9_sumOfPonds 14 = .ok (.getfield 27, 3) := by decide +kernel
theorem dX9_sumOfPonds_17 : decode cX9_sumOfPonds 17 = .ok (.iload_n 3, 1) := by decide +kernel
theorem dX9_sumOfPonds_18 : decode cX9_sumOfPonds 18 = .ok (.aaload, 1) := by decide +kernel
theorem dX9_sumOfPonds_19 : decode cX9_sumOfPonds 19 = .ok (.iload_n 1, 1) := by decide +kernel
theorem dX9_sumOfPonds_20 : decode cX9_sumOfPonds 20 = .ok (.iaload, 1) := by decide +kernel
theorem dX9_sumOfPonds_21 : decode cX9_sumOfPonds 21 = .ok (.iadd, 1) := by decide +kernel
theorem dX9_sumOfPonds_22 : decode cX9_sumOfPonds 22 = .ok (.istore_n 2, 1) := by decide +kernel
theorem dX9_sumOfPonds_23 : decode cX9_sumOfPonds 23 = .ok (.iinc 3 1, 3) := by decide +kernel
theorem dX9_sumOfPonds_26 : decode cX9_sumOfPonds 26 = .ok (.goto (-22), 3) := by decide +kernel
theorem dX9_sumOfPonds_29 : decode cX9_sumOfPonds 29 = .ok (.iload_n 2, 1) := by decide +kernel
theorem dX9_sumOfPonds_30 : decode cX9_sumOfPonds 30 = .ok (.ireturn, 1) := by decide +kernel
theorem dX9_bareAmong_0 : decode cX9_bareAmong 0 = .ok (.iconst 0, 1) := by decide +kernel
theorem dX9_bareAmong_1 : decode cX9_bareAmong 1 = .ok (.istore_n 2, 1) := by decide +kernel
theorem dX9_bareAmong_2 : decode cX9_bareAmong 2 = .ok (.iconst 0, 1) := by decide +kernel
theorem dX9_bareAmong_3 : decode cX9_bareAmong 3 = .ok (.istore_n 3, 1) := by decide +kernel
theorem dX9_bareAmong_4 : decode cX9_bareAmong 4 = .ok (.iload_n 3, 1) := by decide +kernel
theorem dX9_bareAmong_5 : decode cX9_bareAmong 5 = .ok (.aload_n 0, 1) := by decide +kernel
theorem dX9_bareAmong_6 : decode cX9_bareAmong 6 = .ok (.getfield 35, 3) := by decide +kernel
theorem dX9_bareAmong_9 : decode cX9_bareAmong 9 = .ok (.if_icmp .ge 32, 3) := by decide +kernel
theorem dX9_bareAmong_12 : decode cX9_bareAmong 12 = .ok (.aload_n 1, 1) := by decide +kernel
theorem dX9_bareAmong_13 : decode cX9_bareAmong 13 = .ok (.getfield 113, 3) := by decide +kernel
theorem dX9_bareAmong_16 : decode cX9_bareAmong 16 = .ok (.iload_n 3, 1) := by decide +kernel
theorem dX9_bareAmong_17 : decode cX9_bareAmong 17 = .ok (.iaload, 1) := by decide +kernel
theorem dX9_bareAmong_18 : decode cX9_bareAmong 18 = .ok (.aload_n 0, 1) := by decide +kernel
theorem dX9_bareAmong_19 : decode cX9_bareAmong 19 = .ok (.getfield 27, 3) := by decide +kernel
theorem dX9_bareAmong_22 : decode cX9_bareAmong 22 = .ok (.iload_n 3, 1) := by decide +kernel
theorem dX9_bareAmong_23 : decode cX9_bareAmong 23 = .ok (.aaload, 1) := by decide +kernel
theorem dX9_bareAmong_24 : decode cX9_bareAmong 24 = .ok (.iconst 3, 1) := by decide +kernel
theorem dX9_bareAmong_25 : decode cX9_bareAmong 25 = .ok (.iaload, 1) := by decide +kernel
theorem dX9_bareAmong_26 : decode cX9_bareAmong 26 = .ok (.if_icmp .ge 9, 3) := by decide +kernel
theorem dX9_bareAmong_29 : decode cX9_bareAmong 29 = .ok (.iload_n 2, 1) := by decide +kernel
theorem dX9_bareAmong_30 : decode cX9_bareAmong 30 = .ok (.iconst 1, 1) := by decide +kernel
theorem dX9_bareAmong_31 : decode cX9_bareAmong 31 = .ok (.iload_n 3, 1) := by decide +kernel
theorem dX9_bareAmong_32 : decode cX9_bareAmong 32 = .ok (.ishl, 1) := by decide +kernel
theorem dX9_bareAmong_33 : decode cX9_bareAmong 33 = .ok (.ior, 1) := by decide +kernel
theorem dX9_bareAmong_34 : decode cX9_bareAmong 34 = .ok (.istore_n 2, 1) := by decide +kernel
theorem dX9_bareAmong_35 : decode cX9_bareAmong 35 = .ok (.iinc 3 1, 3) := by decide +kernel
theorem dX9_bareAmong_38 : decode cX9_bareAmong 38 = .ok (.goto (-34), 3) := by decide +kernel
theorem dX9_bareAmong_41 : decode cX9_bareAmong 41 = .ok (.iload_n 2, 1) := by decide +kernel
theorem dX9_bareAmong_42 : decode cX9_bareAmong 42 = .ok (.ireturn, 1) := by decide +kernel
theorem dX9_litAmong_0 : decode cX9_litAmong 0 = .ok (.iconst 0, 1) := by decide +kernel
theorem dX9_litAmong_1 : decode cX9_litAmong 1 = .ok (.istore_n 2, 1) := by decide +kernel
theorem dX9_litAmong_2 : decode cX9_litAmong 2 = .ok (.iconst 0, 1) := by decide +kernel
theorem dX9_litAmong_3 : decode cX9_litAmong 3 = .ok (.istore_n 3, 1) := by decide +kernel
theorem dX9_litAmong_4 : decode cX9_litAmong 4 = .ok (.iload_n 3, 1) := by decide +kernel
theorem dX9_litAmong_5 : decode cX9_litAmong 5 = .ok (.aload_n 0, 1) := by decide +kernel
theorem dX9_litAmong_6 : decode cX9_litAmong 6 = .ok (.getfield 35, 3) := by decide +kernel
theorem dX9_litAmong_9 : decode cX9_litAmong 9 = .ok (.if_icmp .ge 33, 3) := by decide +kernel
theorem dX9_litAmong_12 : decode cX9_litAmong 12 = .ok (.aload_n 1, 1) := by decide +kernel
theorem dX9_litAmong_13 : decode cX9_litAmong 13 = .ok (.getfield 113, 3) := by decide +kernel
theorem dX9_litAmong_16 : decode cX9_litAmong 16 = .ok (.iload_n 3, 1) := by decide +kernel
theorem dX9_litAmong_17 : decode cX9_litAmong 17 = .ok (.iaload, 1) := by decide +kernel
theorem dX9_litAmong_18 : decode cX9_litAmong 18 = .ok (.aload_n 0, 1) := by decide +kernel
theorem dX9_litAmong_19 : decode cX9_litAmong 19 = .ok (.getfield 27, 3) := by decide +kernel
theorem dX9_litAmong_22 : decode cX9_litAmong 22 = .ok (.iload_n 3, 1) := by decide +kernel
theorem dX9_litAmong_23 : decode cX9_litAmong 23 = .ok (.aaload, 1) := by decide +kernel
theorem dX9_litAmong_24 : decode cX9_litAmong 24 = .ok (.bipush 6, 2) := by decide +kernel
theorem dX9_litAmong_26 : decode cX9_litAmong 26 = .ok (.iaload, 1) := by decide +kernel
theorem dX9_litAmong_27 : decode cX9_litAmong 27 = .ok (.if_icmp .gt 9, 3) := by decide +kernel
theorem dX9_litAmong_30 : decode cX9_litAmong 30 = .ok (.iload_n 2, 1) := by decide +kernel
theorem dX9_litAmong_31 : decode cX9_litAmong 31 = .ok (.iconst 1, 1) := by decide +kernel
theorem dX9_litAmong_32 : decode cX9_litAmong 32 = .ok (.iload_n 3, 1) := by decide +kernel
theorem dX9_litAmong_33 : decode cX9_litAmong 33 = .ok (.ishl, 1) := by decide +kernel
theorem dX9_litAmong_34 : decode cX9_litAmong 34 = .ok (.ior, 1) := by decide +kernel
theorem dX9_litAmong_35 : decode cX9_litAmong 35 = .ok (.istore_n 2, 1) := by decide +kernel
theorem dX9_litAmong_36 : decode cX9_litAmong 36 = .ok (.iinc 3 1, 3) := by decide +kernel
theorem dX9_litAmong_39 : decode cX9_litAmong 39 = .ok (.goto (-35), 3) := by decide +kernel
theorem dX9_litAmong_42 : decode cX9_litAmong 42 = .ok (.iload_n 2, 1) := by decide +kernel
theorem dX9_litAmong_43 : decode cX9_litAmong 43 = .ok (.ireturn, 1) := by decide +kernel
theorem dX9_groupOf_0 : decode cX9_groupOf 0 = .ok (.iconst 1, 1) := by decide +kernel
theorem dX9_groupOf_1 : decode cX9_groupOf 1 = .ok (.iload_n 1, 1) := by decide +kernel
theorem dX9_groupOf_2 : decode cX9_groupOf 2 = .ok (.ishl, 1) := by decide +kernel
theorem dX9_groupOf_3 : decode cX9_groupOf 3 = .ok (.istore_n 3, 1) := by decide +kernel
theorem dX9_groupOf_4 : decode cX9_groupOf 4 = .ok (.iconst 1, 1) := by decide +kernel
theorem dX9_groupOf_5 : decode cX9_groupOf 5 = .ok (.istore 4, 2) := by decide +kernel
theorem dX9_groupOf_7 : decode cX9_groupOf 7 = .ok (.iload 4, 2) := by decide +kernel
theorem dX9_groupOf_9 : decode cX9_groupOf 9 = .ok (.aload_n 0, 1) := by decide +kernel
theorem dX9_groupOf_10 : decode cX9_groupOf 10 = .ok (.getfield 35, 3) := by decide +kernel
theorem dX9_groupOf_13 : decode cX9_groupOf 13 = .ok (.if_icmp .ge 73, 3) := by decide +kernel
theorem dX9_groupOf_16 : decode cX9_groupOf 16 = .ok (.iconst 0, 1) := by decide +kernel
theorem dX9_groupOf_17 : decode cX9_groupOf 17 = .ok (.istore 5, 2) := by decide +kernel
theorem dX9_groupOf_19 : decode cX9_groupOf 19 = .ok (.iload 5, 2) := by decide +kernel
theorem dX9_groupOf_21 : decode cX9_groupOf 21 = .ok (.aload_n 0, 1) := by decide +kernel
theorem dX9_groupOf_22 : decode cX9_groupOf 22 = .ok (.getfield 39, 3) := by decide +kernel
theorem dX9_groupOf_25 : decode cX9_groupOf 25 = .ok (.if_icmp .ge 55, 3) := by decide +kernel
theorem dX9_groupOf_28 : decode cX9_groupOf 28 = .ok (.iconst 1, 1) := by decide +kernel
theorem dX9_groupOf_29 : decode cX9_groupOf 29 = .ok (.aload_n 0, 1) := by decide +kernel
theorem dX9_groupOf_30 : decode cX9_groupOf 30 = .ok (.getfield 32, 3) := by decide +kernel
theorem dX9_groupOf_33 : decode cX9_groupOf 33 = .ok (.iload 5, 2) := by decide +kernel
theorem dX9_groupOf_35 : decode cX9_groupOf 35 = .ok (.aaload, 1) := by decide +kernel
theorem dX9_groupOf_36 : decode cX9_groupOf 36 = .ok (.iconst 0, 1) := by decide +kernel
theorem dX9_groupOf_37 : decode cX9_groupOf 37 = .ok (.iaload, 1) := by decide +kernel
theorem dX9_groupOf_38 : decode cX9_groupOf 38 = .ok (.ishl, 1) := by decide +kernel
theorem dX9_groupOf_39 : decode cX9_groupOf 39 = .ok (.iconst 1, 1) := by decide +kernel
theorem dX9_groupOf_40 : decode cX9_groupOf 40 = .ok (.aload_n 0, 1) := by decide +kernel
theorem dX9_groupOf_41 : decode cX9_groupOf 41 = .ok (.getfield 32, 3) := by decide +kernel
theorem dX9_groupOf_44 : decode cX9_groupOf 44 = .ok (.iload 5, 2) := by decide +kernel
theorem dX9_groupOf_46 : decode cX9_groupOf 46 = .ok (.aaload, 1) := by decide +kernel
theorem dX9_groupOf_47 : decode cX9_groupOf 47 = .ok (.iconst 1, 1) := by decide +kernel
theorem dX9_groupOf_48 : decode cX9_groupOf 48 = .ok (.iaload, 1) := by decide +kernel
theorem dX9_groupOf_49 : decode cX9_groupOf 49 = .ok (.ishl, 1) := by decide +kernel
theorem dX9_groupOf_50 : decode cX9_groupOf 50 = .ok (.ior, 1) := by decide +kernel
theorem dX9_groupOf_51 : decode cX9_groupOf 51 = .ok (.istore 6, 2) := by decide +kernel
theorem dX9_groupOf_53 : decode cX9_groupOf 53 = .ok (.iload_n 2, 1) := by decide +kernel
theorem dX9_groupOf_54 : decode cX9_groupOf 54 = .ok (.iload 5, 2) := by decide +kernel
theorem dX9_groupOf_56 : decode cX9_groupOf 56 = .ok (.ishr, 1) := by decide +kernel
theorem dX9_groupOf_57 : decode cX9_groupOf 57 = .ok (.iconst 1, 1) := by decide +kernel
theorem dX9_groupOf_58 : decode cX9_groupOf 58 = .ok (.iand, 1) := by decide +kernel
theorem dX9_groupOf_59 : decode cX9_groupOf 59 = .ok (.ifCond .eq 15, 3) := by decide +kernel
theorem dX9_groupOf_62 : decode cX9_groupOf 62 = .ok (.iload_n 3, 1) := by decide +kernel
theorem dX9_groupOf_63 : decode cX9_groupOf 63 = .ok (.iload 6, 2) := by decide +kernel
theorem dX9_groupOf_65 : decode cX9_groupOf 65 = .ok (.iand, 1) := by decide +kernel
theorem dX9_groupOf_66 : decode cX9_groupOf 66 = .ok (.ifCond .eq 8, 3) := by decide +kernel
theorem dX9_groupOf_69 : decode cX9_groupOf 69 = .ok (.iload_n 3, 1) := by decide +kernel
theorem dX9_groupOf_70 : decode cX9_groupOf 70 = .ok (.iload 6, 2) := by decide +kernel
theorem dX9_groupOf_72 : decode cX9_groupOf 72 = .ok (.ior, 1) := by decide +kernel
theorem dX9_groupOf_73 : decode cX9_groupOf 73 = .ok (.istore_n 3, 1) := by decide +kernel
theorem dX9_groupOf_74 : decode cX9_groupOf 74 = .ok (.iinc 5 1, 3) := by decide +kernel
theorem dX9_groupOf_77 : decode cX9_groupOf 77 = .ok (.goto (-58), 3) := by decide +kernel
theorem dX9_groupOf_80 : decode cX9_groupOf 80 = .ok (.iinc 4 1, 3) := by decide +kernel
theorem dX9_groupOf_83 : decode cX9_groupOf 83 = .ok (.goto (-76), 3) := by decide +kernel
theorem dX9_groupOf_86 : decode cX9_groupOf 86 = .ok (.iload_n 3, 1) := by decide +kernel
theorem dX9_groupOf_87 : decode cX9_groupOf 87 = .ok (.ireturn, 1) := by decide +kernel
theorem dX9_copyRow_0 : decode cX9_copyRow 0 = .ok (.aload_n 0, 1) := by decide +kernel
theorem dX9_copyRow_1 : decode cX9_copyRow 1 = .ok (.iconst 0, 1) := by decide +kernel
theorem dX9_copyRow_2 : decode cX9_copyRow 2 = .ok (.aload_n 1, 1) := by decide +kernel
theorem dX9_copyRow_3 : decode cX9_copyRow 3 = .ok (.iconst 0, 1) := by decide +kernel
theorem dX9_copyRow_4 : decode cX9_copyRow 4 = .ok (.aload_n 0, 1) := by decide +kernel
theorem dX9_copyRow_5 : decode cX9_copyRow 5 = .ok (.arraylength, 1) := by decide +kernel
theorem dX9_copyRow_6 : decode cX9_copyRow 6 = .ok (.aload_n 1, 1) := by decide +kernel
theorem dX9_copyRow_7 : decode cX9_copyRow 7 = .ok (.arraylength, 1) := by decide +kernel
theorem dX9_copyRow_8 : decode cX9_copyRow 8 = .ok (.invokestatic 118, 3) := by decide +kernel
theorem dX9_copyRow_11 : decode cX9_copyRow 11 = .ok (.invokestatic 124, 3) := by decide +kernel
theorem dX9_copyRow_14 : decode cX9_copyRow 14 = .ok (.return_, 1) := by decide +kernel
theorem dX10_init_0 : decode cX10_init 0 = .ok (.aload_n 0, 1) := by decide +kernel
theorem dX10_init_1 : decode cX10_init 1 = .ok (.invokespecial 3, 3) := by decide +kernel
theorem dX10_init_4 : decode cX10_init 4 = .ok (.aload_n 0, 1) := by decide +kernel
theorem dX10_init_5 : decode cX10_init 5 = .ok (.bipush 7, 2) := by decide +kernel
theorem dX10_init_7 : decode cX10_init 7 = .ok (.newarray .int, 2) := by decide +kernel
theorem dX10_init_9 : decode cX10_init 9 = .ok (.putfield 9, 3) := by decide +kernel
theorem dX10_init_12 : decode cX10_init 12 = .ok (.aload_n 0, 1) := by decide +kernel
theorem dX10_init_13 : decode cX10_init 13 = .ok (.bipush 7, 2) := by decide +kernel
theorem dX10_init_15 : decode cX10_init 15 = .ok (.newarray .int, 2) := by decide +kernel
theorem dX10_init_17 : decode cX10_init 17 = .ok (.putfield 15, 3) := by decide +kernel
theorem dX10_init_20 : decode cX10_init 20 = .ok (.aload_n 0, 1) := by decide +kernel
theorem dX10_init_21 : decode cX10_init 21 = .ok (.bipush 7, 2) := by decide +kernel
theorem dX10_init_23 : decode cX10_init 23 = .ok (.newarray .int, 2) := by decide +kernel
theorem dX10_init_25 : decode cX10_init 25 = .ok (.putfield 18, 3) := by decide +kernel
theorem dX10_init_28 : decode cX10_init 28 = .ok (.return_, 1) := by decide +kernel
theorem dX10_sumOf_0 : decode cX10_sumOf 0 = .ok (.iconst 0, 1) := by decide +kernel
theorem dX10_sumOf_1 : decode cX10_sumOf 1 = .ok (.istore_n 1, 1) := by decide +kernel
theorem dX10_sumOf_2 : decode cX10_sumOf 2 = .ok (.iconst 0, 1) := by decide +kernel
theorem dX10_sumOf_3 : decode cX10_sumOf 3 = .ok (.istore_n 2, 1) := by decide +kernel
theorem dX10_sumOf_4 : decode cX10_sumOf 4 = .ok (.iload_n 2, 1) := by decide +kernel
theorem dX10_sumOf_5 : decode cX10_sumOf 5 = .ok (.aload_n 0, 1) := by decide +kernel
theorem dX10_sumOf_6 : decode cX10_sumOf 6 = .ok (.arraylength, 1) := by decide +kernel
theorem dX10_sumOf_7 : decode cX10_sumOf 7 = .ok (.if_icmp .ge 15, 3) := by decide +kernel
theorem dX10_sumOf_10 : decode cX10_sumOf 10 = .ok (.iload_n 1, 1) := by decide +kernel
theorem dX10_sumOf_11 : decode cX10_sumOf 11 = .ok (.aload_n 0, 1) := by decide +kernel
theorem dX10_sumOf_12 : decode cX10_sumOf 12 = .ok (.iload_n 2, 1) := by decide +kernel
theorem dX10_sumOf_13 : decode cX10_sumOf 13 = .ok (.iaload, 1) := by decide +kernel
theorem dX10_sumOf_14 : decode cX10_sumOf 14 = .ok (.iadd, 1) := by decide +kernel
theorem dX10_sumOf_15 : decode cX10_sumOf 15 = .ok (.istore_n 1, 1) := by decide +kernel
theorem dX10_sumOf_16 : decode cX10_sumOf 16 = .ok (.iinc 2 1, 3) := by decide +kernel
theorem dX10_sumOf_19 : decode cX10_sumOf 19 = .ok (.goto (-15), 3) := by decide +kernel
theorem dX10_sumOf_22 : decode cX10_sumOf 22 = .ok (.iload_n 1, 1) := by decide +kernel
theorem dX10_sumOf_23 : decode cX10_sumOf 23 = .ok (.ireturn, 1) := by decide +kernel
theorem dX10_isOpen_0 : decode cX10_isOpen 0 = .ok (.aload_n 0, 1) := by decide +kernel
theorem dX10_isOpen_1 : decode cX10_isOpen 1 = .ok (.getfield 21, 3) := by decide +kernel
theorem dX10_isOpen_4 : decode cX10_isOpen 4 = .ok (.iload_n 1, 1) := by decide +kernel
theorem dX10_isOpen_5 : decode cX10_isOpen 5 = .ok (.ishr, 1) := by decide +kernel
theorem dX10_isOpen_6 : decode cX10_isOpen 6 = .ok (.iconst 1, 1) := by decide +kernel
theorem dX10_isOpen_7 : decode cX10_isOpen 7 = .ok (.iand, 1) := by decide +kernel
theorem dX10_isOpen_8 : decode cX10_isOpen 8 = .ok (.ifCond .eq 7, 3) := by decide +kernel
theorem dX10_isOpen_11 : decode cX10_isOpen 11 = .ok (.iconst 1, 1) := by decide +kernel
theorem dX10_isOpen_12 : decode cX10_isOpen 12 = .ok (.goto 4, 3) := by decide +kernel
theorem dX10_isOpen_15 : decode cX10_isOpen 15 = .ok (.iconst 0, 1) := by decide +kernel
theorem dX10_isOpen_16 : decode cX10_isOpen 16 = .ok (.ireturn, 1) := by decide +kernel
theorem dX10_begin_0 : decode cX10_begin 0 = .ok (.iconst 0, 1) := by decide +kernel
theorem dX10_begin_1 : decode cX10_begin 1 = .ok (.istore_n 2, 1) := by decide +kernel
theorem dX10_begin_2 : decode cX10_begin 2 = .ok (.iload_n 2, 1) := by decide +kernel
theorem dX10_begin_3 : decode cX10_begin 3 = .ok (.bipush 7, 2) := by decide +kernel
theorem dX10_begin_5 : decode cX10_begin 5 = .ok (.if_icmp .ge 83, 3) := by decide +kernel
theorem dX10_begin_8 : decode cX10_begin 8 = .ok (.aload_n 1, 1) := by decide +kernel
theorem dX10_begin_9 : decode cX10_begin 9 = .ok (.iload_n 2, 1) := by decide +kernel
theorem dX10_begin_10 : decode cX10_begin 10 = .ok (.invokevirtual 25, 3) := by decide +kernel
theorem dX10_begin_13 : decode cX10_begin 13 = .ok (.istore_n 3, 1) := by decide +kernel
theorem dX10_begin_14 : decode cX10_begin 14 = .ok (.aload_n 0, 1) := by decide +kernel
theorem dX10_begin_15 : decode cX10_begin 15 = .ok (.getfield 9, 3) := by decide +kernel
theorem dX10_begin_18 : decode cX10_begin 18 = .ok (.iload_n 2, 1) := by decide +kernel
theorem dX10_begin_19 : decode cX10_begin 19 = .ok (.iload_n 3, 1) := by decide +kernel
theorem dX10_begin_20 : decode cX10_begin 20 = .ok (.ifCond .eq 14, 3) := by decide +kernel
theorem dX10_begin_23 : decode cX10_begin 23 = .ok (.aload_n 1, 1) := by decide +kernel
theorem dX10_begin_24 : decode cX10_begin 24 = .ok (.getfield 31, 3) := by decide +kernel
theorem dX10_begin_27 : decode cX10_begin 27 = .ok (.iload_n 2, 1) := by decide +kernel
theorem dX10_begin_28 : decode cX10_begin 28 = .ok (.aaload, 1) := by decide +kernel
theorem dX10_begin_29 : decode cX10_begin 29 = .ok (.iconst 0, 1) := by decide +kernel
theorem dX10_begin_30 : decode cX10_begin 30 = .ok (.iaload, 1) := by decide +kernel
theorem dX10_begin_31 : decode cX10_begin 31 = .ok (.goto 4, 3) := by decide +kernel
theorem dX10_begin_34 : decode cX10_begin 34 = .ok (.iconst 0, 1) := by decide +kernel
theorem dX10_begin_35 : decode cX10_begin 35 = .ok (.iastore, 1) := by decide +kernel
theorem dX10_begin_36 : decode cX10_begin 36 = .ok (.aload_n 0, 1) := by decide +kernel
theorem dX10_begin_37 : decode cX10_begin 37 = .ok (.getfield 15, 3) := by decide +kernel
theorem dX10_begin_40 : decode cX10_begin 40 = .ok (.iload_n 2, 1) := by decide +kernel
theorem dX10_begin_41 : decode cX10_begin 41 = .ok (.iload_n 3, 1) := by decide +kernel
theorem dX10_begin_42 : decode cX10_begin 42 = .ok (.ifCond .eq 15, 3) := by decide +kernel
theorem dX10_begin_45 : decode cX10_begin 45 = .ok (.aload_n 1, 1) := by decide +kernel
theorem dX10_begin_46 : decode cX10_begin 46 = .ok (.getfield 31, 3) := by decide +kernel
theorem dX10_begin_49 : decode cX10_begin 49 = .ok (.iload_n 2, 1) := by decide +kernel
theorem dX10_begin_50 : decode cX10_begin 50 = .ok (.aaload, 1) := by decide +kernel
theorem dX10_begin_51 : decode cX10_begin 51 = .ok (.bipush 7, 2) := by decide +kernel
theorem dX10_begin_53 : decode cX10_begin 53 = .ok (.iaload, 1) := by decide +kernel
theorem dX10_begin_54 : decode cX10_begin 54 = .ok (.goto 4, 3) := by decide +kernel
theorem dX10_begin_57 : decode cX10_begin 57 = .ok (.iconst 0, 1) := by decide +kernel
theorem dX10_begin_58 : decode cX10_begin 58 = .ok (.iastore, 1) := by decide +kernel
theorem dX10_begin_59 : decode cX10_begin 59 = .ok (.aload_n 0, 1) := by decide +kernel
theorem dX10_begin_60 : decode cX10_begin 60 = .ok (.getfield 18, 3) := by decide +kernel
theorem dX10_begin_63 : decode cX10_begin 63 = .ok (.iload_n 2, 1) := by decide +kernel
theorem dX10_begin_64 : decode cX10_begin 64 = .ok (.iload_n 3, 1) := by decide +kernel
theorem dX10_begin_65 : decode cX10_begin 65 = .ok (.ifCond .eq 15, 3) := by decide +kernel
theorem dX10_begin_68 : decode cX10_begin 68 = .ok (.aload_n 1, 1) := by decide +kernel
theorem dX10_begin_69 : decode cX10_begin 69 = .ok (.getfield 31, 3) := by decide +kernel
theorem dX10_begin_72 : decode cX10_begin 72 = .ok (.iload_n 2, 1) := by decide +kernel
theorem dX10_begin_73 : decode cX10_begin 73 = .ok (.aaload, 1) := by decide +kernel
theorem dX10_begin_74 : decode cX10_begin 74 = .ok (.bipush 8, 2) := by decide +kernel
theorem dX10_begin_76 : decode cX10_begin 76 = .ok (.iaload, 1) := by decide +kernel
theorem dX10_begin_77 : decode cX10_begin 77 = .ok (.goto 4, 3) := by decide +kernel
theorem dX10_begin_80 : decode cX10_begin 80 = .ok (.iconst 0, 1) := by decide +kernel
theorem dX10_begin_81 : decode cX10_begin 81 = .ok (.iastore, 1) := by decide +kernel
theorem dX10_begin_82 : decode cX10_begin 82 = .ok (.iinc 2 1, 3) := by decide +kernel
theorem dX10_begin_85 : decode cX10_begin 85 = .ok (.goto (-83), 3) := by decide +kernel
theorem dX10_begin_88 : decode cX10_begin 88 = .ok (.aload_n 0, 1) := by decide +kernel
theorem dX10_begin_89 : decode cX10_begin 89 = .ok (.iconst 0, 1) := by decide +kernel
theorem dX10_begin_90 : decode cX10_begin 90 = .ok (.putfield 21, 3) := by decide +kernel
theorem dX10_begin_93 : decode cX10_begin 93 = .ok (.iconst 0, 1) := by decide +kernel
theorem dX10_begin_94 : decode cX10_begin 94 = .ok (.istore_n 2, 1) := by decide +kernel
theorem dX10_begin_95 : decode cX10_begin 95 = .ok (.iload_n 2, 1) := by decide +kernel
theorem dX10_begin_96 : decode cX10_begin 96 = .ok (.aload_n 1, 1) := by decide +kernel
theorem dX10_begin_97 : decode cX10_begin 97 = .ok (.getfield 35, 3) := by decide +kernel
theorem dX10_begin_100 : decode cX10_begin 100 = .ok (.if_icmp .ge 28, 3) := by decide +kernel
theorem dX10_begin_103 : decode cX10_begin 103 = .ok (.aload_n 0, 1) := by decide +kernel
theorem dX10_begin_104 : decode cX10_begin 104 = .ok (.dup, 1) := by decide +kernel
theorem dX10_begin_105 : decode cX10_begin 105 = .ok (.getfield 21, 3) := by decide +kernel
theorem dX10_begin_108 : decode cX10_begin 108 = .ok (.aload_n 1, 1) := by decide +kernel
theorem dX10_begin_109 : decode cX10_begin 109 = .ok (.getfield 38, 3) := by decide +kernel
theorem dX10_begin_112 : decode cX10_begin 112 = .ok (.iload_n 2, 1) := by decide +kernel
theorem dX10_begin_113 : decode cX10_begin 113 = .ok (.aaload, 1) := by decide +kernel
theorem dX10_begin_114 : decode cX10_begin 114 = .ok (.iconst 4, 1) := by decide +kernel
theorem dX10_begin_115 : decode cX10_begin 115 = .ok (.iaload, 1) := by decide +kernel
theorem dX10_begin_116 : decode cX10_begin 116 = .ok (.iload_n 2, 1) := by decide +kernel
theorem dX10_begin_117 : decode cX10_begin 117 = .ok (.ishl, 1) := by decide +kernel
theorem dX10_begin_118 : decode cX10_begin 118 = .ok (.ior, 1) := by decide +kernel
theorem dX10_begin_119 : decode cX10_begin 119 = .ok (.putfield 21, 3) := by decide +kernel
theorem dX10_begin_122 : decode cX10_begin 122 = .ok (.iinc 2 1, 3) := by decide +kernel
theorem dX10_begin_125 : decode cX10_begin 125 = .ok (.goto (-30), 3) := by decide +kernel
theorem dX10_begin_128 : decode cX10_begin 128 = .ok (.aload_n 0, 1) := by decide +kernel
theorem dX10_begin_129 : decode cX10_begin 129 = .ok (.iconst 0, 1) := by decide +kernel
theorem dX10_begin_130 : decode cX10_begin 130 = .ok (.putfield 41, 3) := by decide +kernel
theorem dX10_begin_133 : decode cX10_begin 133 = .ok (.aload_n 0, 1) := by decide +kernel
theorem dX10_begin_134 : decode cX10_begin 134 = .ok (.iconst 0, 1) := by decide +kernel
theorem dX10_begin_135 : decode cX10_begin 135 = .ok (.putfield 44, 3) := by decide +kernel
theorem dX10_begin_138 : decode cX10_begin 138 = .ok (.return_, 1) := by decide +kernel
theorem dX10_become_0 : decode cX10_become 0 = .ok (.aload_n 1, 1) := by decide +kernel
theorem dX10_become_1 : decode cX10_become 1 = .ok (.getfield 9, 3) := by decide +kernel
theorem dX10_become_4 : decode cX10_become 4 = .ok (.iconst 0, 1) := by decide +kernel
theorem dX10_become_5 : decode cX10_become 5 = .ok (.aload_n 0, 1) := by decide +kernel
theorem dX10_become_6 : decode cX10_become 6 = .ok (.getfield 9, 3) := by decide +kernel
theorem dX10_become_9 : decode cX10_become 9 = .ok (.iconst 0, 1) := by decide +kernel
theorem dX10_become_10 : decode cX10_become 10 = .ok (.bipush 7, 2) := by decide +kernel
theorem dX10_become_12 : decode cX10_become 12 = .ok (.invokestatic 47, 3) := by decide +kernel
theorem dX10_become_15 : decode cX10_become 15 = .ok (.aload_n 1, 1) := by decide +kernel
theorem dX10_become_16 : decode cX10_become 16 = .ok (.getfield 15, 3) := by decide +kernel
theorem dX10_become_19 : decode cX10_become 19 = .ok (.iconst 0, 1) := by decide +kernel
theorem dX10_become_20 : decode cX10_become 20 = .ok (.aload_n 0, 1) := by decide +kernel
theorem dX10_become_21 : decode cX10_become 21 = .ok (.getfield 15, 3) := by decide +kernel
theorem dX10_become_24 : decode cX10_become 24 = .ok (.iconst 0, 1) := by decide +kernel
theorem dX10_become_25 : decode cX10_become 25 = .ok (.bipush 7, 2) := by decide +kernel
theorem dX10_become_27 : decode cX10_become 27 = .ok (.invokestatic 47, 3) := by decide +kernel
theorem dX10_become_30 : decode cX10_become 30 = .ok (.aload_n 1, 1) := by decide +kernel
theorem dX10_become_31 : decode cX10_become 31 = .ok (.getfield 18, 3) := by decide +kernel
theorem dX10_become_34 : decode cX10_become 34 = .ok (.iconst 0, 1) := by decide +kernel
theorem dX10_become_35 : decode cX10_become 35 = .ok (.aload_n 0, 1) := by decide +kernel
theorem dX10_become_36 : decode cX10_become 36 = .ok (.getfield 18, 3) := by decide +kernel
theorem dX10_become_39 : decode cX10_become 39 = .ok (.iconst 0, 1) := by decide +kernel
theorem dX10_become_40 : decode cX10_become 40 = .ok (.bipush 7, 2) := by decide +kernel
theorem dX10_become_42 : decode cX10_become 42 = .ok (.invokestatic 47, 3) := by decide +kernel
theorem dX10_become_45 : decode cX10_become 45 = .ok (.aload_n 0, 1) := by decide +kernel
theorem dX10_become_46 : decode cX10_become 46 = .ok (.aload_n 1, 1) := by decide +kernel
theorem dX10_become_47 : decode cX10_become 47 = .ok (.getfield 21, 3) := by decide +kernel
theorem dX10_become_50 : decode cX10_become 50 = .ok (.putfield 21, 3) := by decide +kernel
theorem dX10_become_53 : decode cX10_become 53 = .ok (.aload_n 0, 1) := by decide +kernel
theorem dX10_become_54 : decode cX10_become 54 = .ok (.aload_n 1, 1) := by decide +kernel
theorem dX10_become_55 : decode cX10_become 55 = .ok (.getfield 41, 3) := by decide +kernel
theorem dX10_become_58 : decode cX10_become 58 = .ok (.putfield 41, 3) := by decide +kernel
theorem dX10_become_61 : decode cX10_become 61 = .ok (.aload_n 0, 1) := by decide +kernel
theorem dX10_become_62 : decode cX10_become 62 = .ok (.aload_n 1, 1) := by decide +kernel
theorem dX10_become_63 : decode cX10_become 63 = .ok (.getfield 44, 3) := by decide +kernel
theorem dX10_become_66 : decode cX10_become 66 = .ok (.putfield 44, 3) := by decide +kernel
theorem dX10_become_69 : decode cX10_become 69 = .ok (.return_, 1) := by decide +kernel
theorem dX10_take_0 : decode cX10_take 0 = .ok (.iload_n 1, 1) := by decide +kernel
theorem dX10_take_1 : decode cX10_take 1 = .ok (.ifCond .ne 18, 3) := by decide +kernel
theorem dX10_take_4 : decode cX10_take 4 = .ok (.aload_n 0, 1) := by decide +kernel
theorem dX10_take_5 : decode cX10_take 5 = .ok (.dup, 1) := by decide +kernel
theorem dX10_take_6 : decode cX10_take 6 = .ok (.getfield 21, 3) := by decide +kernel
theorem dX10_take_9 : decode cX10_take 9 = .ok (.iconst 1, 1) := by decide +kernel
theorem dX10_take_10 : decode cX10_take 10 = .ok (.iload_n 2, 1) := by decide +kernel
theorem dX10_take_11 : decode cX10_take 11 = .ok (.ishl, 1) := by decide +kernel
theorem dX10_take_12 : decode cX10_take 12 = .ok (.ior, 1) := by decide +kernel
theorem dX10_take_13 : decode cX10_take 13 = .ok (.putfield 21, 3) := by decide +kernel
theorem dX10_take_16 : decode cX10_take 16 = .ok (.goto 50, 3) := by decide +kernel
theorem dX10_take_19 : decode cX10_take 19 = .ok (.iload_n 1, 1) := by decide +kernel
theorem dX10_take_20 : decode cX10_take 20 = .ok (.iconst 1, 1) := by decide +kernel
theorem dX10_take_21 : decode cX10_take 21 = .ok (.if_icmp .ne 20, 3) := by decide +kernel
theorem dX10_take_24 : decode cX10_take 24 = .ok (.aload_n 0, 1) := by decide +kernel
theorem dX10_take_25 : decode cX10_take 25 = .ok (.dup, 1) := by decide +kernel
theorem dX10_take_26 : decode cX10_take 26 = .ok (.getfield 21, 3) := by decide +kernel
theorem dX10_take_29 : decode cX10_take 29 = .ok (.iconst 1, 1) := by decide +kernel
theorem dX10_take_30 : decode cX10_take 30 = .ok (.iload_n 2, 1) := by decide +kernel
theorem dX10_take_31 : decode cX10_take 31 = .ok (.ishl, 1) := by decide +kernel
theorem dX10_take_32 : decode cX10_take 32 = .ok (.iconst (-1), 1) := by decide +kernel
theorem dX10_take_33 : decode cX10_take 33 = .ok (.ixor, 1) := by decide +kernel
theorem dX10_take_34 : decode cX10_take 34 = .ok (.iand, 1) := by decide +kernel
theorem dX10_take_35 : decode cX10_take 35 = .ok (.putfield 21, 3) := by decide +kernel
theorem dX10_take_38 : decode cX10_take 38 = .ok (.goto 28, 3) := by decide +kernel
theorem dX10_take_41 : decode cX10_take 41 = .ok (.iload_n 1, 1) := by decide +kernel
theorem dX10_take_42 : decode cX10_take 42 = .ok (.iconst 3, 1) := by decide +kernel
theorem dX10_take_43 : decode cX10_take 43 = .ok (.if_icmp .ne 23, 3) := by decide +kernel
theorem dX10_take_46 : decode cX10_take 46 = .ok (.iload_n 2, 1) := by decide +kernel
theorem dX10_take_47 : decode cX10_take 47 = .ok (.ifCond .lt 19, 3) := by decide +kernel
theorem dX10_take_50 : decode cX10_take 50 = .ok (.iload_n 2, 1) := by decide +kernel
theorem dX10_take_51 : decode cX10_take 51 = .ok (.bipush 7, 2) := by decide +kernel
theorem dX10_take_53 : decode cX10_take 53 = .ok (.if_icmp .ge 13, 3) := by decide +kernel
theorem dX10_take_56 : decode cX10_take 56 = .ok (.aload_n 0, 1) := by decide +kernel
theorem dX10_take_57 : decode cX10_take 57 = .ok (.getfield 9, 3) := by decide +kernel
theorem dX10_take_60 : decode cX10_take 60 = .ok (.iload_n 2, 1) := by decide +kernel
theorem dX10_take_61 : decode cX10_take 61 = .ok (.dup2, 1) := by decide +kernel
theorem dX10_take_62 : decode cX10_take 62 = .ok (.iaload, 1) := by decide +kernel
theorem dX10_take_63 : decode cX10_take 63 = .ok (.iload_n 3, 1) := by decide +kernel
theorem dX10_take_64 : decode cX10_take 64 = .ok (.iadd, 1) := by decide +kernel
theorem dX10_take_65 : decode cX10_take 65 = .ok (.iastore, 1) := by decide +kernel
theorem dX10_take_66 : decode cX10_take 66 = .ok (.return_, 1) := by decide +kernel
theorem dX10_writeTo_0 : decode cX10_writeTo 0 = .ok (.iload_n 2, 1) := by decide +kernel
theorem dX10_writeTo_1 : decode cX10_writeTo 1 = .ok (.ifCond .lt 12, 3) := by decide +kernel
theorem dX10_writeTo_4 : decode cX10_writeTo 4 = .ok (.iload_n 2, 1) := by decide +kernel
theorem dX10_writeTo_5 : decode cX10_writeTo 5 = .ok (.bipush 24, 2) := by decide +kernel
theorem dX10_writeTo_7 : decode cX10_writeTo 7 = .ok (.iadd, 1) := by decide +kernel
theorem dX10_writeTo_8 : decode cX10_writeTo 8 = .ok (.aload_n 1, 1) := by decide +kernel
theorem dX10_writeTo_9 : decode cX10_writeTo 9 = .ok (.arraylength, 1) := by decide +kernel
theorem dX10_writeTo_10 : decode cX10_writeTo 10 = .ok (.if_icmp .le 4, 3) := by decide +kernel
theorem dX10_writeTo_13 : decode cX10_writeTo 13 = .ok (.return_, 1) := by decide +kernel
theorem dX10_writeTo_14 : decode cX10_writeTo 14 = .ok (.aload_n 0, 1) := by decide +kernel
theorem dX10_writeTo_15 : decode cX10_writeTo 15 = .ok (.getfield 9, 3) := by decide +kernel
theorem dX10_writeTo_18 : decode cX10_writeTo 18 = .ok (.iconst 0, 1) := by decide +kernel
theorem dX10_writeTo_19 : decode cX10_writeTo 19 = .ok (.aload_n 1, 1) := by decide +kernel
theorem dX10_writeTo_20 : decode cX10_writeTo 20 = .ok (.iload_n 2, 1) := by decide +kernel
theorem dX10_writeTo_21 : decode cX10_writeTo 21 = .ok (.bipush 7, 2) := by decide +kernel
theorem dX10_writeTo_23 : decode cX10_writeTo 23 = .ok (.invokestatic 47, 3) := by decide +kernel
theorem dX10_writeTo_26 : decode cX10_writeTo 26 = .ok (.aload_n 0, 1) := by decide +kernel
theorem dX10_writeTo_27 : decode cX10_writeTo 27 = .ok (.getfield 15, 3) := by decide +kernel
theorem dX10_writeTo_30 : decode cX10_writeTo 30 = .ok (.iconst 0, 1) := by decide +kernel
theorem dX10_writeTo_31 : decode cX10_writeTo 31 = .ok (.aload_n 1, 1) := by decide +kernel
theorem dX10_writeTo_32 : decode cX10_writeTo 32 = .ok (.iload_n 2, 1) := by decide +kernel
theorem dX10_writeTo_33 : decode cX10_writeTo 33 = .ok (.bipush 7, 2) := by decide +kernel
theorem dX10_writeTo_35 : decode cX10_writeTo 35 = .ok (.iadd, 1) := by decide +kernel
theorem dX10_writeTo_36 : decode cX10_writeTo 36 = .ok (.bipush 7, 2) := by decide +kernel
theorem dX10_writeTo_38 : decode cX10_writeTo 38 = .ok (.invokestatic 47, 3) := by decide +kernel
theorem dX10_writeTo_41 : decode cX10_writeTo 41 = .ok (.aload_n 0, 1) := by decide +kernel
theorem dX10_writeTo_42 : decode cX10_writeTo 42 = .ok (.getfield 18, 3) := by decide +kernel
theorem dX10_writeTo_45 : decode cX10_writeTo 45 = .ok (.iconst 0, 1) := by decide +kernel
theorem dX10_writeTo_46 : decode cX10_writeTo 46 = .ok (.aload_n 1, 1) := by decide +kernel
theorem dX10_writeTo_47 : decode cX10_writeTo 47 = .ok (.iload_n 2, 1) := by decide +kernel
theorem dX10_writeTo_48 : decode cX10_writeTo 48 = .ok (.bipush 14, 2) := by decide +kernel
theorem dX10_writeTo_50 : decode cX10_writeTo 50 = .ok (.iadd, 1) := by decide +kernel
theorem dX10_writeTo_51 : decode cX10_writeTo 51 = .ok (.bipush 7, 2) := by decide +kernel
theorem dX10_writeTo_53 : decode cX10_writeTo 53 = .ok (.invokestatic 47, 3) := by decide +kernel
theorem dX10_writeTo_56 : decode cX10_writeTo 56 = .ok (.aload_n 1, 1) := by decide +kernel
theorem dX10_writeTo_57 : decode cX10_writeTo 57 = .ok (.iload_n 2, 1) := by decide +kernel
theorem dX10_writeTo_58 : decode cX10_writeTo 58 = .ok (.bipush 24, 2) := by decide +kernel
theorem dX10_writeTo_60 : decode cX10_writeTo 60 = .ok (.iadd, 1) := by decide +kernel
theorem dX10_writeTo_61 : decode cX10_writeTo 61 = .ok (.iconst 3, 1) := by decide +kernel
theorem dX10_writeTo_62 : decode cX10_writeTo 62 = .ok (.isub, 1) := by decide +kernel
theorem dX10_writeTo_63 : decode cX10_writeTo 63 = .ok (.aload_n 0, 1) := by decide +kernel
theorem dX10_writeTo_64 : decode cX10_writeTo 64 = .ok (.getfield 21, 3) := by decide +kernel
theorem dX10_writeTo_67 : decode cX10_writeTo 67 = .ok (.iastore, 1) := by decide +kernel
theorem dX10_writeTo_68 : decode cX10_writeTo 68 = .ok (.aload_n 1, 1) := by decide +kernel
theorem dX10_writeTo_69 : decode cX10_writeTo 69 = .ok (.iload_n 2, 1) := by decide +kernel
theorem dX10_writeTo_70 : decode cX10_writeTo 70 = .ok (.bipush 24, 2) := by decide +kernel
theorem dX10_writeTo_72 : decode cX10_writeTo 72 = .ok (.iadd, 1) := by decide +kernel
theorem dX10_writeTo_73 : decode cX10_writeTo 73 = .ok (.iconst 2, 1) := by decide +kernel
theorem dX10_writeTo_74 : decode cX10_writeTo 74 = .ok (.isub, 1) := by decide +kernel
theorem dX10_writeTo_75 : decode cX10_writeTo 75 = .ok (.aload_n 0, 1) := by decide +kernel
theorem dX10_writeTo_76 : decode cX10_writeTo 76 = .ok (.getfield 41, 3) := by decide +kernel
theorem dX10_writeTo_79 : decode cX10_writeTo 79 = .ok (.iastore, 1) := by decide +kernel
theorem dX10_writeTo_80 : decode cX10_writeTo 80 = .ok (.aload_n 1, 1) := by decide +kernel
theorem dX10_writeTo_81 : decode cX10_writeTo 81 = .ok (.iload_n 2, 1) := by decide +kernel
theorem dX10_writeTo_82 : decode cX10_writeTo 82 = .ok (.bipush 24, 2) := by decide +kernel
theorem dX10_writeTo_84 : decode cX10_writeTo 84 = .ok (.iadd, 1) := by decide +kernel
theorem dX10_writeTo_85 : decode cX10_writeTo 85 = .ok (.iconst 1, 1) := by decide +kernel
theorem dX10_writeTo_86 : decode cX10_writeTo 86 = .ok (.isub, 1) := by decide +kernel
theorem dX10_writeTo_87 : decode cX10_writeTo 87 = .ok (.aload_n 0, 1) := by decide +kernel
theorem dX10_writeTo_88 : decode cX10_writeTo 88 = .ok (.getfield 44, 3) := by decide +kernel
theorem dX10_writeTo_91 : decode cX10_writeTo 91 = .ok (.iastore, 1) := by decide +kernel
theorem dX10_writeTo_92 : decode cX10_writeTo 92 = .ok (.return_, 1) := by decide +kernel
theorem dX10_readFrom_0 : decode cX10_readFrom 0 = .ok (.iload_n 2, 1) := by decide +kernel
theorem dX10_readFrom_1 : decode cX10_readFrom 1 = .ok (.ifCond .lt 12, 3) := by decide +kernel
theorem dX10_readFrom_4 : decode cX10_readFrom 4 = .ok (.iload_n 2, 1) := by decide +kernel
theorem dX10_readFrom_5 : decode cX10_readFrom 5 = .ok (.bipush 24, 2) := by decide +kernel
theorem dX10_readFrom_7 : decode cX10_readFrom 7 = .ok (.iadd, 1) := by decide +kernel
theorem dX10_readFrom_8 : decode cX10_readFrom 8 = .ok (.aload_n 1, 1) := by decide +kernel
theorem dX10_readFrom_9 : decode cX10_readFrom 9 = .ok (.arraylength, 1) := by decide +kernel
theorem dX10_readFrom_10 : decode cX10_readFrom 10 = .ok (.if_icmp .le 4, 3) := by decide +kernel
theorem dX10_readFrom_13 : decode cX10_readFrom 13 = .ok (.return_, 1) := by decide +kernel
theorem dX10_readFrom_14 : decode cX10_readFrom 14 = .ok (.aload_n 1, 1) := by decide +kernel
theorem dX10_readFrom_15 : decode cX10_readFrom 15 = .ok (.iload_n 2, 1) := by decide +kernel
theorem dX10_readFrom_16 : decode cX10_readFrom 16 = .ok (.aload_n 0, 1) := by decide +kernel
theorem dX10_readFrom_17 : decode cX10_readFrom 17 = .ok (.getfield 9, 3) := by decide +kernel
theorem dX10_readFrom_20 : decode cX10_readFrom 20 = .ok (.iconst 0, 1) := by decide +kernel
theorem dX10_readFrom_21 : decode cX10_readFrom 21 = .ok (.bipush 7, 2) := by decide +kernel
theorem dX10_readFrom_23 : decode cX10_readFrom 23 = .ok (.invokestatic 47, 3) := by decide +kernel
theorem dX10_readFrom_26 : decode cX10_readFrom 26 = .ok (.aload_n 1, 1) := by decide +kernel
theorem dX10_readFrom_27 : decode cX10_readFrom 27 = .ok (.iload_n 2, 1) := by decide +kernel
theorem dX10_readFrom_28 : decode cX10_readFrom 28 = .ok (.bipush 7, 2) := by decide +kernel
theorem dX10_readFrom_30 : decode cX10_readFrom 30 = .ok (.iadd, 1) := by decide +kernel
theorem dX10_readFrom_31 : decode cX10_readFrom 31 = .ok (.aload_n 0, 1) := by decide +kernel
theorem dX10_readFrom_32 : decode cX10_readFrom 32 = .ok (.getfield 15, 3) := by decide +kernel
theorem dX10_readFrom_35 : decode cX10_readFrom 35 = .ok (.iconst 0, 1) := by decide +kernel
theorem dX10_readFrom_36 : decode cX10_readFrom 36 = .ok (.bipush 7, 2) := by decide +kernel
theorem dX10_readFrom_38 : decode cX10_readFrom 38 = .ok (.invokestatic 47, 3) := by decide +kernel
theorem dX10_readFrom_41 : decode cX10_readFrom 41 = .ok (.aload_n 1, 1) := by decide +kernel
theorem dX10_readFrom_42 : decode cX10_readFrom 42 = .ok (.iload_n 2, 1) := by decide +kernel
theorem dX10_readFrom_43 : decode cX10_readFrom 43 = .ok (.bipush 14, 2) := by decide +kernel
theorem dX10_readFrom_45 : decode cX10_readFrom 45 = .ok (.iadd, 1) := by decide +kernel
theorem dX10_readFrom_46 : decode cX10_readFrom 46 = .ok (.aload_n 0, 1) := by decide +kernel
theorem dX10_readFrom_47 : decode cX10_readFrom 47 = .ok (.getfield 18, 3) := by decide +kernel
theorem dX10_readFrom_50 : decode cX10_readFrom 50 = .ok (.iconst 0, 1) := by decide +kernel
theorem dX10_readFrom_51 : decode cX10_readFrom 51 = .ok (.bipush 7, 2) := by decide +kernel
theorem dX10_readFrom_53 : decode cX10_readFrom 53 = .ok (.invokestatic 47, 3) := by decide +kernel
theorem dX10_readFrom_56 : decode cX10_readFrom 56 = .ok (.aload_n 0, 1) := by decide +kernel
theorem dX10_readFrom_57 : decode cX10_readFrom 57 = .ok (.aload_n 1, 1) := by decide +kernel
theorem dX10_readFrom_58 : decode cX10_readFrom 58 = .ok (.iload_n 2, 1) := by decide +kernel
theorem dX10_readFrom_59 : decode cX10_readFrom 59 = .ok (.bipush 24, 2) := by decide +kernel
theorem dX10_readFrom_61 : decode cX10_readFrom 61 = .ok (.iadd, 1) := by decide +kernel
theorem dX10_readFrom_62 : decode cX10_readFrom 62 = .ok (.iconst 3, 1) := by decide +kernel
theorem dX10_readFrom_63 : decode cX10_readFrom 63 = .ok (.isub, 1) := by decide +kernel
theorem dX10_readFrom_64 : decode cX10_readFrom 64 = .ok (.iaload, 1) := by decide +kernel
theorem dX10_readFrom_65 : decode cX10_readFrom 65 = .ok (.putfield 21, 3) := by decide +kernel
theorem dX10_readFrom_68 : decode cX10_readFrom 68 = .ok (.aload_n 0, 1) := by decide +kernel
theorem dX10_readFrom_69 : decode cX10_readFrom 69 = .ok (.aload_n 1, 1) := by decide +kernel
theorem dX10_readFrom_70 : decode cX10_readFrom 70 = .ok (.iload_n 2, 1) := by decide +kernel
theorem dX10_readFrom_71 : decode cX10_readFrom 71 = .ok (.bipush 24, 2) := by decide +kernel
theorem dX10_readFrom_73 : decode cX10_readFrom 73 = .ok (.iadd, 1) := by decide +kernel
theorem dX10_readFrom_74 : decode cX10_readFrom 74 = .ok (.iconst 2, 1) := by decide +kernel
theorem dX10_readFrom_75 : decode cX10_readFrom 75 = .ok (.isub, 1) := by decide +kernel
theorem dX10_readFrom_76 : decode cX10_readFrom 76 = .ok (.iaload, 1) := by decide +kernel
theorem dX10_readFrom_77 : decode cX10_readFrom 77 = .ok (.putfield 41, 3) := by decide +kernel
theorem dX10_readFrom_80 : decode cX10_readFrom 80 = .ok (.aload_n 0, 1) := by decide +kernel
theorem dX10_readFrom_81 : decode cX10_readFrom 81 = .ok (.aload_n 1, 1) := by decide +kernel
theorem dX10_readFrom_82 : decode cX10_readFrom 82 = .ok (.iload_n 2, 1) := by decide +kernel
theorem dX10_readFrom_83 : decode cX10_readFrom 83 = .ok (.bipush 24, 2) := by decide +kernel
theorem dX10_readFrom_85 : decode cX10_readFrom 85 = .ok (.iadd, 1) := by decide +kernel
theorem dX10_readFrom_86 : decode cX10_readFrom 86 = .ok (.iconst 1, 1) := by decide +kernel
theorem dX10_readFrom_87 : decode cX10_readFrom 87 = .ok (.isub, 1) := by decide +kernel
theorem dX10_readFrom_88 : decode cX10_readFrom 88 = .ok (.iaload, 1) := by decide +kernel
theorem dX10_readFrom_89 : decode cX10_readFrom 89 = .ok (.putfield 44, 3) := by decide +kernel
theorem dX10_readFrom_92 : decode cX10_readFrom 92 = .ok (.return_, 1) := by decide +kernel
