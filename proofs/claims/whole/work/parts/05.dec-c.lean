theorem dX8_init_0 : decode cX8_init 0 = .ok (.aload_n 0, 1) := by decide +kernel
theorem dX8_init_1 : decode cX8_init 1 = .ok (.invokespecial 1, 3) := by decide +kernel
theorem dX8_init_4 : decode cX8_init 4 = .ok (.aload_n 0, 1) := by decide +kernel
theorem dX8_init_5 : decode cX8_init 5 = .ok (.sipush 195, 3) := by decide +kernel
theorem dX8_init_8 : decode cX8_init 8 = .ok (.newarray .int, 2) := by decide +kernel
theorem dX8_init_10 : decode cX8_init 10 = .ok (.putfield 7, 3) := by decide +kernel
theorem dX8_init_13 : decode cX8_init 13 = .ok (.aload_n 0, 1) := by decide +kernel
theorem dX8_init_14 : decode cX8_init 14 = .ok (.iconst 2, 1) := by decide +kernel
theorem dX8_init_15 : decode cX8_init 15 = .ok (.newarray .boolean, 2) := by decide +kernel
theorem dX8_init_17 : decode cX8_init 17 = .ok (.putfield 13, 3) := by decide +kernel
theorem dX8_init_20 : decode cX8_init 20 = .ok (.aload_n 0, 1) := by decide +kernel
theorem dX8_init_21 : decode cX8_init 21 = .ok (.sipush 200, 3) := by decide +kernel
theorem dX8_init_24 : decode cX8_init 24 = .ok (.newarray .int, 2) := by decide +kernel
theorem dX8_init_26 : decode cX8_init 26 = .ok (.putfield 17, 3) := by decide +kernel
theorem dX8_init_29 : decode cX8_init 29 = .ok (.aload_n 0, 1) := by decide +kernel
theorem dX8_init_30 : decode cX8_init 30 = .ok (.bipush 48, 2) := by decide +kernel
theorem dX8_init_32 : decode cX8_init 32 = .ok (.newarray .int, 2) := by decide +kernel
theorem dX8_init_34 : decode cX8_init 34 = .ok (.putfield 20, 3) := by decide +kernel
theorem dX8_init_37 : decode cX8_init 37 = .ok (.aload_n 0, 1) := by decide +kernel
theorem dX8_init_38 : decode cX8_init 38 = .ok (.iconst 2, 1) := by decide +kernel
theorem dX8_init_39 : decode cX8_init 39 = .ok (.putfield 23, 3) := by decide +kernel
theorem dX8_init_42 : decode cX8_init 42 = .ok (.aload_n 0, 1) := by decide +kernel
theorem dX8_init_43 : decode cX8_init 43 = .ok (.bipush 8, 2) := by decide +kernel
theorem dX8_init_45 : decode cX8_init 45 = .ok (.newarray .int, 2) := by decide +kernel
theorem dX8_init_47 : decode cX8_init 47 = .ok (.putfield 27, 3) := by decide +kernel
theorem dX8_init_50 : decode cX8_init 50 = .ok (.aload_n 0, 1) := by decide +kernel
theorem dX8_init_51 : decode cX8_init 51 = .ok (.bipush 12, 2) := by decide +kernel
theorem dX8_init_53 : decode cX8_init 53 = .ok (.newarray .int, 2) := by decide +kernel
theorem dX8_init_55 : decode cX8_init 55 = .ok (.putfield 30, 3) := by decide +kernel
theorem dX8_init_58 : decode cX8_init 58 = .ok (.aload_n 0, 1) := by decide +kernel
theorem dX8_init_59 : decode cX8_init 59 = .ok (.bipush 12, 2) := by decide +kernel
theorem dX8_init_61 : decode cX8_init 61 = .ok (.newarray .int, 2) := by decide +kernel
theorem dX8_init_63 : decode cX8_init 63 = .ok (.putfield 33, 3) := by decide +kernel
theorem dX8_init_66 : decode cX8_init 66 = .ok (.aload_n 0, 1) := by decide +kernel
theorem dX8_init_67 : decode cX8_init 67 = .ok (.bipush 6, 2) := by decide +kernel
theorem dX8_init_69 : decode cX8_init 69 = .ok (.newarray .int, 2) := by decide +kernel
theorem dX8_init_71 : decode cX8_init 71 = .ok (.putfield 36, 3) := by decide +kernel
theorem dX8_init_74 : decode cX8_init 74 = .ok (.aload_n 0, 1) := by decide +kernel
theorem dX8_init_75 : decode cX8_init 75 = .ok (.iconst 1, 1) := by decide +kernel
theorem dX8_init_76 : decode cX8_init 76 = .ok (.putfield 39, 3) := by decide +kernel
theorem dX8_init_79 : decode cX8_init 79 = .ok (.aload_n 0, 1) := by decide +kernel
theorem dX8_init_80 : decode cX8_init 80 = .ok (.bipush 6, 2) := by decide +kernel
theorem dX8_init_82 : decode cX8_init 82 = .ok (.newarray .int, 2) := by decide +kernel
theorem dX8_init_84 : decode cX8_init 84 = .ok (.putfield 42, 3) := by decide +kernel
theorem dX8_init_87 : decode cX8_init 87 = .ok (.aload_n 0, 1) := by decide +kernel
theorem dX8_init_88 : decode cX8_init 88 = .ok (.bipush 8, 2) := by decide +kernel
theorem dX8_init_90 : decode cX8_init 90 = .ok (.newarray .int, 2) := by decide +kernel
theorem dX8_init_92 : decode cX8_init 92 = .ok (.putfield 45, 3) := by decide +kernel
theorem dX8_init_95 : decode cX8_init 95 = .ok (.aload_n 0, 1) := by decide +kernel
theorem dX8_init_96 : decode cX8_init 96 = .ok (.bipush 18, 2) := by decide +kernel
theorem dX8_init_98 : decode cX8_init 98 = .ok (.newarray .int, 2) := by decide +kernel
theorem dX8_init_100 : decode cX8_init 100 = .ok (.putfield 48, 3) := by decide +kernel
theorem dX8_init_103 : decode cX8_init 103 = .ok (.aload_n 0, 1) := by decide +kernel
theorem dX8_init_104 : decode cX8_init 104 = .ok (.bipush 8, 2) := by decide +kernel
theorem dX8_init_106 : decode cX8_init 106 = .ok (.newarray .int, 2) := by decide +kernel
theorem dX8_init_108 : decode cX8_init 108 = .ok (.putfield 51, 3) := by decide +kernel
theorem dX8_init_111 : decode cX8_init 111 = .ok (.aload_n 0, 1) := by decide +kernel
theorem dX8_init_112 : decode cX8_init 112 = .ok (.iconst 2, 1) := by decide +kernel
theorem dX8_init_113 : decode cX8_init 113 = .ok (.invokevirtual 54, 3) := by decide +kernel
theorem dX8_init_116 : decode cX8_init 116 = .ok (.aload_n 0, 1) := by decide +kernel
theorem dX8_init_117 : decode cX8_init 117 = .ok (.invokevirtual 58, 3) := by decide +kernel
theorem dX8_init_120 : decode cX8_init 120 = .ok (.return_, 1) := by decide +kernel
theorem dX8_in_0 : decode cX8_in 0 = .ok (.lload_n 0, 1) := by decide +kernel
theorem dX8_in_1 : decode cX8_in 1 = .ok (.lload_n 2, 1) := by decide +kernel
theorem dX8_in_2 : decode cX8_in 2 = .ok (.lcmp, 1) := by decide +kernel
theorem dX8_in_3 : decode cX8_in 3 = .ok (.ifCond .lt 14, 3) := by decide +kernel
theorem dX8_in_6 : decode cX8_in 6 = .ok (.lload_n 0, 1) := by decide +kernel
theorem dX8_in_7 : decode cX8_in 7 = .ok (.lload 4, 2) := by decide +kernel
theorem dX8_in_9 : decode cX8_in 9 = .ok (.lcmp, 1) := by decide +kernel
theorem dX8_in_10 : decode cX8_in 10 = .ok (.ifCond .gt 7, 3) := by decide +kernel
theorem dX8_in_13 : decode cX8_in 13 = .ok (.iconst 1, 1) := by decide +kernel
theorem dX8_in_14 : decode cX8_in 14 = .ok (.goto 4, 3) := by decide +kernel
theorem dX8_in_17 : decode cX8_in 17 = .ok (.iconst 0, 1) := by decide +kernel
theorem dX8_in_18 : decode cX8_in 18 = .ok (.ireturn, 1) := by decide +kernel
theorem dX8_has_0 : decode cX8_has 0 = .ok (.iload_n 0, 1) := by decide +kernel
theorem dX8_has_1 : decode cX8_has 1 = .ok (.iload_n 1, 1) := by decide +kernel
theorem dX8_has_2 : decode cX8_has 2 = .ok (.ishr, 1) := by decide +kernel
theorem dX8_has_3 : decode cX8_has 3 = .ok (.iconst 1, 1) := by decide +kernel
theorem dX8_has_4 : decode cX8_has 4 = .ok (.iand, 1) := by decide +kernel
theorem dX8_has_5 : decode cX8_has 5 = .ok (.iconst 1, 1) := by decide +kernel
theorem dX8_has_6 : decode cX8_has 6 = .ok (.if_icmp .ne 7, 3) := by decide +kernel
theorem dX8_has_9 : decode cX8_has 9 = .ok (.iconst 1, 1) := by decide +kernel
theorem dX8_has_10 : decode cX8_has 10 = .ok (.goto 4, 3) := by decide +kernel
theorem dX8_has_13 : decode cX8_has 13 = .ok (.iconst 0, 1) := by decide +kernel
theorem dX8_has_14 : decode cX8_has 14 = .ok (.ireturn, 1) := by decide +kernel
theorem dX8_bits_0 : decode cX8_bits 0 = .ok (.iconst 0, 1) := by decide +kernel
theorem dX8_bits_1 : decode cX8_bits 1 = .ok (.istore_n 1, 1) := by decide +kernel
theorem dX8_bits_2 : decode cX8_bits 2 = .ok (.iconst 0, 1) := by decide +kernel
theorem dX8_bits_3 : decode cX8_bits 3 = .ok (.istore_n 2, 1) := by decide +kernel
theorem dX8_bits_4 : decode cX8_bits 4 = .ok (.iload_n 2, 1) := by decide +kernel
theorem dX8_bits_5 : decode cX8_bits 5 = .ok (.bipush 8, 2) := by decide +kernel
theorem dX8_bits_7 : decode cX8_bits 7 = .ok (.if_icmp .ge 17, 3) := by decide +kernel
theorem dX8_bits_10 : decode cX8_bits 10 = .ok (.iload_n 1, 1) := by decide +kernel
theorem dX8_bits_11 : decode cX8_bits 11 = .ok (.iload_n 0, 1) := by decide +kernel
theorem dX8_bits_12 : decode cX8_bits 12 = .ok (.iload_n 2, 1) := by decide +kernel
theorem dX8_bits_13 : decode cX8_bits 13 = .ok (.ishr, 1) := by decide +kernel
theorem dX8_bits_14 : decode cX8_bits 14 = .ok (.iconst 1, 1) := by decide +kernel
theorem dX8_bits_15 : decode cX8_bits 15 = .ok (.iand, 1) := by decide +kernel
theorem dX8_bits_16 : decode cX8_bits 16 = .ok (.iadd, 1) := by decide +kernel
theorem dX8_bits_17 : decode cX8_bits 17 = .ok (.istore_n 1, 1) := by decide +kernel
theorem dX8_bits_18 : decode cX8_bits 18 = .ok (.iinc 2 1, 3) := by decide +kernel
theorem dX8_bits_21 : decode cX8_bits 21 = .ok (.goto (-17), 3) := by decide +kernel
theorem dX8_bits_24 : decode cX8_bits 24 = .ok (.iload_n 1, 1) := by decide +kernel
theorem dX8_bits_25 : decode cX8_bits 25 = .ok (.ireturn, 1) := by decide +kernel
theorem dX8_copy_0 : decode cX8_copy 0 = .ok (.iconst 0, 1) := by decide +kernel
theorem dX8_copy_1 : decode cX8_copy 1 = .ok (.istore_n 3, 1) := by decide +kernel
theorem dX8_copy_2 : decode cX8_copy 2 = .ok (.iload_n 3, 1) := by decide +kernel
theorem dX8_copy_3 : decode cX8_copy 3 = .ok (.bipush 39, 2) := by decide +kernel
theorem dX8_copy_5 : decode cX8_copy 5 = .ok (.if_icmp .ge 31, 3) := by decide +kernel
theorem dX8_copy_8 : decode cX8_copy 8 = .ok (.aload_n 0, 1) := by decide +kernel
theorem dX8_copy_9 : decode cX8_copy 9 = .ok (.getfield 7, 3) := by decide +kernel
theorem dX8_copy_12 : decode cX8_copy 12 = .ok (.bipush 39, 2) := by decide +kernel
theorem dX8_copy_14 : decode cX8_copy 14 = .ok (.iload_n 2, 1) := by decide +kernel
theorem dX8_copy_15 : decode cX8_copy 15 = .ok (.imul, 1) := by decide +kernel
theorem dX8_copy_16 : decode cX8_copy 16 = .ok (.iload_n 3, 1) := by decide +kernel
theorem dX8_copy_17 : decode cX8_copy 17 = .ok (.iadd, 1) := by decide +kernel
theorem dX8_copy_18 : decode cX8_copy 18 = .ok (.aload_n 0, 1) := by decide +kernel
theorem dX8_copy_19 : decode cX8_copy 19 = .ok (.getfield 7, 3) := by decide +kernel
theorem dX8_copy_22 : decode cX8_copy 22 = .ok (.bipush 39, 2) := by decide +kernel
theorem dX8_copy_24 : decode cX8_copy 24 = .ok (.iload_n 1, 1) := by decide +kernel
theorem dX8_copy_25 : decode cX8_copy 25 = .ok (.imul, 1) := by decide +kernel
theorem dX8_copy_26 : decode cX8_copy 26 = .ok (.iload_n 3, 1) := by decide +kernel
theorem dX8_copy_27 : decode cX8_copy 27 = .ok (.iadd, 1) := by decide +kernel
theorem dX8_copy_28 : decode cX8_copy 28 = .ok (.iaload, 1) := by decide +kernel
theorem dX8_copy_29 : decode cX8_copy 29 = .ok (.iastore, 1) := by decide +kernel
theorem dX8_copy_30 : decode cX8_copy 30 = .ok (.iinc 3 1, 3) := by decide +kernel
theorem dX8_copy_33 : decode cX8_copy 33 = .ok (.goto (-31), 3) := by decide +kernel
theorem dX8_copy_36 : decode cX8_copy 36 = .ok (.return_, 1) := by decide +kernel
theorem dX8_clear_0 : decode cX8_clear 0 = .ok (.aload_n 0, 1) := by decide +kernel
theorem dX8_clear_1 : decode cX8_clear 1 = .ok (.iload_n 1, 1) := by decide +kernel
theorem dX8_clear_2 : decode cX8_clear 2 = .ok (.putfield 23, 3) := by decide +kernel
theorem dX8_clear_5 : decode cX8_clear 5 = .ok (.aload_n 0, 1) := by decide +kernel
theorem dX8_clear_6 : decode cX8_clear 6 = .ok (.iconst 0, 1) := by decide +kernel
theorem dX8_clear_7 : decode cX8_clear 7 = .ok (.putfield 61, 3) := by decide +kernel
theorem dX8_clear_10 : decode cX8_clear 10 = .ok (.aload_n 0, 1) := by decide +kernel
theorem dX8_clear_11 : decode cX8_clear 11 = .ok (.iconst 0, 1) := by decide +kernel
theorem dX8_clear_12 : decode cX8_clear 12 = .ok (.putfield 64, 3) := by decide +kernel
theorem dX8_clear_15 : decode cX8_clear 15 = .ok (.aload_n 0, 1) := by decide +kernel
theorem dX8_clear_16 : decode cX8_clear 16 = .ok (.iconst 1, 1) := by decide +kernel
theorem dX8_clear_17 : decode cX8_clear 17 = .ok (.putfield 39, 3) := by decide +kernel
theorem dX8_clear_20 : decode cX8_clear 20 = .ok (.aload_n 0, 1) := by decide +kernel
theorem dX8_clear_21 : decode cX8_clear 21 = .ok (.getfield 7, 3) := by decide +kernel
theorem dX8_clear_24 : decode cX8_clear 24 = .ok (.sipush 157, 3) := by decide +kernel
theorem dX8_clear_27 : decode cX8_clear 27 = .ok (.iconst 0, 1) := by decide +kernel
theorem dX8_clear_28 : decode cX8_clear 28 = .ok (.iastore, 1) := by decide +kernel
theorem dX8_clear_29 : decode cX8_clear 29 = .ok (.iconst 0, 1) := by decide +kernel
theorem dX8_clear_30 : decode cX8_clear 30 = .ok (.istore_n 2, 1) := by decide +kernel
theorem dX8_clear_31 : decode cX8_clear 31 = .ok (.iload_n 2, 1) := by decide +kernel
theorem dX8_clear_32 : decode cX8_clear 32 = .ok (.bipush 8, 2) := by decide +kernel
theorem dX8_clear_34 : decode cX8_clear 34 = .ok (.if_icmp .ge 16, 3) := by decide +kernel
theorem dX8_clear_37 : decode cX8_clear 37 = .ok (.aload_n 0, 1) := by decide +kernel
theorem dX8_clear_38 : decode cX8_clear 38 = .ok (.getfield 27, 3) := by decide +kernel
theorem dX8_clear_41 : decode cX8_clear 41 = .ok (.iload_n 2, 1) := by decide +kernel
theorem dX8_clear_42 : decode cX8_clear 42 = .ok (.iconst 0, 1) := by decide +kernel
theorem dX8_clear_43 : decode cX8_clear 43 = .ok (.iastore, 1) := by decide +kernel
theorem dX8_clear_44 : decode cX8_clear 44 = .ok (.iinc 2 1, 3) := by decide +kernel
theorem dX8_clear_47 : decode cX8_clear 47 = .ok (.goto (-16), 3) := by decide +kernel
theorem dX8_clear_50 : decode cX8_clear 50 = .ok (.return_, 1) := by decide +kernel
theorem dX8_begin_0 : decode cX8_begin 0 = .ok (.sipush 156, 3) := by decide +kernel
theorem dX8_begin_3 : decode cX8_begin 3 = .ok (.istore_n 1, 1) := by decide +kernel
theorem dX8_begin_4 : decode cX8_begin 4 = .ok (.aload_n 0, 1) := by decide +kernel
theorem dX8_begin_5 : decode cX8_begin 5 = .ok (.getfield 7, 3) := by decide +kernel
theorem dX8_begin_8 : decode cX8_begin 8 = .ok (.iload_n 1, 1) := by decide +kernel
theorem dX8_begin_9 : decode cX8_begin 9 = .ok (.iconst 0, 1) := by decide +kernel
theorem dX8_begin_10 : decode cX8_begin 10 = .ok (.iadd, 1) := by decide +kernel
theorem dX8_begin_11 : decode cX8_begin 11 = .ok (.iconst 0, 1) := by decide +kernel
theorem dX8_begin_12 : decode cX8_begin 12 = .ok (.iastore, 1) := by decide +kernel
theorem dX8_begin_13 : decode cX8_begin 13 = .ok (.aload_n 0, 1) := by decide +kernel
theorem dX8_begin_14 : decode cX8_begin 14 = .ok (.getfield 7, 3) := by decide +kernel
theorem dX8_begin_17 : decode cX8_begin 17 = .ok (.iload_n 1, 1) := by decide +kernel
theorem dX8_begin_18 : decode cX8_begin 18 = .ok (.iconst 2, 1) := by decide +kernel
theorem dX8_begin_19 : decode cX8_begin 19 = .ok (.iadd, 1) := by decide +kernel
theorem dX8_begin_20 : decode cX8_begin 20 = .ok (.iconst (-1), 1) := by decide +kernel
theorem dX8_begin_21 : decode cX8_begin 21 = .ok (.iastore, 1) := by decide +kernel
theorem dX8_begin_22 : decode cX8_begin 22 = .ok (.iconst 0, 1) := by decide +kernel
theorem dX8_begin_23 : decode cX8_begin 23 = .ok (.istore_n 2, 1) := by decide +kernel
theorem dX8_begin_24 : decode cX8_begin 24 = .ok (.iload_n 2, 1) := by decide +kernel
theorem dX8_begin_25 : decode cX8_begin 25 = .ok (.bipush 6, 2) := by decide +kernel
theorem dX8_begin_27 : decode cX8_begin 27 = .ok (.if_icmp .ge 33, 3) := by decide +kernel
theorem dX8_begin_30 : decode cX8_begin 30 = .ok (.aload_n 0, 1) := by decide +kernel
theorem dX8_begin_31 : decode cX8_begin 31 = .ok (.getfield 7, 3) := by decide +kernel
theorem dX8_begin_34 : decode cX8_begin 34 = .ok (.iload_n 1, 1) := by decide +kernel
theorem dX8_begin_35 : decode cX8_begin 35 = .ok (.bipush 27, 2) := by decide +kernel
theorem dX8_begin_37 : decode cX8_begin 37 = .ok (.iadd, 1) := by decide +kernel
theorem dX8_begin_38 : decode cX8_begin 38 = .ok (.iload_n 2, 1) := by decide +kernel
theorem dX8_begin_39 : decode cX8_begin 39 = .ok (.iadd, 1) := by decide +kernel
theorem dX8_begin_40 : decode cX8_begin 40 = .ok (.iconst (-1), 1) := by decide +kernel
theorem dX8_begin_41 : decode cX8_begin 41 = .ok (.iastore, 1) := by decide +kernel
theorem dX8_begin_42 : decode cX8_begin 42 = .ok (.aload_n 0, 1) := by decide +kernel
theorem dX8_begin_43 : decode cX8_begin 43 = .ok (.getfield 7, 3) := by decide +kernel
theorem dX8_begin_46 : decode cX8_begin 46 = .ok (.iload_n 1, 1) := by decide +kernel
theorem dX8_begin_47 : decode cX8_begin 47 = .ok (.bipush 33, 2) := by decide +kernel
theorem dX8_begin_49 : decode cX8_begin 49 = .ok (.iadd, 1) := by decide +kernel
theorem dX8_begin_50 : decode cX8_begin 50 = .ok (.iload_n 2, 1) := by decide +kernel
theorem dX8_begin_51 : decode cX8_begin 51 = .ok (.iadd, 1) := by decide +kernel
theorem dX8_begin_52 : decode cX8_begin 52 = .ok (.iconst (-1), 1) := by decide +kernel
theorem dX8_begin_53 : decode cX8_begin 53 = .ok (.iastore, 1) := by decide +kernel
theorem dX8_begin_54 : decode cX8_begin 54 = .ok (.iinc 2 1, 3) := by decide +kernel
theorem dX8_begin_57 : decode cX8_begin 57 = .ok (.goto (-33), 3) := by decide +kernel
theorem dX8_begin_60 : decode cX8_begin 60 = .ok (.aload_n 0, 1) := by decide +kernel
theorem dX8_begin_61 : decode cX8_begin 61 = .ok (.iconst 4, 1) := by decide +kernel
theorem dX8_begin_62 : decode cX8_begin 62 = .ok (.iconst 0, 1) := by decide +kernel
theorem dX8_begin_63 : decode cX8_begin 63 = .ok (.invokevirtual 67, 3) := by decide +kernel
theorem dX8_begin_66 : decode cX8_begin 66 = .ok (.return_, 1) := by decide +kernel
theorem dX8_write_0 : decode cX8_write 0 = .ok (.iload_n 3, 1) := by decide +kernel
theorem dX8_write_1 : decode cX8_write 1 = .ok (.i2l, 1) := by decide +kernel
theorem dX8_write_2 : decode cX8_write 2 = .ok (.lconst 1, 1) := by decide +kernel
theorem dX8_write_3 : decode cX8_write 3 = .ok (.ldc2_w 71, 3) := by decide +kernel
theorem dX8_write_6 : decode cX8_write 6 = .ok (.invokestatic 73, 3) := by decide +kernel
theorem dX8_write_9 : decode cX8_write 9 = .ok (.ifCond .ne 6, 3) := by decide +kernel
theorem dX8_write_12 : decode cX8_write 12 = .ok (.bipush (-3), 2) := by decide +kernel
theorem dX8_write_14 : decode cX8_write 14 = .ok (.ireturn, 1) := by decide +kernel
theorem dX8_write_15 : decode cX8_write 15 = .ok (.aload_n 0, 1) := by decide +kernel
theorem dX8_write_16 : decode cX8_write 16 = .ok (.getfield 77, 3) := by decide +kernel
theorem dX8_write_19 : decode cX8_write 19 = .ok (.iload_n 3, 1) := by decide +kernel
theorem dX8_write_20 : decode cX8_write 20 = .ok (.iadd, 1) := by decide +kernel
theorem dX8_write_21 : decode cX8_write 21 = .ok (.sipush 200, 3) := by decide +kernel
theorem dX8_write_24 : decode cX8_write 24 = .ok (.if_icmp .le 6, 3) := by decide +kernel
theorem dX8_write_27 : decode cX8_write 27 = .ok (.bipush (-5), 2) := by decide +kernel
theorem dX8_write_29 : decode cX8_write 29 = .ok (.ireturn, 1) := by decide +kernel
theorem dX8_write_30 : decode cX8_write 30 = .ok (.iconst 0, 1) := by decide +kernel
theorem dX8_write_31 : decode cX8_write 31 = .ok (.istore 4, 2) := by decide +kernel
theorem dX8_write_33 : decode cX8_write 33 = .ok (.iload 4, 2) := by decide +kernel
theorem dX8_write_35 : decode cX8_write 35 = .ok (.iload_n 3, 1) := by decide +kernel
theorem dX8_write_36 : decode cX8_write 36 = .ok (.if_icmp .ge 40, 3) := by decide +kernel
theorem dX8_write_39 : decode cX8_write 39 = .ok (.aload_n 0, 1) := by decide +kernel
theorem dX8_write_40 : decode cX8_write 40 = .ok (.getfield 17, 3) := by decide +kernel
theorem dX8_write_43 : decode cX8_write 43 = .ok (.aload_n 0, 1) := by decide +kernel
theorem dX8_write_44 : decode cX8_write 44 = .ok (.getfield 77, 3) := by decide +kernel
theorem dX8_write_47 : decode cX8_write 47 = .ok (.lload_n 1, 1) := by decide +kernel
theorem dX8_write_48 : decode cX8_write 48 = .ok (.bipush 8, 2) := by decide +kernel
theorem dX8_write_50 : decode cX8_write 50 = .ok (.iload 4, 2) := by decide +kernel
theorem dX8_write_52 : decode cX8_write 52 = .ok (.imul, 1) := by decide +kernel
theorem dX8_write_53 : decode cX8_write 53 = .ok (.lshr, 1) := by decide +kernel
theorem dX8_write_54 : decode cX8_write 54 = .ok (.ldc2_w 80, 3) := by decide +kernel
theorem dX8_write_57 : decode cX8_write 57 = .ok (.land, 1) := by decide +kernel
theorem dX8_write_58 : decode cX8_write 58 = .ok (.l2i, 1) := by decide +kernel
theorem dX8_write_59 : decode cX8_write 59 = .ok (.iastore, 1) := by decide +kernel
theorem dX8_write_60 : decode cX8_write 60 = .ok (.aload_n 0, 1) := by decide +kernel
theorem dX8_write_61 : decode cX8_write 61 = .ok (.dup, 1) := by decide +kernel
theorem dX8_write_62 : decode cX8_write 62 = .ok (.getfield 77, 3) := by decide +kernel
theorem dX8_write_65 : decode cX8_write 65 = .ok (.iconst 1, 1) := by decide +kernel
theorem dX8_write_66 : decode cX8_write 66 = .ok (.iadd, 1) := by decide +kernel
theorem dX8_write_67 : decode cX8_write 67 = .ok (.putfield 77, 3) := by decide +kernel
theorem dX8_write_70 : decode cX8_write 70 = .ok (.iinc 4 1, 3) := by decide +kernel
theorem dX8_write_73 : decode cX8_write 73 = .ok (.goto (-40), 3) := by decide +kernel
theorem dX8_write_76 : decode cX8_write 76 = .ok (.aload_n 0, 1) := by decide +kernel
theorem dX8_write_77 : decode cX8_write 77 = .ok (.getfield 77, 3) := by decide +kernel
theorem dX8_write_80 : decode cX8_write 80 = .ok (.ireturn, 1) := by decide +kernel
theorem dX8_erase_0 : decode cX8_erase 0 = .ok (.aload_n 0, 1) := by decide +kernel
theorem dX8_erase_1 : decode cX8_erase 1 = .ok (.getfield 77, 3) := by decide +kernel
theorem dX8_erase_4 : decode cX8_erase 4 = .ok (.istore_n 1, 1) := by decide +kernel
theorem dX8_erase_5 : decode cX8_erase 5 = .ok (.aload_n 0, 1) := by decide +kernel
theorem dX8_erase_6 : decode cX8_erase 6 = .ok (.iconst 0, 1) := by decide +kernel
theorem dX8_erase_7 : decode cX8_erase 7 = .ok (.putfield 77, 3) := by decide +kernel
theorem dX8_erase_10 : decode cX8_erase 10 = .ok (.iload_n 1, 1) := by decide +kernel
theorem dX8_erase_11 : decode cX8_erase 11 = .ok (.ireturn, 1) := by decide +kernel
theorem dX8_sort_0 : decode cX8_sort 0 = .ok (.iload_n 0, 1) := by decide +kernel
theorem dX8_sort_1 : decode cX8_sort 1 = .ok (.bipush 97, 2) := by decide +kernel
theorem dX8_sort_3 : decode cX8_sort 3 = .ok (.if_icmp .lt 13, 3) := by decide +kernel
theorem dX8_sort_6 : decode cX8_sort 6 = .ok (.iload_n 0, 1) := by decide +kernel
theorem dX8_sort_7 : decode cX8_sort 7 = .ok (.bipush 122, 2) := by decide +kernel
theorem dX8_sort_9 : decode cX8_sort 9 = .ok (.if_icmp .gt 7, 3) := by decide +kernel
theorem dX8_sort_12 : decode cX8_sort 12 = .ok (.iconst 1, 1) := by decide +kernel
theorem dX8_sort_13 : decode cX8_sort 13 = .ok (.goto 20, 3) := by decide +kernel
theorem dX8_sort_16 : decode cX8_sort 16 = .ok (.iload_n 0, 1) := by decide +kernel
theorem dX8_sort_17 : decode cX8_sort 17 = .ok (.bipush 48, 2) := by decide +kernel
theorem dX8_sort_19 : decode cX8_sort 19 = .ok (.if_icmp .lt 13, 3) := by decide +kernel
theorem dX8_sort_22 : decode cX8_sort 22 = .ok (.iload_n 0, 1) := by decide +kernel
theorem dX8_sort_23 : decode cX8_sort 23 = .ok (.bipush 57, 2) := by decide +kernel
theorem dX8_sort_25 : decode cX8_sort 25 = .ok (.if_icmp .gt 7, 3) := by decide +kernel
theorem dX8_sort_28 : decode cX8_sort 28 = .ok (.iconst 2, 1) := by decide +kernel
theorem dX8_sort_29 : decode cX8_sort 29 = .ok (.goto 4, 3) := by decide +kernel
theorem dX8_sort_32 : decode cX8_sort 32 = .ok (.iconst 0, 1) := by decide +kernel
theorem dX8_sort_33 : decode cX8_sort 33 = .ok (.ireturn, 1) := by decide +kernel
theorem dX8_token_0 : decode cX8_token 0 = .ok (.aload_n 0, 1) := by decide +kernel
theorem dX8_token_1 : decode cX8_token 1 = .ok (.getfield 82, 3) := by decide +kernel
theorem dX8_token_4 : decode cX8_token 4 = .ok (.aload_n 0, 1) := by decide +kernel
theorem dX8_token_5 : decode cX8_token 5 = .ok (.getfield 77, 3) := by decide +kernel
theorem dX8_token_8 : decode cX8_token 8 = .ok (.if_icmp .ge 30, 3) := by decide +kernel
theorem dX8_token_11 : decode cX8_token 11 = .ok (.aload_n 0, 1) := by decide +kernel
theorem dX8_token_12 : decode cX8_token 12 = .ok (.getfield 17, 3) := by decide +kernel
theorem dX8_token_15 : decode cX8_token 15 = .ok (.aload_n 0, 1) := by decide +kernel
theorem dX8_token_16 : decode cX8_token 16 = .ok (.getfield 82, 3) := by decide +kernel
theorem dX8_token_19 : decode cX8_token 19 = .ok (.iaload, 1) := by decide +kernel
theorem dX8_token_20 : decode cX8_token 20 = .ok (.bipush 32, 2) := by decide +kernel
theorem dX8_token_22 : decode cX8_token 22 = .ok (.if_icmp .ne 16, 3) := by decide +kernel
theorem dX8_token_25 : decode cX8_token 25 = .ok (.aload_n 0, 1) := by decide +kernel
theorem dX8_token_26 : decode cX8_token 26 = .ok (.dup, 1) := by decide +kernel
theorem dX8_token_27 : decode cX8_token 27 = .ok (.getfield 82, 3) := by decide +kernel
theorem dX8_token_30 : decode cX8_token 30 = .ok (.iconst 1, 1) := by decide +kernel
theorem dX8_token_31 : decode cX8_token 31 = .ok (.iadd, 1) := by decide +kernel
theorem dX8_token_32 : decode cX8_token 32 = .ok (.putfield 82, 3) := by decide +kernel
theorem dX8_token_35 : decode cX8_token 35 = .ok (.goto (-35), 3) := by decide +kernel
theorem dX8_token_38 : decode cX8_token 38 = .ok (.aload_n 0, 1) := by decide +kernel
theorem dX8_token_39 : decode cX8_token 39 = .ok (.aload_n 0, 1) := by decide +kernel
theorem dX8_token_40 : decode cX8_token 40 = .ok (.getfield 82, 3) := by decide +kernel
theorem dX8_token_43 : decode cX8_token 43 = .ok (.putfield 85, 3) := by decide +kernel
theorem dX8_token_46 : decode cX8_token 46 = .ok (.aload_n 0, 1) := by decide +kernel
theorem dX8_token_47 : decode cX8_token 47 = .ok (.dup, 1) := by decide +kernel
theorem dX8_token_48 : decode cX8_token 48 = .ok (.getfield 82, 3) := by decide +kernel
theorem dX8_token_51 : decode cX8_token 51 = .ok (.aload_n 0, 1) := by decide +kernel
theorem dX8_token_52 : decode cX8_token 52 = .ok (.getfield 82, 3) := by decide +kernel
theorem dX8_token_55 : decode cX8_token 55 = .ok (.aload_n 0, 1) := by decide +kernel
theorem dX8_token_56 : decode cX8_token 56 = .ok (.getfield 77, 3) := by decide +kernel
theorem dX8_token_59 : decode cX8_token 59 = .ok (.if_icmp .ge 7, 3) := by decide +kernel
theorem dX8_token_62 : decode cX8_token 62 = .ok (.iconst 1, 1) := by decide +kernel
theorem dX8_token_63 : decode cX8_token 63 = .ok (.goto 4, 3) := by decide +kernel
theorem dX8_token_66 : decode cX8_token 66 = .ok (.iconst 0, 1) := by decide +kernel
theorem dX8_token_67 : decode cX8_token 67 = .ok (.iadd, 1) := by decide +kernel
theorem dX8_token_68 : decode cX8_token 68 = .ok (.putfield 82, 3) := by decide +kernel
theorem dX8_token_71 : decode cX8_token 71 = .ok (.aload_n 0, 1) := by decide +kernel
theorem dX8_token_72 : decode cX8_token 72 = .ok (.getfield 82, 3) := by decide +kernel
theorem dX8_token_75 : decode cX8_token 75 = .ok (.aload_n 0, 1) := by decide +kernel
theorem dX8_token_76 : decode cX8_token 76 = .ok (.getfield 77, 3) := by decide +kernel
theorem dX8_token_79 : decode cX8_token 79 = .ok (.if_icmp .ge 58, 3) := by decide +kernel
theorem dX8_token_82 : decode cX8_token 82 = .ok (.aload_n 0, 1) := by decide +kernel
theorem dX8_token_83 : decode cX8_token 83 = .ok (.getfield 17, 3) := by decide +kernel
theorem dX8_token_86 : decode cX8_token 86 = .ok (.aload_n 0, 1) := by decide +kernel
theorem dX8_token_87 : decode cX8_token 87 = .ok (.getfield 85, 3) := by decide +kernel
theorem dX8_token_90 : decode cX8_token 90 = .ok (.iaload, 1) := by decide +kernel
theorem dX8_token_91 : decode cX8_token 91 = .ok (.invokestatic 88, 3) := by decide +kernel
theorem dX8_token_94 : decode cX8_token 94 = .ok (.ifCond .le 43, 3) := by decide +kernel
theorem dX8_token_97 : decode cX8_token 97 = .ok (.aload_n 0, 1) := by decide +kernel
theorem dX8_token_98 : decode cX8_token 98 = .ok (.getfield 17, 3) := by decide +kernel
theorem dX8_token_101 : decode cX8_token 101 = .ok (.aload_n 0, 1) := by decide +kernel
theorem dX8_token_102 : decode cX8_token 102 = .ok (.getfield 82, 3) := by decide +kernel
theorem dX8_token_105 : decode cX8_token 105 = .ok (.iaload, 1) := by decide +kernel
theorem dX8_token_106 : decode cX8_token 106 = .ok (.invokestatic 88, 3) := by decide +kernel
theorem dX8_token_109 : decode cX8_token 109 = .ok (.aload_n 0, 1) := by decide +kernel
theorem dX8_token_110 : decode cX8_token 110 = .ok (.getfield 17, 3) := by decide +kernel
theorem dX8_token_113 : decode cX8_token 113 = .ok (.aload_n 0, 1) := by decide +kernel
theorem dX8_token_114 : decode cX8_token 114 = .ok (.getfield 85, 3) := by decide +kernel
theorem dX8_token_117 : decode cX8_token 117 = .ok (.iaload, 1) := by decide +kernel
theorem dX8_token_118 : decode cX8_token 118 = .ok (.invokestatic 88, 3) := by decide +kernel
theorem dX8_token_121 : decode cX8_token 121 = .ok (.if_icmp .ne 16, 3) := by decide +kernel
theorem dX8_token_124 : decode cX8_token 124 = .ok (.aload_n 0, 1) := by decide +kernel
theorem dX8_token_125 : decode cX8_token 125 = .ok (.dup, 1) := by decide +kernel
theorem dX8_token_126 : decode cX8_token 126 = .ok (.getfield 82, 3) := by decide +kernel
theorem dX8_token_129 : decode cX8_token 129 = .ok (.iconst 1, 1) := by decide +kernel
theorem dX8_token_130 : decode cX8_token 130 = .ok (.iadd, 1) := by decide +kernel
theorem dX8_token_131 : decode cX8_token 131 = .ok (.putfield 82, 3) := by decide +kernel
theorem dX8_token_134 : decode cX8_token 134 = .ok (.goto (-63), 3) := by decide +kernel
theorem dX8_token_137 : decode cX8_token 137 = .ok (.aload_n 0, 1) := by decide +kernel
theorem dX8_token_138 : decode cX8_token 138 = .ok (.aload_n 0, 1) := by decide +kernel
theorem dX8_token_139 : decode cX8_token 139 = .ok (.getfield 82, 3) := by decide +kernel
theorem dX8_token_142 : decode cX8_token 142 = .ok (.putfield 92, 3) := by decide +kernel
theorem dX8_token_145 : decode cX8_token 145 = .ok (.return_, 1) := by decide +kernel
theorem dX8_isWord_0 : decode cX8_isWord 0 = .ok (.aload_n 0, 1) := by decide +kernel
theorem dX8_isWord_1 : decode cX8_isWord 1 = .ok (.getfield 92, 3) := by decide +kernel
theorem dX8_isWord_4 : decode cX8_isWord 4 = .ok (.aload_n 0, 1) := by decide +kernel
theorem dX8_isWord_5 : decode cX8_isWord 5 = .ok (.getfield 85, 3) := by decide +kernel
theorem dX8_isWord_8 : decode cX8_isWord 8 = .ok (.isub, 1) := by decide +kernel
theorem dX8_isWord_9 : decode cX8_isWord 9 = .ok (.iload_n 2, 1) := by decide +kernel
theorem dX8_isWord_10 : decode cX8_isWord 10 = .ok (.if_icmp .ne 7, 3) := by decide +kernel
theorem dX8_isWord_13 : decode cX8_isWord 13 = .ok (.iconst 1, 1) := by decide +kernel
theorem dX8_isWord_14 : decode cX8_isWord 14 = .ok (.goto 4, 3) := by decide +kernel
theorem dX8_isWord_17 : decode cX8_isWord 17 = .ok (.iconst 0, 1) := by decide +kernel
theorem dX8_isWord_18 : decode cX8_isWord 18 = .ok (.istore_n 3, 1) := by decide +kernel
theorem dX8_isWord_19 : decode cX8_isWord 19 = .ok (.iconst 0, 1) := by decide +kernel
theorem dX8_isWord_20 : decode cX8_isWord 20 = .ok (.istore 4, 2) := by decide +kernel
theorem dX8_isWord_22 : decode cX8_isWord 22 = .ok (.iload_n 3, 1) := by decide +kernel
theorem dX8_isWord_23 : decode cX8_isWord 23 = .ok (.ifCond .eq 48, 3) := by decide +kernel
theorem dX8_isWord_26 : decode cX8_isWord 26 = .ok (.iload 4, 2) := by decide +kernel
theorem dX8_isWord_28 : decode cX8_isWord 28 = .ok (.iload_n 2, 1) := by decide +kernel
theorem dX8_isWord_29 : decode cX8_isWord 29 = .ok (.if_icmp .ge 42, 3) := by decide +kernel
theorem dX8_isWord_32 : decode cX8_isWord 32 = .ok (.aload_n 0, 1) := by decide +kernel
theorem dX8_isWord_33 : decode cX8_isWord 33 = .ok (.getfield 17, 3) := by decide +kernel
theorem dX8_isWord_36 : decode cX8_isWord 36 = .ok (.aload_n 0, 1) := by decide +kernel
theorem dX8_isWord_37 : decode cX8_isWord 37 = .ok (.getfield 85, 3) := by decide +kernel
theorem dX8_isWord_40 : decode cX8_isWord 40 = .ok (.iload 4, 2) := by decide +kernel
theorem dX8_isWord_42 : decode cX8_isWord 42 = .ok (.iadd, 1) := by decide +kernel
theorem dX8_isWord_43 : decode cX8_isWord 43 = .ok (.iaload, 1) := by decide +kernel
theorem dX8_isWord_44 : decode cX8_isWord 44 = .ok (.bipush 96, 2) := by decide +kernel
theorem dX8_isWord_46 : decode cX8_isWord 46 = .ok (.iload_n 1, 1) := by decide +kernel
theorem dX8_isWord_47 : decode cX8_isWord 47 = .ok (.iconst 5, 1) := by decide +kernel
theorem dX8_isWord_48 : decode cX8_isWord 48 = .ok (.iload 4, 2) := by decide +kernel
theorem dX8_isWord_50 : decode cX8_isWord 50 = .ok (.imul, 1) := by decide +kernel
theorem dX8_isWord_51 : decode cX8_isWord 51 = .ok (.ishr, 1) := by decide +kernel
theorem dX8_isWord_52 : decode cX8_isWord 52 = .ok (.bipush 31, 2) := by decide +kernel
theorem dX8_isWord_54 : decode cX8_isWord 54 = .ok (.iand, 1) := by decide +kernel
theorem dX8_isWord_55 : decode cX8_isWord 55 = .ok (.iadd, 1) := by decide +kernel
theorem dX8_isWord_56 : decode cX8_isWord 56 = .ok (.if_icmp .ne 7, 3) := by decide +kernel
theorem dX8_isWord_59 : decode cX8_isWord 59 = .ok (.iconst 1, 1) := by decide +kernel
theorem dX8_isWord_60 : decode cX8_isWord 60 = .ok (.goto 4, 3) := by decide +kernel
theorem dX8_isWord_63 : decode cX8_isWord 63 = .ok (.iconst 0, 1) := by decide +kernel
theorem dX8_isWord_64 : decode cX8_isWord 64 = .ok (.istore_n 3, 1) := by decide +kernel
theorem dX8_isWord_65 : decode cX8_isWord 65 = .ok (.iinc 4 1, 3) := by decide +kernel
theorem dX8_isWord_68 : decode cX8_isWord 68 = .ok (.goto (-46), 3) := by decide +kernel
theorem dX8_isWord_71 : decode cX8_isWord 71 = .ok (.iload_n 3, 1) := by decide +kernel
theorem dX8_isWord_72 : decode cX8_isWord 72 = .ok (.ireturn, 1) := by decide +kernel
theorem dX8_deskWord_0 : decode cX8_deskWord 0 = .ok (.aload_n 0, 1) := by decide +kernel
theorem dX8_deskWord_1 : decode cX8_deskWord 1 = .ok (.ldc 95, 2) := by decide +kernel
theorem dX8_deskWord_3 : decode cX8_deskWord 3 = .ok (.iconst 5, 1) := by decide +kernel
theorem dX8_deskWord_4 : decode cX8_deskWord 4 = .ok (.invokevirtual 96, 3) := by decide +kernel
theorem dX8_deskWord_7 : decode cX8_deskWord 7 = .ok (.ifCond .eq 7, 3) := by decide +kernel
theorem dX8_deskWord_10 : decode cX8_deskWord 10 = .ok (.iconst 1, 1) := by decide +kernel
theorem dX8_deskWord_11 : decode cX8_deskWord 11 = .ok (.goto 48, 3) := by decide +kernel
theorem dX8_deskWord_14 : decode cX8_deskWord 14 = .ok (.aload_n 0, 1) := by decide +kernel
theorem dX8_deskWord_15 : decode cX8_deskWord 15 = .ok (.ldc 100, 2) := by decide +kernel
theorem dX8_deskWord_17 : decode cX8_deskWord 17 = .ok (.iconst 5, 1) := by decide +kernel
theorem dX8_deskWord_18 : decode cX8_deskWord 18 = .ok (.invokevirtual 96, 3) := by decide +kernel
theorem dX8_deskWord_21 : decode cX8_deskWord 21 = .ok (.ifCond .eq 7, 3) := by decide +kernel
theorem dX8_deskWord_24 : decode cX8_deskWord 24 = .ok (.iconst 2, 1) := by decide +kernel
theorem dX8_deskWord_25 : decode cX8_deskWord 25 = .ok (.goto 34, 3) := by decide +kernel
theorem dX8_deskWord_28 : decode cX8_deskWord 28 = .ok (.aload_n 0, 1) := by decide +kernel
theorem dX8_deskWord_29 : decode cX8_deskWord 29 = .ok (.ldc 101, 2) := by decide +kernel
theorem dX8_deskWord_31 : decode cX8_deskWord 31 = .ok (.bipush 6, 2) := by decide +kernel
theorem dX8_deskWord_33 : decode cX8_deskWord 33 = .ok (.invokevirtual 96, 3) := by decide +kernel
theorem dX8_deskWord_36 : decode cX8_deskWord 36 = .ok (.ifCond .eq 7, 3) := by decide +kernel
theorem dX8_deskWord_39 : decode cX8_deskWord 39 = .ok (.iconst 3, 1) := by decide +kernel
theorem dX8_deskWord_40 : decode cX8_deskWord 40 = .ok (.goto 19, 3) := by decide +kernel
theorem dX8_deskWord_43 : decode cX8_deskWord 43 = .ok (.aload_n 0, 1) := by decide +kernel
theorem dX8_deskWord_44 : decode cX8_deskWord 44 = .ok (.ldc 102, 2) := by decide +kernel
theorem dX8_deskWord_46 : decode cX8_deskWord 46 = .ok (.bipush 6, 2) := by decide +kernel
theorem dX8_deskWord_48 : decode cX8_deskWord 48 = .ok (.invokevirtual 96, 3) := by decide +kernel
theorem dX8_deskWord_51 : decode cX8_deskWord 51 = .ok (.ifCond .eq 7, 3) := by decide +kernel
theorem dX8_deskWord_54 : decode cX8_deskWord 54 = .ok (.iconst 4, 1) := by decide +kernel
theorem dX8_deskWord_55 : decode cX8_deskWord 55 = .ok (.goto 4, 3) := by decide +kernel
theorem dX8_deskWord_58 : decode cX8_deskWord 58 = .ok (.iconst (-1), 1) := by decide +kernel
theorem dX8_deskWord_59 : decode cX8_deskWord 59 = .ok (.ireturn, 1) := by decide +kernel
theorem dX8_wordOf_0 : decode cX8_wordOf 0 = .ok (.aload_n 0, 1) := by decide +kernel
theorem dX8_wordOf_1 : decode cX8_wordOf 1 = .ok (.invokevirtual 103, 3) := by decide +kernel
theorem dX8_wordOf_4 : decode cX8_wordOf 4 = .ok (.istore_n 1, 1) := by decide +kernel
theorem dX8_wordOf_5 : decode cX8_wordOf 5 = .ok (.iload_n 1, 1) := by decide +kernel
theorem dX8_wordOf_6 : decode cX8_wordOf 6 = .ok (.iconst (-1), 1) := by decide +kernel
theorem dX8_wordOf_7 : decode cX8_wordOf 7 = .ok (.if_icmp .eq 7, 3) := by decide +kernel
theorem dX8_wordOf_10 : decode cX8_wordOf 10 = .ok (.iload_n 1, 1) := by decide +kernel
theorem dX8_wordOf_11 : decode cX8_wordOf 11 = .ok (.goto 79, 3) := by decide +kernel
theorem dX8_wordOf_14 : decode cX8_wordOf 14 = .ok (.aload_n 0, 1) := by decide +kernel
theorem dX8_wordOf_15 : decode cX8_wordOf 15 = .ok (.ldc 107, 2) := by decide +kernel
theorem dX8_wordOf_17 : decode cX8_wordOf 17 = .ok (.bipush 6, 2) := by decide +kernel
theorem dX8_wordOf_19 : decode cX8_wordOf 19 = .ok (.invokevirtual 96, 3) := by decide +kernel
theorem dX8_wordOf_22 : decode cX8_wordOf 22 = .ok (.ifCond .eq 7, 3) := by decide +kernel
theorem dX8_wordOf_25 : decode cX8_wordOf 25 = .ok (.iconst 0, 1) := by decide +kernel
theorem dX8_wordOf_26 : decode cX8_wordOf 26 = .ok (.goto 64, 3) := by decide +kernel
theorem dX8_wordOf_29 : decode cX8_wordOf 29 = .ok (.aload_n 0, 1) := by decide +kernel
theorem dX8_wordOf_30 : decode cX8_wordOf 30 = .ok (.ldc 108, 2) := by decide +kernel
theorem dX8_wordOf_32 : decode cX8_wordOf 32 = .ok (.iconst 5, 1) := by decide +kernel
theorem dX8_wordOf_33 : decode cX8_wordOf 33 = .ok (.invokevirtual 96, 3) := by decide +kernel
theorem dX8_wordOf_36 : decode cX8_wordOf 36 = .ok (.ifCond .eq 7, 3) := by decide +kernel
theorem dX8_wordOf_39 : decode cX8_wordOf 39 = .ok (.iconst 5, 1) := by decide +kernel
theorem dX8_wordOf_40 : decode cX8_wordOf 40 = .ok (.goto 50, 3) := by decide +kernel
theorem dX8_wordOf_43 : decode cX8_wordOf 43 = .ok (.aload_n 0, 1) := by decide +kernel
theorem dX8_wordOf_44 : decode cX8_wordOf 44 = .ok (.ldc 109, 2) := by decide +kernel
theorem dX8_wordOf_46 : decode cX8_wordOf 46 = .ok (.iconst 4, 1) := by decide +kernel
theorem dX8_wordOf_47 : decode cX8_wordOf 47 = .ok (.invokevirtual 96, 3) := by decide +kernel
theorem dX8_wordOf_50 : decode cX8_wordOf 50 = .ok (.ifCond .eq 8, 3) := by decide +kernel
theorem dX8_wordOf_53 : decode cX8_wordOf 53 = .ok (.bipush 6, 2) := by decide +kernel
theorem dX8_wordOf_55 : decode cX8_wordOf 55 = .ok (.goto 35, 3) := by decide +kernel
theorem dX8_wordOf_58 : decode cX8_wordOf 58 = .ok (.aload_n 0, 1) := by decide +kernel
theorem dX8_wordOf_59 : decode cX8_wordOf 59 = .ok (.ldc 110, 2) := by decide +kernel
theorem dX8_wordOf_61 : decode cX8_wordOf 61 = .ok (.iconst 4, 1) := by decide +kernel
theorem dX8_wordOf_62 : decode cX8_wordOf 62 = .ok (.invokevirtual 96, 3) := by decide +kernel
theorem dX8_wordOf_65 : decode cX8_wordOf 65 = .ok (.ifCond .eq 8, 3) := by decide +kernel
theorem dX8_wordOf_68 : decode cX8_wordOf 68 = .ok (.bipush 7, 2) := by decide +kernel
theorem dX8_wordOf_70 : decode cX8_wordOf 70 = .ok (.goto 20, 3) := by decide +kernel
theorem dX8_wordOf_73 : decode cX8_wordOf 73 = .ok (.aload_n 0, 1) := by decide +kernel
theorem dX8_wordOf_74 : decode cX8_wordOf 74 = .ok (.ldc 111, 2) := by decide +kernel
theorem dX8_wordOf_76 : decode cX8_wordOf 76 = .ok (.bipush 6, 2) := by decide +kernel
theorem dX8_wordOf_78 : decode cX8_wordOf 78 = .ok (.invokevirtual 96, 3) := by decide +kernel
theorem dX8_wordOf_81 : decode cX8_wordOf 81 = .ok (.ifCond .eq 8, 3) := by decide +kernel
theorem dX8_wordOf_84 : decode cX8_wordOf 84 = .ok (.bipush 8, 2) := by decide +kernel
theorem dX8_wordOf_86 : decode cX8_wordOf 86 = .ok (.goto 4, 3) := by decide +kernel
theorem dX8_wordOf_89 : decode cX8_wordOf 89 = .ok (.iconst (-1), 1) := by decide +kernel
theorem dX8_wordOf_90 : decode cX8_wordOf 90 = .ok (.ireturn, 1) := by decide +kernel
theorem dX8_reads_0 : decode cX8_reads 0 = .ok (.aload_n 0, 1) := by decide +kernel
theorem dX8_reads_1 : decode cX8_reads 1 = .ok (.getfield 85, 3) := by decide +kernel
theorem dX8_reads_4 : decode cX8_reads 4 = .ok (.aload_n 0, 1) := by decide +kernel
theorem dX8_reads_5 : decode cX8_reads 5 = .ok (.getfield 77, 3) := by decide +kernel
theorem dX8_reads_8 : decode cX8_reads 8 = .ok (.if_icmp .eq 32, 3) := by decide +kernel
theorem dX8_reads_11 : decode cX8_reads 11 = .ok (.aload_n 0, 1) := by decide +kernel
theorem dX8_reads_12 : decode cX8_reads 12 = .ok (.getfield 17, 3) := by decide +kernel
theorem dX8_reads_15 : decode cX8_reads 15 = .ok (.aload_n 0, 1) := by decide +kernel
theorem dX8_reads_16 : decode cX8_reads 16 = .ok (.getfield 85, 3) := by decide +kernel
theorem dX8_reads_19 : decode cX8_reads 19 = .ok (.iaload, 1) := by decide +kernel
theorem dX8_reads_20 : decode cX8_reads 20 = .ok (.invokestatic 88, 3) := by decide +kernel
theorem dX8_reads_23 : decode cX8_reads 23 = .ok (.iconst 2, 1) := by decide +kernel
theorem dX8_reads_24 : decode cX8_reads 24 = .ok (.if_icmp .ne 16, 3) := by decide +kernel
theorem dX8_reads_27 : decode cX8_reads 27 = .ok (.aload_n 0, 1) := by decide +kernel
theorem dX8_reads_28 : decode cX8_reads 28 = .ok (.getfield 92, 3) := by decide +kernel
theorem dX8_reads_31 : decode cX8_reads 31 = .ok (.aload_n 0, 1) := by decide +kernel
theorem dX8_reads_32 : decode cX8_reads 32 = .ok (.getfield 85, 3) := by decide +kernel
theorem dX8_reads_35 : decode cX8_reads 35 = .ok (.isub, 1) := by decide +kernel
theorem dX8_reads_36 : decode cX8_reads 36 = .ok (.iconst 2, 1) := by decide +kernel
theorem dX8_reads_37 : decode cX8_reads 37 = .ok (.if_icmp .le 5, 3) := by decide +kernel
theorem dX8_reads_40 : decode cX8_reads 40 = .ok (.iconst 0, 1) := by decide +kernel
theorem dX8_reads_41 : decode cX8_reads 41 = .ok (.ireturn, 1) := by decide +kernel
theorem dX8_reads_42 : decode cX8_reads 42 = .ok (.iconst 0, 1) := by decide +kernel
theorem dX8_reads_43 : decode cX8_reads 43 = .ok (.istore 5, 2) := by decide +kernel
theorem dX8_reads_45 : decode cX8_reads 45 = .ok (.aload_n 0, 1) := by decide +kernel
theorem dX8_reads_46 : decode cX8_reads 46 = .ok (.getfield 85, 3) := by decide +kernel
theorem dX8_reads_49 : decode cX8_reads 49 = .ok (.istore 6, 2) := by decide +kernel
theorem dX8_reads_51 : decode cX8_reads 51 = .ok (.iload 6, 2) := by decide +kernel
theorem dX8_reads_53 : decode cX8_reads 53 = .ok (.aload_n 0, 1) := by decide +kernel
theorem dX8_reads_54 : decode cX8_reads 54 = .ok (.getfield 92, 3) := by decide +kernel
theorem dX8_reads_57 : decode cX8_reads 57 = .ok (.if_icmp .ge 27, 3) := by decide +kernel
theorem dX8_reads_60 : decode cX8_reads 60 = .ok (.bipush 10, 2) := by decide +kernel
theorem dX8_reads_62 : decode cX8_reads 62 = .ok (.iload 5, 2) := by decide +kernel
theorem dX8_reads_64 : decode cX8_reads 64 = .ok (.imul, 1) := by decide +kernel
theorem dX8_reads_65 : decode cX8_reads 65 = .ok (.aload_n 0, 1) := by decide +kernel
theorem dX8_reads_66 : decode cX8_reads 66 = .ok (.getfield 17, 3) := by decide +kernel
theorem dX8_reads_69 : decode cX8_reads 69 = .ok (.iload 6, 2) := by decide +kernel
theorem dX8_reads_71 : decode cX8_reads 71 = .ok (.iaload, 1) := by decide +kernel
theorem dX8_reads_72 : decode cX8_reads 72 = .ok (.iadd, 1) := by decide +kernel
theorem dX8_reads_73 : decode cX8_reads 73 = .ok (.bipush 48, 2) := by decide +kernel
theorem dX8_reads_75 : decode cX8_reads 75 = .ok (.isub, 1) := by decide +kernel
theorem dX8_reads_76 : decode cX8_reads 76 = .ok (.istore 5, 2) := by decide +kernel
theorem dX8_reads_78 : decode cX8_reads 78 = .ok (.iinc 6 1, 3) := by decide +kernel
theorem dX8_reads_81 : decode cX8_reads 81 = .ok (.goto (-30), 3) := by decide +kernel
theorem dX8_reads_84 : decode cX8_reads 84 = .ok (.iload 5, 2) := by decide +kernel
theorem dX8_reads_86 : decode cX8_reads 86 = .ok (.i2l, 1) := by decide +kernel
theorem dX8_reads_87 : decode cX8_reads 87 = .ok (.iload_n 2, 1) := by decide +kernel
theorem dX8_reads_88 : decode cX8_reads 88 = .ok (.i2l, 1) := by decide +kernel
theorem dX8_reads_89 : decode cX8_reads 89 = .ok (.iload_n 3, 1) := by decide +kernel
theorem dX8_reads_90 : decode cX8_reads 90 = .ok (.i2l, 1) := by decide +kernel
theorem dX8_reads_91 : decode cX8_reads 91 = .ok (.invokestatic 73, 3) := by decide +kernel
theorem dX8_reads_94 : decode cX8_reads 94 = .ok (.ifCond .eq 10, 3) := by decide +kernel
theorem dX8_reads_97 : decode cX8_reads 97 = .ok (.iload 5, 2) := by decide +kernel
theorem dX8_reads_99 : decode cX8_reads 99 = .ok (.iload 4, 2) := by decide +kernel
theorem dX8_reads_101 : decode cX8_reads 101 = .ok (.if_icmp .ne 5, 3) := by decide +kernel
theorem dX8_reads_104 : decode cX8_reads 104 = .ok (.iconst 0, 1) := by decide +kernel
theorem dX8_reads_105 : decode cX8_reads 105 = .ok (.ireturn, 1) := by decide +kernel
theorem dX8_reads_106 : decode cX8_reads 106 = .ok (.aload_n 0, 1) := by decide +kernel
theorem dX8_reads_107 : decode cX8_reads 107 = .ok (.getfield 20, 3) := by decide +kernel
theorem dX8_reads_110 : decode cX8_reads 110 = .ok (.iconst 4, 1) := by decide +kernel
theorem dX8_reads_111 : decode cX8_reads 111 = .ok (.aload_n 0, 1) := by decide +kernel
theorem dX8_reads_112 : decode cX8_reads 112 = .ok (.getfield 112, 3) := by decide +kernel
theorem dX8_reads_115 : decode cX8_reads 115 = .ok (.imul, 1) := by decide +kernel
theorem dX8_reads_116 : decode cX8_reads 116 = .ok (.iconst 1, 1) := by decide +kernel
theorem dX8_reads_117 : decode cX8_reads 117 = .ok (.iadd, 1) := by decide +kernel
theorem dX8_reads_118 : decode cX8_reads 118 = .ok (.iload_n 1, 1) := by decide +kernel
theorem dX8_reads_119 : decode cX8_reads 119 = .ok (.iadd, 1) := by decide +kernel
theorem dX8_reads_120 : decode cX8_reads 120 = .ok (.iload 5, 2) := by decide +kernel
theorem dX8_reads_122 : decode cX8_reads 122 = .ok (.iastore, 1) := by decide +kernel
theorem dX8_reads_123 : decode cX8_reads 123 = .ok (.aload_n 0, 1) := by decide +kernel
theorem dX8_reads_124 : decode cX8_reads 124 = .ok (.invokevirtual 115, 3) := by decide +kernel
theorem dX8_reads_127 : decode cX8_reads 127 = .ok (.iconst 1, 1) := by decide +kernel
theorem dX8_reads_128 : decode cX8_reads 128 = .ok (.ireturn, 1) := by decide +kernel
theorem dX8_readsRest_0 : decode cX8_readsRest 0 = .ok (.aload_n 0, 1) := by decide +kernel
theorem dX8_readsRest_1 : decode cX8_readsRest 1 = .ok (.getfield 118, 3) := by decide +kernel
theorem dX8_readsRest_4 : decode cX8_readsRest 4 = .ok (.iconst 1, 1) := by decide +kernel
theorem dX8_readsRest_5 : decode cX8_readsRest 5 = .ok (.isub, 1) := by decide +kernel
theorem dX8_readsRest_6 : decode cX8_readsRest 6 = .ok (.istore_n 2, 1) := by decide +kernel
theorem dX8_readsRest_7 : decode cX8_readsRest 7 = .ok (.iload_n 1, 1) := by decide +kernel
theorem dX8_readsRest_8 : decode cX8_readsRest 8 = .ok (.tableswitch 144 0 8 #[52, 144, 144, 144, 144, 62, 62, 124, 134], 52) := by decide +kernel
theorem dX8_readsRest_60 : decode cX8_readsRest 60 = .ok (.aload_n 0, 1) := by decide +kernel
theorem dX8_readsRest_61 : decode cX8_readsRest 61 = .ok (.iconst 0, 1) := by decide +kernel
theorem dX8_readsRest_62 : decode cX8_readsRest 62 = .ok (.iconst 2, 1) := by decide +kernel
theorem dX8_readsRest_63 : decode cX8_readsRest 63 = .ok (.bipush 8, 2) := by decide +kernel
theorem dX8_readsRest_65 : decode cX8_readsRest 65 = .ok (.iconst (-1), 1) := by decide +kernel
theorem dX8_readsRest_66 : decode cX8_readsRest 66 = .ok (.invokevirtual 121, 3) := by decide +kernel
theorem dX8_readsRest_69 : decode cX8_readsRest 69 = .ok (.ireturn, 1) := by decide +kernel
theorem dX8_readsRest_70 : decode cX8_readsRest 70 = .ok (.aload_n 0, 1) := by decide +kernel
theorem dX8_readsRest_71 : decode cX8_readsRest 71 = .ok (.iconst 0, 1) := by decide +kernel
theorem dX8_readsRest_72 : decode cX8_readsRest 72 = .ok (.iconst 0, 1) := by decide +kernel
theorem dX8_readsRest_73 : decode cX8_readsRest 73 = .ok (.iload_n 2, 1) := by decide +kernel
theorem dX8_readsRest_74 : decode cX8_readsRest 74 = .ok (.iconst (-1), 1) := by decide +kernel
theorem dX8_readsRest_75 : decode cX8_readsRest 75 = .ok (.invokevirtual 121, 3) := by decide +kernel
theorem dX8_readsRest_78 : decode cX8_readsRest 78 = .ok (.ifCond .eq 52, 3) := by decide +kernel
theorem dX8_readsRest_81 : decode cX8_readsRest 81 = .ok (.aload_n 0, 1) := by decide +kernel
theorem dX8_readsRest_82 : decode cX8_readsRest 82 = .ok (.iconst 1, 1) := by decide +kernel
theorem dX8_readsRest_83 : decode cX8_readsRest 83 = .ok (.iconst 0, 1) := by decide +kernel
theorem dX8_readsRest_84 : decode cX8_readsRest 84 = .ok (.iload_n 2, 1) := by decide +kernel
theorem dX8_readsRest_85 : decode cX8_readsRest 85 = .ok (.aload_n 0, 1) := by decide +kernel
theorem dX8_readsRest_86 : decode cX8_readsRest 86 = .ok (.getfield 20, 3) := by decide +kernel
theorem dX8_readsRest_89 : decode cX8_readsRest 89 = .ok (.iconst 4, 1) := by decide +kernel
theorem dX8_readsRest_90 : decode cX8_readsRest 90 = .ok (.aload_n 0, 1) := by decide +kernel
theorem dX8_readsRest_91 : decode cX8_readsRest 91 = .ok (.getfield 112, 3) := by decide +kernel
theorem dX8_readsRest_94 : decode cX8_readsRest 94 = .ok (.imul, 1) := by decide +kernel
theorem dX8_readsRest_95 : decode cX8_readsRest 95 = .ok (.iconst 1, 1) := by decide +kernel
theorem dX8_readsRest_96 : decode cX8_readsRest 96 = .ok (.iadd, 1) := by decide +kernel
theorem dX8_readsRest_97 : decode cX8_readsRest 97 = .ok (.iaload, 1) := by decide +kernel
theorem dX8_readsRest_98 : decode cX8_readsRest 98 = .ok (.invokevirtual 121, 3) := by decide +kernel
theorem dX8_readsRest_101 : decode cX8_readsRest 101 = .ok (.ifCond .eq 29, 3) := by decide +kernel
theorem dX8_readsRest_104 : decode cX8_readsRest 104 = .ok (.aload_n 0, 1) := by decide +kernel
theorem dX8_readsRest_105 : decode cX8_readsRest 105 = .ok (.iconst 2, 1) := by decide +kernel
theorem dX8_readsRest_106 : decode cX8_readsRest 106 = .ok (.iconst 0, 1) := by decide +kernel
theorem dX8_readsRest_107 : decode cX8_readsRest 107 = .ok (.iload_n 1, 1) := by decide +kernel
theorem dX8_readsRest_108 : decode cX8_readsRest 108 = .ok (.iconst 5, 1) := by decide +kernel
theorem dX8_readsRest_109 : decode cX8_readsRest 109 = .ok (.if_icmp .ne 8, 3) := by decide +kernel
theorem dX8_readsRest_112 : decode cX8_readsRest 112 = .ok (.bipush 99, 2) := by decide +kernel
theorem dX8_readsRest_114 : decode cX8_readsRest 114 = .ok (.goto 5, 3) := by decide +kernel
theorem dX8_readsRest_117 : decode cX8_readsRest 117 = .ok (.bipush 9, 2) := by decide +kernel
theorem dX8_readsRest_119 : decode cX8_readsRest 119 = .ok (.iconst (-1), 1) := by decide +kernel
theorem dX8_readsRest_120 : decode cX8_readsRest 120 = .ok (.invokevirtual 121, 3) := by decide +kernel
theorem dX8_readsRest_123 : decode cX8_readsRest 123 = .ok (.ifCond .eq 7, 3) := by decide +kernel
theorem dX8_readsRest_126 : decode cX8_readsRest 126 = .ok (.iconst 1, 1) := by decide +kernel
theorem dX8_readsRest_127 : decode cX8_readsRest 127 = .ok (.goto 4, 3) := by decide +kernel
theorem dX8_readsRest_130 : decode cX8_readsRest 130 = .ok (.iconst 0, 1) := by decide +kernel
theorem dX8_readsRest_131 : decode cX8_readsRest 131 = .ok (.ireturn, 1) := by decide +kernel
theorem dX8_readsRest_132 : decode cX8_readsRest 132 = .ok (.aload_n 0, 1) := by decide +kernel
theorem dX8_readsRest_133 : decode cX8_readsRest 133 = .ok (.iconst 0, 1) := by decide +kernel
theorem dX8_readsRest_134 : decode cX8_readsRest 134 = .ok (.iconst 0, 1) := by decide +kernel
theorem dX8_readsRest_135 : decode cX8_readsRest 135 = .ok (.bipush 9, 2) := by decide +kernel
theorem dX8_readsRest_137 : decode cX8_readsRest 137 = .ok (.iconst (-1), 1) := by decide +kernel
theorem dX8_readsRest_138 : decode cX8_readsRest 138 = .ok (.invokevirtual 121, 3) := by decide +kernel
theorem dX8_readsRest_141 : decode cX8_readsRest 141 = .ok (.ireturn, 1) := by decide +kernel
theorem dX8_readsRest_142 : decode cX8_readsRest 142 = .ok (.aload_n 0, 1) := by decide +kernel
theorem dX8_readsRest_143 : decode cX8_readsRest 143 = .ok (.iconst 0, 1) := by decide +kernel
theorem dX8_readsRest_144 : decode cX8_readsRest 144 = .ok (.iconst 0, 1) := by decide +kernel
theorem dX8_readsRest_145 : decode cX8_readsRest 145 = .ok (.bipush 99, 2) := by decide +kernel
theorem dX8_readsRest_147 : decode cX8_readsRest 147 = .ok (.iconst (-1), 1) := by decide +kernel
theorem dX8_readsRest_148 : decode cX8_readsRest 148 = .ok (.invokevirtual 121, 3) := by decide +kernel
theorem dX8_readsRest_151 : decode cX8_readsRest 151 = .ok (.ireturn, 1) := by decide +kernel
theorem dX8_readsRest_152 : decode cX8_readsRest 152 = .ok (.aload_n 0, 1) := by decide +kernel
theorem dX8_readsRest_153 : decode cX8_readsRest 153 = .ok (.iconst 0, 1) := by decide +kernel
theorem dX8_readsRest_154 : decode cX8_readsRest 154 = .ok (.iconst 0, 1) := by decide +kernel
theorem dX8_readsRest_155 : decode cX8_readsRest 155 = .ok (.iload_n 2, 1) := by decide +kernel
theorem dX8_readsRest_156 : decode cX8_readsRest 156 = .ok (.iconst (-1), 1) := by decide +kernel
theorem dX8_readsRest_157 : decode cX8_readsRest 157 = .ok (.invokevirtual 121, 3) := by decide +kernel
theorem dX8_readsRest_160 : decode cX8_readsRest 160 = .ok (.ireturn, 1) := by decide +kernel
theorem dX8_readsLine_0 : decode cX8_readsLine 0 = .ok (.aload_n 0, 1) := by decide +kernel
theorem dX8_readsLine_1 : decode cX8_readsLine 1 = .ok (.invokevirtual 125, 3) := by decide +kernel
theorem dX8_readsLine_4 : decode cX8_readsLine 4 = .ok (.istore_n 1, 1) := by decide +kernel
theorem dX8_readsLine_5 : decode cX8_readsLine 5 = .ok (.iload_n 1, 1) := by decide +kernel
theorem dX8_readsLine_6 : decode cX8_readsLine 6 = .ok (.iconst (-1), 1) := by decide +kernel
theorem dX8_readsLine_7 : decode cX8_readsLine 7 = .ok (.if_icmp .eq 32, 3) := by decide +kernel
theorem dX8_readsLine_10 : decode cX8_readsLine 10 = .ok (.iload_n 1, 1) := by decide +kernel
theorem dX8_readsLine_11 : decode cX8_readsLine 11 = .ok (.iconst 5, 1) := by decide +kernel
theorem dX8_readsLine_12 : decode cX8_readsLine 12 = .ok (.if_icmp .ne 12, 3) := by decide +kernel
theorem dX8_readsLine_15 : decode cX8_readsLine 15 = .ok (.aload_n 0, 1) := by decide +kernel
theorem dX8_readsLine_16 : decode cX8_readsLine 16 = .ok (.getfield 128, 3) := by decide +kernel
theorem dX8_readsLine_19 : decode cX8_readsLine 19 = .ok (.bipush 12, 2) := by decide +kernel
theorem dX8_readsLine_21 : decode cX8_readsLine 21 = .ok (.if_icmp .eq 18, 3) := by decide +kernel
theorem dX8_readsLine_24 : decode cX8_readsLine 24 = .ok (.iload_n 1, 1) := by decide +kernel
theorem dX8_readsLine_25 : decode cX8_readsLine 25 = .ok (.bipush 6, 2) := by decide +kernel
theorem dX8_readsLine_27 : decode cX8_readsLine 27 = .ok (.if_icmp .ne 14, 3) := by decide +kernel
theorem dX8_readsLine_30 : decode cX8_readsLine 30 = .ok (.aload_n 0, 1) := by decide +kernel
theorem dX8_readsLine_31 : decode cX8_readsLine 31 = .ok (.getfield 131, 3) := by decide +kernel
theorem dX8_readsLine_34 : decode cX8_readsLine 34 = .ok (.bipush 6, 2) := by decide +kernel
theorem dX8_readsLine_36 : decode cX8_readsLine 36 = .ok (.if_icmp .ne 5, 3) := by decide +kernel
theorem dX8_readsLine_39 : decode cX8_readsLine 39 = .ok (.iconst 0, 1) := by decide +kernel
theorem dX8_readsLine_40 : decode cX8_readsLine 40 = .ok (.ireturn, 1) := by decide +kernel
theorem dX8_readsLine_41 : decode cX8_readsLine 41 = .ok (.aload_n 0, 1) := by decide +kernel
theorem dX8_readsLine_42 : decode cX8_readsLine 42 = .ok (.invokevirtual 115, 3) := by decide +kernel
theorem dX8_readsLine_45 : decode cX8_readsLine 45 = .ok (.aload_n 0, 1) := by decide +kernel
theorem dX8_readsLine_46 : decode cX8_readsLine 46 = .ok (.getfield 20, 3) := by decide +kernel
theorem dX8_readsLine_49 : decode cX8_readsLine 49 = .ok (.iconst 4, 1) := by decide +kernel
theorem dX8_readsLine_50 : decode cX8_readsLine 50 = .ok (.aload_n 0, 1) := by decide +kernel
theorem dX8_readsLine_51 : decode cX8_readsLine 51 = .ok (.getfield 112, 3) := by decide +kernel
theorem dX8_readsLine_54 : decode cX8_readsLine 54 = .ok (.imul, 1) := by decide +kernel
theorem dX8_readsLine_55 : decode cX8_readsLine 55 = .ok (.iload_n 1, 1) := by decide +kernel
theorem dX8_readsLine_56 : decode cX8_readsLine 56 = .ok (.iastore, 1) := by decide +kernel
theorem dX8_readsLine_57 : decode cX8_readsLine 57 = .ok (.aload_n 0, 1) := by decide +kernel
theorem dX8_readsLine_58 : decode cX8_readsLine 58 = .ok (.iload_n 1, 1) := by decide +kernel
theorem dX8_readsLine_59 : decode cX8_readsLine 59 = .ok (.invokevirtual 134, 3) := by decide +kernel
theorem dX8_readsLine_62 : decode cX8_readsLine 62 = .ok (.ifCond .ne 5, 3) := by decide +kernel
theorem dX8_readsLine_65 : decode cX8_readsLine 65 = .ok (.iconst 0, 1) := by decide +kernel
theorem dX8_readsLine_66 : decode cX8_readsLine 66 = .ok (.ireturn, 1) := by decide +kernel
theorem dX8_readsLine_67 : decode cX8_readsLine 67 = .ok (.aload_n 0, 1) := by decide +kernel
theorem dX8_readsLine_68 : decode cX8_readsLine 68 = .ok (.iload_n 1, 1) := by decide +kernel
theorem dX8_readsLine_69 : decode cX8_readsLine 69 = .ok (.ifCond .ne 19, 3) := by decide +kernel
theorem dX8_readsLine_72 : decode cX8_readsLine 72 = .ok (.aload_n 0, 1) := by decide +kernel
theorem dX8_readsLine_73 : decode cX8_readsLine 73 = .ok (.getfield 20, 3) := by decide +kernel
theorem dX8_readsLine_76 : decode cX8_readsLine 76 = .ok (.iconst 4, 1) := by decide +kernel
theorem dX8_readsLine_77 : decode cX8_readsLine 77 = .ok (.aload_n 0, 1) := by decide +kernel
theorem dX8_readsLine_78 : decode cX8_readsLine 78 = .ok (.getfield 112, 3) := by decide +kernel
theorem dX8_readsLine_81 : decode cX8_readsLine 81 = .ok (.imul, 1) := by decide +kernel
theorem dX8_readsLine_82 : decode cX8_readsLine 82 = .ok (.iconst 1, 1) := by decide +kernel
theorem dX8_readsLine_83 : decode cX8_readsLine 83 = .ok (.iadd, 1) := by decide +kernel
theorem dX8_readsLine_84 : decode cX8_readsLine 84 = .ok (.iaload, 1) := by decide +kernel
theorem dX8_readsLine_85 : decode cX8_readsLine 85 = .ok (.goto 7, 3) := by decide +kernel
theorem dX8_readsLine_88 : decode cX8_readsLine 88 = .ok (.aload_n 0, 1) := by decide +kernel
theorem dX8_readsLine_89 : decode cX8_readsLine 89 = .ok (.getfield 118, 3) := by decide +kernel
theorem dX8_readsLine_92 : decode cX8_readsLine 92 = .ok (.putfield 118, 3) := by decide +kernel
theorem dX8_readsLine_95 : decode cX8_readsLine 95 = .ok (.aload_n 0, 1) := by decide +kernel
theorem dX8_readsLine_96 : decode cX8_readsLine 96 = .ok (.iload_n 1, 1) := by decide +kernel
theorem dX8_readsLine_97 : decode cX8_readsLine 97 = .ok (.ifCond .ne 7, 3) := by decide +kernel
theorem dX8_readsLine_100 : decode cX8_readsLine 100 = .ok (.iconst 0, 1) := by decide +kernel
theorem dX8_readsLine_101 : decode cX8_readsLine 101 = .ok (.goto 21, 3) := by decide +kernel
theorem dX8_readsLine_104 : decode cX8_readsLine 104 = .ok (.iload_n 1, 1) := by decide +kernel
theorem dX8_readsLine_105 : decode cX8_readsLine 105 = .ok (.iconst 5, 1) := by decide +kernel
theorem dX8_readsLine_106 : decode cX8_readsLine 106 = .ok (.if_icmp .ne 12, 3) := by decide +kernel
theorem dX8_readsLine_109 : decode cX8_readsLine 109 = .ok (.aload_n 0, 1) := by decide +kernel
theorem dX8_readsLine_110 : decode cX8_readsLine 110 = .ok (.getfield 128, 3) := by decide +kernel
theorem dX8_readsLine_113 : decode cX8_readsLine 113 = .ok (.iconst 1, 1) := by decide +kernel
theorem dX8_readsLine_114 : decode cX8_readsLine 114 = .ok (.iadd, 1) := by decide +kernel
theorem dX8_readsLine_115 : decode cX8_readsLine 115 = .ok (.goto 7, 3) := by decide +kernel
theorem dX8_readsLine_118 : decode cX8_readsLine 118 = .ok (.aload_n 0, 1) := by decide +kernel
theorem dX8_readsLine_119 : decode cX8_readsLine 119 = .ok (.getfield 128, 3) := by decide +kernel
theorem dX8_readsLine_122 : decode cX8_readsLine 122 = .ok (.putfield 128, 3) := by decide +kernel
theorem dX8_readsLine_125 : decode cX8_readsLine 125 = .ok (.aload_n 0, 1) := by decide +kernel
theorem dX8_readsLine_126 : decode cX8_readsLine 126 = .ok (.iload_n 1, 1) := by decide +kernel
theorem dX8_readsLine_127 : decode cX8_readsLine 127 = .ok (.ifCond .ne 7, 3) := by decide +kernel
theorem dX8_readsLine_130 : decode cX8_readsLine 130 = .ok (.iconst 0, 1) := by decide +kernel
theorem dX8_readsLine_131 : decode cX8_readsLine 131 = .ok (.goto 22, 3) := by decide +kernel
theorem dX8_readsLine_134 : decode cX8_readsLine 134 = .ok (.iload_n 1, 1) := by decide +kernel
theorem dX8_readsLine_135 : decode cX8_readsLine 135 = .ok (.bipush 6, 2) := by decide +kernel
theorem dX8_readsLine_137 : decode cX8_readsLine 137 = .ok (.if_icmp .ne 12, 3) := by decide +kernel
theorem dX8_readsLine_140 : decode cX8_readsLine 140 = .ok (.aload_n 0, 1) := by decide +kernel
theorem dX8_readsLine_141 : decode cX8_readsLine 141 = .ok (.getfield 131, 3) := by decide +kernel
theorem dX8_readsLine_144 : decode cX8_readsLine 144 = .ok (.iconst 1, 1) := by decide +kernel
theorem dX8_readsLine_145 : decode cX8_readsLine 145 = .ok (.iadd, 1) := by decide +kernel
theorem dX8_readsLine_146 : decode cX8_readsLine 146 = .ok (.goto 7, 3) := by decide +kernel
theorem dX8_readsLine_149 : decode cX8_readsLine 149 = .ok (.aload_n 0, 1) := by decide +kernel
theorem dX8_readsLine_150 : decode cX8_readsLine 150 = .ok (.getfield 131, 3) := by decide +kernel
theorem dX8_readsLine_153 : decode cX8_readsLine 153 = .ok (.putfield 131, 3) := by decide +kernel
theorem dX8_readsLine_156 : decode cX8_readsLine 156 = .ok (.aload_n 0, 1) := by decide +kernel
theorem dX8_readsLine_157 : decode cX8_readsLine 157 = .ok (.dup, 1) := by decide +kernel
theorem dX8_readsLine_158 : decode cX8_readsLine 158 = .ok (.getfield 112, 3) := by decide +kernel
theorem dX8_readsLine_161 : decode cX8_readsLine 161 = .ok (.iconst 1, 1) := by decide +kernel
theorem dX8_readsLine_162 : decode cX8_readsLine 162 = .ok (.iadd, 1) := by decide +kernel
theorem dX8_readsLine_163 : decode cX8_readsLine 163 = .ok (.putfield 112, 3) := by decide +kernel
theorem dX8_readsLine_166 : decode cX8_readsLine 166 = .ok (.iconst 1, 1) := by decide +kernel
theorem dX8_readsLine_167 : decode cX8_readsLine 167 = .ok (.ireturn, 1) := by decide +kernel
theorem dX8_fault_0 : decode cX8_fault 0 = .ok (.aload_n 0, 1) := by decide +kernel
theorem dX8_fault_1 : decode cX8_fault 1 = .ok (.iconst 0, 1) := by decide +kernel
theorem dX8_fault_2 : decode cX8_fault 2 = .ok (.putfield 82, 3) := by decide +kernel
theorem dX8_fault_5 : decode cX8_fault 5 = .ok (.aload_n 0, 1) := by decide +kernel
theorem dX8_fault_6 : decode cX8_fault 6 = .ok (.iconst 0, 1) := by decide +kernel
theorem dX8_fault_7 : decode cX8_fault 7 = .ok (.putfield 112, 3) := by decide +kernel
theorem dX8_fault_10 : decode cX8_fault 10 = .ok (.aload_n 0, 1) := by decide +kernel
theorem dX8_fault_11 : decode cX8_fault 11 = .ok (.aload_n 0, 1) := by decide +kernel
theorem dX8_fault_12 : decode cX8_fault 12 = .ok (.getfield 23, 3) := by decide +kernel
theorem dX8_fault_15 : decode cX8_fault 15 = .ok (.putfield 118, 3) := by decide +kernel
theorem dX8_fault_18 : decode cX8_fault 18 = .ok (.aload_n 0, 1) := by decide +kernel
theorem dX8_fault_19 : decode cX8_fault 19 = .ok (.aload_n 0, 1) := by decide +kernel
theorem dX8_fault_20 : decode cX8_fault 20 = .ok (.getfield 61, 3) := by decide +kernel
theorem dX8_fault_23 : decode cX8_fault 23 = .ok (.putfield 128, 3) := by decide +kernel
theorem dX8_fault_26 : decode cX8_fault 26 = .ok (.aload_n 0, 1) := by decide +kernel
theorem dX8_fault_27 : decode cX8_fault 27 = .ok (.aload_n 0, 1) := by decide +kernel
theorem dX8_fault_28 : decode cX8_fault 28 = .ok (.getfield 64, 3) := by decide +kernel
theorem dX8_fault_31 : decode cX8_fault 31 = .ok (.putfield 131, 3) := by decide +kernel
theorem dX8_fault_34 : decode cX8_fault 34 = .ok (.aload_n 0, 1) := by decide +kernel
theorem dX8_fault_35 : decode cX8_fault 35 = .ok (.invokevirtual 115, 3) := by decide +kernel
theorem dX8_fault_38 : decode cX8_fault 38 = .ok (.aload_n 0, 1) := by decide +kernel
theorem dX8_fault_39 : decode cX8_fault 39 = .ok (.invokevirtual 138, 3) := by decide +kernel
theorem dX8_fault_42 : decode cX8_fault 42 = .ok (.ifCond .ne 8, 3) := by decide +kernel
theorem dX8_fault_45 : decode cX8_fault 45 = .ok (.aload_n 0, 1) := by decide +kernel
theorem dX8_fault_46 : decode cX8_fault 46 = .ok (.getfield 85, 3) := by decide +kernel
theorem dX8_fault_49 : decode cX8_fault 49 = .ok (.ireturn, 1) := by decide +kernel
theorem dX8_fault_50 : decode cX8_fault 50 = .ok (.aload_n 0, 1) := by decide +kernel
theorem dX8_fault_51 : decode cX8_fault 51 = .ok (.getfield 85, 3) := by decide +kernel
theorem dX8_fault_54 : decode cX8_fault 54 = .ok (.aload_n 0, 1) := by decide +kernel
theorem dX8_fault_55 : decode cX8_fault 55 = .ok (.getfield 77, 3) := by decide +kernel
theorem dX8_fault_58 : decode cX8_fault 58 = .ok (.if_icmp .ge 70, 3) := by decide +kernel
theorem dX8_fault_61 : decode cX8_fault 61 = .ok (.aload_n 0, 1) := by decide +kernel
theorem dX8_fault_62 : decode cX8_fault 62 = .ok (.getfield 92, 3) := by decide +kernel
theorem dX8_fault_65 : decode cX8_fault 65 = .ok (.aload_n 0, 1) := by decide +kernel
theorem dX8_fault_66 : decode cX8_fault 66 = .ok (.getfield 85, 3) := by decide +kernel
theorem dX8_fault_69 : decode cX8_fault 69 = .ok (.isub, 1) := by decide +kernel
theorem dX8_fault_70 : decode cX8_fault 70 = .ok (.iconst 1, 1) := by decide +kernel
theorem dX8_fault_71 : decode cX8_fault 71 = .ok (.if_icmp .ne 30, 3) := by decide +kernel
theorem dX8_fault_74 : decode cX8_fault 74 = .ok (.aload_n 0, 1) := by decide +kernel
theorem dX8_fault_75 : decode cX8_fault 75 = .ok (.getfield 17, 3) := by decide +kernel
theorem dX8_fault_78 : decode cX8_fault 78 = .ok (.aload_n 0, 1) := by decide +kernel
theorem dX8_fault_79 : decode cX8_fault 79 = .ok (.getfield 85, 3) := by decide +kernel
theorem dX8_fault_82 : decode cX8_fault 82 = .ok (.iaload, 1) := by decide +kernel
theorem dX8_fault_83 : decode cX8_fault 83 = .ok (.bipush 59, 2) := by decide +kernel
theorem dX8_fault_85 : decode cX8_fault 85 = .ok (.if_icmp .ne 16, 3) := by decide +kernel
theorem dX8_fault_88 : decode cX8_fault 88 = .ok (.aload_n 0, 1) := by decide +kernel
theorem dX8_fault_89 : decode cX8_fault 89 = .ok (.getfield 112, 3) := by decide +kernel
theorem dX8_fault_92 : decode cX8_fault 92 = .ok (.bipush 12, 2) := by decide +kernel
theorem dX8_fault_94 : decode cX8_fault 94 = .ok (.if_icmp .ge 7, 3) := by decide +kernel
theorem dX8_fault_97 : decode cX8_fault 97 = .ok (.iconst 1, 1) := by decide +kernel
theorem dX8_fault_98 : decode cX8_fault 98 = .ok (.goto 4, 3) := by decide +kernel
theorem dX8_fault_101 : decode cX8_fault 101 = .ok (.iconst 0, 1) := by decide +kernel
theorem dX8_fault_102 : decode cX8_fault 102 = .ok (.istore_n 1, 1) := by decide +kernel
theorem dX8_fault_103 : decode cX8_fault 103 = .ok (.iload_n 1, 1) := by decide +kernel
theorem dX8_fault_104 : decode cX8_fault 104 = .ok (.ifCond .eq 12, 3) := by decide +kernel
theorem dX8_fault_107 : decode cX8_fault 107 = .ok (.aload_n 0, 1) := by decide +kernel
theorem dX8_fault_108 : decode cX8_fault 108 = .ok (.invokevirtual 115, 3) := by decide +kernel
theorem dX8_fault_111 : decode cX8_fault 111 = .ok (.aload_n 0, 1) := by decide +kernel
theorem dX8_fault_112 : decode cX8_fault 112 = .ok (.invokevirtual 138, 3) := by decide +kernel
theorem dX8_fault_115 : decode cX8_fault 115 = .ok (.istore_n 1, 1) := by decide +kernel
theorem dX8_fault_116 : decode cX8_fault 116 = .ok (.iload_n 1, 1) := by decide +kernel
theorem dX8_fault_117 : decode cX8_fault 117 = .ok (.ifCond .ne 8, 3) := by decide +kernel
theorem dX8_fault_120 : decode cX8_fault 120 = .ok (.aload_n 0, 1) := by decide +kernel
theorem dX8_fault_121 : decode cX8_fault 121 = .ok (.getfield 85, 3) := by decide +kernel
theorem dX8_fault_124 : decode cX8_fault 124 = .ok (.ireturn, 1) := by decide +kernel
theorem dX8_fault_125 : decode cX8_fault 125 = .ok (.goto (-75), 3) := by decide +kernel
theorem dX8_fault_128 : decode cX8_fault 128 = .ok (.iconst (-1), 1) := by decide +kernel
theorem dX8_fault_129 : decode cX8_fault 129 = .ok (.ireturn, 1) := by decide +kernel
theorem dX8_tell_0 : decode cX8_tell 0 = .ok (.aload_n 0, 1) := by decide +kernel
theorem dX8_tell_1 : decode cX8_tell 1 = .ok (.getfield 20, 3) := by decide +kernel
theorem dX8_tell_4 : decode cX8_tell 4 = .ok (.iload_n 1, 1) := by decide +kernel
theorem dX8_tell_5 : decode cX8_tell 5 = .ok (.iconst 1, 1) := by decide +kernel
theorem dX8_tell_6 : decode cX8_tell 6 = .ok (.iadd, 1) := by decide +kernel
theorem dX8_tell_7 : decode cX8_tell 7 = .ok (.iaload, 1) := by decide +kernel
theorem dX8_tell_8 : decode cX8_tell 8 = .ok (.istore_n 2, 1) := by decide +kernel
theorem dX8_tell_9 : decode cX8_tell 9 = .ok (.aload_n 0, 1) := by decide +kernel
theorem dX8_tell_10 : decode cX8_tell 10 = .ok (.getfield 20, 3) := by decide +kernel
theorem dX8_tell_13 : decode cX8_tell 13 = .ok (.iload_n 1, 1) := by decide +kernel
theorem dX8_tell_14 : decode cX8_tell 14 = .ok (.iconst 2, 1) := by decide +kernel
theorem dX8_tell_15 : decode cX8_tell 15 = .ok (.iadd, 1) := by decide +kernel
theorem dX8_tell_16 : decode cX8_tell 16 = .ok (.iaload, 1) := by decide +kernel
theorem dX8_tell_17 : decode cX8_tell 17 = .ok (.istore_n 3, 1) := by decide +kernel
theorem dX8_tell_18 : decode cX8_tell 18 = .ok (.sipush 156, 3) := by decide +kernel
theorem dX8_tell_21 : decode cX8_tell 21 = .ok (.istore 4, 2) := by decide +kernel
theorem dX8_tell_23 : decode cX8_tell 23 = .ok (.aload_n 0, 1) := by decide +kernel
theorem dX8_tell_24 : decode cX8_tell 24 = .ok (.getfield 20, 3) := by decide +kernel
theorem dX8_tell_27 : decode cX8_tell 27 = .ok (.iload_n 1, 1) := by decide +kernel
theorem dX8_tell_28 : decode cX8_tell 28 = .ok (.iaload, 1) := by decide +kernel
theorem dX8_tell_29 : decode cX8_tell 29 = .ok (.tableswitch 187 0 8 #[51, 187, 187, 187, 187, 57, 110, 170, 176], 51) := by decide +kernel
theorem dX8_tell_80 : decode cX8_tell 80 = .ok (.aload_n 0, 1) := by decide +kernel
theorem dX8_tell_81 : decode cX8_tell 81 = .ok (.iload_n 2, 1) := by decide +kernel
theorem dX8_tell_82 : decode cX8_tell 82 = .ok (.invokevirtual 54, 3) := by decide +kernel
theorem dX8_tell_85 : decode cX8_tell 85 = .ok (.return_, 1) := by decide +kernel
theorem dX8_tell_86 : decode cX8_tell 86 = .ok (.aload_n 0, 1) := by decide +kernel
theorem dX8_tell_87 : decode cX8_tell 87 = .ok (.getfield 30, 3) := by decide +kernel
theorem dX8_tell_90 : decode cX8_tell 90 = .ok (.aload_n 0, 1) := by decide +kernel
theorem dX8_tell_91 : decode cX8_tell 91 = .ok (.getfield 61, 3) := by decide +kernel
theorem dX8_tell_94 : decode cX8_tell 94 = .ok (.iload_n 2, 1) := by decide +kernel
theorem dX8_tell_95 : decode cX8_tell 95 = .ok (.iastore, 1) := by decide +kernel
theorem dX8_tell_96 : decode cX8_tell 96 = .ok (.aload_n 0, 1) := by decide +kernel
theorem dX8_tell_97 : decode cX8_tell 97 = .ok (.getfield 33, 3) := by decide +kernel
theorem dX8_tell_100 : decode cX8_tell 100 = .ok (.aload_n 0, 1) := by decide +kernel
theorem dX8_tell_101 : decode cX8_tell 101 = .ok (.getfield 61, 3) := by decide +kernel
theorem dX8_tell_104 : decode cX8_tell 104 = .ok (.iload_n 3, 1) := by decide +kernel
theorem dX8_tell_105 : decode cX8_tell 105 = .ok (.iastore, 1) := by decide +kernel
theorem dX8_tell_106 : decode cX8_tell 106 = .ok (.aload_n 0, 1) := by decide +kernel
theorem dX8_tell_107 : decode cX8_tell 107 = .ok (.getfield 7, 3) := by decide +kernel
theorem dX8_tell_110 : decode cX8_tell 110 = .ok (.iload 4, 2) := by decide +kernel
theorem dX8_tell_112 : decode cX8_tell 112 = .ok (.iconst 3, 1) := by decide +kernel
theorem dX8_tell_113 : decode cX8_tell 113 = .ok (.iadd, 1) := by decide +kernel
theorem dX8_tell_114 : decode cX8_tell 114 = .ok (.aload_n 0, 1) := by decide +kernel
theorem dX8_tell_115 : decode cX8_tell 115 = .ok (.getfield 61, 3) := by decide +kernel
theorem dX8_tell_118 : decode cX8_tell 118 = .ok (.iadd, 1) := by decide +kernel
theorem dX8_tell_119 : decode cX8_tell 119 = .ok (.aload_n 0, 1) := by decide +kernel
theorem dX8_tell_120 : decode cX8_tell 120 = .ok (.getfield 20, 3) := by decide +kernel
theorem dX8_tell_123 : decode cX8_tell 123 = .ok (.iload_n 1, 1) := by decide +kernel
theorem dX8_tell_124 : decode cX8_tell 124 = .ok (.iconst 3, 1) := by decide +kernel
theorem dX8_tell_125 : decode cX8_tell 125 = .ok (.iadd, 1) := by decide +kernel
theorem dX8_tell_126 : decode cX8_tell 126 = .ok (.iaload, 1) := by decide +kernel
theorem dX8_tell_127 : decode cX8_tell 127 = .ok (.iastore, 1) := by decide +kernel
theorem dX8_tell_128 : decode cX8_tell 128 = .ok (.aload_n 0, 1) := by decide +kernel
theorem dX8_tell_129 : decode cX8_tell 129 = .ok (.dup, 1) := by decide +kernel
theorem dX8_tell_130 : decode cX8_tell 130 = .ok (.getfield 61, 3) := by decide +kernel
theorem dX8_tell_133 : decode cX8_tell 133 = .ok (.iconst 1, 1) := by decide +kernel
theorem dX8_tell_134 : decode cX8_tell 134 = .ok (.iadd, 1) := by decide +kernel
theorem dX8_tell_135 : decode cX8_tell 135 = .ok (.putfield 61, 3) := by decide +kernel
theorem dX8_tell_138 : decode cX8_tell 138 = .ok (.return_, 1) := by decide +kernel
theorem dX8_tell_139 : decode cX8_tell 139 = .ok (.aload_n 0, 1) := by decide +kernel
theorem dX8_tell_140 : decode cX8_tell 140 = .ok (.getfield 7, 3) := by decide +kernel
theorem dX8_tell_143 : decode cX8_tell 143 = .ok (.iload 4, 2) := by decide +kernel
theorem dX8_tell_145 : decode cX8_tell 145 = .ok (.bipush 15, 2) := by decide +kernel
theorem dX8_tell_147 : decode cX8_tell 147 = .ok (.iadd, 1) := by decide +kernel
theorem dX8_tell_148 : decode cX8_tell 148 = .ok (.aload_n 0, 1) := by decide +kernel
theorem dX8_tell_149 : decode cX8_tell 149 = .ok (.getfield 64, 3) := by decide +kernel
theorem dX8_tell_152 : decode cX8_tell 152 = .ok (.iadd, 1) := by decide +kernel
theorem dX8_tell_153 : decode cX8_tell 153 = .ok (.iload_n 2, 1) := by decide +kernel
theorem dX8_tell_154 : decode cX8_tell 154 = .ok (.iastore, 1) := by decide +kernel
theorem dX8_tell_155 : decode cX8_tell 155 = .ok (.aload_n 0, 1) := by decide +kernel
theorem dX8_tell_156 : decode cX8_tell 156 = .ok (.getfield 36, 3) := by decide +kernel
theorem dX8_tell_159 : decode cX8_tell 159 = .ok (.aload_n 0, 1) := by decide +kernel
theorem dX8_tell_160 : decode cX8_tell 160 = .ok (.getfield 64, 3) := by decide +kernel
theorem dX8_tell_163 : decode cX8_tell 163 = .ok (.iload_n 3, 1) := by decide +kernel
theorem dX8_tell_164 : decode cX8_tell 164 = .ok (.iastore, 1) := by decide +kernel
theorem dX8_tell_165 : decode cX8_tell 165 = .ok (.aload_n 0, 1) := by decide +kernel
theorem dX8_tell_166 : decode cX8_tell 166 = .ok (.getfield 7, 3) := by decide +kernel
theorem dX8_tell_169 : decode cX8_tell 169 = .ok (.iload 4, 2) := by decide +kernel
theorem dX8_tell_171 : decode cX8_tell 171 = .ok (.bipush 21, 2) := by decide +kernel
theorem dX8_tell_173 : decode cX8_tell 173 = .ok (.iadd, 1) := by decide +kernel
theorem dX8_tell_174 : decode cX8_tell 174 = .ok (.aload_n 0, 1) := by decide +kernel
theorem dX8_tell_175 : decode cX8_tell 175 = .ok (.getfield 64, 3) := by decide +kernel
theorem dX8_tell_178 : decode cX8_tell 178 = .ok (.iadd, 1) := by decide +kernel
theorem dX8_tell_179 : decode cX8_tell 179 = .ok (.aload_n 0, 1) := by decide +kernel
theorem dX8_tell_180 : decode cX8_tell 180 = .ok (.getfield 20, 3) := by decide +kernel
theorem dX8_tell_183 : decode cX8_tell 183 = .ok (.iload_n 1, 1) := by decide +kernel
theorem dX8_tell_184 : decode cX8_tell 184 = .ok (.iconst 3, 1) := by decide +kernel
theorem dX8_tell_185 : decode cX8_tell 185 = .ok (.iadd, 1) := by decide +kernel
theorem dX8_tell_186 : decode cX8_tell 186 = .ok (.iaload, 1) := by decide +kernel
theorem dX8_tell_187 : decode cX8_tell 187 = .ok (.iastore, 1) := by decide +kernel
theorem dX8_tell_188 : decode cX8_tell 188 = .ok (.aload_n 0, 1) := by decide +kernel
theorem dX8_tell_189 : decode cX8_tell 189 = .ok (.dup, 1) := by decide +kernel
theorem dX8_tell_190 : decode cX8_tell 190 = .ok (.getfield 64, 3) := by decide +kernel
theorem dX8_tell_193 : decode cX8_tell 193 = .ok (.iconst 1, 1) := by decide +kernel
theorem dX8_tell_194 : decode cX8_tell 194 = .ok (.iadd, 1) := by decide +kernel
theorem dX8_tell_195 : decode cX8_tell 195 = .ok (.putfield 64, 3) := by decide +kernel
theorem dX8_tell_198 : decode cX8_tell 198 = .ok (.return_, 1) := by decide +kernel
theorem dX8_tell_199 : decode cX8_tell 199 = .ok (.aload_n 0, 1) := by decide +kernel
theorem dX8_tell_200 : decode cX8_tell 200 = .ok (.iload_n 2, 1) := by decide +kernel
theorem dX8_tell_201 : decode cX8_tell 201 = .ok (.putfield 39, 3) := by decide +kernel
theorem dX8_tell_204 : decode cX8_tell 204 = .ok (.return_, 1) := by decide +kernel
theorem dX8_tell_205 : decode cX8_tell 205 = .ok (.aload_n 0, 1) := by decide +kernel
theorem dX8_tell_206 : decode cX8_tell 206 = .ok (.getfield 7, 3) := by decide +kernel
theorem dX8_tell_209 : decode cX8_tell 209 = .ok (.iload 4, 2) := by decide +kernel
theorem dX8_tell_211 : decode cX8_tell 211 = .ok (.iconst 1, 1) := by decide +kernel
theorem dX8_tell_212 : decode cX8_tell 212 = .ok (.iadd, 1) := by decide +kernel
theorem dX8_tell_213 : decode cX8_tell 213 = .ok (.iload_n 2, 1) := by decide +kernel
theorem dX8_tell_214 : decode cX8_tell 214 = .ok (.iastore, 1) := by decide +kernel
theorem dX8_tell_215 : decode cX8_tell 215 = .ok (.return_, 1) := by decide +kernel
theorem dX8_tell_216 : decode cX8_tell 216 = .ok (.aload_n 0, 1) := by decide +kernel
theorem dX8_tell_217 : decode cX8_tell 217 = .ok (.getfield 27, 3) := by decide +kernel
theorem dX8_tell_220 : decode cX8_tell 220 = .ok (.iload_n 2, 1) := by decide +kernel
theorem dX8_tell_221 : decode cX8_tell 221 = .ok (.aload_n 0, 1) := by decide +kernel
theorem dX8_tell_222 : decode cX8_tell 222 = .ok (.getfield 20, 3) := by decide +kernel
theorem dX8_tell_225 : decode cX8_tell 225 = .ok (.iload_n 1, 1) := by decide +kernel
theorem dX8_tell_226 : decode cX8_tell 226 = .ok (.iaload, 1) := by decide +kernel
theorem dX8_tell_227 : decode cX8_tell 227 = .ok (.iconst 1, 1) := by decide +kernel
theorem dX8_tell_228 : decode cX8_tell 228 = .ok (.isub, 1) := by decide +kernel
theorem dX8_tell_229 : decode cX8_tell 229 = .ok (.iastore, 1) := by decide +kernel
theorem dX8_tell_230 : decode cX8_tell 230 = .ok (.return_, 1) := by decide +kernel
theorem dX8_office_0 : decode cX8_office 0 = .ok (.aload_n 0, 1) := by decide +kernel
theorem dX8_office_1 : decode cX8_office 1 = .ok (.invokevirtual 142, 3) := by decide +kernel
theorem dX8_office_4 : decode cX8_office 4 = .ok (.iconst (-1), 1) := by decide +kernel
theorem dX8_office_5 : decode cX8_office 5 = .ok (.if_icmp .eq 6, 3) := by decide +kernel
theorem dX8_office_8 : decode cX8_office 8 = .ok (.bipush (-4), 2) := by decide +kernel
theorem dX8_office_10 : decode cX8_office 10 = .ok (.ireturn, 1) := by decide +kernel
theorem dX8_office_11 : decode cX8_office 11 = .ok (.iconst 0, 1) := by decide +kernel
theorem dX8_office_12 : decode cX8_office 12 = .ok (.istore_n 1, 1) := by decide +kernel
theorem dX8_office_13 : decode cX8_office 13 = .ok (.iload_n 1, 1) := by decide +kernel
theorem dX8_office_14 : decode cX8_office 14 = .ok (.aload_n 0, 1) := by decide +kernel
theorem dX8_office_15 : decode cX8_office 15 = .ok (.getfield 112, 3) := by decide +kernel
theorem dX8_office_18 : decode cX8_office 18 = .ok (.if_icmp .ge 16, 3) := by decide +kernel
theorem dX8_office_21 : decode cX8_office 21 = .ok (.aload_n 0, 1) := by decide +kernel
theorem dX8_office_22 : decode cX8_office 22 = .ok (.iconst 4, 1) := by decide +kernel
theorem dX8_office_23 : decode cX8_office 23 = .ok (.iload_n 1, 1) := by decide +kernel
theorem dX8_office_24 : decode cX8_office 24 = .ok (.imul, 1) := by decide +kernel
theorem dX8_office_25 : decode cX8_office 25 = .ok (.invokevirtual 145, 3) := by decide +kernel
theorem dX8_office_28 : decode cX8_office 28 = .ok (.iinc 1 1, 3) := by decide +kernel
theorem dX8_office_31 : decode cX8_office 31 = .ok (.goto (-18), 3) := by decide +kernel
theorem dX8_office_34 : decode cX8_office 34 = .ok (.aload_n 0, 1) := by decide +kernel
theorem dX8_office_35 : decode cX8_office 35 = .ok (.invokevirtual 58, 3) := by decide +kernel
theorem dX8_office_38 : decode cX8_office 38 = .ok (.aload_n 0, 1) := by decide +kernel
theorem dX8_office_39 : decode cX8_office 39 = .ok (.iconst 0, 1) := by decide +kernel
theorem dX8_office_40 : decode cX8_office 40 = .ok (.putfield 148, 3) := by decide +kernel
theorem dX8_office_43 : decode cX8_office 43 = .ok (.aload_n 0, 1) := by decide +kernel
theorem dX8_office_44 : decode cX8_office 44 = .ok (.getfield 13, 3) := by decide +kernel
theorem dX8_office_47 : decode cX8_office 47 = .ok (.iconst 0, 1) := by decide +kernel
theorem dX8_office_48 : decode cX8_office 48 = .ok (.iconst 0, 1) := by decide +kernel
theorem dX8_office_49 : decode cX8_office 49 = .ok (.bastore, 1) := by decide +kernel
theorem dX8_office_50 : decode cX8_office 50 = .ok (.aload_n 0, 1) := by decide +kernel
theorem dX8_office_51 : decode cX8_office 51 = .ok (.getfield 13, 3) := by decide +kernel
theorem dX8_office_54 : decode cX8_office 54 = .ok (.iconst 1, 1) := by decide +kernel
theorem dX8_office_55 : decode cX8_office 55 = .ok (.iconst 0, 1) := by decide +kernel
theorem dX8_office_56 : decode cX8_office 56 = .ok (.bastore, 1) := by decide +kernel
theorem dX8_office_57 : decode cX8_office 57 = .ok (.aload_n 0, 1) := by decide +kernel
theorem dX8_office_58 : decode cX8_office 58 = .ok (.iconst 0, 1) := by decide +kernel
theorem dX8_office_59 : decode cX8_office 59 = .ok (.putfield 77, 3) := by decide +kernel
theorem dX8_office_62 : decode cX8_office 62 = .ok (.iconst 0, 1) := by decide +kernel
theorem dX8_office_63 : decode cX8_office 63 = .ok (.istore_n 1, 1) := by decide +kernel
theorem dX8_office_64 : decode cX8_office 64 = .ok (.iload_n 1, 1) := by decide +kernel
theorem dX8_office_65 : decode cX8_office 65 = .ok (.bipush 8, 2) := by decide +kernel
theorem dX8_office_67 : decode cX8_office 67 = .ok (.if_icmp .ge 16, 3) := by decide +kernel
theorem dX8_office_70 : decode cX8_office 70 = .ok (.aload_n 0, 1) := by decide +kernel
theorem dX8_office_71 : decode cX8_office 71 = .ok (.getfield 51, 3) := by decide +kernel
theorem dX8_office_74 : decode cX8_office 74 = .ok (.iload_n 1, 1) := by decide +kernel
theorem dX8_office_75 : decode cX8_office 75 = .ok (.iconst 0, 1) := by decide +kernel
theorem dX8_office_76 : decode cX8_office 76 = .ok (.iastore, 1) := by decide +kernel
theorem dX8_office_77 : decode cX8_office 77 = .ok (.iinc 1 1, 3) := by decide +kernel
theorem dX8_office_80 : decode cX8_office 80 = .ok (.goto (-16), 3) := by decide +kernel
theorem dX8_office_83 : decode cX8_office 83 = .ok (.aload_n 0, 1) := by decide +kernel
theorem dX8_office_84 : decode cX8_office 84 = .ok (.getfield 112, 3) := by decide +kernel
theorem dX8_office_87 : decode cX8_office 87 = .ok (.ireturn, 1) := by decide +kernel
theorem dX8_isDesk_0 : decode cX8_isDesk 0 = .ok (.iload_n 1, 1) := by decide +kernel
theorem dX8_isDesk_1 : decode cX8_isDesk 1 = .ok (.i2l, 1) := by decide +kernel
theorem dX8_isDesk_2 : decode cX8_isDesk 2 = .ok (.lconst 0, 1) := by decide +kernel
theorem dX8_isDesk_3 : decode cX8_isDesk 3 = .ok (.aload_n 0, 1) := by decide +kernel
theorem dX8_isDesk_4 : decode cX8_isDesk 4 = .ok (.getfield 23, 3) := by decide +kernel
theorem dX8_isDesk_7 : decode cX8_isDesk 7 = .ok (.iconst 1, 1) := by decide +kernel
theorem dX8_isDesk_8 : decode cX8_isDesk 8 = .ok (.isub, 1) := by decide +kernel
theorem dX8_isDesk_9 : decode cX8_isDesk 9 = .ok (.i2l, 1) := by decide +kernel
theorem dX8_isDesk_10 : decode cX8_isDesk 10 = .ok (.invokestatic 73, 3) := by decide +kernel
theorem dX8_isDesk_13 : decode cX8_isDesk 13 = .ok (.ireturn, 1) := by decide +kernel
theorem dX8_isTrail_0 : decode cX8_isTrail 0 = .ok (.iload_n 1, 1) := by decide +kernel
theorem dX8_isTrail_1 : decode cX8_isTrail 1 = .ok (.i2l, 1) := by decide +kernel
theorem dX8_isTrail_2 : decode cX8_isTrail 2 = .ok (.lconst 0, 1) := by decide +kernel
theorem dX8_isTrail_3 : decode cX8_isTrail 3 = .ok (.aload_n 0, 1) := by decide +kernel
theorem dX8_isTrail_4 : decode cX8_isTrail 4 = .ok (.getfield 61, 3) := by decide +kernel
theorem dX8_isTrail_7 : decode cX8_isTrail 7 = .ok (.iconst 1, 1) := by decide +kernel
theorem dX8_isTrail_8 : decode cX8_isTrail 8 = .ok (.isub, 1) := by decide +kernel
theorem dX8_isTrail_9 : decode cX8_isTrail 9 = .ok (.i2l, 1) := by decide +kernel
theorem dX8_isTrail_10 : decode cX8_isTrail 10 = .ok (.invokestatic 73, 3) := by decide +kernel
theorem dX8_isTrail_13 : decode cX8_isTrail 13 = .ok (.ireturn, 1) := by decide +kernel
theorem dX8_isFile_0 : decode cX8_isFile 0 = .ok (.iload_n 1, 1) := by decide +kernel
theorem dX8_isFile_1 : decode cX8_isFile 1 = .ok (.i2l, 1) := by decide +kernel
theorem dX8_isFile_2 : decode cX8_isFile 2 = .ok (.lconst 0, 1) := by decide +kernel
theorem dX8_isFile_3 : decode cX8_isFile 3 = .ok (.aload_n 0, 1) := by decide +kernel
theorem dX8_isFile_4 : decode cX8_isFile 4 = .ok (.getfield 64, 3) := by decide +kernel
theorem dX8_isFile_7 : decode cX8_isFile 7 = .ok (.iconst 1, 1) := by decide +kernel
theorem dX8_isFile_8 : decode cX8_isFile 8 = .ok (.isub, 1) := by decide +kernel
theorem dX8_isFile_9 : decode cX8_isFile 9 = .ok (.i2l, 1) := by decide +kernel
theorem dX8_isFile_10 : decode cX8_isFile 10 = .ok (.invokestatic 73, 3) := by decide +kernel
theorem dX8_isFile_13 : decode cX8_isFile 13 = .ok (.ireturn, 1) := by decide +kernel
theorem dX8_isOf_0 : decode cX8_isOf 0 = .ok (.aload_n 0, 1) := by decide +kernel
theorem dX8_isOf_1 : decode cX8_isOf 1 = .ok (.getfield 30, 3) := by decide +kernel
theorem dX8_isOf_4 : decode cX8_isOf 4 = .ok (.iload_n 1, 1) := by decide +kernel
theorem dX8_isOf_5 : decode cX8_isOf 5 = .ok (.iaload, 1) := by decide +kernel
theorem dX8_isOf_6 : decode cX8_isOf 6 = .ok (.iload_n 2, 1) := by decide +kernel
theorem dX8_isOf_7 : decode cX8_isOf 7 = .ok (.if_icmp .eq 13, 3) := by decide +kernel
theorem dX8_isOf_10 : decode cX8_isOf 10 = .ok (.aload_n 0, 1) := by decide +kernel
theorem dX8_isOf_11 : decode cX8_isOf 11 = .ok (.getfield 33, 3) := by decide +kernel
theorem dX8_isOf_14 : decode cX8_isOf 14 = .ok (.iload_n 1, 1) := by decide +kernel
theorem dX8_isOf_15 : decode cX8_isOf 15 = .ok (.iaload, 1) := by decide +kernel
theorem dX8_isOf_16 : decode cX8_isOf 16 = .ok (.iload_n 2, 1) := by decide +kernel
theorem dX8_isOf_17 : decode cX8_isOf 17 = .ok (.if_icmp .ne 7, 3) := by decide +kernel
theorem dX8_isOf_20 : decode cX8_isOf 20 = .ok (.iconst 1, 1) := by decide +kernel
theorem dX8_isOf_21 : decode cX8_isOf 21 = .ok (.goto 4, 3) := by decide +kernel
theorem dX8_isOf_24 : decode cX8_isOf 24 = .ok (.iconst 0, 1) := by decide +kernel
theorem dX8_isOf_25 : decode cX8_isOf 25 = .ok (.ireturn, 1) := by decide +kernel
theorem dX8_desk_0 : decode cX8_desk 0 = .ok (.aload_n 0, 1) := by decide +kernel
theorem dX8_desk_1 : decode cX8_desk 1 = .ok (.iload_n 1, 1) := by decide +kernel
theorem dX8_desk_2 : decode cX8_desk 2 = .ok (.invokevirtual 151, 3) := by decide +kernel
theorem dX8_desk_5 : decode cX8_desk 5 = .ok (.ifCond .ne 6, 3) := by decide +kernel
theorem dX8_desk_8 : decode cX8_desk 8 = .ok (.bipush (-2), 2) := by decide +kernel
theorem dX8_desk_10 : decode cX8_desk 10 = .ok (.ireturn, 1) := by decide +kernel
theorem dX8_desk_11 : decode cX8_desk 11 = .ok (.iconst 0, 1) := by decide +kernel
theorem dX8_desk_12 : decode cX8_desk 12 = .ok (.istore_n 3, 1) := by decide +kernel
theorem dX8_desk_13 : decode cX8_desk 13 = .ok (.iconst 0, 1) := by decide +kernel
theorem dX8_desk_14 : decode cX8_desk 14 = .ok (.istore 4, 2) := by decide +kernel
theorem dX8_desk_16 : decode cX8_desk 16 = .ok (.iconst 0, 1) := by decide +kernel
theorem dX8_desk_17 : decode cX8_desk 17 = .ok (.istore 5, 2) := by decide +kernel
theorem dX8_desk_19 : decode cX8_desk 19 = .ok (.iload 5, 2) := by decide +kernel
theorem dX8_desk_21 : decode cX8_desk 21 = .ok (.aload_n 0, 1) := by decide +kernel
theorem dX8_desk_22 : decode cX8_desk 22 = .ok (.getfield 64, 3) := by decide +kernel
theorem dX8_desk_25 : decode cX8_desk 25 = .ok (.if_icmp .ge 34, 3) := by decide +kernel
theorem dX8_desk_28 : decode cX8_desk 28 = .ok (.iload_n 3, 1) := by decide +kernel
theorem dX8_desk_29 : decode cX8_desk 29 = .ok (.aload_n 0, 1) := by decide +kernel
theorem dX8_desk_30 : decode cX8_desk 30 = .ok (.getfield 7, 3) := by decide +kernel
theorem dX8_desk_33 : decode cX8_desk 33 = .ok (.bipush 15, 2) := by decide +kernel
theorem dX8_desk_35 : decode cX8_desk 35 = .ok (.iload 5, 2) := by decide +kernel
theorem dX8_desk_37 : decode cX8_desk 37 = .ok (.iadd, 1) := by decide +kernel
theorem dX8_desk_38 : decode cX8_desk 38 = .ok (.iaload, 1) := by decide +kernel
theorem dX8_desk_39 : decode cX8_desk 39 = .ok (.iload_n 1, 1) := by decide +kernel
theorem dX8_desk_40 : decode cX8_desk 40 = .ok (.if_icmp .ne 10, 3) := by decide +kernel
theorem dX8_desk_43 : decode cX8_desk 43 = .ok (.iconst 1, 1) := by decide +kernel
theorem dX8_desk_44 : decode cX8_desk 44 = .ok (.iload 5, 2) := by decide +kernel
theorem dX8_desk_46 : decode cX8_desk 46 = .ok (.ishl, 1) := by decide +kernel
theorem dX8_desk_47 : decode cX8_desk 47 = .ok (.goto 4, 3) := by decide +kernel
theorem dX8_desk_50 : decode cX8_desk 50 = .ok (.iconst 0, 1) := by decide +kernel
theorem dX8_desk_51 : decode cX8_desk 51 = .ok (.ior, 1) := by decide +kernel
theorem dX8_desk_52 : decode cX8_desk 52 = .ok (.istore_n 3, 1) := by decide +kernel
theorem dX8_desk_53 : decode cX8_desk 53 = .ok (.iinc 5 1, 3) := by decide +kernel
theorem dX8_desk_56 : decode cX8_desk 56 = .ok (.goto (-37), 3) := by decide +kernel
theorem dX8_desk_59 : decode cX8_desk 59 = .ok (.iconst 0, 1) := by decide +kernel
theorem dX8_desk_60 : decode cX8_desk 60 = .ok (.istore 5, 2) := by decide +kernel
theorem dX8_desk_62 : decode cX8_desk 62 = .ok (.iload 5, 2) := by decide +kernel
theorem dX8_desk_64 : decode cX8_desk 64 = .ok (.aload_n 0, 1) := by decide +kernel
theorem dX8_desk_65 : decode cX8_desk 65 = .ok (.getfield 61, 3) := by decide +kernel
theorem dX8_desk_68 : decode cX8_desk 68 = .ok (.if_icmp .ge 29, 3) := by decide +kernel
theorem dX8_desk_71 : decode cX8_desk 71 = .ok (.iload 4, 2) := by decide +kernel
theorem dX8_desk_73 : decode cX8_desk 73 = .ok (.aload_n 0, 1) := by decide +kernel
theorem dX8_desk_74 : decode cX8_desk 74 = .ok (.iload 5, 2) := by decide +kernel
theorem dX8_desk_76 : decode cX8_desk 76 = .ok (.iload_n 1, 1) := by decide +kernel
theorem dX8_desk_77 : decode cX8_desk 77 = .ok (.invokevirtual 154, 3) := by decide +kernel
theorem dX8_desk_80 : decode cX8_desk 80 = .ok (.ifCond .eq 7, 3) := by decide +kernel
theorem dX8_desk_83 : decode cX8_desk 83 = .ok (.iconst 1, 1) := by decide +kernel
theorem dX8_desk_84 : decode cX8_desk 84 = .ok (.goto 4, 3) := by decide +kernel
theorem dX8_desk_87 : decode cX8_desk 87 = .ok (.iconst 0, 1) := by decide +kernel
theorem dX8_desk_88 : decode cX8_desk 88 = .ok (.iadd, 1) := by decide +kernel
theorem dX8_desk_89 : decode cX8_desk 89 = .ok (.istore 4, 2) := by decide +kernel
theorem dX8_desk_91 : decode cX8_desk 91 = .ok (.iinc 5 1, 3) := by decide +kernel
theorem dX8_desk_94 : decode cX8_desk 94 = .ok (.goto (-32), 3) := by decide +kernel
theorem dX8_desk_97 : decode cX8_desk 97 = .ok (.iload_n 2, 1) := by decide +kernel
theorem dX8_desk_98 : decode cX8_desk 98 = .ok (.ifCond .ne 12, 3) := by decide +kernel
theorem dX8_desk_101 : decode cX8_desk 101 = .ok (.aload_n 0, 1) := by decide +kernel
theorem dX8_desk_102 : decode cX8_desk 102 = .ok (.getfield 27, 3) := by decide +kernel
theorem dX8_desk_105 : decode cX8_desk 105 = .ok (.iload_n 1, 1) := by decide +kernel
theorem dX8_desk_106 : decode cX8_desk 106 = .ok (.iaload, 1) := by decide +kernel
theorem dX8_desk_107 : decode cX8_desk 107 = .ok (.goto 24, 3) := by decide +kernel
theorem dX8_desk_110 : decode cX8_desk 110 = .ok (.iload_n 2, 1) := by decide +kernel
theorem dX8_desk_111 : decode cX8_desk 111 = .ok (.iconst 1, 1) := by decide +kernel
theorem dX8_desk_112 : decode cX8_desk 112 = .ok (.if_icmp .ne 7, 3) := by decide +kernel
theorem dX8_desk_115 : decode cX8_desk 115 = .ok (.iload_n 3, 1) := by decide +kernel
theorem dX8_desk_116 : decode cX8_desk 116 = .ok (.goto 15, 3) := by decide +kernel
theorem dX8_desk_119 : decode cX8_desk 119 = .ok (.iload_n 2, 1) := by decide +kernel
theorem dX8_desk_120 : decode cX8_desk 120 = .ok (.iconst 2, 1) := by decide +kernel
theorem dX8_desk_121 : decode cX8_desk 121 = .ok (.if_icmp .ne 8, 3) := by decide +kernel
theorem dX8_desk_124 : decode cX8_desk 124 = .ok (.iload 4, 2) := by decide +kernel
theorem dX8_desk_126 : decode cX8_desk 126 = .ok (.goto 5, 3) := by decide +kernel
theorem dX8_desk_129 : decode cX8_desk 129 = .ok (.bipush (-3), 2) := by decide +kernel
theorem dX8_desk_131 : decode cX8_desk 131 = .ok (.ireturn, 1) := by decide +kernel
theorem dX8_trail_0 : decode cX8_trail 0 = .ok (.aload_n 0, 1) := by decide +kernel
theorem dX8_trail_1 : decode cX8_trail 1 = .ok (.iload_n 1, 1) := by decide +kernel
theorem dX8_trail_2 : decode cX8_trail 2 = .ok (.invokevirtual 157, 3) := by decide +kernel
theorem dX8_trail_5 : decode cX8_trail 5 = .ok (.ifCond .ne 6, 3) := by decide +kernel
theorem dX8_trail_8 : decode cX8_trail 8 = .ok (.bipush (-2), 2) := by decide +kernel
theorem dX8_trail_10 : decode cX8_trail 10 = .ok (.ireturn, 1) := by decide +kernel
theorem dX8_trail_11 : decode cX8_trail 11 = .ok (.iload_n 2, 1) := by decide +kernel
theorem dX8_trail_12 : decode cX8_trail 12 = .ok (.ifCond .ne 12, 3) := by decide +kernel
theorem dX8_trail_15 : decode cX8_trail 15 = .ok (.aload_n 0, 1) := by decide +kernel
theorem dX8_trail_16 : decode cX8_trail 16 = .ok (.getfield 30, 3) := by decide +kernel
theorem dX8_trail_19 : decode cX8_trail 19 = .ok (.iload_n 1, 1) := by decide +kernel
theorem dX8_trail_20 : decode cX8_trail 20 = .ok (.iaload, 1) := by decide +kernel
theorem dX8_trail_21 : decode cX8_trail 21 = .ok (.goto 35, 3) := by decide +kernel
theorem dX8_trail_24 : decode cX8_trail 24 = .ok (.iload_n 2, 1) := by decide +kernel
theorem dX8_trail_25 : decode cX8_trail 25 = .ok (.iconst 1, 1) := by decide +kernel
theorem dX8_trail_26 : decode cX8_trail 26 = .ok (.if_icmp .ne 12, 3) := by decide +kernel
theorem dX8_trail_29 : decode cX8_trail 29 = .ok (.aload_n 0, 1) := by decide +kernel
theorem dX8_trail_30 : decode cX8_trail 30 = .ok (.getfield 33, 3) := by decide +kernel
theorem dX8_trail_33 : decode cX8_trail 33 = .ok (.iload_n 1, 1) := by decide +kernel
theorem dX8_trail_34 : decode cX8_trail 34 = .ok (.iaload, 1) := by decide +kernel
theorem dX8_trail_35 : decode cX8_trail 35 = .ok (.goto 21, 3) := by decide +kernel
theorem dX8_trail_38 : decode cX8_trail 38 = .ok (.iload_n 2, 1) := by decide +kernel
theorem dX8_trail_39 : decode cX8_trail 39 = .ok (.iconst 2, 1) := by decide +kernel
theorem dX8_trail_40 : decode cX8_trail 40 = .ok (.if_icmp .ne 14, 3) := by decide +kernel
theorem dX8_trail_43 : decode cX8_trail 43 = .ok (.aload_n 0, 1) := by decide +kernel
theorem dX8_trail_44 : decode cX8_trail 44 = .ok (.getfield 7, 3) := by decide +kernel
theorem dX8_trail_47 : decode cX8_trail 47 = .ok (.iconst 3, 1) := by decide +kernel
theorem dX8_trail_48 : decode cX8_trail 48 = .ok (.iload_n 1, 1) := by decide +kernel
theorem dX8_trail_49 : decode cX8_trail 49 = .ok (.iadd, 1) := by decide +kernel
theorem dX8_trail_50 : decode cX8_trail 50 = .ok (.iaload, 1) := by decide +kernel
theorem dX8_trail_51 : decode cX8_trail 51 = .ok (.goto 5, 3) := by decide +kernel
theorem dX8_trail_54 : decode cX8_trail 54 = .ok (.bipush (-3), 2) := by decide +kernel
theorem dX8_trail_56 : decode cX8_trail 56 = .ok (.ireturn, 1) := by decide +kernel
theorem dX8_file_0 : decode cX8_file 0 = .ok (.aload_n 0, 1) := by decide +kernel
theorem dX8_file_1 : decode cX8_file 1 = .ok (.iload_n 1, 1) := by decide +kernel
theorem dX8_file_2 : decode cX8_file 2 = .ok (.invokevirtual 160, 3) := by decide +kernel
theorem dX8_file_5 : decode cX8_file 5 = .ok (.ifCond .ne 6, 3) := by decide +kernel
theorem dX8_file_8 : decode cX8_file 8 = .ok (.bipush (-2), 2) := by decide +kernel
theorem dX8_file_10 : decode cX8_file 10 = .ok (.ireturn, 1) := by decide +kernel
theorem dX8_file_11 : decode cX8_file 11 = .ok (.iload_n 2, 1) := by decide +kernel
theorem dX8_file_12 : decode cX8_file 12 = .ok (.tableswitch 83 0 4 #[36, 46, 53, 63, 73], 36) := by decide +kernel
theorem dX8_file_48 : decode cX8_file 48 = .ok (.aload_n 0, 1) := by decide +kernel
theorem dX8_file_49 : decode cX8_file 49 = .ok (.getfield 7, 3) := by decide +kernel
theorem dX8_file_52 : decode cX8_file 52 = .ok (.bipush 15, 2) := by decide +kernel
theorem dX8_file_54 : decode cX8_file 54 = .ok (.iload_n 1, 1) := by decide +kernel
theorem dX8_file_55 : decode cX8_file 55 = .ok (.iadd, 1) := by decide +kernel
theorem dX8_file_56 : decode cX8_file 56 = .ok (.iaload, 1) := by decide +kernel
theorem dX8_file_57 : decode cX8_file 57 = .ok (.ireturn, 1) := by decide +kernel
theorem dX8_file_58 : decode cX8_file 58 = .ok (.aload_n 0, 1) := by decide +kernel
theorem dX8_file_59 : decode cX8_file 59 = .ok (.getfield 36, 3) := by decide +kernel
theorem dX8_file_62 : decode cX8_file 62 = .ok (.iload_n 1, 1) := by decide +kernel
theorem dX8_file_63 : decode cX8_file 63 = .ok (.iaload, 1) := by decide +kernel
theorem dX8_file_64 : decode cX8_file 64 = .ok (.ireturn, 1) := by decide +kernel
theorem dX8_file_65 : decode cX8_file 65 = .ok (.aload_n 0, 1) := by decide +kernel
theorem dX8_file_66 : decode cX8_file 66 = .ok (.getfield 7, 3) := by decide +kernel
theorem dX8_file_69 : decode cX8_file 69 = .ok (.bipush 21, 2) := by decide +kernel
theorem dX8_file_71 : decode cX8_file 71 = .ok (.iload_n 1, 1) := by decide +kernel
theorem dX8_file_72 : decode cX8_file 72 = .ok (.iadd, 1) := by decide +kernel
theorem dX8_file_73 : decode cX8_file 73 = .ok (.iaload, 1) := by decide +kernel
theorem dX8_file_74 : decode cX8_file 74 = .ok (.ireturn, 1) := by decide +kernel
theorem dX8_file_75 : decode cX8_file 75 = .ok (.aload_n 0, 1) := by decide +kernel
theorem dX8_file_76 : decode cX8_file 76 = .ok (.getfield 7, 3) := by decide +kernel
theorem dX8_file_79 : decode cX8_file 79 = .ok (.bipush 27, 2) := by decide +kernel
theorem dX8_file_81 : decode cX8_file 81 = .ok (.iload_n 1, 1) := by decide +kernel
theorem dX8_file_82 : decode cX8_file 82 = .ok (.iadd, 1) := by decide +kernel
theorem dX8_file_83 : decode cX8_file 83 = .ok (.iaload, 1) := by decide +kernel
theorem dX8_file_84 : decode cX8_file 84 = .ok (.ireturn, 1) := by decide +kernel
theorem dX8_file_85 : decode cX8_file 85 = .ok (.aload_n 0, 1) := by decide +kernel
theorem dX8_file_86 : decode cX8_file 86 = .ok (.getfield 7, 3) := by decide +kernel
theorem dX8_file_89 : decode cX8_file 89 = .ok (.bipush 33, 2) := by decide +kernel
theorem dX8_file_91 : decode cX8_file 91 = .ok (.iload_n 1, 1) := by decide +kernel
theorem dX8_file_92 : decode cX8_file 92 = .ok (.iadd, 1) := by decide +kernel
theorem dX8_file_93 : decode cX8_file 93 = .ok (.iaload, 1) := by decide +kernel
theorem dX8_file_94 : decode cX8_file 94 = .ok (.ireturn, 1) := by decide +kernel
theorem dX8_file_95 : decode cX8_file 95 = .ok (.bipush (-3), 2) := by decide +kernel
theorem dX8_file_97 : decode cX8_file 97 = .ok (.ireturn, 1) := by decide +kernel
theorem dX8_sweetAt_0 : decode cX8_sweetAt 0 = .ok (.aload_n 0, 1) := by decide +kernel
theorem dX8_sweetAt_1 : decode cX8_sweetAt 1 = .ok (.getfield 27, 3) := by decide +kernel
theorem dX8_sweetAt_4 : decode cX8_sweetAt 4 = .ok (.iload_n 1, 1) := by decide +kernel
theorem dX8_sweetAt_5 : decode cX8_sweetAt 5 = .ok (.iaload, 1) := by decide +kernel
theorem dX8_sweetAt_6 : decode cX8_sweetAt 6 = .ok (.iconst 1, 1) := by decide +kernel
theorem dX8_sweetAt_7 : decode cX8_sweetAt 7 = .ok (.if_icmp .ne 13, 3) := by decide +kernel
theorem dX8_sweetAt_10 : decode cX8_sweetAt 10 = .ok (.iload_n 2, 1) := by decide +kernel
theorem dX8_sweetAt_11 : decode cX8_sweetAt 11 = .ok (.ifCond .le 9, 3) := by decide +kernel
theorem dX8_sweetAt_14 : decode cX8_sweetAt 14 = .ok (.iload_n 2, 1) := by decide +kernel
theorem dX8_sweetAt_15 : decode cX8_sweetAt 15 = .ok (.iconst 1, 1) := by decide +kernel
theorem dX8_sweetAt_16 : decode cX8_sweetAt 16 = .ok (.isub, 1) := by decide +kernel
theorem dX8_sweetAt_17 : decode cX8_sweetAt 17 = .ok (.goto 26, 3) := by decide +kernel
theorem dX8_sweetAt_20 : decode cX8_sweetAt 20 = .ok (.aload_n 0, 1) := by decide +kernel
theorem dX8_sweetAt_21 : decode cX8_sweetAt 21 = .ok (.getfield 27, 3) := by decide +kernel
theorem dX8_sweetAt_24 : decode cX8_sweetAt 24 = .ok (.iload_n 1, 1) := by decide +kernel
theorem dX8_sweetAt_25 : decode cX8_sweetAt 25 = .ok (.iaload, 1) := by decide +kernel
theorem dX8_sweetAt_26 : decode cX8_sweetAt 26 = .ok (.iconst 2, 1) := by decide +kernel
theorem dX8_sweetAt_27 : decode cX8_sweetAt 27 = .ok (.if_icmp .ne 15, 3) := by decide +kernel
theorem dX8_sweetAt_30 : decode cX8_sweetAt 30 = .ok (.iload_n 2, 1) := by decide +kernel
theorem dX8_sweetAt_31 : decode cX8_sweetAt 31 = .ok (.bipush 9, 2) := by decide +kernel
theorem dX8_sweetAt_33 : decode cX8_sweetAt 33 = .ok (.if_icmp .ge 9, 3) := by decide +kernel
theorem dX8_sweetAt_36 : decode cX8_sweetAt 36 = .ok (.iload_n 2, 1) := by decide +kernel
theorem dX8_sweetAt_37 : decode cX8_sweetAt 37 = .ok (.iconst 1, 1) := by decide +kernel
theorem dX8_sweetAt_38 : decode cX8_sweetAt 38 = .ok (.iadd, 1) := by decide +kernel
theorem dX8_sweetAt_39 : decode cX8_sweetAt 39 = .ok (.goto 4, 3) := by decide +kernel
theorem dX8_sweetAt_42 : decode cX8_sweetAt 42 = .ok (.iload_n 2, 1) := by decide +kernel
theorem dX8_sweetAt_43 : decode cX8_sweetAt 43 = .ok (.ireturn, 1) := by decide +kernel
theorem dX8_as_0 : decode cX8_as 0 = .ok (.aload_n 0, 1) := by decide +kernel
theorem dX8_as_1 : decode cX8_as 1 = .ok (.iload_n 1, 1) := by decide +kernel
theorem dX8_as_2 : decode cX8_as 2 = .ok (.invokevirtual 151, 3) := by decide +kernel
theorem dX8_as_5 : decode cX8_as 5 = .ok (.ifCond .ne 6, 3) := by decide +kernel
theorem dX8_as_8 : decode cX8_as 8 = .ok (.bipush (-2), 2) := by decide +kernel
theorem dX8_as_10 : decode cX8_as 10 = .ok (.ireturn, 1) := by decide +kernel
theorem dX8_as_11 : decode cX8_as 11 = .ok (.iload_n 2, 1) := by decide +kernel
theorem dX8_as_12 : decode cX8_as 12 = .ok (.i2l, 1) := by decide +kernel
theorem dX8_as_13 : decode cX8_as 13 = .ok (.lconst 0, 1) := by decide +kernel
theorem dX8_as_14 : decode cX8_as 14 = .ok (.ldc2_w 163, 3) := by decide +kernel
theorem dX8_as_17 : decode cX8_as 17 = .ok (.invokestatic 73, 3) := by decide +kernel
theorem dX8_as_20 : decode cX8_as 20 = .ok (.ifCond .ne 6, 3) := by decide +kernel
theorem dX8_as_23 : decode cX8_as 23 = .ok (.bipush (-3), 2) := by decide +kernel
theorem dX8_as_25 : decode cX8_as 25 = .ok (.ireturn, 1) := by decide +kernel
theorem dX8_as_26 : decode cX8_as 26 = .ok (.aload_n 0, 1) := by decide +kernel
theorem dX8_as_27 : decode cX8_as 27 = .ok (.getfield 27, 3) := by decide +kernel
theorem dX8_as_30 : decode cX8_as 30 = .ok (.iload_n 1, 1) := by decide +kernel
theorem dX8_as_31 : decode cX8_as 31 = .ok (.iaload, 1) := by decide +kernel
theorem dX8_as_32 : decode cX8_as 32 = .ok (.istore_n 3, 1) := by decide +kernel
theorem dX8_as_33 : decode cX8_as 33 = .ok (.iload_n 2, 1) := by decide +kernel
theorem dX8_as_34 : decode cX8_as 34 = .ok (.ifCond .eq 43, 3) := by decide +kernel
theorem dX8_as_37 : decode cX8_as 37 = .ok (.iload_n 2, 1) := by decide +kernel
theorem dX8_as_38 : decode cX8_as 38 = .ok (.iconst 1, 1) := by decide +kernel
theorem dX8_as_39 : decode cX8_as 39 = .ok (.if_icmp .ne 8, 3) := by decide +kernel
theorem dX8_as_42 : decode cX8_as 42 = .ok (.iload_n 3, 1) := by decide +kernel
theorem dX8_as_43 : decode cX8_as 43 = .ok (.iconst 3, 1) := by decide +kernel
theorem dX8_as_44 : decode cX8_as 44 = .ok (.if_icmp .ne 33, 3) := by decide +kernel
theorem dX8_as_47 : decode cX8_as 47 = .ok (.iload_n 2, 1) := by decide +kernel
theorem dX8_as_48 : decode cX8_as 48 = .ok (.iconst 2, 1) := by decide +kernel
theorem dX8_as_49 : decode cX8_as 49 = .ok (.if_icmp .ne 8, 3) := by decide +kernel
theorem dX8_as_52 : decode cX8_as 52 = .ok (.iload_n 3, 1) := by decide +kernel
theorem dX8_as_53 : decode cX8_as 53 = .ok (.iconst 1, 1) := by decide +kernel
theorem dX8_as_54 : decode cX8_as 54 = .ok (.if_icmp .eq 23, 3) := by decide +kernel
theorem dX8_as_57 : decode cX8_as 57 = .ok (.iload_n 2, 1) := by decide +kernel
theorem dX8_as_58 : decode cX8_as 58 = .ok (.iconst 3, 1) := by decide +kernel
theorem dX8_as_59 : decode cX8_as 59 = .ok (.if_icmp .ne 8, 3) := by decide +kernel
theorem dX8_as_62 : decode cX8_as 62 = .ok (.iload_n 3, 1) := by decide +kernel
theorem dX8_as_63 : decode cX8_as 63 = .ok (.iconst 2, 1) := by decide +kernel
theorem dX8_as_64 : decode cX8_as 64 = .ok (.if_icmp .eq 13, 3) := by decide +kernel
theorem dX8_as_67 : decode cX8_as 67 = .ok (.iload_n 2, 1) := by decide +kernel
theorem dX8_as_68 : decode cX8_as 68 = .ok (.iconst 4, 1) := by decide +kernel
theorem dX8_as_69 : decode cX8_as 69 = .ok (.if_icmp .ne 12, 3) := by decide +kernel
theorem dX8_as_72 : decode cX8_as 72 = .ok (.iload_n 3, 1) := by decide +kernel
theorem dX8_as_73 : decode cX8_as 73 = .ok (.iconst 3, 1) := by decide +kernel
theorem dX8_as_74 : decode cX8_as 74 = .ok (.if_icmp .ne 7, 3) := by decide +kernel
theorem dX8_as_77 : decode cX8_as 77 = .ok (.iconst 1, 1) := by decide +kernel
theorem dX8_as_78 : decode cX8_as 78 = .ok (.goto 4, 3) := by decide +kernel
theorem dX8_as_81 : decode cX8_as 81 = .ok (.iconst 0, 1) := by decide +kernel
theorem dX8_as_82 : decode cX8_as 82 = .ok (.istore 4, 2) := by decide +kernel
theorem dX8_as_84 : decode cX8_as 84 = .ok (.iload 4, 2) := by decide +kernel
theorem dX8_as_86 : decode cX8_as 86 = .ok (.ifCond .eq 12, 3) := by decide +kernel
theorem dX8_as_89 : decode cX8_as 89 = .ok (.aload_n 0, 1) := by decide +kernel
theorem dX8_as_90 : decode cX8_as 90 = .ok (.iload_n 1, 1) := by decide +kernel
theorem dX8_as_91 : decode cX8_as 91 = .ok (.iconst 5, 1) := by decide +kernel
theorem dX8_as_92 : decode cX8_as 92 = .ok (.invokevirtual 165, 3) := by decide +kernel
theorem dX8_as_95 : decode cX8_as 95 = .ok (.goto 5, 3) := by decide +kernel
theorem dX8_as_98 : decode cX8_as 98 = .ok (.bipush (-4), 2) := by decide +kernel
theorem dX8_as_100 : decode cX8_as 100 = .ok (.ireturn, 1) := by decide +kernel
theorem dX8_sweetest_0 : decode cX8_sweetest 0 = .ok (.iconst (-1), 1) := by decide +kernel
theorem dX8_sweetest_1 : decode cX8_sweetest 1 = .ok (.istore_n 3, 1) := by decide +kernel
theorem dX8_sweetest_2 : decode cX8_sweetest 2 = .ok (.iconst 0, 1) := by decide +kernel
theorem dX8_sweetest_3 : decode cX8_sweetest 3 = .ok (.istore 4, 2) := by decide +kernel
theorem dX8_sweetest_5 : decode cX8_sweetest 5 = .ok (.iconst 0, 1) := by decide +kernel
theorem dX8_sweetest_6 : decode cX8_sweetest 6 = .ok (.istore 5, 2) := by decide +kernel
theorem dX8_sweetest_8 : decode cX8_sweetest 8 = .ok (.iload 5, 2) := by decide +kernel
theorem dX8_sweetest_10 : decode cX8_sweetest 10 = .ok (.aload_n 0, 1) := by decide +kernel
theorem dX8_sweetest_11 : decode cX8_sweetest 11 = .ok (.getfield 64, 3) := by decide +kernel
theorem dX8_sweetest_14 : decode cX8_sweetest 14 = .ok (.if_icmp .ge 75, 3) := by decide +kernel
theorem dX8_sweetest_17 : decode cX8_sweetest 17 = .ok (.aload_n 0, 1) := by decide +kernel
theorem dX8_sweetest_18 : decode cX8_sweetest 18 = .ok (.getfield 7, 3) := by decide +kernel
theorem dX8_sweetest_21 : decode cX8_sweetest 21 = .ok (.iload_n 1, 1) := by decide +kernel
theorem dX8_sweetest_22 : decode cX8_sweetest 22 = .ok (.bipush 15, 2) := by decide +kernel
theorem dX8_sweetest_24 : decode cX8_sweetest 24 = .ok (.iadd, 1) := by decide +kernel
theorem dX8_sweetest_25 : decode cX8_sweetest 25 = .ok (.iload 5, 2) := by decide +kernel
theorem dX8_sweetest_27 : decode cX8_sweetest 27 = .ok (.iadd, 1) := by decide +kernel
theorem dX8_sweetest_28 : decode cX8_sweetest 28 = .ok (.iaload, 1) := by decide +kernel
theorem dX8_sweetest_29 : decode cX8_sweetest 29 = .ok (.iload_n 2, 1) := by decide +kernel
theorem dX8_sweetest_30 : decode cX8_sweetest 30 = .ok (.if_icmp .ne 53, 3) := by decide +kernel
theorem dX8_sweetest_33 : decode cX8_sweetest 33 = .ok (.aload_n 0, 1) := by decide +kernel
theorem dX8_sweetest_34 : decode cX8_sweetest 34 = .ok (.getfield 7, 3) := by decide +kernel
theorem dX8_sweetest_37 : decode cX8_sweetest 37 = .ok (.iload_n 1, 1) := by decide +kernel
theorem dX8_sweetest_38 : decode cX8_sweetest 38 = .ok (.bipush 33, 2) := by decide +kernel
theorem dX8_sweetest_40 : decode cX8_sweetest 40 = .ok (.iadd, 1) := by decide +kernel
theorem dX8_sweetest_41 : decode cX8_sweetest 41 = .ok (.iload 5, 2) := by decide +kernel
theorem dX8_sweetest_43 : decode cX8_sweetest 43 = .ok (.iadd, 1) := by decide +kernel
theorem dX8_sweetest_44 : decode cX8_sweetest 44 = .ok (.iaload, 1) := by decide +kernel
theorem dX8_sweetest_45 : decode cX8_sweetest 45 = .ok (.iconst (-1), 1) := by decide +kernel
theorem dX8_sweetest_46 : decode cX8_sweetest 46 = .ok (.if_icmp .ne 37, 3) := by decide +kernel
theorem dX8_sweetest_49 : decode cX8_sweetest 49 = .ok (.aload_n 0, 1) := by decide +kernel
theorem dX8_sweetest_50 : decode cX8_sweetest 50 = .ok (.getfield 7, 3) := by decide +kernel
theorem dX8_sweetest_53 : decode cX8_sweetest 53 = .ok (.iload_n 1, 1) := by decide +kernel
theorem dX8_sweetest_54 : decode cX8_sweetest 54 = .ok (.bipush 21, 2) := by decide +kernel
theorem dX8_sweetest_56 : decode cX8_sweetest 56 = .ok (.iadd, 1) := by decide +kernel
theorem dX8_sweetest_57 : decode cX8_sweetest 57 = .ok (.iload 5, 2) := by decide +kernel
theorem dX8_sweetest_59 : decode cX8_sweetest 59 = .ok (.iadd, 1) := by decide +kernel
theorem dX8_sweetest_60 : decode cX8_sweetest 60 = .ok (.iaload, 1) := by decide +kernel
theorem dX8_sweetest_61 : decode cX8_sweetest 61 = .ok (.iload 4, 2) := by decide +kernel
theorem dX8_sweetest_63 : decode cX8_sweetest 63 = .ok (.if_icmp .le 20, 3) := by decide +kernel
theorem dX8_sweetest_66 : decode cX8_sweetest 66 = .ok (.iload 5, 2) := by decide +kernel
theorem dX8_sweetest_68 : decode cX8_sweetest 68 = .ok (.istore_n 3, 1) := by decide +kernel
theorem dX8_sweetest_69 : decode cX8_sweetest 69 = .ok (.aload_n 0, 1) := by decide +kernel
theorem dX8_sweetest_70 : decode cX8_sweetest 70 = .ok (.getfield 7, 3) := by decide +kernel
theorem dX8_sweetest_73 : decode cX8_sweetest 73 = .ok (.iload_n 1, 1) := by decide +kernel
theorem dX8_sweetest_74 : decode cX8_sweetest 74 = .ok (.bipush 21, 2) := by decide +kernel
theorem dX8_sweetest_76 : decode cX8_sweetest 76 = .ok (.iadd, 1) := by decide +kernel
theorem dX8_sweetest_77 : decode cX8_sweetest 77 = .ok (.iload 5, 2) := by decide +kernel
theorem dX8_sweetest_79 : decode cX8_sweetest 79 = .ok (.iadd, 1) := by decide +kernel
theorem dX8_sweetest_80 : decode cX8_sweetest 80 = .ok (.iaload, 1) := by decide +kernel
theorem dX8_sweetest_81 : decode cX8_sweetest 81 = .ok (.istore 4, 2) := by decide +kernel
theorem dX8_sweetest_83 : decode cX8_sweetest 83 = .ok (.iinc 5 1, 3) := by decide +kernel
theorem dX8_sweetest_86 : decode cX8_sweetest 86 = .ok (.goto (-78), 3) := by decide +kernel
theorem dX8_sweetest_89 : decode cX8_sweetest 89 = .ok (.iload_n 3, 1) := by decide +kernel
theorem dX8_sweetest_90 : decode cX8_sweetest 90 = .ok (.ireturn, 1) := by decide +kernel
theorem dX8_strongest_0 : decode cX8_strongest 0 = .ok (.iconst (-1), 1) := by decide +kernel
theorem dX8_strongest_1 : decode cX8_strongest 1 = .ok (.istore 4, 2) := by decide +kernel
theorem dX8_strongest_3 : decode cX8_strongest 3 = .ok (.iconst (-1), 1) := by decide +kernel
theorem dX8_strongest_4 : decode cX8_strongest 4 = .ok (.istore 5, 2) := by decide +kernel
theorem dX8_strongest_6 : decode cX8_strongest 6 = .ok (.iconst 0, 1) := by decide +kernel
theorem dX8_strongest_7 : decode cX8_strongest 7 = .ok (.istore 6, 2) := by decide +kernel
theorem dX8_strongest_9 : decode cX8_strongest 9 = .ok (.iconst 0, 1) := by decide +kernel
theorem dX8_strongest_10 : decode cX8_strongest 10 = .ok (.istore 7, 2) := by decide +kernel
theorem dX8_strongest_12 : decode cX8_strongest 12 = .ok (.iload 7, 2) := by decide +kernel
theorem dX8_strongest_14 : decode cX8_strongest 14 = .ok (.aload_n 0, 1) := by decide +kernel
theorem dX8_strongest_15 : decode cX8_strongest 15 = .ok (.getfield 61, 3) := by decide +kernel
theorem dX8_strongest_18 : decode cX8_strongest 18 = .ok (.if_icmp .ge 86, 3) := by decide +kernel
theorem dX8_strongest_21 : decode cX8_strongest 21 = .ok (.iload 6, 2) := by decide +kernel
theorem dX8_strongest_23 : decode cX8_strongest 23 = .ok (.ifCond .ne 19, 3) := by decide +kernel
theorem dX8_strongest_26 : decode cX8_strongest 26 = .ok (.iload 7, 2) := by decide +kernel
theorem dX8_strongest_28 : decode cX8_strongest 28 = .ok (.iload_n 3, 1) := by decide +kernel
theorem dX8_strongest_29 : decode cX8_strongest 29 = .ok (.if_icmp .ne 17, 3) := by decide +kernel
theorem dX8_strongest_32 : decode cX8_strongest 32 = .ok (.aload_n 0, 1) := by decide +kernel
theorem dX8_strongest_33 : decode cX8_strongest 33 = .ok (.iload 7, 2) := by decide +kernel
theorem dX8_strongest_35 : decode cX8_strongest 35 = .ok (.iload_n 2, 1) := by decide +kernel
theorem dX8_strongest_36 : decode cX8_strongest 36 = .ok (.invokevirtual 154, 3) := by decide +kernel
theorem dX8_strongest_39 : decode cX8_strongest 39 = .ok (.ifCond .eq 7, 3) := by decide +kernel
theorem dX8_strongest_42 : decode cX8_strongest 42 = .ok (.iconst 1, 1) := by decide +kernel
theorem dX8_strongest_43 : decode cX8_strongest 43 = .ok (.goto 4, 3) := by decide +kernel
theorem dX8_strongest_46 : decode cX8_strongest 46 = .ok (.iconst 0, 1) := by decide +kernel
theorem dX8_strongest_47 : decode cX8_strongest 47 = .ok (.istore 6, 2) := by decide +kernel
theorem dX8_strongest_49 : decode cX8_strongest 49 = .ok (.aload_n 0, 1) := by decide +kernel
theorem dX8_strongest_50 : decode cX8_strongest 50 = .ok (.iload 7, 2) := by decide +kernel
theorem dX8_strongest_52 : decode cX8_strongest 52 = .ok (.iload_n 2, 1) := by decide +kernel
theorem dX8_strongest_53 : decode cX8_strongest 53 = .ok (.invokevirtual 154, 3) := by decide +kernel
theorem dX8_strongest_56 : decode cX8_strongest 56 = .ok (.ifCond .eq 42, 3) := by decide +kernel
theorem dX8_strongest_59 : decode cX8_strongest 59 = .ok (.iload 7, 2) := by decide +kernel
theorem dX8_strongest_61 : decode cX8_strongest 61 = .ok (.iload_n 3, 1) := by decide +kernel
theorem dX8_strongest_62 : decode cX8_strongest 62 = .ok (.if_icmp .eq 36, 3) := by decide +kernel
theorem dX8_strongest_65 : decode cX8_strongest 65 = .ok (.aload_n 0, 1) := by decide +kernel
theorem dX8_strongest_66 : decode cX8_strongest 66 = .ok (.getfield 7, 3) := by decide +kernel
theorem dX8_strongest_69 : decode cX8_strongest 69 = .ok (.iload_n 1, 1) := by decide +kernel
theorem dX8_strongest_70 : decode cX8_strongest 70 = .ok (.iconst 3, 1) := by decide +kernel
theorem dX8_strongest_71 : decode cX8_strongest 71 = .ok (.iadd, 1) := by decide +kernel
theorem dX8_strongest_72 : decode cX8_strongest 72 = .ok (.iload 7, 2) := by decide +kernel
theorem dX8_strongest_74 : decode cX8_strongest 74 = .ok (.iadd, 1) := by decide +kernel
theorem dX8_strongest_75 : decode cX8_strongest 75 = .ok (.iaload, 1) := by decide +kernel
theorem dX8_strongest_76 : decode cX8_strongest 76 = .ok (.iload 5, 2) := by decide +kernel
theorem dX8_strongest_78 : decode cX8_strongest 78 = .ok (.if_icmp .le 20, 3) := by decide +kernel
theorem dX8_strongest_81 : decode cX8_strongest 81 = .ok (.iload 7, 2) := by decide +kernel
theorem dX8_strongest_83 : decode cX8_strongest 83 = .ok (.istore 4, 2) := by decide +kernel
theorem dX8_strongest_85 : decode cX8_strongest 85 = .ok (.aload_n 0, 1) := by decide +kernel
theorem dX8_strongest_86 : decode cX8_strongest 86 = .ok (.getfield 7, 3) := by decide +kernel
theorem dX8_strongest_89 : decode cX8_strongest 89 = .ok (.iload_n 1, 1) := by decide +kernel
theorem dX8_strongest_90 : decode cX8_strongest 90 = .ok (.iconst 3, 1) := by decide +kernel
theorem dX8_strongest_91 : decode cX8_strongest 91 = .ok (.iadd, 1) := by decide +kernel
theorem dX8_strongest_92 : decode cX8_strongest 92 = .ok (.iload 7, 2) := by decide +kernel
theorem dX8_strongest_94 : decode cX8_strongest 94 = .ok (.iadd, 1) := by decide +kernel
theorem dX8_strongest_95 : decode cX8_strongest 95 = .ok (.iaload, 1) := by decide +kernel
theorem dX8_strongest_96 : decode cX8_strongest 96 = .ok (.istore 5, 2) := by decide +kernel
theorem dX8_strongest_98 : decode cX8_strongest 98 = .ok (.iinc 7 1, 3) := by decide +kernel
theorem dX8_strongest_101 : decode cX8_strongest 101 = .ok (.goto (-89), 3) := by decide +kernel
theorem dX8_strongest_104 : decode cX8_strongest 104 = .ok (.iload 4, 2) := by decide +kernel
theorem dX8_strongest_106 : decode cX8_strongest 106 = .ok (.iconst (-1), 1) := by decide +kernel
theorem dX8_strongest_107 : decode cX8_strongest 107 = .ok (.if_icmp .ne 12, 3) := by decide +kernel
theorem dX8_strongest_110 : decode cX8_strongest 110 = .ok (.iload 6, 2) := by decide +kernel
theorem dX8_strongest_112 : decode cX8_strongest 112 = .ok (.ifCond .eq 7, 3) := by decide +kernel
theorem dX8_strongest_115 : decode cX8_strongest 115 = .ok (.iload_n 3, 1) := by decide +kernel
theorem dX8_strongest_116 : decode cX8_strongest 116 = .ok (.goto 5, 3) := by decide +kernel
theorem dX8_strongest_119 : decode cX8_strongest 119 = .ok (.iload 4, 2) := by decide +kernel
theorem dX8_strongest_121 : decode cX8_strongest 121 = .ok (.ireturn, 1) := by decide +kernel
theorem dX8_layCarried_0 : decode cX8_layCarried 0 = .ok (.iconst 0, 1) := by decide +kernel
theorem dX8_layCarried_1 : decode cX8_layCarried 1 = .ok (.istore_n 2, 1) := by decide +kernel
theorem dX8_layCarried_2 : decode cX8_layCarried 2 = .ok (.iload_n 2, 1) := by decide +kernel
theorem dX8_layCarried_3 : decode cX8_layCarried 3 = .ok (.bipush 6, 2) := by decide +kernel
theorem dX8_layCarried_5 : decode cX8_layCarried 5 = .ok (.if_icmp .ge 16, 3) := by decide +kernel
theorem dX8_layCarried_8 : decode cX8_layCarried 8 = .ok (.aload_n 0, 1) := by decide +kernel
theorem dX8_layCarried_9 : decode cX8_layCarried 9 = .ok (.getfield 42, 3) := by decide +kernel
theorem dX8_layCarried_12 : decode cX8_layCarried 12 = .ok (.iload_n 2, 1) := by decide +kernel
theorem dX8_layCarried_13 : decode cX8_layCarried 13 = .ok (.iconst (-1), 1) := by decide +kernel
theorem dX8_layCarried_14 : decode cX8_layCarried 14 = .ok (.iastore, 1) := by decide +kernel
theorem dX8_layCarried_15 : decode cX8_layCarried 15 = .ok (.iinc 2 1, 3) := by decide +kernel
theorem dX8_layCarried_18 : decode cX8_layCarried 18 = .ok (.goto (-16), 3) := by decide +kernel
theorem dX8_layCarried_21 : decode cX8_layCarried 21 = .ok (.iconst 0, 1) := by decide +kernel
theorem dX8_layCarried_22 : decode cX8_layCarried 22 = .ok (.istore_n 2, 1) := by decide +kernel
theorem dX8_layCarried_23 : decode cX8_layCarried 23 = .ok (.iload_n 2, 1) := by decide +kernel
theorem dX8_layCarried_24 : decode cX8_layCarried 24 = .ok (.aload_n 0, 1) := by decide +kernel
theorem dX8_layCarried_25 : decode cX8_layCarried 25 = .ok (.getfield 23, 3) := by decide +kernel
theorem dX8_layCarried_28 : decode cX8_layCarried 28 = .ok (.if_icmp .ge 81, 3) := by decide +kernel
theorem dX8_layCarried_31 : decode cX8_layCarried 31 = .ok (.aload_n 0, 1) := by decide +kernel
theorem dX8_layCarried_32 : decode cX8_layCarried 32 = .ok (.getfield 7, 3) := by decide +kernel
theorem dX8_layCarried_35 : decode cX8_layCarried 35 = .ok (.iload_n 1, 1) := by decide +kernel
theorem dX8_layCarried_36 : decode cX8_layCarried 36 = .ok (.iconst 1, 1) := by decide +kernel
theorem dX8_layCarried_37 : decode cX8_layCarried 37 = .ok (.iadd, 1) := by decide +kernel
theorem dX8_layCarried_38 : decode cX8_layCarried 38 = .ok (.iaload, 1) := by decide +kernel
theorem dX8_layCarried_39 : decode cX8_layCarried 39 = .ok (.ifCond .ne 70, 3) := by decide +kernel
theorem dX8_layCarried_42 : decode cX8_layCarried 42 = .ok (.aload_n 0, 1) := by decide +kernel
theorem dX8_layCarried_43 : decode cX8_layCarried 43 = .ok (.getfield 27, 3) := by decide +kernel
theorem dX8_layCarried_46 : decode cX8_layCarried 46 = .ok (.iload_n 2, 1) := by decide +kernel
theorem dX8_layCarried_47 : decode cX8_layCarried 47 = .ok (.iaload, 1) := by decide +kernel
theorem dX8_layCarried_48 : decode cX8_layCarried 48 = .ok (.iconst 3, 1) := by decide +kernel
theorem dX8_layCarried_49 : decode cX8_layCarried 49 = .ok (.if_icmp .eq 15, 3) := by decide +kernel
theorem dX8_layCarried_52 : decode cX8_layCarried 52 = .ok (.aload_n 0, 1) := by decide +kernel
theorem dX8_layCarried_53 : decode cX8_layCarried 53 = .ok (.getfield 7, 3) := by decide +kernel
theorem dX8_layCarried_56 : decode cX8_layCarried 56 = .ok (.iload_n 1, 1) := by decide +kernel
theorem dX8_layCarried_57 : decode cX8_layCarried 57 = .ok (.iconst 2, 1) := by decide +kernel
theorem dX8_layCarried_58 : decode cX8_layCarried 58 = .ok (.iadd, 1) := by decide +kernel
theorem dX8_layCarried_59 : decode cX8_layCarried 59 = .ok (.iaload, 1) := by decide +kernel
theorem dX8_layCarried_60 : decode cX8_layCarried 60 = .ok (.iload_n 2, 1) := by decide +kernel
theorem dX8_layCarried_61 : decode cX8_layCarried 61 = .ok (.if_icmp .ne 7, 3) := by decide +kernel
theorem dX8_layCarried_64 : decode cX8_layCarried 64 = .ok (.iconst (-1), 1) := by decide +kernel
theorem dX8_layCarried_65 : decode cX8_layCarried 65 = .ok (.goto 9, 3) := by decide +kernel
theorem dX8_layCarried_68 : decode cX8_layCarried 68 = .ok (.aload_n 0, 1) := by decide +kernel
theorem dX8_layCarried_69 : decode cX8_layCarried 69 = .ok (.iload_n 1, 1) := by decide +kernel
theorem dX8_layCarried_70 : decode cX8_layCarried 70 = .ok (.iload_n 2, 1) := by decide +kernel
theorem dX8_layCarried_71 : decode cX8_layCarried 71 = .ok (.invokevirtual 169, 3) := by decide +kernel
theorem dX8_layCarried_74 : decode cX8_layCarried 74 = .ok (.istore_n 3, 1) := by decide +kernel
theorem dX8_layCarried_75 : decode cX8_layCarried 75 = .ok (.iload_n 3, 1) := by decide +kernel
theorem dX8_layCarried_76 : decode cX8_layCarried 76 = .ok (.iconst (-1), 1) := by decide +kernel
theorem dX8_layCarried_77 : decode cX8_layCarried 77 = .ok (.if_icmp .eq 26, 3) := by decide +kernel
theorem dX8_layCarried_80 : decode cX8_layCarried 80 = .ok (.aload_n 0, 1) := by decide +kernel
theorem dX8_layCarried_81 : decode cX8_layCarried 81 = .ok (.getfield 42, 3) := by decide +kernel
theorem dX8_layCarried_84 : decode cX8_layCarried 84 = .ok (.iload_n 3, 1) := by decide +kernel
theorem dX8_layCarried_85 : decode cX8_layCarried 85 = .ok (.aload_n 0, 1) := by decide +kernel
theorem dX8_layCarried_86 : decode cX8_layCarried 86 = .ok (.iload_n 1, 1) := by decide +kernel
theorem dX8_layCarried_87 : decode cX8_layCarried 87 = .ok (.iload_n 2, 1) := by decide +kernel
theorem dX8_layCarried_88 : decode cX8_layCarried 88 = .ok (.aload_n 0, 1) := by decide +kernel
theorem dX8_layCarried_89 : decode cX8_layCarried 89 = .ok (.getfield 7, 3) := by decide +kernel
theorem dX8_layCarried_92 : decode cX8_layCarried 92 = .ok (.iload_n 1, 1) := by decide +kernel
theorem dX8_layCarried_93 : decode cX8_layCarried 93 = .ok (.bipush 27, 2) := by decide +kernel
theorem dX8_layCarried_95 : decode cX8_layCarried 95 = .ok (.iadd, 1) := by decide +kernel
theorem dX8_layCarried_96 : decode cX8_layCarried 96 = .ok (.iload_n 3, 1) := by decide +kernel
theorem dX8_layCarried_97 : decode cX8_layCarried 97 = .ok (.iadd, 1) := by decide +kernel
theorem dX8_layCarried_98 : decode cX8_layCarried 98 = .ok (.iaload, 1) := by decide +kernel
theorem dX8_layCarried_99 : decode cX8_layCarried 99 = .ok (.invokevirtual 172, 3) := by decide +kernel
theorem dX8_layCarried_102 : decode cX8_layCarried 102 = .ok (.iastore, 1) := by decide +kernel
theorem dX8_layCarried_103 : decode cX8_layCarried 103 = .ok (.iinc 2 1, 3) := by decide +kernel
theorem dX8_layCarried_106 : decode cX8_layCarried 106 = .ok (.goto (-83), 3) := by decide +kernel
theorem dX8_layCarried_109 : decode cX8_layCarried 109 = .ok (.return_, 1) := by decide +kernel
theorem dX8_arrive_0 : decode cX8_arrive 0 = .ok (.aload_n 0, 1) := by decide +kernel
theorem dX8_arrive_1 : decode cX8_arrive 1 = .ok (.getfield 30, 3) := by decide +kernel
theorem dX8_arrive_4 : decode cX8_arrive 4 = .ok (.iload_n 3, 1) := by decide +kernel
theorem dX8_arrive_5 : decode cX8_arrive 5 = .ok (.iaload, 1) := by decide +kernel
theorem dX8_arrive_6 : decode cX8_arrive 6 = .ok (.aload_n 0, 1) := by decide +kernel
theorem dX8_arrive_7 : decode cX8_arrive 7 = .ok (.getfield 7, 3) := by decide +kernel
theorem dX8_arrive_10 : decode cX8_arrive 10 = .ok (.iload_n 1, 1) := by decide +kernel
theorem dX8_arrive_11 : decode cX8_arrive 11 = .ok (.bipush 15, 2) := by decide +kernel
theorem dX8_arrive_13 : decode cX8_arrive 13 = .ok (.iadd, 1) := by decide +kernel
theorem dX8_arrive_14 : decode cX8_arrive 14 = .ok (.iload_n 2, 1) := by decide +kernel
theorem dX8_arrive_15 : decode cX8_arrive 15 = .ok (.iadd, 1) := by decide +kernel
theorem dX8_arrive_16 : decode cX8_arrive 16 = .ok (.iaload, 1) := by decide +kernel
theorem dX8_arrive_17 : decode cX8_arrive 17 = .ok (.if_icmp .ne 12, 3) := by decide +kernel
theorem dX8_arrive_20 : decode cX8_arrive 20 = .ok (.aload_n 0, 1) := by decide +kernel
theorem dX8_arrive_21 : decode cX8_arrive 21 = .ok (.getfield 33, 3) := by decide +kernel
theorem dX8_arrive_24 : decode cX8_arrive 24 = .ok (.iload_n 3, 1) := by decide +kernel
theorem dX8_arrive_25 : decode cX8_arrive 25 = .ok (.iaload, 1) := by decide +kernel
theorem dX8_arrive_26 : decode cX8_arrive 26 = .ok (.goto 9, 3) := by decide +kernel
theorem dX8_arrive_29 : decode cX8_arrive 29 = .ok (.aload_n 0, 1) := by decide +kernel
theorem dX8_arrive_30 : decode cX8_arrive 30 = .ok (.getfield 30, 3) := by decide +kernel
theorem dX8_arrive_33 : decode cX8_arrive 33 = .ok (.iload_n 3, 1) := by decide +kernel
theorem dX8_arrive_34 : decode cX8_arrive 34 = .ok (.iaload, 1) := by decide +kernel
theorem dX8_arrive_35 : decode cX8_arrive 35 = .ok (.istore 4, 2) := by decide +kernel
theorem dX8_arrive_37 : decode cX8_arrive 37 = .ok (.aload_n 0, 1) := by decide +kernel
theorem dX8_arrive_38 : decode cX8_arrive 38 = .ok (.getfield 7, 3) := by decide +kernel
theorem dX8_arrive_41 : decode cX8_arrive 41 = .ok (.iload_n 1, 1) := by decide +kernel
theorem dX8_arrive_42 : decode cX8_arrive 42 = .ok (.bipush 15, 2) := by decide +kernel
theorem dX8_arrive_44 : decode cX8_arrive 44 = .ok (.iadd, 1) := by decide +kernel
theorem dX8_arrive_45 : decode cX8_arrive 45 = .ok (.iload_n 2, 1) := by decide +kernel
theorem dX8_arrive_46 : decode cX8_arrive 46 = .ok (.iadd, 1) := by decide +kernel
theorem dX8_arrive_47 : decode cX8_arrive 47 = .ok (.iload 4, 2) := by decide +kernel
theorem dX8_arrive_49 : decode cX8_arrive 49 = .ok (.iastore, 1) := by decide +kernel
theorem dX8_arrive_50 : decode cX8_arrive 50 = .ok (.aload_n 0, 1) := by decide +kernel
theorem dX8_arrive_51 : decode cX8_arrive 51 = .ok (.getfield 7, 3) := by decide +kernel
theorem dX8_arrive_54 : decode cX8_arrive 54 = .ok (.iload_n 1, 1) := by decide +kernel
theorem dX8_arrive_55 : decode cX8_arrive 55 = .ok (.bipush 27, 2) := by decide +kernel
theorem dX8_arrive_57 : decode cX8_arrive 57 = .ok (.iadd, 1) := by decide +kernel
theorem dX8_arrive_58 : decode cX8_arrive 58 = .ok (.iload_n 2, 1) := by decide +kernel
theorem dX8_arrive_59 : decode cX8_arrive 59 = .ok (.iadd, 1) := by decide +kernel
theorem dX8_arrive_60 : decode cX8_arrive 60 = .ok (.iload_n 3, 1) := by decide +kernel
theorem dX8_arrive_61 : decode cX8_arrive 61 = .ok (.iastore, 1) := by decide +kernel
theorem dX8_arrive_62 : decode cX8_arrive 62 = .ok (.aload_n 0, 1) := by decide +kernel
theorem dX8_arrive_63 : decode cX8_arrive 63 = .ok (.getfield 7, 3) := by decide +kernel
theorem dX8_arrive_66 : decode cX8_arrive 66 = .ok (.iload_n 1, 1) := by decide +kernel
theorem dX8_arrive_67 : decode cX8_arrive 67 = .ok (.bipush 21, 2) := by decide +kernel
theorem dX8_arrive_69 : decode cX8_arrive 69 = .ok (.iadd, 1) := by decide +kernel
theorem dX8_arrive_70 : decode cX8_arrive 70 = .ok (.iload_n 2, 1) := by decide +kernel
theorem dX8_arrive_71 : decode cX8_arrive 71 = .ok (.iadd, 1) := by decide +kernel
theorem dX8_arrive_72 : decode cX8_arrive 72 = .ok (.aload_n 0, 1) := by decide +kernel
theorem dX8_arrive_73 : decode cX8_arrive 73 = .ok (.iload 4, 2) := by decide +kernel
theorem dX8_arrive_75 : decode cX8_arrive 75 = .ok (.aload_n 0, 1) := by decide +kernel
theorem dX8_arrive_76 : decode cX8_arrive 76 = .ok (.getfield 7, 3) := by decide +kernel
theorem dX8_arrive_79 : decode cX8_arrive 79 = .ok (.iload_n 1, 1) := by decide +kernel
theorem dX8_arrive_80 : decode cX8_arrive 80 = .ok (.bipush 21, 2) := by decide +kernel
theorem dX8_arrive_82 : decode cX8_arrive 82 = .ok (.iadd, 1) := by decide +kernel
theorem dX8_arrive_83 : decode cX8_arrive 83 = .ok (.iload_n 2, 1) := by decide +kernel
theorem dX8_arrive_84 : decode cX8_arrive 84 = .ok (.iadd, 1) := by decide +kernel
theorem dX8_arrive_85 : decode cX8_arrive 85 = .ok (.iaload, 1) := by decide +kernel
theorem dX8_arrive_86 : decode cX8_arrive 86 = .ok (.invokevirtual 165, 3) := by decide +kernel
theorem dX8_arrive_89 : decode cX8_arrive 89 = .ok (.iastore, 1) := by decide +kernel
theorem dX8_arrive_90 : decode cX8_arrive 90 = .ok (.aload_n 0, 1) := by decide +kernel
theorem dX8_arrive_91 : decode cX8_arrive 91 = .ok (.getfield 7, 3) := by decide +kernel
theorem dX8_arrive_94 : decode cX8_arrive 94 = .ok (.iload_n 1, 1) := by decide +kernel
theorem dX8_arrive_95 : decode cX8_arrive 95 = .ok (.bipush 33, 2) := by decide +kernel
theorem dX8_arrive_97 : decode cX8_arrive 97 = .ok (.iadd, 1) := by decide +kernel
theorem dX8_arrive_98 : decode cX8_arrive 98 = .ok (.iload_n 2, 1) := by decide +kernel
theorem dX8_arrive_99 : decode cX8_arrive 99 = .ok (.iadd, 1) := by decide +kernel
theorem dX8_arrive_100 : decode cX8_arrive 100 = .ok (.iload 4, 2) := by decide +kernel
theorem dX8_arrive_102 : decode cX8_arrive 102 = .ok (.aload_n 0, 1) := by decide +kernel
theorem dX8_arrive_103 : decode cX8_arrive 103 = .ok (.getfield 36, 3) := by decide +kernel
theorem dX8_arrive_106 : decode cX8_arrive 106 = .ok (.iload_n 2, 1) := by decide +kernel
theorem dX8_arrive_107 : decode cX8_arrive 107 = .ok (.iaload, 1) := by decide +kernel
theorem dX8_arrive_108 : decode cX8_arrive 108 = .ok (.if_icmp .ne 14, 3) := by decide +kernel
theorem dX8_arrive_111 : decode cX8_arrive 111 = .ok (.aload_n 0, 1) := by decide +kernel
theorem dX8_arrive_112 : decode cX8_arrive 112 = .ok (.getfield 7, 3) := by decide +kernel
theorem dX8_arrive_115 : decode cX8_arrive 115 = .ok (.iload_n 1, 1) := by decide +kernel
theorem dX8_arrive_116 : decode cX8_arrive 116 = .ok (.iconst 0, 1) := by decide +kernel
theorem dX8_arrive_117 : decode cX8_arrive 117 = .ok (.iadd, 1) := by decide +kernel
theorem dX8_arrive_118 : decode cX8_arrive 118 = .ok (.iaload, 1) := by decide +kernel
theorem dX8_arrive_119 : decode cX8_arrive 119 = .ok (.goto 4, 3) := by decide +kernel
theorem dX8_arrive_122 : decode cX8_arrive 122 = .ok (.iconst (-1), 1) := by decide +kernel
theorem dX8_arrive_123 : decode cX8_arrive 123 = .ok (.iastore, 1) := by decide +kernel
theorem dX8_arrive_124 : decode cX8_arrive 124 = .ok (.return_, 1) := by decide +kernel
theorem dX8_minute_0 : decode cX8_minute 0 = .ok (.aload_n 0, 1) := by decide +kernel
theorem dX8_minute_1 : decode cX8_minute 1 = .ok (.iload_n 1, 1) := by decide +kernel
theorem dX8_minute_2 : decode cX8_minute 2 = .ok (.invokevirtual 176, 3) := by decide +kernel
