theorem dX7_init_0 : decode cX7_init 0 = .ok (.aload_n 0, 1) := by decide +kernel
theorem dX7_init_1 : decode cX7_init 1 = .ok (.invokespecial 1, 3) := by decide +kernel
theorem dX7_init_4 : decode cX7_init 4 = .ok (.aload_n 0, 1) := by decide +kernel
theorem dX7_init_5 : decode cX7_init 5 = .ok (.new 7, 3) := by decide +kernel
theorem dX7_init_8 : decode cX7_init 8 = .ok (.dup, 1) := by decide +kernel
theorem dX7_init_9 : decode cX7_init 9 = .ok (.invokespecial 9, 3) := by decide +kernel
theorem dX7_init_12 : decode cX7_init 12 = .ok (.putfield 10, 3) := by decide +kernel
theorem dX7_init_15 : decode cX7_init 15 = .ok (.aload_n 0, 1) := by decide +kernel
theorem dX7_init_16 : decode cX7_init 16 = .ok (.new 16, 3) := by decide +kernel
theorem dX7_init_19 : decode cX7_init 19 = .ok (.dup, 1) := by decide +kernel
theorem dX7_init_20 : decode cX7_init 20 = .ok (.invokespecial 18, 3) := by decide +kernel
theorem dX7_init_23 : decode cX7_init 23 = .ok (.putfield 19, 3) := by decide +kernel
theorem dX7_init_26 : decode cX7_init 26 = .ok (.aload_n 0, 1) := by decide +kernel
theorem dX7_init_27 : decode cX7_init 27 = .ok (.new 23, 3) := by decide +kernel
theorem dX7_init_30 : decode cX7_init 30 = .ok (.dup, 1) := by decide +kernel
theorem dX7_init_31 : decode cX7_init 31 = .ok (.aload_n 0, 1) := by decide +kernel
theorem dX7_init_32 : decode cX7_init 32 = .ok (.getfield 10, 3) := by decide +kernel
theorem dX7_init_35 : decode cX7_init 35 = .ok (.invokespecial 25, 3) := by decide +kernel
theorem dX7_init_38 : decode cX7_init 38 = .ok (.putfield 28, 3) := by decide +kernel
theorem dX7_init_41 : decode cX7_init 41 = .ok (.aload_n 0, 1) := by decide +kernel
theorem dX7_init_42 : decode cX7_init 42 = .ok (.new 32, 3) := by decide +kernel
theorem dX7_init_45 : decode cX7_init 45 = .ok (.dup, 1) := by decide +kernel
theorem dX7_init_46 : decode cX7_init 46 = .ok (.invokespecial 34, 3) := by decide +kernel
theorem dX7_init_49 : decode cX7_init 49 = .ok (.putfield 35, 3) := by decide +kernel
theorem dX7_init_52 : decode cX7_init 52 = .ok (.aload_n 0, 1) := by decide +kernel
theorem dX7_init_53 : decode cX7_init 53 = .ok (.getfield 35, 3) := by decide +kernel
theorem dX7_init_56 : decode cX7_init 56 = .ok (.aload_n 0, 1) := by decide +kernel
theorem dX7_init_57 : decode cX7_init 57 = .ok (.getfield 19, 3) := by decide +kernel
theorem dX7_init_60 : decode cX7_init 60 = .ok (.invokevirtual 39, 3) := by decide +kernel
theorem dX7_init_63 : decode cX7_init 63 = .ok (.aload_n 0, 1) := by decide +kernel
theorem dX7_init_64 : decode cX7_init 64 = .ok (.iconst 2, 1) := by decide +kernel
theorem dX7_init_65 : decode cX7_init 65 = .ok (.anewarray 32, 3) := by decide +kernel
theorem dX7_init_68 : decode cX7_init 68 = .ok (.putfield 43, 3) := by decide +kernel
theorem dX7_init_71 : decode cX7_init 71 = .ok (.iconst 0, 1) := by decide +kernel
theorem dX7_init_72 : decode cX7_init 72 = .ok (.istore_n 1, 1) := by decide +kernel
theorem dX7_init_73 : decode cX7_init 73 = .ok (.iload_n 1, 1) := by decide +kernel
theorem dX7_init_74 : decode cX7_init 74 = .ok (.iconst 2, 1) := by decide +kernel
theorem dX7_init_75 : decode cX7_init 75 = .ok (.if_icmp .ge 22, 3) := by decide +kernel
theorem dX7_init_78 : decode cX7_init 78 = .ok (.aload_n 0, 1) := by decide +kernel
theorem dX7_init_79 : decode cX7_init 79 = .ok (.getfield 43, 3) := by decide +kernel
theorem dX7_init_82 : decode cX7_init 82 = .ok (.iload_n 1, 1) := by decide +kernel
theorem dX7_init_83 : decode cX7_init 83 = .ok (.new 32, 3) := by decide +kernel
theorem dX7_init_86 : decode cX7_init 86 = .ok (.dup, 1) := by decide +kernel
theorem dX7_init_87 : decode cX7_init 87 = .ok (.invokespecial 34, 3) := by decide +kernel
theorem dX7_init_90 : decode cX7_init 90 = .ok (.aastore, 1) := by decide +kernel
theorem dX7_init_91 : decode cX7_init 91 = .ok (.iinc 1 1, 3) := by decide +kernel
theorem dX7_init_94 : decode cX7_init 94 = .ok (.goto (-21), 3) := by decide +kernel
theorem dX7_init_97 : decode cX7_init 97 = .ok (.aload_n 0, 1) := by decide +kernel
theorem dX7_init_98 : decode cX7_init 98 = .ok (.iconst 2, 1) := by decide +kernel
theorem dX7_init_99 : decode cX7_init 99 = .ok (.newarray .boolean, 2) := by decide +kernel
theorem dX7_init_101 : decode cX7_init 101 = .ok (.putfield 47, 3) := by decide +kernel
theorem dX7_init_104 : decode cX7_init 104 = .ok (.aload_n 0, 1) := by decide +kernel
theorem dX7_init_105 : decode cX7_init 105 = .ok (.new 51, 3) := by decide +kernel
theorem dX7_init_108 : decode cX7_init 108 = .ok (.dup, 1) := by decide +kernel
theorem dX7_init_109 : decode cX7_init 109 = .ok (.aload_n 0, 1) := by decide +kernel
theorem dX7_init_110 : decode cX7_init 110 = .ok (.getfield 19, 3) := by decide +kernel
theorem dX7_init_113 : decode cX7_init 113 = .ok (.aload_n 0, 1) := by decide +kernel
theorem dX7_init_114 : decode cX7_init 114 = .ok (.getfield 35, 3) := by decide +kernel
theorem dX7_init_117 : decode cX7_init 117 = .ok (.invokespecial 53, 3) := by decide +kernel
theorem dX7_init_120 : decode cX7_init 120 = .ok (.putfield 56, 3) := by decide +kernel
theorem dX7_init_123 : decode cX7_init 123 = .ok (.aload_n 0, 1) := by decide +kernel
theorem dX7_init_124 : decode cX7_init 124 = .ok (.new 60, 3) := by decide +kernel
theorem dX7_init_127 : decode cX7_init 127 = .ok (.dup, 1) := by decide +kernel
theorem dX7_init_128 : decode cX7_init 128 = .ok (.invokespecial 62, 3) := by decide +kernel
theorem dX7_init_131 : decode cX7_init 131 = .ok (.putfield 63, 3) := by decide +kernel
theorem dX7_init_134 : decode cX7_init 134 = .ok (.aload_n 0, 1) := by decide +kernel
theorem dX7_init_135 : decode cX7_init 135 = .ok (.new 67, 3) := by decide +kernel
theorem dX7_init_138 : decode cX7_init 138 = .ok (.dup, 1) := by decide +kernel
theorem dX7_init_139 : decode cX7_init 139 = .ok (.invokespecial 69, 3) := by decide +kernel
theorem dX7_init_142 : decode cX7_init 142 = .ok (.putfield 70, 3) := by decide +kernel
theorem dX7_init_145 : decode cX7_init 145 = .ok (.return_, 1) := by decide +kernel
theorem dX7_write_0 : decode cX7_write 0 = .ok (.iload_n 3, 1) := by decide +kernel
theorem dX7_write_1 : decode cX7_write 1 = .ok (.iconst 1, 1) := by decide +kernel
theorem dX7_write_2 : decode cX7_write 2 = .ok (.if_icmp .lt 9, 3) := by decide +kernel
theorem dX7_write_5 : decode cX7_write 5 = .ok (.iload_n 3, 1) := by decide +kernel
theorem dX7_write_6 : decode cX7_write 6 = .ok (.bipush 8, 2) := by decide +kernel
theorem dX7_write_8 : decode cX7_write 8 = .ok (.if_icmp .le 6, 3) := by decide +kernel
theorem dX7_write_11 : decode cX7_write 11 = .ok (.bipush (-3), 2) := by decide +kernel
theorem dX7_write_13 : decode cX7_write 13 = .ok (.ireturn, 1) := by decide +kernel
theorem dX7_write_14 : decode cX7_write 14 = .ok (.aload_n 0, 1) := by decide +kernel
theorem dX7_write_15 : decode cX7_write 15 = .ok (.getfield 10, 3) := by decide +kernel
theorem dX7_write_18 : decode cX7_write 18 = .ok (.getfield 74, 3) := by decide +kernel
theorem dX7_write_21 : decode cX7_write 21 = .ok (.iload_n 3, 1) := by decide +kernel
theorem dX7_write_22 : decode cX7_write 22 = .ok (.iadd, 1) := by decide +kernel
theorem dX7_write_23 : decode cX7_write 23 = .ok (.sipush 200, 3) := by decide +kernel
theorem dX7_write_26 : decode cX7_write 26 = .ok (.if_icmp .le 6, 3) := by decide +kernel
theorem dX7_write_29 : decode cX7_write 29 = .ok (.bipush (-5), 2) := by decide +kernel
theorem dX7_write_31 : decode cX7_write 31 = .ok (.ireturn, 1) := by decide +kernel
theorem dX7_write_32 : decode cX7_write 32 = .ok (.iconst 0, 1) := by decide +kernel
theorem dX7_write_33 : decode cX7_write 33 = .ok (.istore 4, 2) := by decide +kernel
theorem dX7_write_35 : decode cX7_write 35 = .ok (.iload 4, 2) := by decide +kernel
theorem dX7_write_37 : decode cX7_write 37 = .ok (.iload_n 3, 1) := by decide +kernel
theorem dX7_write_38 : decode cX7_write 38 = .ok (.if_icmp .ge 28, 3) := by decide +kernel
theorem dX7_write_41 : decode cX7_write 41 = .ok (.aload_n 0, 1) := by decide +kernel
theorem dX7_write_42 : decode cX7_write 42 = .ok (.getfield 10, 3) := by decide +kernel
theorem dX7_write_45 : decode cX7_write 45 = .ok (.lload_n 1, 1) := by decide +kernel
theorem dX7_write_46 : decode cX7_write 46 = .ok (.bipush 8, 2) := by decide +kernel
theorem dX7_write_48 : decode cX7_write 48 = .ok (.iload 4, 2) := by decide +kernel
theorem dX7_write_50 : decode cX7_write 50 = .ok (.imul, 1) := by decide +kernel
theorem dX7_write_51 : decode cX7_write 51 = .ok (.lshr, 1) := by decide +kernel
theorem dX7_write_52 : decode cX7_write 52 = .ok (.ldc2_w 78, 3) := by decide +kernel
theorem dX7_write_55 : decode cX7_write 55 = .ok (.land, 1) := by decide +kernel
theorem dX7_write_56 : decode cX7_write 56 = .ok (.l2i, 1) := by decide +kernel
theorem dX7_write_57 : decode cX7_write 57 = .ok (.invokevirtual 80, 3) := by decide +kernel
theorem dX7_write_60 : decode cX7_write 60 = .ok (.iinc 4 1, 3) := by decide +kernel
theorem dX7_write_63 : decode cX7_write 63 = .ok (.goto (-28), 3) := by decide +kernel
theorem dX7_write_66 : decode cX7_write 66 = .ok (.aload_n 0, 1) := by decide +kernel
theorem dX7_write_67 : decode cX7_write 67 = .ok (.getfield 10, 3) := by decide +kernel
theorem dX7_write_70 : decode cX7_write 70 = .ok (.getfield 74, 3) := by decide +kernel
theorem dX7_write_73 : decode cX7_write 73 = .ok (.ireturn, 1) := by decide +kernel
theorem dX7_erase_0 : decode cX7_erase 0 = .ok (.aload_n 0, 1) := by decide +kernel
theorem dX7_erase_1 : decode cX7_erase 1 = .ok (.getfield 10, 3) := by decide +kernel
theorem dX7_erase_4 : decode cX7_erase 4 = .ok (.invokevirtual 84, 3) := by decide +kernel
theorem dX7_erase_7 : decode cX7_erase 7 = .ok (.ireturn, 1) := by decide +kernel
theorem dX7_fault_0 : decode cX7_fault 0 = .ok (.aload_n 0, 1) := by decide +kernel
theorem dX7_fault_1 : decode cX7_fault 1 = .ok (.getfield 28, 3) := by decide +kernel
theorem dX7_fault_4 : decode cX7_fault 4 = .ok (.aload_n 0, 1) := by decide +kernel
theorem dX7_fault_5 : decode cX7_fault 5 = .ok (.getfield 19, 3) := by decide +kernel
theorem dX7_fault_8 : decode cX7_fault 8 = .ok (.invokevirtual 88, 3) := by decide +kernel
theorem dX7_fault_11 : decode cX7_fault 11 = .ok (.aload_n 0, 1) := by decide +kernel
theorem dX7_fault_12 : decode cX7_fault 12 = .ok (.getfield 28, 3) := by decide +kernel
theorem dX7_fault_15 : decode cX7_fault 15 = .ok (.getfield 91, 3) := by decide +kernel
theorem dX7_fault_18 : decode cX7_fault 18 = .ok (.ireturn, 1) := by decide +kernel
theorem dX7_office_0 : decode cX7_office 0 = .ok (.aload_n 0, 1) := by decide +kernel
theorem dX7_office_1 : decode cX7_office 1 = .ok (.getfield 28, 3) := by decide +kernel
theorem dX7_office_4 : decode cX7_office 4 = .ok (.aload_n 0, 1) := by decide +kernel
theorem dX7_office_5 : decode cX7_office 5 = .ok (.getfield 19, 3) := by decide +kernel
theorem dX7_office_8 : decode cX7_office 8 = .ok (.invokevirtual 88, 3) := by decide +kernel
theorem dX7_office_11 : decode cX7_office 11 = .ok (.aload_n 0, 1) := by decide +kernel
theorem dX7_office_12 : decode cX7_office 12 = .ok (.getfield 28, 3) := by decide +kernel
theorem dX7_office_15 : decode cX7_office 15 = .ok (.getfield 91, 3) := by decide +kernel
theorem dX7_office_18 : decode cX7_office 18 = .ok (.iconst (-1), 1) := by decide +kernel
theorem dX7_office_19 : decode cX7_office 19 = .ok (.if_icmp .eq 6, 3) := by decide +kernel
theorem dX7_office_22 : decode cX7_office 22 = .ok (.bipush (-4), 2) := by decide +kernel
theorem dX7_office_24 : decode cX7_office 24 = .ok (.ireturn, 1) := by decide +kernel
theorem dX7_office_25 : decode cX7_office 25 = .ok (.aload_n 0, 1) := by decide +kernel
theorem dX7_office_26 : decode cX7_office 26 = .ok (.getfield 19, 3) := by decide +kernel
theorem dX7_office_29 : decode cX7_office 29 = .ok (.aload_n 0, 1) := by decide +kernel
theorem dX7_office_30 : decode cX7_office 30 = .ok (.getfield 28, 3) := by decide +kernel
theorem dX7_office_33 : decode cX7_office 33 = .ok (.getfield 94, 3) := by decide +kernel
theorem dX7_office_36 : decode cX7_office 36 = .ok (.invokevirtual 97, 3) := by decide +kernel
theorem dX7_office_39 : decode cX7_office 39 = .ok (.aload_n 0, 1) := by decide +kernel
theorem dX7_office_40 : decode cX7_office 40 = .ok (.getfield 10, 3) := by decide +kernel
theorem dX7_office_43 : decode cX7_office 43 = .ok (.invokevirtual 84, 3) := by decide +kernel
theorem dX7_office_46 : decode cX7_office 46 = .ok (.pop, 1) := by decide +kernel
theorem dX7_office_47 : decode cX7_office 47 = .ok (.aload_n 0, 1) := by decide +kernel
theorem dX7_office_48 : decode cX7_office 48 = .ok (.getfield 35, 3) := by decide +kernel
theorem dX7_office_51 : decode cX7_office 51 = .ok (.aload_n 0, 1) := by decide +kernel
theorem dX7_office_52 : decode cX7_office 52 = .ok (.getfield 19, 3) := by decide +kernel
theorem dX7_office_55 : decode cX7_office 55 = .ok (.invokevirtual 39, 3) := by decide +kernel
theorem dX7_office_58 : decode cX7_office 58 = .ok (.iconst 0, 1) := by decide +kernel
theorem dX7_office_59 : decode cX7_office 59 = .ok (.istore_n 1, 1) := by decide +kernel
theorem dX7_office_60 : decode cX7_office 60 = .ok (.iload_n 1, 1) := by decide +kernel
theorem dX7_office_61 : decode cX7_office 61 = .ok (.iconst 2, 1) := by decide +kernel
theorem dX7_office_62 : decode cX7_office 62 = .ok (.if_icmp .ge 16, 3) := by decide +kernel
theorem dX7_office_65 : decode cX7_office 65 = .ok (.aload_n 0, 1) := by decide +kernel
theorem dX7_office_66 : decode cX7_office 66 = .ok (.getfield 47, 3) := by decide +kernel
theorem dX7_office_69 : decode cX7_office 69 = .ok (.iload_n 1, 1) := by decide +kernel
theorem dX7_office_70 : decode cX7_office 70 = .ok (.iconst 0, 1) := by decide +kernel
theorem dX7_office_71 : decode cX7_office 71 = .ok (.bastore, 1) := by decide +kernel
theorem dX7_office_72 : decode cX7_office 72 = .ok (.iinc 1 1, 3) := by decide +kernel
theorem dX7_office_75 : decode cX7_office 75 = .ok (.goto (-15), 3) := by decide +kernel
theorem dX7_office_78 : decode cX7_office 78 = .ok (.aload_n 0, 1) := by decide +kernel
theorem dX7_office_79 : decode cX7_office 79 = .ok (.getfield 63, 3) := by decide +kernel
theorem dX7_office_82 : decode cX7_office 82 = .ok (.invokevirtual 100, 3) := by decide +kernel
theorem dX7_office_85 : decode cX7_office 85 = .ok (.pop, 1) := by decide +kernel
theorem dX7_office_86 : decode cX7_office 86 = .ok (.aload_n 0, 1) := by decide +kernel
theorem dX7_office_87 : decode cX7_office 87 = .ok (.getfield 70, 3) := by decide +kernel
theorem dX7_office_90 : decode cX7_office 90 = .ok (.invokevirtual 101, 3) := by decide +kernel
theorem dX7_office_93 : decode cX7_office 93 = .ok (.aload_n 0, 1) := by decide +kernel
theorem dX7_office_94 : decode cX7_office 94 = .ok (.getfield 28, 3) := by decide +kernel
theorem dX7_office_97 : decode cX7_office 97 = .ok (.getfield 103, 3) := by decide +kernel
theorem dX7_office_100 : decode cX7_office 100 = .ok (.ireturn, 1) := by decide +kernel
theorem dX7_desk_0 : decode cX7_desk 0 = .ok (.aload_n 0, 1) := by decide +kernel
theorem dX7_desk_1 : decode cX7_desk 1 = .ok (.iload_n 1, 1) := by decide +kernel
theorem dX7_desk_2 : decode cX7_desk 2 = .ok (.invokevirtual 106, 3) := by decide +kernel
theorem dX7_desk_5 : decode cX7_desk 5 = .ok (.ifCond .ne 6, 3) := by decide +kernel
theorem dX7_desk_8 : decode cX7_desk 8 = .ok (.bipush (-2), 2) := by decide +kernel
theorem dX7_desk_10 : decode cX7_desk 10 = .ok (.ireturn, 1) := by decide +kernel
theorem dX7_desk_11 : decode cX7_desk 11 = .ok (.iload_n 2, 1) := by decide +kernel
theorem dX7_desk_12 : decode cX7_desk 12 = .ok (.tableswitch 63 0 2 #[28, 38, 54], 28) := by decide +kernel
theorem dX7_desk_40 : decode cX7_desk 40 = .ok (.aload_n 0, 1) := by decide +kernel
theorem dX7_desk_41 : decode cX7_desk 41 = .ok (.getfield 19, 3) := by decide +kernel
theorem dX7_desk_44 : decode cX7_desk 44 = .ok (.getfield 110, 3) := by decide +kernel
theorem dX7_desk_47 : decode cX7_desk 47 = .ok (.iload_n 1, 1) := by decide +kernel
theorem dX7_desk_48 : decode cX7_desk 48 = .ok (.iaload, 1) := by decide +kernel
theorem dX7_desk_49 : decode cX7_desk 49 = .ok (.ireturn, 1) := by decide +kernel
theorem dX7_desk_50 : decode cX7_desk 50 = .ok (.aload_n 0, 1) := by decide +kernel
theorem dX7_desk_51 : decode cX7_desk 51 = .ok (.getfield 35, 3) := by decide +kernel
theorem dX7_desk_54 : decode cX7_desk 54 = .ok (.iload_n 1, 1) := by decide +kernel
theorem dX7_desk_55 : decode cX7_desk 55 = .ok (.aload_n 0, 1) := by decide +kernel
theorem dX7_desk_56 : decode cX7_desk 56 = .ok (.getfield 19, 3) := by decide +kernel
theorem dX7_desk_59 : decode cX7_desk 59 = .ok (.getfield 114, 3) := by decide +kernel
theorem dX7_desk_62 : decode cX7_desk 62 = .ok (.invokevirtual 117, 3) := by decide +kernel
theorem dX7_desk_65 : decode cX7_desk 65 = .ok (.ireturn, 1) := by decide +kernel
theorem dX7_desk_66 : decode cX7_desk 66 = .ok (.aload_n 0, 1) := by decide +kernel
theorem dX7_desk_67 : decode cX7_desk 67 = .ok (.getfield 19, 3) := by decide +kernel
theorem dX7_desk_70 : decode cX7_desk 70 = .ok (.iload_n 1, 1) := by decide +kernel
theorem dX7_desk_71 : decode cX7_desk 71 = .ok (.invokevirtual 121, 3) := by decide +kernel
theorem dX7_desk_74 : decode cX7_desk 74 = .ok (.ireturn, 1) := by decide +kernel
theorem dX7_desk_75 : decode cX7_desk 75 = .ok (.bipush (-3), 2) := by decide +kernel
theorem dX7_desk_77 : decode cX7_desk 77 = .ok (.ireturn, 1) := by decide +kernel
theorem dX7_trail_0 : decode cX7_trail 0 = .ok (.aload_n 0, 1) := by decide +kernel
theorem dX7_trail_1 : decode cX7_trail 1 = .ok (.iload_n 1, 1) := by decide +kernel
theorem dX7_trail_2 : decode cX7_trail 2 = .ok (.invokevirtual 125, 3) := by decide +kernel
theorem dX7_trail_5 : decode cX7_trail 5 = .ok (.ifCond .ne 6, 3) := by decide +kernel
theorem dX7_trail_8 : decode cX7_trail 8 = .ok (.bipush (-2), 2) := by decide +kernel
theorem dX7_trail_10 : decode cX7_trail 10 = .ok (.ireturn, 1) := by decide +kernel
theorem dX7_trail_11 : decode cX7_trail 11 = .ok (.iload_n 2, 1) := by decide +kernel
theorem dX7_trail_12 : decode cX7_trail 12 = .ok (.tableswitch 58 0 2 #[28, 38, 48], 28) := by decide +kernel
theorem dX7_trail_40 : decode cX7_trail 40 = .ok (.aload_n 0, 1) := by decide +kernel
theorem dX7_trail_41 : decode cX7_trail 41 = .ok (.getfield 19, 3) := by decide +kernel
theorem dX7_trail_44 : decode cX7_trail 44 = .ok (.getfield 128, 3) := by decide +kernel
theorem dX7_trail_47 : decode cX7_trail 47 = .ok (.iload_n 1, 1) := by decide +kernel
theorem dX7_trail_48 : decode cX7_trail 48 = .ok (.iaload, 1) := by decide +kernel
theorem dX7_trail_49 : decode cX7_trail 49 = .ok (.ireturn, 1) := by decide +kernel
theorem dX7_trail_50 : decode cX7_trail 50 = .ok (.aload_n 0, 1) := by decide +kernel
theorem dX7_trail_51 : decode cX7_trail 51 = .ok (.getfield 19, 3) := by decide +kernel
theorem dX7_trail_54 : decode cX7_trail 54 = .ok (.getfield 131, 3) := by decide +kernel
theorem dX7_trail_57 : decode cX7_trail 57 = .ok (.iload_n 1, 1) := by decide +kernel
theorem dX7_trail_58 : decode cX7_trail 58 = .ok (.iaload, 1) := by decide +kernel
theorem dX7_trail_59 : decode cX7_trail 59 = .ok (.ireturn, 1) := by decide +kernel
theorem dX7_trail_60 : decode cX7_trail 60 = .ok (.aload_n 0, 1) := by decide +kernel
theorem dX7_trail_61 : decode cX7_trail 61 = .ok (.getfield 35, 3) := by decide +kernel
theorem dX7_trail_64 : decode cX7_trail 64 = .ok (.getfield 134, 3) := by decide +kernel
theorem dX7_trail_67 : decode cX7_trail 67 = .ok (.iload_n 1, 1) := by decide +kernel
theorem dX7_trail_68 : decode cX7_trail 68 = .ok (.iaload, 1) := by decide +kernel
theorem dX7_trail_69 : decode cX7_trail 69 = .ok (.ireturn, 1) := by decide +kernel
theorem dX7_trail_70 : decode cX7_trail 70 = .ok (.bipush (-3), 2) := by decide +kernel
theorem dX7_trail_72 : decode cX7_trail 72 = .ok (.ireturn, 1) := by decide +kernel
theorem dX7_file_0 : decode cX7_file 0 = .ok (.aload_n 0, 1) := by decide +kernel
theorem dX7_file_1 : decode cX7_file 1 = .ok (.iload_n 1, 1) := by decide +kernel
theorem dX7_file_2 : decode cX7_file 2 = .ok (.invokevirtual 137, 3) := by decide +kernel
theorem dX7_file_5 : decode cX7_file 5 = .ok (.ifCond .ne 6, 3) := by decide +kernel
theorem dX7_file_8 : decode cX7_file 8 = .ok (.bipush (-2), 2) := by decide +kernel
theorem dX7_file_10 : decode cX7_file 10 = .ok (.ireturn, 1) := by decide +kernel
theorem dX7_file_11 : decode cX7_file 11 = .ok (.iload_n 2, 1) := by decide +kernel
theorem dX7_file_12 : decode cX7_file 12 = .ok (.tableswitch 86 0 4 #[36, 46, 56, 66, 76], 36) := by decide +kernel
theorem dX7_file_48 : decode cX7_file 48 = .ok (.aload_n 0, 1) := by decide +kernel
theorem dX7_file_49 : decode cX7_file 49 = .ok (.getfield 35, 3) := by decide +kernel
theorem dX7_file_52 : decode cX7_file 52 = .ok (.getfield 140, 3) := by decide +kernel
theorem dX7_file_55 : decode cX7_file 55 = .ok (.iload_n 1, 1) := by decide +kernel
theorem dX7_file_56 : decode cX7_file 56 = .ok (.iaload, 1) := by decide +kernel
theorem dX7_file_57 : decode cX7_file 57 = .ok (.ireturn, 1) := by decide +kernel
theorem dX7_file_58 : decode cX7_file 58 = .ok (.aload_n 0, 1) := by decide +kernel
theorem dX7_file_59 : decode cX7_file 59 = .ok (.getfield 19, 3) := by decide +kernel
theorem dX7_file_62 : decode cX7_file 62 = .ok (.getfield 143, 3) := by decide +kernel
theorem dX7_file_65 : decode cX7_file 65 = .ok (.iload_n 1, 1) := by decide +kernel
theorem dX7_file_66 : decode cX7_file 66 = .ok (.iaload, 1) := by decide +kernel
theorem dX7_file_67 : decode cX7_file 67 = .ok (.ireturn, 1) := by decide +kernel
theorem dX7_file_68 : decode cX7_file 68 = .ok (.aload_n 0, 1) := by decide +kernel
theorem dX7_file_69 : decode cX7_file 69 = .ok (.getfield 35, 3) := by decide +kernel
theorem dX7_file_72 : decode cX7_file 72 = .ok (.getfield 146, 3) := by decide +kernel
theorem dX7_file_75 : decode cX7_file 75 = .ok (.iload_n 1, 1) := by decide +kernel
theorem dX7_file_76 : decode cX7_file 76 = .ok (.iaload, 1) := by decide +kernel
theorem dX7_file_77 : decode cX7_file 77 = .ok (.ireturn, 1) := by decide +kernel
theorem dX7_file_78 : decode cX7_file 78 = .ok (.aload_n 0, 1) := by decide +kernel
theorem dX7_file_79 : decode cX7_file 79 = .ok (.getfield 35, 3) := by decide +kernel
theorem dX7_file_82 : decode cX7_file 82 = .ok (.getfield 149, 3) := by decide +kernel
theorem dX7_file_85 : decode cX7_file 85 = .ok (.iload_n 1, 1) := by decide +kernel
theorem dX7_file_86 : decode cX7_file 86 = .ok (.iaload, 1) := by decide +kernel
theorem dX7_file_87 : decode cX7_file 87 = .ok (.ireturn, 1) := by decide +kernel
theorem dX7_file_88 : decode cX7_file 88 = .ok (.aload_n 0, 1) := by decide +kernel
theorem dX7_file_89 : decode cX7_file 89 = .ok (.getfield 35, 3) := by decide +kernel
theorem dX7_file_92 : decode cX7_file 92 = .ok (.getfield 152, 3) := by decide +kernel
theorem dX7_file_95 : decode cX7_file 95 = .ok (.iload_n 1, 1) := by decide +kernel
theorem dX7_file_96 : decode cX7_file 96 = .ok (.iaload, 1) := by decide +kernel
theorem dX7_file_97 : decode cX7_file 97 = .ok (.ireturn, 1) := by decide +kernel
theorem dX7_file_98 : decode cX7_file 98 = .ok (.bipush (-3), 2) := by decide +kernel
theorem dX7_file_100 : decode cX7_file 100 = .ok (.ireturn, 1) := by decide +kernel
theorem dX7_as_0 : decode cX7_as 0 = .ok (.aload_n 0, 1) := by decide +kernel
theorem dX7_as_1 : decode cX7_as 1 = .ok (.iload_n 1, 1) := by decide +kernel
theorem dX7_as_2 : decode cX7_as 2 = .ok (.invokevirtual 106, 3) := by decide +kernel
theorem dX7_as_5 : decode cX7_as 5 = .ok (.ifCond .ne 6, 3) := by decide +kernel
theorem dX7_as_8 : decode cX7_as 8 = .ok (.bipush (-2), 2) := by decide +kernel
theorem dX7_as_10 : decode cX7_as 10 = .ok (.ireturn, 1) := by decide +kernel
theorem dX7_as_11 : decode cX7_as 11 = .ok (.iload_n 2, 1) := by decide +kernel
theorem dX7_as_12 : decode cX7_as 12 = .ok (.ifCond .lt 8, 3) := by decide +kernel
theorem dX7_as_15 : decode cX7_as 15 = .ok (.iload_n 2, 1) := by decide +kernel
theorem dX7_as_16 : decode cX7_as 16 = .ok (.iconst 4, 1) := by decide +kernel
theorem dX7_as_17 : decode cX7_as 17 = .ok (.if_icmp .le 6, 3) := by decide +kernel
theorem dX7_as_20 : decode cX7_as 20 = .ok (.bipush (-3), 2) := by decide +kernel
theorem dX7_as_22 : decode cX7_as 22 = .ok (.ireturn, 1) := by decide +kernel
theorem dX7_as_23 : decode cX7_as 23 = .ok (.aload_n 0, 1) := by decide +kernel
theorem dX7_as_24 : decode cX7_as 24 = .ok (.getfield 19, 3) := by decide +kernel
theorem dX7_as_27 : decode cX7_as 27 = .ok (.iload_n 1, 1) := by decide +kernel
theorem dX7_as_28 : decode cX7_as 28 = .ok (.iload_n 2, 1) := by decide +kernel
theorem dX7_as_29 : decode cX7_as 29 = .ok (.invokevirtual 155, 3) := by decide +kernel
theorem dX7_as_32 : decode cX7_as 32 = .ok (.ifCond .ne 6, 3) := by decide +kernel
theorem dX7_as_35 : decode cX7_as 35 = .ok (.bipush (-4), 2) := by decide +kernel
theorem dX7_as_37 : decode cX7_as 37 = .ok (.ireturn, 1) := by decide +kernel
theorem dX7_as_38 : decode cX7_as 38 = .ok (.aload_n 0, 1) := by decide +kernel
theorem dX7_as_39 : decode cX7_as 39 = .ok (.getfield 19, 3) := by decide +kernel
theorem dX7_as_42 : decode cX7_as 42 = .ok (.iload_n 1, 1) := by decide +kernel
theorem dX7_as_43 : decode cX7_as 43 = .ok (.iconst 5, 1) := by decide +kernel
theorem dX7_as_44 : decode cX7_as 44 = .ok (.invokevirtual 159, 3) := by decide +kernel
theorem dX7_as_47 : decode cX7_as 47 = .ok (.ireturn, 1) := by decide +kernel
theorem dX7_go_0 : decode cX7_go 0 = .ok (.iload_n 1, 1) := by decide +kernel
theorem dX7_go_1 : decode cX7_go 1 = .ok (.iconst 1, 1) := by decide +kernel
theorem dX7_go_2 : decode cX7_go 2 = .ok (.if_icmp .lt 9, 3) := by decide +kernel
theorem dX7_go_5 : decode cX7_go 5 = .ok (.iload_n 1, 1) := by decide +kernel
theorem dX7_go_6 : decode cX7_go 6 = .ok (.bipush 99, 2) := by decide +kernel
theorem dX7_go_8 : decode cX7_go 8 = .ok (.if_icmp .le 6, 3) := by decide +kernel
theorem dX7_go_11 : decode cX7_go 11 = .ok (.bipush (-3), 2) := by decide +kernel
theorem dX7_go_13 : decode cX7_go 13 = .ok (.ireturn, 1) := by decide +kernel
theorem dX7_go_14 : decode cX7_go 14 = .ok (.aload_n 0, 1) := by decide +kernel
theorem dX7_go_15 : decode cX7_go 15 = .ok (.getfield 35, 3) := by decide +kernel
theorem dX7_go_18 : decode cX7_go 18 = .ok (.getfield 162, 3) := by decide +kernel
theorem dX7_go_21 : decode cX7_go 21 = .ok (.iload_n 1, 1) := by decide +kernel
theorem dX7_go_22 : decode cX7_go 22 = .ok (.iadd, 1) := by decide +kernel
theorem dX7_go_23 : decode cX7_go 23 = .ok (.sipush 9999, 3) := by decide +kernel
theorem dX7_go_26 : decode cX7_go 26 = .ok (.if_icmp .le 6, 3) := by decide +kernel
theorem dX7_go_29 : decode cX7_go 29 = .ok (.bipush (-5), 2) := by decide +kernel
theorem dX7_go_31 : decode cX7_go 31 = .ok (.ireturn, 1) := by decide +kernel
theorem dX7_go_32 : decode cX7_go 32 = .ok (.aload_n 0, 1) := by decide +kernel
theorem dX7_go_33 : decode cX7_go 33 = .ok (.getfield 35, 3) := by decide +kernel
theorem dX7_go_36 : decode cX7_go 36 = .ok (.aload_n 0, 1) := by decide +kernel
theorem dX7_go_37 : decode cX7_go 37 = .ok (.getfield 19, 3) := by decide +kernel
theorem dX7_go_40 : decode cX7_go 40 = .ok (.iload_n 1, 1) := by decide +kernel
theorem dX7_go_41 : decode cX7_go 41 = .ok (.invokevirtual 165, 3) := by decide +kernel
theorem dX7_go_44 : decode cX7_go 44 = .ok (.aload_n 0, 1) := by decide +kernel
theorem dX7_go_45 : decode cX7_go 45 = .ok (.getfield 35, 3) := by decide +kernel
theorem dX7_go_48 : decode cX7_go 48 = .ok (.getfield 162, 3) := by decide +kernel
theorem dX7_go_51 : decode cX7_go 51 = .ok (.ireturn, 1) := by decide +kernel
theorem dX7_next_0 : decode cX7_next 0 = .ok (.aload_n 0, 1) := by decide +kernel
theorem dX7_next_1 : decode cX7_next 1 = .ok (.iload_n 1, 1) := by decide +kernel
theorem dX7_next_2 : decode cX7_next 2 = .ok (.invokevirtual 137, 3) := by decide +kernel
theorem dX7_next_5 : decode cX7_next 5 = .ok (.ifCond .ne 6, 3) := by decide +kernel
theorem dX7_next_8 : decode cX7_next 8 = .ok (.bipush (-2), 2) := by decide +kernel
theorem dX7_next_10 : decode cX7_next 10 = .ok (.ireturn, 1) := by decide +kernel
theorem dX7_next_11 : decode cX7_next 11 = .ok (.aload_n 0, 1) := by decide +kernel
theorem dX7_next_12 : decode cX7_next 12 = .ok (.getfield 35, 3) := by decide +kernel
theorem dX7_next_15 : decode cX7_next 15 = .ok (.aload_n 0, 1) := by decide +kernel
theorem dX7_next_16 : decode cX7_next 16 = .ok (.getfield 19, 3) := by decide +kernel
theorem dX7_next_19 : decode cX7_next 19 = .ok (.invokevirtual 169, 3) := by decide +kernel
theorem dX7_next_22 : decode cX7_next 22 = .ok (.pop, 1) := by decide +kernel
theorem dX7_next_23 : decode cX7_next 23 = .ok (.aload_n 0, 1) := by decide +kernel
theorem dX7_next_24 : decode cX7_next 24 = .ok (.getfield 35, 3) := by decide +kernel
theorem dX7_next_27 : decode cX7_next 27 = .ok (.getfield 173, 3) := by decide +kernel
theorem dX7_next_30 : decode cX7_next 30 = .ok (.iload_n 1, 1) := by decide +kernel
theorem dX7_next_31 : decode cX7_next 31 = .ok (.iaload, 1) := by decide +kernel
theorem dX7_next_32 : decode cX7_next 32 = .ok (.ireturn, 1) := by decide +kernel
theorem dX7_spill_0 : decode cX7_spill 0 = .ok (.aload_n 0, 1) := by decide +kernel
theorem dX7_spill_1 : decode cX7_spill 1 = .ok (.iload_n 1, 1) := by decide +kernel
theorem dX7_spill_2 : decode cX7_spill 2 = .ok (.invokevirtual 125, 3) := by decide +kernel
theorem dX7_spill_5 : decode cX7_spill 5 = .ok (.ifCond .ne 6, 3) := by decide +kernel
theorem dX7_spill_8 : decode cX7_spill 8 = .ok (.bipush (-2), 2) := by decide +kernel
theorem dX7_spill_10 : decode cX7_spill 10 = .ok (.ireturn, 1) := by decide +kernel
theorem dX7_spill_11 : decode cX7_spill 11 = .ok (.iload_n 2, 1) := by decide +kernel
theorem dX7_spill_12 : decode cX7_spill 12 = .ok (.ifCond .lt 9, 3) := by decide +kernel
theorem dX7_spill_15 : decode cX7_spill 15 = .ok (.iload_n 2, 1) := by decide +kernel
theorem dX7_spill_16 : decode cX7_spill 16 = .ok (.bipush 99, 2) := by decide +kernel
theorem dX7_spill_18 : decode cX7_spill 18 = .ok (.if_icmp .le 6, 3) := by decide +kernel
theorem dX7_spill_21 : decode cX7_spill 21 = .ok (.bipush (-3), 2) := by decide +kernel
theorem dX7_spill_23 : decode cX7_spill 23 = .ok (.ireturn, 1) := by decide +kernel
theorem dX7_spill_24 : decode cX7_spill 24 = .ok (.aload_n 0, 1) := by decide +kernel
theorem dX7_spill_25 : decode cX7_spill 25 = .ok (.getfield 35, 3) := by decide +kernel
theorem dX7_spill_28 : decode cX7_spill 28 = .ok (.getfield 134, 3) := by decide +kernel
theorem dX7_spill_31 : decode cX7_spill 31 = .ok (.iload_n 1, 1) := by decide +kernel
theorem dX7_spill_32 : decode cX7_spill 32 = .ok (.iaload, 1) := by decide +kernel
theorem dX7_spill_33 : decode cX7_spill 33 = .ok (.istore_n 3, 1) := by decide +kernel
theorem dX7_spill_34 : decode cX7_spill 34 = .ok (.aload_n 0, 1) := by decide +kernel
theorem dX7_spill_35 : decode cX7_spill 35 = .ok (.getfield 35, 3) := by decide +kernel
theorem dX7_spill_38 : decode cX7_spill 38 = .ok (.getfield 134, 3) := by decide +kernel
theorem dX7_spill_41 : decode cX7_spill 41 = .ok (.iload_n 1, 1) := by decide +kernel
theorem dX7_spill_42 : decode cX7_spill 42 = .ok (.iload_n 2, 1) := by decide +kernel
theorem dX7_spill_43 : decode cX7_spill 43 = .ok (.iastore, 1) := by decide +kernel
theorem dX7_spill_44 : decode cX7_spill 44 = .ok (.iload_n 3, 1) := by decide +kernel
theorem dX7_spill_45 : decode cX7_spill 45 = .ok (.ireturn, 1) := by decide +kernel
theorem dX7_stamp_0 : decode cX7_stamp 0 = .ok (.aload_n 0, 1) := by decide +kernel
theorem dX7_stamp_1 : decode cX7_stamp 1 = .ok (.iload_n 1, 1) := by decide +kernel
theorem dX7_stamp_2 : decode cX7_stamp 2 = .ok (.invokevirtual 137, 3) := by decide +kernel
theorem dX7_stamp_5 : decode cX7_stamp 5 = .ok (.ifCond .ne 6, 3) := by decide +kernel
theorem dX7_stamp_8 : decode cX7_stamp 8 = .ok (.bipush (-2), 2) := by decide +kernel
theorem dX7_stamp_10 : decode cX7_stamp 10 = .ok (.ireturn, 1) := by decide +kernel
theorem dX7_stamp_11 : decode cX7_stamp 11 = .ok (.iload_n 2, 1) := by decide +kernel
theorem dX7_stamp_12 : decode cX7_stamp 12 = .ok (.ifCond .lt 9, 3) := by decide +kernel
theorem dX7_stamp_15 : decode cX7_stamp 15 = .ok (.iload_n 2, 1) := by decide +kernel
theorem dX7_stamp_16 : decode cX7_stamp 16 = .ok (.bipush 9, 2) := by decide +kernel
theorem dX7_stamp_18 : decode cX7_stamp 18 = .ok (.if_icmp .le 6, 3) := by decide +kernel
theorem dX7_stamp_21 : decode cX7_stamp 21 = .ok (.bipush (-3), 2) := by decide +kernel
theorem dX7_stamp_23 : decode cX7_stamp 23 = .ok (.ireturn, 1) := by decide +kernel
theorem dX7_stamp_24 : decode cX7_stamp 24 = .ok (.aload_n 0, 1) := by decide +kernel
theorem dX7_stamp_25 : decode cX7_stamp 25 = .ok (.getfield 35, 3) := by decide +kernel
theorem dX7_stamp_28 : decode cX7_stamp 28 = .ok (.iload_n 1, 1) := by decide +kernel
theorem dX7_stamp_29 : decode cX7_stamp 29 = .ok (.invokevirtual 176, 3) := by decide +kernel
theorem dX7_stamp_32 : decode cX7_stamp 32 = .ok (.ifCond .eq 6, 3) := by decide +kernel
theorem dX7_stamp_35 : decode cX7_stamp 35 = .ok (.bipush (-4), 2) := by decide +kernel
theorem dX7_stamp_37 : decode cX7_stamp 37 = .ok (.ireturn, 1) := by decide +kernel
theorem dX7_stamp_38 : decode cX7_stamp 38 = .ok (.aload_n 0, 1) := by decide +kernel
theorem dX7_stamp_39 : decode cX7_stamp 39 = .ok (.getfield 35, 3) := by decide +kernel
theorem dX7_stamp_42 : decode cX7_stamp 42 = .ok (.getfield 146, 3) := by decide +kernel
theorem dX7_stamp_45 : decode cX7_stamp 45 = .ok (.iload_n 1, 1) := by decide +kernel
theorem dX7_stamp_46 : decode cX7_stamp 46 = .ok (.iaload, 1) := by decide +kernel
theorem dX7_stamp_47 : decode cX7_stamp 47 = .ok (.istore_n 3, 1) := by decide +kernel
theorem dX7_stamp_48 : decode cX7_stamp 48 = .ok (.aload_n 0, 1) := by decide +kernel
theorem dX7_stamp_49 : decode cX7_stamp 49 = .ok (.getfield 35, 3) := by decide +kernel
theorem dX7_stamp_52 : decode cX7_stamp 52 = .ok (.getfield 146, 3) := by decide +kernel
theorem dX7_stamp_55 : decode cX7_stamp 55 = .ok (.iload_n 1, 1) := by decide +kernel
theorem dX7_stamp_56 : decode cX7_stamp 56 = .ok (.iload_n 2, 1) := by decide +kernel
theorem dX7_stamp_57 : decode cX7_stamp 57 = .ok (.iastore, 1) := by decide +kernel
theorem dX7_stamp_58 : decode cX7_stamp 58 = .ok (.iload_n 3, 1) := by decide +kernel
theorem dX7_stamp_59 : decode cX7_stamp 59 = .ok (.ireturn, 1) := by decide +kernel
theorem dX7_rain_0 : decode cX7_rain 0 = .ok (.aload_n 0, 1) := by decide +kernel
theorem dX7_rain_1 : decode cX7_rain 1 = .ok (.getfield 35, 3) := by decide +kernel
theorem dX7_rain_4 : decode cX7_rain 4 = .ok (.aload_n 0, 1) := by decide +kernel
theorem dX7_rain_5 : decode cX7_rain 5 = .ok (.getfield 19, 3) := by decide +kernel
theorem dX7_rain_8 : decode cX7_rain 8 = .ok (.getfield 179, 3) := by decide +kernel
theorem dX7_rain_11 : decode cX7_rain 11 = .ok (.invokevirtual 182, 3) := by decide +kernel
theorem dX7_rain_14 : decode cX7_rain 14 = .ok (.ireturn, 1) := by decide +kernel
theorem dX7_sit_0 : decode cX7_sit 0 = .ok (.iload_n 1, 1) := by decide +kernel
theorem dX7_sit_1 : decode cX7_sit 1 = .ok (.iconst (-1), 1) := by decide +kernel
theorem dX7_sit_2 : decode cX7_sit 2 = .ok (.if_icmp .eq 14, 3) := by decide +kernel
theorem dX7_sit_5 : decode cX7_sit 5 = .ok (.aload_n 0, 1) := by decide +kernel
theorem dX7_sit_6 : decode cX7_sit 6 = .ok (.iload_n 1, 1) := by decide +kernel
theorem dX7_sit_7 : decode cX7_sit 7 = .ok (.invokevirtual 106, 3) := by decide +kernel
theorem dX7_sit_10 : decode cX7_sit 10 = .ok (.ifCond .ne 6, 3) := by decide +kernel
theorem dX7_sit_13 : decode cX7_sit 13 = .ok (.bipush (-2), 2) := by decide +kernel
theorem dX7_sit_15 : decode cX7_sit 15 = .ok (.ireturn, 1) := by decide +kernel
theorem dX7_sit_16 : decode cX7_sit 16 = .ok (.aload_n 0, 1) := by decide +kernel
theorem dX7_sit_17 : decode cX7_sit 17 = .ok (.getfield 35, 3) := by decide +kernel
theorem dX7_sit_20 : decode cX7_sit 20 = .ok (.getfield 185, 3) := by decide +kernel
theorem dX7_sit_23 : decode cX7_sit 23 = .ok (.istore_n 2, 1) := by decide +kernel
theorem dX7_sit_24 : decode cX7_sit 24 = .ok (.aload_n 0, 1) := by decide +kernel
theorem dX7_sit_25 : decode cX7_sit 25 = .ok (.getfield 35, 3) := by decide +kernel
theorem dX7_sit_28 : decode cX7_sit 28 = .ok (.iload_n 1, 1) := by decide +kernel
theorem dX7_sit_29 : decode cX7_sit 29 = .ok (.putfield 185, 3) := by decide +kernel
theorem dX7_sit_32 : decode cX7_sit 32 = .ok (.iload_n 2, 1) := by decide +kernel
theorem dX7_sit_33 : decode cX7_sit 33 = .ok (.ireturn, 1) := by decide +kernel
theorem dX7_keep_0 : decode cX7_keep 0 = .ok (.iload_n 1, 1) := by decide +kernel
theorem dX7_keep_1 : decode cX7_keep 1 = .ok (.ifCond .lt 8, 3) := by decide +kernel
theorem dX7_keep_4 : decode cX7_keep 4 = .ok (.iload_n 1, 1) := by decide +kernel
theorem dX7_keep_5 : decode cX7_keep 5 = .ok (.iconst 2, 1) := by decide +kernel
theorem dX7_keep_6 : decode cX7_keep 6 = .ok (.if_icmp .lt 6, 3) := by decide +kernel
theorem dX7_keep_9 : decode cX7_keep 9 = .ok (.bipush (-2), 2) := by decide +kernel
theorem dX7_keep_11 : decode cX7_keep 11 = .ok (.ireturn, 1) := by decide +kernel
theorem dX7_keep_12 : decode cX7_keep 12 = .ok (.aload_n 0, 1) := by decide +kernel
theorem dX7_keep_13 : decode cX7_keep 13 = .ok (.getfield 43, 3) := by decide +kernel
theorem dX7_keep_16 : decode cX7_keep 16 = .ok (.iload_n 1, 1) := by decide +kernel
theorem dX7_keep_17 : decode cX7_keep 17 = .ok (.aaload, 1) := by decide +kernel
theorem dX7_keep_18 : decode cX7_keep 18 = .ok (.aload_n 0, 1) := by decide +kernel
theorem dX7_keep_19 : decode cX7_keep 19 = .ok (.getfield 35, 3) := by decide +kernel
theorem dX7_keep_22 : decode cX7_keep 22 = .ok (.invokevirtual 188, 3) := by decide +kernel
theorem dX7_keep_25 : decode cX7_keep 25 = .ok (.aload_n 0, 1) := by decide +kernel
theorem dX7_keep_26 : decode cX7_keep 26 = .ok (.getfield 47, 3) := by decide +kernel
theorem dX7_keep_29 : decode cX7_keep 29 = .ok (.iload_n 1, 1) := by decide +kernel
theorem dX7_keep_30 : decode cX7_keep 30 = .ok (.iconst 1, 1) := by decide +kernel
theorem dX7_keep_31 : decode cX7_keep 31 = .ok (.bastore, 1) := by decide +kernel
theorem dX7_keep_32 : decode cX7_keep 32 = .ok (.aload_n 0, 1) := by decide +kernel
theorem dX7_keep_33 : decode cX7_keep 33 = .ok (.getfield 35, 3) := by decide +kernel
theorem dX7_keep_36 : decode cX7_keep 36 = .ok (.getfield 162, 3) := by decide +kernel
theorem dX7_keep_39 : decode cX7_keep 39 = .ok (.ireturn, 1) := by decide +kernel
theorem dX7_back_0 : decode cX7_back 0 = .ok (.iload_n 1, 1) := by decide +kernel
theorem dX7_back_1 : decode cX7_back 1 = .ok (.ifCond .lt 8, 3) := by decide +kernel
theorem dX7_back_4 : decode cX7_back 4 = .ok (.iload_n 1, 1) := by decide +kernel
theorem dX7_back_5 : decode cX7_back 5 = .ok (.iconst 2, 1) := by decide +kernel
theorem dX7_back_6 : decode cX7_back 6 = .ok (.if_icmp .lt 6, 3) := by decide +kernel
theorem dX7_back_9 : decode cX7_back 9 = .ok (.bipush (-2), 2) := by decide +kernel
theorem dX7_back_11 : decode cX7_back 11 = .ok (.ireturn, 1) := by decide +kernel
theorem dX7_back_12 : decode cX7_back 12 = .ok (.aload_n 0, 1) := by decide +kernel
theorem dX7_back_13 : decode cX7_back 13 = .ok (.getfield 47, 3) := by decide +kernel
theorem dX7_back_16 : decode cX7_back 16 = .ok (.iload_n 1, 1) := by decide +kernel
theorem dX7_back_17 : decode cX7_back 17 = .ok (.baload, 1) := by decide +kernel
theorem dX7_back_18 : decode cX7_back 18 = .ok (.ifCond .ne 6, 3) := by decide +kernel
theorem dX7_back_21 : decode cX7_back 21 = .ok (.bipush (-4), 2) := by decide +kernel
theorem dX7_back_23 : decode cX7_back 23 = .ok (.ireturn, 1) := by decide +kernel
theorem dX7_back_24 : decode cX7_back 24 = .ok (.aload_n 0, 1) := by decide +kernel
theorem dX7_back_25 : decode cX7_back 25 = .ok (.getfield 35, 3) := by decide +kernel
theorem dX7_back_28 : decode cX7_back 28 = .ok (.aload_n 0, 1) := by decide +kernel
theorem dX7_back_29 : decode cX7_back 29 = .ok (.getfield 43, 3) := by decide +kernel
theorem dX7_back_32 : decode cX7_back 32 = .ok (.iload_n 1, 1) := by decide +kernel
theorem dX7_back_33 : decode cX7_back 33 = .ok (.aaload, 1) := by decide +kernel
theorem dX7_back_34 : decode cX7_back 34 = .ok (.invokevirtual 188, 3) := by decide +kernel
theorem dX7_back_37 : decode cX7_back 37 = .ok (.aload_n 0, 1) := by decide +kernel
theorem dX7_back_38 : decode cX7_back 38 = .ok (.getfield 35, 3) := by decide +kernel
theorem dX7_back_41 : decode cX7_back 41 = .ok (.getfield 162, 3) := by decide +kernel
theorem dX7_back_44 : decode cX7_back 44 = .ok (.ireturn, 1) := by decide +kernel
theorem dX7_later_0 : decode cX7_later 0 = .ok (.iload_n 3, 1) := by decide +kernel
theorem dX7_later_1 : decode cX7_later 1 = .ok (.ifCond .lt 8, 3) := by decide +kernel
theorem dX7_later_4 : decode cX7_later 4 = .ok (.iload_n 3, 1) := by decide +kernel
theorem dX7_later_5 : decode cX7_later 5 = .ok (.iconst 2, 1) := by decide +kernel
theorem dX7_later_6 : decode cX7_later 6 = .ok (.if_icmp .le 6, 3) := by decide +kernel
theorem dX7_later_9 : decode cX7_later 9 = .ok (.bipush (-3), 2) := by decide +kernel
theorem dX7_later_11 : decode cX7_later 11 = .ok (.ireturn, 1) := by decide +kernel
theorem dX7_later_12 : decode cX7_later 12 = .ok (.iload_n 3, 1) := by decide +kernel
theorem dX7_later_13 : decode cX7_later 13 = .ok (.iconst 2, 1) := by decide +kernel
theorem dX7_later_14 : decode cX7_later 14 = .ok (.if_icmp .ne 14, 3) := by decide +kernel
theorem dX7_later_17 : decode cX7_later 17 = .ok (.aload_n 0, 1) := by decide +kernel
theorem dX7_later_18 : decode cX7_later 18 = .ok (.iload_n 1, 1) := by decide +kernel
theorem dX7_later_19 : decode cX7_later 19 = .ok (.invokevirtual 125, 3) := by decide +kernel
theorem dX7_later_22 : decode cX7_later 22 = .ok (.ifCond .ne 17, 3) := by decide +kernel
theorem dX7_later_25 : decode cX7_later 25 = .ok (.goto 11, 3) := by decide +kernel
theorem dX7_later_28 : decode cX7_later 28 = .ok (.aload_n 0, 1) := by decide +kernel
theorem dX7_later_29 : decode cX7_later 29 = .ok (.iload_n 1, 1) := by decide +kernel
theorem dX7_later_30 : decode cX7_later 30 = .ok (.invokevirtual 137, 3) := by decide +kernel
theorem dX7_later_33 : decode cX7_later 33 = .ok (.ifCond .ne 6, 3) := by decide +kernel
theorem dX7_later_36 : decode cX7_later 36 = .ok (.bipush (-2), 2) := by decide +kernel
theorem dX7_later_38 : decode cX7_later 38 = .ok (.ireturn, 1) := by decide +kernel
theorem dX7_later_39 : decode cX7_later 39 = .ok (.iload_n 2, 1) := by decide +kernel
theorem dX7_later_40 : decode cX7_later 40 = .ok (.ifCond .lt 9, 3) := by decide +kernel
theorem dX7_later_43 : decode cX7_later 43 = .ok (.iload_n 2, 1) := by decide +kernel
theorem dX7_later_44 : decode cX7_later 44 = .ok (.bipush 99, 2) := by decide +kernel
theorem dX7_later_46 : decode cX7_later 46 = .ok (.if_icmp .le 6, 3) := by decide +kernel
theorem dX7_later_49 : decode cX7_later 49 = .ok (.bipush (-3), 2) := by decide +kernel
theorem dX7_later_51 : decode cX7_later 51 = .ok (.ireturn, 1) := by decide +kernel
theorem dX7_later_52 : decode cX7_later 52 = .ok (.aload_n 0, 1) := by decide +kernel
theorem dX7_later_53 : decode cX7_later 53 = .ok (.getfield 56, 3) := by decide +kernel
theorem dX7_later_56 : decode cX7_later 56 = .ok (.iload_n 2, 1) := by decide +kernel
theorem dX7_later_57 : decode cX7_later 57 = .ok (.invokevirtual 191, 3) := by decide +kernel
theorem dX7_later_60 : decode cX7_later 60 = .ok (.astore 4, 2) := by decide +kernel
theorem dX7_later_62 : decode cX7_later 62 = .ok (.iload_n 3, 1) := by decide +kernel
theorem dX7_later_63 : decode cX7_later 63 = .ok (.iconst 2, 1) := by decide +kernel
theorem dX7_later_64 : decode cX7_later 64 = .ok (.if_icmp .ne 11, 3) := by decide +kernel
theorem dX7_later_67 : decode cX7_later 67 = .ok (.aload 4, 2) := by decide +kernel
theorem dX7_later_69 : decode cX7_later 69 = .ok (.getfield 134, 3) := by decide +kernel
theorem dX7_later_72 : decode cX7_later 72 = .ok (.iload_n 1, 1) := by decide +kernel
theorem dX7_later_73 : decode cX7_later 73 = .ok (.iaload, 1) := by decide +kernel
theorem dX7_later_74 : decode cX7_later 74 = .ok (.ireturn, 1) := by decide +kernel
theorem dX7_later_75 : decode cX7_later 75 = .ok (.iload_n 3, 1) := by decide +kernel
theorem dX7_later_76 : decode cX7_later 76 = .ok (.iconst 1, 1) := by decide +kernel
theorem dX7_later_77 : decode cX7_later 77 = .ok (.if_icmp .ne 13, 3) := by decide +kernel
theorem dX7_later_80 : decode cX7_later 80 = .ok (.aload 4, 2) := by decide +kernel
theorem dX7_later_82 : decode cX7_later 82 = .ok (.getfield 146, 3) := by decide +kernel
theorem dX7_later_85 : decode cX7_later 85 = .ok (.iload_n 1, 1) := by decide +kernel
theorem dX7_later_86 : decode cX7_later 86 = .ok (.iaload, 1) := by decide +kernel
theorem dX7_later_87 : decode cX7_later 87 = .ok (.goto 10, 3) := by decide +kernel
theorem dX7_later_90 : decode cX7_later 90 = .ok (.aload 4, 2) := by decide +kernel
theorem dX7_later_92 : decode cX7_later 92 = .ok (.getfield 140, 3) := by decide +kernel
theorem dX7_later_95 : decode cX7_later 95 = .ok (.iload_n 1, 1) := by decide +kernel
theorem dX7_later_96 : decode cX7_later 96 = .ok (.iaload, 1) := by decide +kernel
theorem dX7_later_97 : decode cX7_later 97 = .ok (.ireturn, 1) := by decide +kernel
theorem dX7_filed_0 : decode cX7_filed 0 = .ok (.aload_n 0, 1) := by decide +kernel
theorem dX7_filed_1 : decode cX7_filed 1 = .ok (.iload_n 1, 1) := by decide +kernel
theorem dX7_filed_2 : decode cX7_filed 2 = .ok (.invokevirtual 137, 3) := by decide +kernel
theorem dX7_filed_5 : decode cX7_filed 5 = .ok (.ifCond .ne 6, 3) := by decide +kernel
theorem dX7_filed_8 : decode cX7_filed 8 = .ok (.bipush (-2), 2) := by decide +kernel
theorem dX7_filed_10 : decode cX7_filed 10 = .ok (.ireturn, 1) := by decide +kernel
theorem dX7_filed_11 : decode cX7_filed 11 = .ok (.aload_n 0, 1) := by decide +kernel
theorem dX7_filed_12 : decode cX7_filed 12 = .ok (.getfield 56, 3) := by decide +kernel
theorem dX7_filed_15 : decode cX7_filed 15 = .ok (.iload_n 1, 1) := by decide +kernel
theorem dX7_filed_16 : decode cX7_filed 16 = .ok (.invokevirtual 195, 3) := by decide +kernel
theorem dX7_filed_19 : decode cX7_filed 19 = .ok (.ireturn, 1) := by decide +kernel
theorem dX7_queue_0 : decode cX7_queue 0 = .ok (.aload_n 0, 1) := by decide +kernel
theorem dX7_queue_1 : decode cX7_queue 1 = .ok (.iload_n 1, 1) := by decide +kernel
theorem dX7_queue_2 : decode cX7_queue 2 = .ok (.invokevirtual 106, 3) := by decide +kernel
theorem dX7_queue_5 : decode cX7_queue 5 = .ok (.ifCond .ne 6, 3) := by decide +kernel
theorem dX7_queue_8 : decode cX7_queue 8 = .ok (.bipush (-2), 2) := by decide +kernel
theorem dX7_queue_10 : decode cX7_queue 10 = .ok (.ireturn, 1) := by decide +kernel
theorem dX7_queue_11 : decode cX7_queue 11 = .ok (.iload_n 2, 1) := by decide +kernel
theorem dX7_queue_12 : decode cX7_queue 12 = .ok (.ifCond .lt 9, 3) := by decide +kernel
theorem dX7_queue_15 : decode cX7_queue 15 = .ok (.iload_n 2, 1) := by decide +kernel
theorem dX7_queue_16 : decode cX7_queue 16 = .ok (.bipush 99, 2) := by decide +kernel
theorem dX7_queue_18 : decode cX7_queue 18 = .ok (.if_icmp .le 6, 3) := by decide +kernel
theorem dX7_queue_21 : decode cX7_queue 21 = .ok (.bipush (-3), 2) := by decide +kernel
theorem dX7_queue_23 : decode cX7_queue 23 = .ok (.ireturn, 1) := by decide +kernel
theorem dX7_queue_24 : decode cX7_queue 24 = .ok (.aload_n 0, 1) := by decide +kernel
theorem dX7_queue_25 : decode cX7_queue 25 = .ok (.getfield 56, 3) := by decide +kernel
theorem dX7_queue_28 : decode cX7_queue 28 = .ok (.iload_n 2, 1) := by decide +kernel
theorem dX7_queue_29 : decode cX7_queue 29 = .ok (.invokevirtual 191, 3) := by decide +kernel
theorem dX7_queue_32 : decode cX7_queue 32 = .ok (.astore_n 3, 1) := by decide +kernel
theorem dX7_queue_33 : decode cX7_queue 33 = .ok (.aload_n 3, 1) := by decide +kernel
theorem dX7_queue_34 : decode cX7_queue 34 = .ok (.iload_n 1, 1) := by decide +kernel
theorem dX7_queue_35 : decode cX7_queue 35 = .ok (.aload_n 0, 1) := by decide +kernel
theorem dX7_queue_36 : decode cX7_queue 36 = .ok (.getfield 19, 3) := by decide +kernel
theorem dX7_queue_39 : decode cX7_queue 39 = .ok (.getfield 114, 3) := by decide +kernel
theorem dX7_queue_42 : decode cX7_queue 42 = .ok (.invokevirtual 117, 3) := by decide +kernel
theorem dX7_queue_45 : decode cX7_queue 45 = .ok (.aload_n 3, 1) := by decide +kernel
theorem dX7_queue_46 : decode cX7_queue 46 = .ok (.getfield 198, 3) := by decide +kernel
theorem dX7_queue_49 : decode cX7_queue 49 = .ok (.iconst (-1), 1) := by decide +kernel
theorem dX7_queue_50 : decode cX7_queue 50 = .ok (.ixor, 1) := by decide +kernel
theorem dX7_queue_51 : decode cX7_queue 51 = .ok (.iand, 1) := by decide +kernel
theorem dX7_queue_52 : decode cX7_queue 52 = .ok (.invokestatic 201, 3) := by decide +kernel
theorem dX7_queue_55 : decode cX7_queue 55 = .ok (.ireturn, 1) := by decide +kernel
theorem dX7_honey_0 : decode cX7_honey 0 = .ok (.iload_n 1, 1) := by decide +kernel
theorem dX7_honey_1 : decode cX7_honey 1 = .ok (.ifCond .lt 15, 3) := by decide +kernel
theorem dX7_honey_4 : decode cX7_honey 4 = .ok (.iload_n 1, 1) := by decide +kernel
theorem dX7_honey_5 : decode cX7_honey 5 = .ok (.aload_n 0, 1) := by decide +kernel
theorem dX7_honey_6 : decode cX7_honey 6 = .ok (.getfield 19, 3) := by decide +kernel
theorem dX7_honey_9 : decode cX7_honey 9 = .ok (.getfield 114, 3) := by decide +kernel
theorem dX7_honey_12 : decode cX7_honey 12 = .ok (.ishr, 1) := by decide +kernel
theorem dX7_honey_13 : decode cX7_honey 13 = .ok (.ifCond .eq 6, 3) := by decide +kernel
theorem dX7_honey_16 : decode cX7_honey 16 = .ok (.bipush (-2), 2) := by decide +kernel
theorem dX7_honey_18 : decode cX7_honey 18 = .ok (.ireturn, 1) := by decide +kernel
theorem dX7_honey_19 : decode cX7_honey 19 = .ok (.iload_n 2, 1) := by decide +kernel
theorem dX7_honey_20 : decode cX7_honey 20 = .ok (.iconst 1, 1) := by decide +kernel
theorem dX7_honey_21 : decode cX7_honey 21 = .ok (.if_icmp .lt 14, 3) := by decide +kernel
theorem dX7_honey_24 : decode cX7_honey 24 = .ok (.iload_n 2, 1) := by decide +kernel
theorem dX7_honey_25 : decode cX7_honey 25 = .ok (.bipush 60, 2) := by decide +kernel
theorem dX7_honey_27 : decode cX7_honey 27 = .ok (.if_icmp .gt 8, 3) := by decide +kernel
theorem dX7_honey_30 : decode cX7_honey 30 = .ok (.iload_n 3, 1) := by decide +kernel
theorem dX7_honey_31 : decode cX7_honey 31 = .ok (.iconst (-1), 1) := by decide +kernel
theorem dX7_honey_32 : decode cX7_honey 32 = .ok (.if_icmp .ge 6, 3) := by decide +kernel
theorem dX7_honey_35 : decode cX7_honey 35 = .ok (.bipush (-3), 2) := by decide +kernel
theorem dX7_honey_37 : decode cX7_honey 37 = .ok (.ireturn, 1) := by decide +kernel
theorem dX7_honey_38 : decode cX7_honey 38 = .ok (.iload_n 1, 1) := by decide +kernel
theorem dX7_honey_39 : decode cX7_honey 39 = .ok (.invokestatic 201, 3) := by decide +kernel
theorem dX7_honey_42 : decode cX7_honey 42 = .ok (.istore 4, 2) := by decide +kernel
theorem dX7_honey_44 : decode cX7_honey 44 = .ok (.iload 4, 2) := by decide +kernel
theorem dX7_honey_46 : decode cX7_honey 46 = .ok (.iconst 4, 1) := by decide +kernel
theorem dX7_honey_47 : decode cX7_honey 47 = .ok (.if_icmp .gt 15, 3) := by decide +kernel
theorem dX7_honey_50 : decode cX7_honey 50 = .ok (.iload_n 1, 1) := by decide +kernel
theorem dX7_honey_51 : decode cX7_honey 51 = .ok (.aload_n 0, 1) := by decide +kernel
theorem dX7_honey_52 : decode cX7_honey 52 = .ok (.getfield 35, 3) := by decide +kernel
theorem dX7_honey_55 : decode cX7_honey 55 = .ok (.getfield 198, 3) := by decide +kernel
theorem dX7_honey_58 : decode cX7_honey 58 = .ok (.iand, 1) := by decide +kernel
theorem dX7_honey_59 : decode cX7_honey 59 = .ok (.ifCond .eq 6, 3) := by decide +kernel
theorem dX7_honey_62 : decode cX7_honey 62 = .ok (.bipush (-4), 2) := by decide +kernel
theorem dX7_honey_64 : decode cX7_honey 64 = .ok (.ireturn, 1) := by decide +kernel
theorem dX7_honey_65 : decode cX7_honey 65 = .ok (.iload_n 3, 1) := by decide +kernel
theorem dX7_honey_66 : decode cX7_honey 66 = .ok (.iload 4, 2) := by decide +kernel
theorem dX7_honey_68 : decode cX7_honey 68 = .ok (.if_icmp .lt 5, 3) := by decide +kernel
theorem dX7_honey_71 : decode cX7_honey 71 = .ok (.iconst (-1), 1) := by decide +kernel
theorem dX7_honey_72 : decode cX7_honey 72 = .ok (.ireturn, 1) := by decide +kernel
theorem dX7_honey_73 : decode cX7_honey 73 = .ok (.aload_n 0, 1) := by decide +kernel
theorem dX7_honey_74 : decode cX7_honey 74 = .ok (.getfield 56, 3) := by decide +kernel
theorem dX7_honey_77 : decode cX7_honey 77 = .ok (.iload_n 1, 1) := by decide +kernel
theorem dX7_honey_78 : decode cX7_honey 78 = .ok (.iload_n 2, 1) := by decide +kernel
theorem dX7_honey_79 : decode cX7_honey 79 = .ok (.invokevirtual 206, 3) := by decide +kernel
theorem dX7_honey_82 : decode cX7_honey 82 = .ok (.istore 5, 2) := by decide +kernel
theorem dX7_honey_84 : decode cX7_honey 84 = .ok (.iload 5, 2) := by decide +kernel
theorem dX7_honey_86 : decode cX7_honey 86 = .ok (.iconst (-1), 1) := by decide +kernel
theorem dX7_honey_87 : decode cX7_honey 87 = .ok (.if_icmp .eq 8, 3) := by decide +kernel
theorem dX7_honey_90 : decode cX7_honey 90 = .ok (.iload_n 3, 1) := by decide +kernel
theorem dX7_honey_91 : decode cX7_honey 91 = .ok (.iconst (-1), 1) := by decide +kernel
theorem dX7_honey_92 : decode cX7_honey 92 = .ok (.if_icmp .ne 8, 3) := by decide +kernel
theorem dX7_honey_95 : decode cX7_honey 95 = .ok (.iload 5, 2) := by decide +kernel
theorem dX7_honey_97 : decode cX7_honey 97 = .ok (.goto 12, 3) := by decide +kernel
theorem dX7_honey_100 : decode cX7_honey 100 = .ok (.aload_n 0, 1) := by decide +kernel
theorem dX7_honey_101 : decode cX7_honey 101 = .ok (.getfield 56, 3) := by decide +kernel
theorem dX7_honey_104 : decode cX7_honey 104 = .ok (.getfield 209, 3) := by decide +kernel
theorem dX7_honey_107 : decode cX7_honey 107 = .ok (.iload_n 3, 1) := by decide +kernel
theorem dX7_honey_108 : decode cX7_honey 108 = .ok (.iaload, 1) := by decide +kernel
theorem dX7_honey_109 : decode cX7_honey 109 = .ok (.ireturn, 1) := by decide +kernel
theorem dX7_smear_0 : decode cX7_smear 0 = .ok (.aload_n 0, 1) := by decide +kernel
theorem dX7_smear_1 : decode cX7_smear 1 = .ok (.iload_n 1, 1) := by decide +kernel
theorem dX7_smear_2 : decode cX7_smear 2 = .ok (.invokevirtual 137, 3) := by decide +kernel
theorem dX7_smear_5 : decode cX7_smear 5 = .ok (.ifCond .ne 6, 3) := by decide +kernel
theorem dX7_smear_8 : decode cX7_smear 8 = .ok (.bipush (-2), 2) := by decide +kernel
theorem dX7_smear_10 : decode cX7_smear 10 = .ok (.ireturn, 1) := by decide +kernel
theorem dX7_smear_11 : decode cX7_smear 11 = .ok (.iload_n 2, 1) := by decide +kernel
theorem dX7_smear_12 : decode cX7_smear 12 = .ok (.iconst 1, 1) := by decide +kernel
theorem dX7_smear_13 : decode cX7_smear 13 = .ok (.if_icmp .lt 18, 3) := by decide +kernel
theorem dX7_smear_16 : decode cX7_smear 16 = .ok (.iload_n 2, 1) := by decide +kernel
theorem dX7_smear_17 : decode cX7_smear 17 = .ok (.bipush 99, 2) := by decide +kernel
theorem dX7_smear_19 : decode cX7_smear 19 = .ok (.if_icmp .gt 12, 3) := by decide +kernel
theorem dX7_smear_22 : decode cX7_smear 22 = .ok (.iload_n 3, 1) := by decide +kernel
theorem dX7_smear_23 : decode cX7_smear 23 = .ok (.ifCond .lt 8, 3) := by decide +kernel
theorem dX7_smear_26 : decode cX7_smear 26 = .ok (.iload_n 3, 1) := by decide +kernel
theorem dX7_smear_27 : decode cX7_smear 27 = .ok (.iconst 2, 1) := by decide +kernel
theorem dX7_smear_28 : decode cX7_smear 28 = .ok (.if_icmp .le 6, 3) := by decide +kernel
theorem dX7_smear_31 : decode cX7_smear 31 = .ok (.bipush (-3), 2) := by decide +kernel
theorem dX7_smear_33 : decode cX7_smear 33 = .ok (.ireturn, 1) := by decide +kernel
theorem dX7_smear_34 : decode cX7_smear 34 = .ok (.aload_n 0, 1) := by decide +kernel
theorem dX7_smear_35 : decode cX7_smear 35 = .ok (.getfield 35, 3) := by decide +kernel
theorem dX7_smear_38 : decode cX7_smear 38 = .ok (.iload_n 1, 1) := by decide +kernel
theorem dX7_smear_39 : decode cX7_smear 39 = .ok (.invokevirtual 176, 3) := by decide +kernel
theorem dX7_smear_42 : decode cX7_smear 42 = .ok (.ifCond .eq 6, 3) := by decide +kernel
theorem dX7_smear_45 : decode cX7_smear 45 = .ok (.bipush (-4), 2) := by decide +kernel
theorem dX7_smear_47 : decode cX7_smear 47 = .ok (.ireturn, 1) := by decide +kernel
theorem dX7_smear_48 : decode cX7_smear 48 = .ok (.aload_n 0, 1) := by decide +kernel
theorem dX7_smear_49 : decode cX7_smear 49 = .ok (.getfield 56, 3) := by decide +kernel
theorem dX7_smear_52 : decode cX7_smear 52 = .ok (.iload_n 1, 1) := by decide +kernel
theorem dX7_smear_53 : decode cX7_smear 53 = .ok (.iload_n 2, 1) := by decide +kernel
theorem dX7_smear_54 : decode cX7_smear 54 = .ok (.invokevirtual 212, 3) := by decide +kernel
theorem dX7_smear_57 : decode cX7_smear 57 = .ok (.aload_n 0, 1) := by decide +kernel
theorem dX7_smear_58 : decode cX7_smear 58 = .ok (.getfield 56, 3) := by decide +kernel
theorem dX7_smear_61 : decode cX7_smear 61 = .ok (.getfield 216, 3) := by decide +kernel
theorem dX7_smear_64 : decode cX7_smear 64 = .ok (.iload_n 3, 1) := by decide +kernel
theorem dX7_smear_65 : decode cX7_smear 65 = .ok (.iaload, 1) := by decide +kernel
theorem dX7_smear_66 : decode cX7_smear 66 = .ok (.ireturn, 1) := by decide +kernel
theorem dX7_quiet_0 : decode cX7_quiet 0 = .ok (.aload_n 0, 1) := by decide +kernel
theorem dX7_quiet_1 : decode cX7_quiet 1 = .ok (.iload_n 1, 1) := by decide +kernel
theorem dX7_quiet_2 : decode cX7_quiet 2 = .ok (.invokevirtual 106, 3) := by decide +kernel
theorem dX7_quiet_5 : decode cX7_quiet 5 = .ok (.ifCond .eq 11, 3) := by decide +kernel
theorem dX7_quiet_8 : decode cX7_quiet 8 = .ok (.aload_n 0, 1) := by decide +kernel
theorem dX7_quiet_9 : decode cX7_quiet 9 = .ok (.iload_n 2, 1) := by decide +kernel
theorem dX7_quiet_10 : decode cX7_quiet 10 = .ok (.invokevirtual 106, 3) := by decide +kernel
theorem dX7_quiet_13 : decode cX7_quiet 13 = .ok (.ifCond .ne 6, 3) := by decide +kernel
theorem dX7_quiet_16 : decode cX7_quiet 16 = .ok (.bipush (-2), 2) := by decide +kernel
theorem dX7_quiet_18 : decode cX7_quiet 18 = .ok (.ireturn, 1) := by decide +kernel
theorem dX7_quiet_19 : decode cX7_quiet 19 = .ok (.aload_n 0, 1) := by decide +kernel
theorem dX7_quiet_20 : decode cX7_quiet 20 = .ok (.getfield 56, 3) := by decide +kernel
theorem dX7_quiet_23 : decode cX7_quiet 23 = .ok (.iload_n 1, 1) := by decide +kernel
theorem dX7_quiet_24 : decode cX7_quiet 24 = .ok (.iload_n 2, 1) := by decide +kernel
theorem dX7_quiet_25 : decode cX7_quiet 25 = .ok (.iconst 1, 1) := by decide +kernel
theorem dX7_quiet_26 : decode cX7_quiet 26 = .ok (.invokevirtual 219, 3) := by decide +kernel
theorem dX7_quiet_29 : decode cX7_quiet 29 = .ok (.ireturn, 1) := by decide +kernel
theorem dX7_harm_0 : decode cX7_harm 0 = .ok (.aload_n 0, 1) := by decide +kernel
theorem dX7_harm_1 : decode cX7_harm 1 = .ok (.iload_n 1, 1) := by decide +kernel
theorem dX7_harm_2 : decode cX7_harm 2 = .ok (.invokevirtual 106, 3) := by decide +kernel
theorem dX7_harm_5 : decode cX7_harm 5 = .ok (.ifCond .ne 6, 3) := by decide +kernel
theorem dX7_harm_8 : decode cX7_harm 8 = .ok (.bipush (-2), 2) := by decide +kernel
theorem dX7_harm_10 : decode cX7_harm 10 = .ok (.ireturn, 1) := by decide +kernel
theorem dX7_harm_11 : decode cX7_harm 11 = .ok (.iload_n 2, 1) := by decide +kernel
theorem dX7_harm_12 : decode cX7_harm 12 = .ok (.iconst 1, 1) := by decide +kernel
theorem dX7_harm_13 : decode cX7_harm 13 = .ok (.if_icmp .lt 9, 3) := by decide +kernel
theorem dX7_harm_16 : decode cX7_harm 16 = .ok (.iload_n 2, 1) := by decide +kernel
theorem dX7_harm_17 : decode cX7_harm 17 = .ok (.bipush 99, 2) := by decide +kernel
theorem dX7_harm_19 : decode cX7_harm 19 = .ok (.if_icmp .le 6, 3) := by decide +kernel
theorem dX7_harm_22 : decode cX7_harm 22 = .ok (.bipush (-3), 2) := by decide +kernel
theorem dX7_harm_24 : decode cX7_harm 24 = .ok (.ireturn, 1) := by decide +kernel
theorem dX7_harm_25 : decode cX7_harm 25 = .ok (.aload_n 0, 1) := by decide +kernel
theorem dX7_harm_26 : decode cX7_harm 26 = .ok (.getfield 56, 3) := by decide +kernel
theorem dX7_harm_29 : decode cX7_harm 29 = .ok (.iconst (-1), 1) := by decide +kernel
theorem dX7_harm_30 : decode cX7_harm 30 = .ok (.iload_n 2, 1) := by decide +kernel
theorem dX7_harm_31 : decode cX7_harm 31 = .ok (.invokevirtual 223, 3) := by decide +kernel
theorem dX7_harm_34 : decode cX7_harm 34 = .ok (.aload_n 0, 1) := by decide +kernel
theorem dX7_harm_35 : decode cX7_harm 35 = .ok (.getfield 56, 3) := by decide +kernel
theorem dX7_harm_38 : decode cX7_harm 38 = .ok (.iload_n 1, 1) := by decide +kernel
theorem dX7_harm_39 : decode cX7_harm 39 = .ok (.iload_n 2, 1) := by decide +kernel
theorem dX7_harm_40 : decode cX7_harm 40 = .ok (.invokevirtual 223, 3) := by decide +kernel
theorem dX7_harm_43 : decode cX7_harm 43 = .ok (.isub, 1) := by decide +kernel
theorem dX7_harm_44 : decode cX7_harm 44 = .ok (.bipush 100, 2) := by decide +kernel
theorem dX7_harm_46 : decode cX7_harm 46 = .ok (.iadd, 1) := by decide +kernel
theorem dX7_harm_47 : decode cX7_harm 47 = .ok (.ireturn, 1) := by decide +kernel
theorem dX7_worst_0 : decode cX7_worst 0 = .ok (.iload_n 1, 1) := by decide +kernel
theorem dX7_worst_1 : decode cX7_worst 1 = .ok (.iconst 1, 1) := by decide +kernel
theorem dX7_worst_2 : decode cX7_worst 2 = .ok (.if_icmp .lt 9, 3) := by decide +kernel
theorem dX7_worst_5 : decode cX7_worst 5 = .ok (.iload_n 1, 1) := by decide +kernel
theorem dX7_worst_6 : decode cX7_worst 6 = .ok (.bipush 99, 2) := by decide +kernel
theorem dX7_worst_8 : decode cX7_worst 8 = .ok (.if_icmp .le 6, 3) := by decide +kernel
theorem dX7_worst_11 : decode cX7_worst 11 = .ok (.bipush (-3), 2) := by decide +kernel
theorem dX7_worst_13 : decode cX7_worst 13 = .ok (.ireturn, 1) := by decide +kernel
theorem dX7_worst_14 : decode cX7_worst 14 = .ok (.aload_n 0, 1) := by decide +kernel
theorem dX7_worst_15 : decode cX7_worst 15 = .ok (.getfield 56, 3) := by decide +kernel
theorem dX7_worst_18 : decode cX7_worst 18 = .ok (.iload_n 1, 1) := by decide +kernel
theorem dX7_worst_19 : decode cX7_worst 19 = .ok (.invokevirtual 226, 3) := by decide +kernel
theorem dX7_worst_22 : decode cX7_worst 22 = .ok (.ireturn, 1) := by decide +kernel
theorem dX7_seen_0 : decode cX7_seen 0 = .ok (.aload_n 0, 1) := by decide +kernel
theorem dX7_seen_1 : decode cX7_seen 1 = .ok (.iload_n 1, 1) := by decide +kernel
theorem dX7_seen_2 : decode cX7_seen 2 = .ok (.invokevirtual 137, 3) := by decide +kernel
theorem dX7_seen_5 : decode cX7_seen 5 = .ok (.ifCond .eq 11, 3) := by decide +kernel
theorem dX7_seen_8 : decode cX7_seen 8 = .ok (.aload_n 0, 1) := by decide +kernel
theorem dX7_seen_9 : decode cX7_seen 9 = .ok (.iload_n 2, 1) := by decide +kernel
theorem dX7_seen_10 : decode cX7_seen 10 = .ok (.invokevirtual 106, 3) := by decide +kernel
theorem dX7_seen_13 : decode cX7_seen 13 = .ok (.ifCond .ne 6, 3) := by decide +kernel
theorem dX7_seen_16 : decode cX7_seen 16 = .ok (.bipush (-2), 2) := by decide +kernel
theorem dX7_seen_18 : decode cX7_seen 18 = .ok (.ireturn, 1) := by decide +kernel
theorem dX7_seen_19 : decode cX7_seen 19 = .ok (.iload_n 3, 1) := by decide +kernel
theorem dX7_seen_20 : decode cX7_seen 20 = .ok (.ifCond .lt 9, 3) := by decide +kernel
theorem dX7_seen_23 : decode cX7_seen 23 = .ok (.iload_n 3, 1) := by decide +kernel
theorem dX7_seen_24 : decode cX7_seen 24 = .ok (.bipush 99, 2) := by decide +kernel
theorem dX7_seen_26 : decode cX7_seen 26 = .ok (.if_icmp .le 6, 3) := by decide +kernel
theorem dX7_seen_29 : decode cX7_seen 29 = .ok (.bipush (-3), 2) := by decide +kernel
theorem dX7_seen_31 : decode cX7_seen 31 = .ok (.ireturn, 1) := by decide +kernel
theorem dX7_seen_32 : decode cX7_seen 32 = .ok (.aload_n 0, 1) := by decide +kernel
theorem dX7_seen_33 : decode cX7_seen 33 = .ok (.getfield 63, 3) := by decide +kernel
theorem dX7_seen_36 : decode cX7_seen 36 = .ok (.getfield 229, 3) := by decide +kernel
theorem dX7_seen_39 : decode cX7_seen 39 = .ok (.bipush 6, 2) := by decide +kernel
theorem dX7_seen_41 : decode cX7_seen 41 = .ok (.if_icmp .lt 6, 3) := by decide +kernel
theorem dX7_seen_44 : decode cX7_seen 44 = .ok (.bipush (-5), 2) := by decide +kernel
theorem dX7_seen_46 : decode cX7_seen 46 = .ok (.ireturn, 1) := by decide +kernel
theorem dX7_seen_47 : decode cX7_seen 47 = .ok (.aload_n 0, 1) := by decide +kernel
theorem dX7_seen_48 : decode cX7_seen 48 = .ok (.getfield 63, 3) := by decide +kernel
theorem dX7_seen_51 : decode cX7_seen 51 = .ok (.iload_n 1, 1) := by decide +kernel
theorem dX7_seen_52 : decode cX7_seen 52 = .ok (.iload_n 2, 1) := by decide +kernel
theorem dX7_seen_53 : decode cX7_seen 53 = .ok (.iload_n 3, 1) := by decide +kernel
theorem dX7_seen_54 : decode cX7_seen 54 = .ok (.invokevirtual 232, 3) := by decide +kernel
theorem dX7_seen_57 : decode cX7_seen 57 = .ok (.ireturn, 1) := by decide +kernel
theorem dX7_forget_0 : decode cX7_forget 0 = .ok (.aload_n 0, 1) := by decide +kernel
theorem dX7_forget_1 : decode cX7_forget 1 = .ok (.getfield 63, 3) := by decide +kernel
theorem dX7_forget_4 : decode cX7_forget 4 = .ok (.invokevirtual 100, 3) := by decide +kernel
theorem dX7_forget_7 : decode cX7_forget 7 = .ok (.ireturn, 1) := by decide +kernel
theorem dX7_stamps_0 : decode cX7_stamps 0 = .ok (.aload_n 0, 1) := by decide +kernel
theorem dX7_stamps_1 : decode cX7_stamps 1 = .ok (.iload_n 1, 1) := by decide +kernel
theorem dX7_stamps_2 : decode cX7_stamps 2 = .ok (.invokevirtual 137, 3) := by decide +kernel
theorem dX7_stamps_5 : decode cX7_stamps 5 = .ok (.ifCond .ne 6, 3) := by decide +kernel
theorem dX7_stamps_8 : decode cX7_stamps 8 = .ok (.bipush (-2), 2) := by decide +kernel
theorem dX7_stamps_10 : decode cX7_stamps 10 = .ok (.ireturn, 1) := by decide +kernel
theorem dX7_stamps_11 : decode cX7_stamps 11 = .ok (.aload_n 0, 1) := by decide +kernel
theorem dX7_stamps_12 : decode cX7_stamps 12 = .ok (.getfield 56, 3) := by decide +kernel
theorem dX7_stamps_15 : decode cX7_stamps 15 = .ok (.aload_n 0, 1) := by decide +kernel
theorem dX7_stamps_16 : decode cX7_stamps 16 = .ok (.getfield 63, 3) := by decide +kernel
theorem dX7_stamps_19 : decode cX7_stamps 19 = .ok (.iload_n 1, 1) := by decide +kernel
theorem dX7_stamps_20 : decode cX7_stamps 20 = .ok (.invokevirtual 236, 3) := by decide +kernel
theorem dX7_stamps_23 : decode cX7_stamps 23 = .ok (.ireturn, 1) := by decide +kernel
theorem dX7_crumbs_0 : decode cX7_crumbs 0 = .ok (.aload_n 0, 1) := by decide +kernel
theorem dX7_crumbs_1 : decode cX7_crumbs 1 = .ok (.iload_n 1, 1) := by decide +kernel
theorem dX7_crumbs_2 : decode cX7_crumbs 2 = .ok (.invokevirtual 106, 3) := by decide +kernel
theorem dX7_crumbs_5 : decode cX7_crumbs 5 = .ok (.ifCond .ne 6, 3) := by decide +kernel
theorem dX7_crumbs_8 : decode cX7_crumbs 8 = .ok (.bipush (-2), 2) := by decide +kernel
theorem dX7_crumbs_10 : decode cX7_crumbs 10 = .ok (.ireturn, 1) := by decide +kernel
theorem dX7_crumbs_11 : decode cX7_crumbs 11 = .ok (.iload_n 2, 1) := by decide +kernel
theorem dX7_crumbs_12 : decode cX7_crumbs 12 = .ok (.ifCond .lt 9, 3) := by decide +kernel
theorem dX7_crumbs_15 : decode cX7_crumbs 15 = .ok (.iload_n 2, 1) := by decide +kernel
theorem dX7_crumbs_16 : decode cX7_crumbs 16 = .ok (.bipush 99, 2) := by decide +kernel
theorem dX7_crumbs_18 : decode cX7_crumbs 18 = .ok (.if_icmp .le 6, 3) := by decide +kernel
theorem dX7_crumbs_21 : decode cX7_crumbs 21 = .ok (.bipush (-3), 2) := by decide +kernel
theorem dX7_crumbs_23 : decode cX7_crumbs 23 = .ok (.ireturn, 1) := by decide +kernel
theorem dX7_crumbs_24 : decode cX7_crumbs 24 = .ok (.aload_n 0, 1) := by decide +kernel
theorem dX7_crumbs_25 : decode cX7_crumbs 25 = .ok (.getfield 70, 3) := by decide +kernel
theorem dX7_crumbs_28 : decode cX7_crumbs 28 = .ok (.getfield 240, 3) := by decide +kernel
theorem dX7_crumbs_31 : decode cX7_crumbs 31 = .ok (.iload_n 1, 1) := by decide +kernel
theorem dX7_crumbs_32 : decode cX7_crumbs 32 = .ok (.iaload, 1) := by decide +kernel
theorem dX7_crumbs_33 : decode cX7_crumbs 33 = .ok (.istore_n 3, 1) := by decide +kernel
theorem dX7_crumbs_34 : decode cX7_crumbs 34 = .ok (.aload_n 0, 1) := by decide +kernel
theorem dX7_crumbs_35 : decode cX7_crumbs 35 = .ok (.getfield 70, 3) := by decide +kernel
theorem dX7_crumbs_38 : decode cX7_crumbs 38 = .ok (.getfield 240, 3) := by decide +kernel
theorem dX7_crumbs_41 : decode cX7_crumbs 41 = .ok (.iload_n 1, 1) := by decide +kernel
theorem dX7_crumbs_42 : decode cX7_crumbs 42 = .ok (.iload_n 2, 1) := by decide +kernel
theorem dX7_crumbs_43 : decode cX7_crumbs 43 = .ok (.iastore, 1) := by decide +kernel
theorem dX7_crumbs_44 : decode cX7_crumbs 44 = .ok (.iload_n 3, 1) := by decide +kernel
theorem dX7_crumbs_45 : decode cX7_crumbs 45 = .ok (.ireturn, 1) := by decide +kernel
theorem dX7_odds_0 : decode cX7_odds 0 = .ok (.aload_n 0, 1) := by decide +kernel
theorem dX7_odds_1 : decode cX7_odds 1 = .ok (.iload_n 1, 1) := by decide +kernel
theorem dX7_odds_2 : decode cX7_odds 2 = .ok (.invokevirtual 106, 3) := by decide +kernel
theorem dX7_odds_5 : decode cX7_odds 5 = .ok (.ifCond .ne 6, 3) := by decide +kernel
theorem dX7_odds_8 : decode cX7_odds 8 = .ok (.bipush (-2), 2) := by decide +kernel
theorem dX7_odds_10 : decode cX7_odds 10 = .ok (.ireturn, 1) := by decide +kernel
theorem dX7_odds_11 : decode cX7_odds 11 = .ok (.iload_n 2, 1) := by decide +kernel
theorem dX7_odds_12 : decode cX7_odds 12 = .ok (.ifCond .lt 8, 3) := by decide +kernel
theorem dX7_odds_15 : decode cX7_odds 15 = .ok (.iload_n 2, 1) := by decide +kernel
theorem dX7_odds_16 : decode cX7_odds 16 = .ok (.iconst 1, 1) := by decide +kernel
theorem dX7_odds_17 : decode cX7_odds 17 = .ok (.if_icmp .le 6, 3) := by decide +kernel
theorem dX7_odds_20 : decode cX7_odds 20 = .ok (.bipush (-3), 2) := by decide +kernel
theorem dX7_odds_22 : decode cX7_odds 22 = .ok (.ireturn, 1) := by decide +kernel
theorem dX7_odds_23 : decode cX7_odds 23 = .ok (.aload_n 0, 1) := by decide +kernel
theorem dX7_odds_24 : decode cX7_odds 24 = .ok (.getfield 70, 3) := by decide +kernel
theorem dX7_odds_27 : decode cX7_odds 27 = .ok (.invokevirtual 241, 3) := by decide +kernel
theorem dX7_odds_30 : decode cX7_odds 30 = .ok (.istore_n 3, 1) := by decide +kernel
theorem dX7_odds_31 : decode cX7_odds 31 = .ok (.iload_n 3, 1) := by decide +kernel
theorem dX7_odds_32 : decode cX7_odds 32 = .ok (.iconst 1, 1) := by decide +kernel
theorem dX7_odds_33 : decode cX7_odds 33 = .ok (.if_icmp .ge 6, 3) := by decide +kernel
theorem dX7_odds_36 : decode cX7_odds 36 = .ok (.bipush (-4), 2) := by decide +kernel
theorem dX7_odds_38 : decode cX7_odds 38 = .ok (.ireturn, 1) := by decide +kernel
theorem dX7_odds_39 : decode cX7_odds 39 = .ok (.aload_n 0, 1) := by decide +kernel
theorem dX7_odds_40 : decode cX7_odds 40 = .ok (.getfield 70, 3) := by decide +kernel
theorem dX7_odds_43 : decode cX7_odds 43 = .ok (.getfield 240, 3) := by decide +kernel
theorem dX7_odds_46 : decode cX7_odds 46 = .ok (.iload_n 1, 1) := by decide +kernel
theorem dX7_odds_47 : decode cX7_odds 47 = .ok (.iaload, 1) := by decide +kernel
theorem dX7_odds_48 : decode cX7_odds 48 = .ok (.istore 4, 2) := by decide +kernel
theorem dX7_odds_50 : decode cX7_odds 50 = .ok (.iload 4, 2) := by decide +kernel
theorem dX7_odds_52 : decode cX7_odds 52 = .ok (.iload_n 3, 1) := by decide +kernel
theorem dX7_odds_53 : decode cX7_odds 53 = .ok (.invokestatic 244, 3) := by decide +kernel
theorem dX7_odds_56 : decode cX7_odds 56 = .ok (.istore 5, 2) := by decide +kernel
theorem dX7_odds_58 : decode cX7_odds 58 = .ok (.iload_n 2, 1) := by decide +kernel
theorem dX7_odds_59 : decode cX7_odds 59 = .ok (.ifCond .ne 8, 3) := by decide +kernel
theorem dX7_odds_62 : decode cX7_odds 62 = .ok (.iload 4, 2) := by decide +kernel
theorem dX7_odds_64 : decode cX7_odds 64 = .ok (.goto 4, 3) := by decide +kernel
theorem dX7_odds_67 : decode cX7_odds 67 = .ok (.iload_n 3, 1) := by decide +kernel
theorem dX7_odds_68 : decode cX7_odds 68 = .ok (.iload 5, 2) := by decide +kernel
theorem dX7_odds_70 : decode cX7_odds 70 = .ok (.idiv, 1) := by decide +kernel
theorem dX7_odds_71 : decode cX7_odds 71 = .ok (.ireturn, 1) := by decide +kernel
theorem dX7_count_0 : decode cX7_count 0 = .ok (.iload_n 1, 1) := by decide +kernel
theorem dX7_count_1 : decode cX7_count 1 = .ok (.tableswitch 135 0 9 #[55, 63, 71, 79, 87, 95, 103, 111, 119, 127], 55) := by decide +kernel
theorem dX7_count_56 : decode cX7_count 56 = .ok (.aload_n 0, 1) := by decide +kernel
theorem dX7_count_57 : decode cX7_count 57 = .ok (.getfield 19, 3) := by decide +kernel
theorem dX7_count_60 : decode cX7_count 60 = .ok (.getfield 247, 3) := by decide +kernel
theorem dX7_count_63 : decode cX7_count 63 = .ok (.ireturn, 1) := by decide +kernel
theorem dX7_count_64 : decode cX7_count 64 = .ok (.aload_n 0, 1) := by decide +kernel
theorem dX7_count_65 : decode cX7_count 65 = .ok (.getfield 19, 3) := by decide +kernel
theorem dX7_count_68 : decode cX7_count 68 = .ok (.getfield 179, 3) := by decide +kernel
theorem dX7_count_71 : decode cX7_count 71 = .ok (.ireturn, 1) := by decide +kernel
theorem dX7_count_72 : decode cX7_count 72 = .ok (.aload_n 0, 1) := by decide +kernel
theorem dX7_count_73 : decode cX7_count 73 = .ok (.getfield 19, 3) := by decide +kernel
theorem dX7_count_76 : decode cX7_count 76 = .ok (.getfield 114, 3) := by decide +kernel
theorem dX7_count_79 : decode cX7_count 79 = .ok (.ireturn, 1) := by decide +kernel
theorem dX7_count_80 : decode cX7_count 80 = .ok (.aload_n 0, 1) := by decide +kernel
theorem dX7_count_81 : decode cX7_count 81 = .ok (.getfield 19, 3) := by decide +kernel
theorem dX7_count_84 : decode cX7_count 84 = .ok (.getfield 250, 3) := by decide +kernel
theorem dX7_count_87 : decode cX7_count 87 = .ok (.ireturn, 1) := by decide +kernel
theorem dX7_count_88 : decode cX7_count 88 = .ok (.aload_n 0, 1) := by decide +kernel
theorem dX7_count_89 : decode cX7_count 89 = .ok (.getfield 35, 3) := by decide +kernel
theorem dX7_count_92 : decode cX7_count 92 = .ok (.getfield 253, 3) := by decide +kernel
theorem dX7_count_95 : decode cX7_count 95 = .ok (.ireturn, 1) := by decide +kernel
theorem dX7_count_96 : decode cX7_count 96 = .ok (.aload_n 0, 1) := by decide +kernel
theorem dX7_count_97 : decode cX7_count 97 = .ok (.getfield 35, 3) := by decide +kernel
theorem dX7_count_100 : decode cX7_count 100 = .ok (.getfield 162, 3) := by decide +kernel
theorem dX7_count_103 : decode cX7_count 103 = .ok (.ireturn, 1) := by decide +kernel
theorem dX7_count_104 : decode cX7_count 104 = .ok (.aload_n 0, 1) := by decide +kernel
theorem dX7_count_105 : decode cX7_count 105 = .ok (.getfield 35, 3) := by decide +kernel
theorem dX7_count_108 : decode cX7_count 108 = .ok (.getfield 185, 3) := by decide +kernel
theorem dX7_count_111 : decode cX7_count 111 = .ok (.ireturn, 1) := by decide +kernel
theorem dX7_count_112 : decode cX7_count 112 = .ok (.aload_n 0, 1) := by decide +kernel
theorem dX7_count_113 : decode cX7_count 113 = .ok (.getfield 35, 3) := by decide +kernel
theorem dX7_count_116 : decode cX7_count 116 = .ok (.getfield 198, 3) := by decide +kernel
theorem dX7_count_119 : decode cX7_count 119 = .ok (.ireturn, 1) := by decide +kernel
theorem dX7_count_120 : decode cX7_count 120 = .ok (.aload_n 0, 1) := by decide +kernel
theorem dX7_count_121 : decode cX7_count 121 = .ok (.getfield 63, 3) := by decide +kernel
theorem dX7_count_124 : decode cX7_count 124 = .ok (.getfield 229, 3) := by decide +kernel
theorem dX7_count_127 : decode cX7_count 127 = .ok (.ireturn, 1) := by decide +kernel
theorem dX7_count_128 : decode cX7_count 128 = .ok (.aload_n 0, 1) := by decide +kernel
theorem dX7_count_129 : decode cX7_count 129 = .ok (.getfield 10, 3) := by decide +kernel
theorem dX7_count_132 : decode cX7_count 132 = .ok (.getfield 74, 3) := by decide +kernel
theorem dX7_count_135 : decode cX7_count 135 = .ok (.ireturn, 1) := by decide +kernel
theorem dX7_count_136 : decode cX7_count 136 = .ok (.bipush (-3), 2) := by decide +kernel
theorem dX7_count_138 : decode cX7_count 138 = .ok (.ireturn, 1) := by decide +kernel
theorem dX7_isDesk_0 : decode cX7_isDesk 0 = .ok (.iload_n 1, 1) := by decide +kernel
theorem dX7_isDesk_1 : decode cX7_isDesk 1 = .ok (.ifCond .lt 18, 3) := by decide +kernel
theorem dX7_isDesk_4 : decode cX7_isDesk 4 = .ok (.iload_n 1, 1) := by decide +kernel
theorem dX7_isDesk_5 : decode cX7_isDesk 5 = .ok (.aload_n 0, 1) := by decide +kernel
theorem dX7_isDesk_6 : decode cX7_isDesk 6 = .ok (.getfield 19, 3) := by decide +kernel
theorem dX7_isDesk_9 : decode cX7_isDesk 9 = .ok (.getfield 247, 3) := by decide +kernel
theorem dX7_isDesk_12 : decode cX7_isDesk 12 = .ok (.if_icmp .ge 7, 3) := by decide +kernel
theorem dX7_isDesk_15 : decode cX7_isDesk 15 = .ok (.iconst 1, 1) := by decide +kernel
theorem dX7_isDesk_16 : decode cX7_isDesk 16 = .ok (.goto 4, 3) := by decide +kernel
theorem dX7_isDesk_19 : decode cX7_isDesk 19 = .ok (.iconst 0, 1) := by decide +kernel
theorem dX7_isDesk_20 : decode cX7_isDesk 20 = .ok (.ireturn, 1) := by decide +kernel
theorem dX7_isTrail_0 : decode cX7_isTrail 0 = .ok (.iload_n 1, 1) := by decide +kernel
theorem dX7_isTrail_1 : decode cX7_isTrail 1 = .ok (.ifCond .lt 18, 3) := by decide +kernel
theorem dX7_isTrail_4 : decode cX7_isTrail 4 = .ok (.iload_n 1, 1) := by decide +kernel
theorem dX7_isTrail_5 : decode cX7_isTrail 5 = .ok (.aload_n 0, 1) := by decide +kernel
theorem dX7_isTrail_6 : decode cX7_isTrail 6 = .ok (.getfield 19, 3) := by decide +kernel
theorem dX7_isTrail_9 : decode cX7_isTrail 9 = .ok (.getfield 179, 3) := by decide +kernel
theorem dX7_isTrail_12 : decode cX7_isTrail 12 = .ok (.if_icmp .ge 7, 3) := by decide +kernel
theorem dX7_isTrail_15 : decode cX7_isTrail 15 = .ok (.iconst 1, 1) := by decide +kernel
theorem dX7_isTrail_16 : decode cX7_isTrail 16 = .ok (.goto 4, 3) := by decide +kernel
theorem dX7_isTrail_19 : decode cX7_isTrail 19 = .ok (.iconst 0, 1) := by decide +kernel
theorem dX7_isTrail_20 : decode cX7_isTrail 20 = .ok (.ireturn, 1) := by decide +kernel
theorem dX7_isFile_0 : decode cX7_isFile 0 = .ok (.iload_n 1, 1) := by decide +kernel
theorem dX7_isFile_1 : decode cX7_isFile 1 = .ok (.ifCond .lt 18, 3) := by decide +kernel
theorem dX7_isFile_4 : decode cX7_isFile 4 = .ok (.iload_n 1, 1) := by decide +kernel
theorem dX7_isFile_5 : decode cX7_isFile 5 = .ok (.aload_n 0, 1) := by decide +kernel
theorem dX7_isFile_6 : decode cX7_isFile 6 = .ok (.getfield 19, 3) := by decide +kernel
theorem dX7_isFile_9 : decode cX7_isFile 9 = .ok (.getfield 114, 3) := by decide +kernel
theorem dX7_isFile_12 : decode cX7_isFile 12 = .ok (.if_icmp .ge 7, 3) := by decide +kernel
theorem dX7_isFile_15 : decode cX7_isFile 15 = .ok (.iconst 1, 1) := by decide +kernel
theorem dX7_isFile_16 : decode cX7_isFile 16 = .ok (.goto 4, 3) := by decide +kernel
theorem dX7_isFile_19 : decode cX7_isFile 19 = .ok (.iconst 0, 1) := by decide +kernel
theorem dX7_isFile_20 : decode cX7_isFile 20 = .ok (.ireturn, 1) := by decide +kernel
theorem dL_law_0 : decode cL_law 0 = .ok (.new 7, 3) := by decide +kernel
theorem dL_law_3 : decode cL_law 3 = .ok (.dup, 1) := by decide +kernel
theorem dL_law_4 : decode cL_law 4 = .ok (.invokespecial 9, 3) := by decide +kernel
theorem dL_law_7 : decode cL_law 7 = .ok (.astore_n 1, 1) := by decide +kernel
theorem dL_law_8 : decode cL_law 8 = .ok (.new 10, 3) := by decide +kernel
theorem dL_law_11 : decode cL_law 11 = .ok (.dup, 1) := by decide +kernel
theorem dL_law_12 : decode cL_law 12 = .ok (.invokespecial 12, 3) := by decide +kernel
theorem dL_law_15 : decode cL_law 15 = .ok (.astore_n 2, 1) := by decide +kernel
theorem dL_law_16 : decode cL_law 16 = .ok (.iconst 0, 1) := by decide +kernel
theorem dL_law_17 : decode cL_law 17 = .ok (.istore_n 3, 1) := by decide +kernel
theorem dL_law_18 : decode cL_law 18 = .ok (.iload_n 3, 1) := by decide +kernel
theorem dL_law_19 : decode cL_law 19 = .ok (.aload_n 0, 1) := by decide +kernel
theorem dL_law_20 : decode cL_law 20 = .ok (.arraylength, 1) := by decide +kernel
theorem dL_law_21 : decode cL_law 21 = .ok (.iconst 4, 1) := by decide +kernel
theorem dL_law_22 : decode cL_law 22 = .ok (.isub, 1) := by decide +kernel
theorem dL_law_23 : decode cL_law 23 = .ok (.if_icmp .gt 1021, 3) := by decide +kernel
theorem dL_law_26 : decode cL_law 26 = .ok (.aload_n 0, 1) := by decide +kernel
theorem dL_law_27 : decode cL_law 27 = .ok (.iload_n 3, 1) := by decide +kernel
theorem dL_law_28 : decode cL_law 28 = .ok (.iaload, 1) := by decide +kernel
theorem dL_law_29 : decode cL_law 29 = .ok (.bipush 31, 2) := by decide +kernel
theorem dL_law_31 : decode cL_law 31 = .ok (.iand, 1) := by decide +kernel
theorem dL_law_32 : decode cL_law 32 = .ok (.tableswitch 1006 0 29 #[136, 199, 212, 225, 238, 271, 304, 337, 370, 393, 416, 449, 482, 495, 518, 541, 564, 607, 630, 663, 706, 749, 782, 815, 838, 881, 894, 917, 950, 983], 136) := by decide +kernel
theorem dL_law_168 : decode cL_law 168 = .ok (.aload_n 1, 1) := by decide +kernel
theorem dL_law_169 : decode cL_law 169 = .ok (.aload_n 0, 1) := by decide +kernel
theorem dL_law_170 : decode cL_law 170 = .ok (.iload_n 3, 1) := by decide +kernel
theorem dL_law_171 : decode cL_law 171 = .ok (.iconst 1, 1) := by decide +kernel
theorem dL_law_172 : decode cL_law 172 = .ok (.iadd, 1) := by decide +kernel
theorem dL_law_173 : decode cL_law 173 = .ok (.iaload, 1) := by decide +kernel
theorem dL_law_174 : decode cL_law 174 = .ok (.i2l, 1) := by decide +kernel
theorem dL_law_175 : decode cL_law 175 = .ok (.bipush 32, 2) := by decide +kernel
theorem dL_law_177 : decode cL_law 177 = .ok (.lshl, 1) := by decide +kernel
theorem dL_law_178 : decode cL_law 178 = .ok (.aload_n 0, 1) := by decide +kernel
theorem dL_law_179 : decode cL_law 179 = .ok (.iload_n 3, 1) := by decide +kernel
theorem dL_law_180 : decode cL_law 180 = .ok (.iconst 2, 1) := by decide +kernel
theorem dL_law_181 : decode cL_law 181 = .ok (.iadd, 1) := by decide +kernel
theorem dL_law_182 : decode cL_law 182 = .ok (.iaload, 1) := by decide +kernel
theorem dL_law_183 : decode cL_law 183 = .ok (.i2l, 1) := by decide +kernel
theorem dL_law_184 : decode cL_law 184 = .ok (.ldc2_w 13, 3) := by decide +kernel
theorem dL_law_187 : decode cL_law 187 = .ok (.land, 1) := by decide +kernel
theorem dL_law_188 : decode cL_law 188 = .ok (.lor, 1) := by decide +kernel
theorem dL_law_189 : decode cL_law 189 = .ok (.aload_n 0, 1) := by decide +kernel
theorem dL_law_190 : decode cL_law 190 = .ok (.iload_n 3, 1) := by decide +kernel
theorem dL_law_191 : decode cL_law 191 = .ok (.iconst 3, 1) := by decide +kernel
theorem dL_law_192 : decode cL_law 192 = .ok (.iadd, 1) := by decide +kernel
theorem dL_law_193 : decode cL_law 193 = .ok (.iaload, 1) := by decide +kernel
theorem dL_law_194 : decode cL_law 194 = .ok (.invokevirtual 15, 3) := by decide +kernel
theorem dL_law_197 : decode cL_law 197 = .ok (.aload_n 2, 1) := by decide +kernel
theorem dL_law_198 : decode cL_law 198 = .ok (.aload_n 0, 1) := by decide +kernel
theorem dL_law_199 : decode cL_law 199 = .ok (.iload_n 3, 1) := by decide +kernel
theorem dL_law_200 : decode cL_law 200 = .ok (.iconst 1, 1) := by decide +kernel
theorem dL_law_201 : decode cL_law 201 = .ok (.iadd, 1) := by decide +kernel
theorem dL_law_202 : decode cL_law 202 = .ok (.iaload, 1) := by decide +kernel
theorem dL_law_203 : decode cL_law 203 = .ok (.i2l, 1) := by decide +kernel
theorem dL_law_204 : decode cL_law 204 = .ok (.bipush 32, 2) := by decide +kernel
theorem dL_law_206 : decode cL_law 206 = .ok (.lshl, 1) := by decide +kernel
theorem dL_law_207 : decode cL_law 207 = .ok (.aload_n 0, 1) := by decide +kernel
theorem dL_law_208 : decode cL_law 208 = .ok (.iload_n 3, 1) := by decide +kernel
theorem dL_law_209 : decode cL_law 209 = .ok (.iconst 2, 1) := by decide +kernel
theorem dL_law_210 : decode cL_law 210 = .ok (.iadd, 1) := by decide +kernel
theorem dL_law_211 : decode cL_law 211 = .ok (.iaload, 1) := by decide +kernel
theorem dL_law_212 : decode cL_law 212 = .ok (.i2l, 1) := by decide +kernel
theorem dL_law_213 : decode cL_law 213 = .ok (.ldc2_w 13, 3) := by decide +kernel
theorem dL_law_216 : decode cL_law 216 = .ok (.land, 1) := by decide +kernel
theorem dL_law_217 : decode cL_law 217 = .ok (.lor, 1) := by decide +kernel
theorem dL_law_218 : decode cL_law 218 = .ok (.aload_n 0, 1) := by decide +kernel
theorem dL_law_219 : decode cL_law 219 = .ok (.iload_n 3, 1) := by decide +kernel
theorem dL_law_220 : decode cL_law 220 = .ok (.iconst 3, 1) := by decide +kernel
theorem dL_law_221 : decode cL_law 221 = .ok (.iadd, 1) := by decide +kernel
theorem dL_law_222 : decode cL_law 222 = .ok (.iaload, 1) := by decide +kernel
theorem dL_law_223 : decode cL_law 223 = .ok (.invokevirtual 19, 3) := by decide +kernel
theorem dL_law_226 : decode cL_law 226 = .ok (.if_icmp .eq 812, 3) := by decide +kernel
theorem dL_law_229 : decode cL_law 229 = .ok (.iconst 0, 1) := by decide +kernel
theorem dL_law_230 : decode cL_law 230 = .ok (.ireturn, 1) := by decide +kernel
theorem dL_law_231 : decode cL_law 231 = .ok (.aload_n 1, 1) := by decide +kernel
theorem dL_law_232 : decode cL_law 232 = .ok (.invokevirtual 20, 3) := by decide +kernel
theorem dL_law_235 : decode cL_law 235 = .ok (.aload_n 2, 1) := by decide +kernel
theorem dL_law_236 : decode cL_law 236 = .ok (.invokevirtual 24, 3) := by decide +kernel
theorem dL_law_239 : decode cL_law 239 = .ok (.if_icmp .eq 799, 3) := by decide +kernel
theorem dL_law_242 : decode cL_law 242 = .ok (.iconst 0, 1) := by decide +kernel
theorem dL_law_243 : decode cL_law 243 = .ok (.ireturn, 1) := by decide +kernel
theorem dL_law_244 : decode cL_law 244 = .ok (.aload_n 1, 1) := by decide +kernel
theorem dL_law_245 : decode cL_law 245 = .ok (.invokevirtual 25, 3) := by decide +kernel
theorem dL_law_248 : decode cL_law 248 = .ok (.aload_n 2, 1) := by decide +kernel
theorem dL_law_249 : decode cL_law 249 = .ok (.invokevirtual 28, 3) := by decide +kernel
theorem dL_law_252 : decode cL_law 252 = .ok (.if_icmp .eq 786, 3) := by decide +kernel
theorem dL_law_255 : decode cL_law 255 = .ok (.iconst 0, 1) := by decide +kernel
theorem dL_law_256 : decode cL_law 256 = .ok (.ireturn, 1) := by decide +kernel
theorem dL_law_257 : decode cL_law 257 = .ok (.aload_n 1, 1) := by decide +kernel
theorem dL_law_258 : decode cL_law 258 = .ok (.invokevirtual 29, 3) := by decide +kernel
theorem dL_law_261 : decode cL_law 261 = .ok (.aload_n 2, 1) := by decide +kernel
theorem dL_law_262 : decode cL_law 262 = .ok (.invokevirtual 32, 3) := by decide +kernel
theorem dL_law_265 : decode cL_law 265 = .ok (.if_icmp .eq 773, 3) := by decide +kernel
theorem dL_law_268 : decode cL_law 268 = .ok (.iconst 0, 1) := by decide +kernel
theorem dL_law_269 : decode cL_law 269 = .ok (.ireturn, 1) := by decide +kernel
theorem dL_law_270 : decode cL_law 270 = .ok (.aload_n 1, 1) := by decide +kernel
theorem dL_law_271 : decode cL_law 271 = .ok (.aload_n 0, 1) := by decide +kernel
theorem dL_law_272 : decode cL_law 272 = .ok (.iload_n 3, 1) := by decide +kernel
theorem dL_law_273 : decode cL_law 273 = .ok (.iconst 1, 1) := by decide +kernel
theorem dL_law_274 : decode cL_law 274 = .ok (.iadd, 1) := by decide +kernel
theorem dL_law_275 : decode cL_law 275 = .ok (.iaload, 1) := by decide +kernel
theorem dL_law_276 : decode cL_law 276 = .ok (.aload_n 0, 1) := by decide +kernel
theorem dL_law_277 : decode cL_law 277 = .ok (.iload_n 3, 1) := by decide +kernel
theorem dL_law_278 : decode cL_law 278 = .ok (.iconst 2, 1) := by decide +kernel
theorem dL_law_279 : decode cL_law 279 = .ok (.iadd, 1) := by decide +kernel
theorem dL_law_280 : decode cL_law 280 = .ok (.iaload, 1) := by decide +kernel
theorem dL_law_281 : decode cL_law 281 = .ok (.invokevirtual 33, 3) := by decide +kernel
theorem dL_law_284 : decode cL_law 284 = .ok (.aload_n 2, 1) := by decide +kernel
theorem dL_law_285 : decode cL_law 285 = .ok (.aload_n 0, 1) := by decide +kernel
theorem dL_law_286 : decode cL_law 286 = .ok (.iload_n 3, 1) := by decide +kernel
theorem dL_law_287 : decode cL_law 287 = .ok (.iconst 1, 1) := by decide +kernel
theorem dL_law_288 : decode cL_law 288 = .ok (.iadd, 1) := by decide +kernel
theorem dL_law_289 : decode cL_law 289 = .ok (.iaload, 1) := by decide +kernel
theorem dL_law_290 : decode cL_law 290 = .ok (.aload_n 0, 1) := by decide +kernel
theorem dL_law_291 : decode cL_law 291 = .ok (.iload_n 3, 1) := by decide +kernel
theorem dL_law_292 : decode cL_law 292 = .ok (.iconst 2, 1) := by decide +kernel
theorem dL_law_293 : decode cL_law 293 = .ok (.iadd, 1) := by decide +kernel
theorem dL_law_294 : decode cL_law 294 = .ok (.iaload, 1) := by decide +kernel
theorem dL_law_295 : decode cL_law 295 = .ok (.invokevirtual 37, 3) := by decide +kernel
theorem dL_law_298 : decode cL_law 298 = .ok (.if_icmp .eq 740, 3) := by decide +kernel
theorem dL_law_301 : decode cL_law 301 = .ok (.iconst 0, 1) := by decide +kernel
theorem dL_law_302 : decode cL_law 302 = .ok (.ireturn, 1) := by decide +kernel
theorem dL_law_303 : decode cL_law 303 = .ok (.aload_n 1, 1) := by decide +kernel
theorem dL_law_304 : decode cL_law 304 = .ok (.aload_n 0, 1) := by decide +kernel
theorem dL_law_305 : decode cL_law 305 = .ok (.iload_n 3, 1) := by decide +kernel
theorem dL_law_306 : decode cL_law 306 = .ok (.iconst 1, 1) := by decide +kernel
theorem dL_law_307 : decode cL_law 307 = .ok (.iadd, 1) := by decide +kernel
theorem dL_law_308 : decode cL_law 308 = .ok (.iaload, 1) := by decide +kernel
theorem dL_law_309 : decode cL_law 309 = .ok (.aload_n 0, 1) := by decide +kernel
theorem dL_law_310 : decode cL_law 310 = .ok (.iload_n 3, 1) := by decide +kernel
theorem dL_law_311 : decode cL_law 311 = .ok (.iconst 2, 1) := by decide +kernel
theorem dL_law_312 : decode cL_law 312 = .ok (.iadd, 1) := by decide +kernel
theorem dL_law_313 : decode cL_law 313 = .ok (.iaload, 1) := by decide +kernel
theorem dL_law_314 : decode cL_law 314 = .ok (.invokevirtual 38, 3) := by decide +kernel
theorem dL_law_317 : decode cL_law 317 = .ok (.aload_n 2, 1) := by decide +kernel
theorem dL_law_318 : decode cL_law 318 = .ok (.aload_n 0, 1) := by decide +kernel
theorem dL_law_319 : decode cL_law 319 = .ok (.iload_n 3, 1) := by decide +kernel
theorem dL_law_320 : decode cL_law 320 = .ok (.iconst 1, 1) := by decide +kernel
theorem dL_law_321 : decode cL_law 321 = .ok (.iadd, 1) := by decide +kernel
theorem dL_law_322 : decode cL_law 322 = .ok (.iaload, 1) := by decide +kernel
theorem dL_law_323 : decode cL_law 323 = .ok (.aload_n 0, 1) := by decide +kernel
theorem dL_law_324 : decode cL_law 324 = .ok (.iload_n 3, 1) := by decide +kernel
theorem dL_law_325 : decode cL_law 325 = .ok (.iconst 2, 1) := by decide +kernel
theorem dL_law_326 : decode cL_law 326 = .ok (.iadd, 1) := by decide +kernel
theorem dL_law_327 : decode cL_law 327 = .ok (.iaload, 1) := by decide +kernel
theorem dL_law_328 : decode cL_law 328 = .ok (.invokevirtual 41, 3) := by decide +kernel
theorem dL_law_331 : decode cL_law 331 = .ok (.if_icmp .eq 707, 3) := by decide +kernel
theorem dL_law_334 : decode cL_law 334 = .ok (.iconst 0, 1) := by decide +kernel
theorem dL_law_335 : decode cL_law 335 = .ok (.ireturn, 1) := by decide +kernel
theorem dL_law_336 : decode cL_law 336 = .ok (.aload_n 1, 1) := by decide +kernel
theorem dL_law_337 : decode cL_law 337 = .ok (.aload_n 0, 1) := by decide +kernel
theorem dL_law_338 : decode cL_law 338 = .ok (.iload_n 3, 1) := by decide +kernel
theorem dL_law_339 : decode cL_law 339 = .ok (.iconst 1, 1) := by decide +kernel
theorem dL_law_340 : decode cL_law 340 = .ok (.iadd, 1) := by decide +kernel
theorem dL_law_341 : decode cL_law 341 = .ok (.iaload, 1) := by decide +kernel
theorem dL_law_342 : decode cL_law 342 = .ok (.aload_n 0, 1) := by decide +kernel
theorem dL_law_343 : decode cL_law 343 = .ok (.iload_n 3, 1) := by decide +kernel
theorem dL_law_344 : decode cL_law 344 = .ok (.iconst 2, 1) := by decide +kernel
theorem dL_law_345 : decode cL_law 345 = .ok (.iadd, 1) := by decide +kernel
theorem dL_law_346 : decode cL_law 346 = .ok (.iaload, 1) := by decide +kernel
theorem dL_law_347 : decode cL_law 347 = .ok (.invokevirtual 42, 3) := by decide +kernel
theorem dL_law_350 : decode cL_law 350 = .ok (.aload_n 2, 1) := by decide +kernel
theorem dL_law_351 : decode cL_law 351 = .ok (.aload_n 0, 1) := by decide +kernel
theorem dL_law_352 : decode cL_law 352 = .ok (.iload_n 3, 1) := by decide +kernel
theorem dL_law_353 : decode cL_law 353 = .ok (.iconst 1, 1) := by decide +kernel
theorem dL_law_354 : decode cL_law 354 = .ok (.iadd, 1) := by decide +kernel
theorem dL_law_355 : decode cL_law 355 = .ok (.iaload, 1) := by decide +kernel
theorem dL_law_356 : decode cL_law 356 = .ok (.aload_n 0, 1) := by decide +kernel
theorem dL_law_357 : decode cL_law 357 = .ok (.iload_n 3, 1) := by decide +kernel
theorem dL_law_358 : decode cL_law 358 = .ok (.iconst 2, 1) := by decide +kernel
theorem dL_law_359 : decode cL_law 359 = .ok (.iadd, 1) := by decide +kernel
theorem dL_law_360 : decode cL_law 360 = .ok (.iaload, 1) := by decide +kernel
theorem dL_law_361 : decode cL_law 361 = .ok (.invokevirtual 45, 3) := by decide +kernel
theorem dL_law_364 : decode cL_law 364 = .ok (.if_icmp .eq 674, 3) := by decide +kernel
theorem dL_law_367 : decode cL_law 367 = .ok (.iconst 0, 1) := by decide +kernel
theorem dL_law_368 : decode cL_law 368 = .ok (.ireturn, 1) := by decide +kernel
theorem dL_law_369 : decode cL_law 369 = .ok (.aload_n 1, 1) := by decide +kernel
theorem dL_law_370 : decode cL_law 370 = .ok (.aload_n 0, 1) := by decide +kernel
theorem dL_law_371 : decode cL_law 371 = .ok (.iload_n 3, 1) := by decide +kernel
theorem dL_law_372 : decode cL_law 372 = .ok (.iconst 1, 1) := by decide +kernel
theorem dL_law_373 : decode cL_law 373 = .ok (.iadd, 1) := by decide +kernel
theorem dL_law_374 : decode cL_law 374 = .ok (.iaload, 1) := by decide +kernel
theorem dL_law_375 : decode cL_law 375 = .ok (.aload_n 0, 1) := by decide +kernel
theorem dL_law_376 : decode cL_law 376 = .ok (.iload_n 3, 1) := by decide +kernel
theorem dL_law_377 : decode cL_law 377 = .ok (.iconst 2, 1) := by decide +kernel
theorem dL_law_378 : decode cL_law 378 = .ok (.iadd, 1) := by decide +kernel
theorem dL_law_379 : decode cL_law 379 = .ok (.iaload, 1) := by decide +kernel
theorem dL_law_380 : decode cL_law 380 = .ok (.invokevirtual 46, 3) := by decide +kernel
theorem dL_law_383 : decode cL_law 383 = .ok (.aload_n 2, 1) := by decide +kernel
theorem dL_law_384 : decode cL_law 384 = .ok (.aload_n 0, 1) := by decide +kernel
theorem dL_law_385 : decode cL_law 385 = .ok (.iload_n 3, 1) := by decide +kernel
theorem dL_law_386 : decode cL_law 386 = .ok (.iconst 1, 1) := by decide +kernel
theorem dL_law_387 : decode cL_law 387 = .ok (.iadd, 1) := by decide +kernel
theorem dL_law_388 : decode cL_law 388 = .ok (.iaload, 1) := by decide +kernel
theorem dL_law_389 : decode cL_law 389 = .ok (.aload_n 0, 1) := by decide +kernel
theorem dL_law_390 : decode cL_law 390 = .ok (.iload_n 3, 1) := by decide +kernel
theorem dL_law_391 : decode cL_law 391 = .ok (.iconst 2, 1) := by decide +kernel
theorem dL_law_392 : decode cL_law 392 = .ok (.iadd, 1) := by decide +kernel
theorem dL_law_393 : decode cL_law 393 = .ok (.iaload, 1) := by decide +kernel
theorem dL_law_394 : decode cL_law 394 = .ok (.invokevirtual 49, 3) := by decide +kernel
theorem dL_law_397 : decode cL_law 397 = .ok (.if_icmp .eq 641, 3) := by decide +kernel
theorem dL_law_400 : decode cL_law 400 = .ok (.iconst 0, 1) := by decide +kernel
theorem dL_law_401 : decode cL_law 401 = .ok (.ireturn, 1) := by decide +kernel
theorem dL_law_402 : decode cL_law 402 = .ok (.aload_n 1, 1) := by decide +kernel
theorem dL_law_403 : decode cL_law 403 = .ok (.aload_n 0, 1) := by decide +kernel
theorem dL_law_404 : decode cL_law 404 = .ok (.iload_n 3, 1) := by decide +kernel
theorem dL_law_405 : decode cL_law 405 = .ok (.iconst 1, 1) := by decide +kernel
theorem dL_law_406 : decode cL_law 406 = .ok (.iadd, 1) := by decide +kernel
theorem dL_law_407 : decode cL_law 407 = .ok (.iaload, 1) := by decide +kernel
theorem dL_law_408 : decode cL_law 408 = .ok (.invokevirtual 50, 3) := by decide +kernel
theorem dL_law_411 : decode cL_law 411 = .ok (.aload_n 2, 1) := by decide +kernel
theorem dL_law_412 : decode cL_law 412 = .ok (.aload_n 0, 1) := by decide +kernel
theorem dL_law_413 : decode cL_law 413 = .ok (.iload_n 3, 1) := by decide +kernel
theorem dL_law_414 : decode cL_law 414 = .ok (.iconst 1, 1) := by decide +kernel
theorem dL_law_415 : decode cL_law 415 = .ok (.iadd, 1) := by decide +kernel
theorem dL_law_416 : decode cL_law 416 = .ok (.iaload, 1) := by decide +kernel
theorem dL_law_417 : decode cL_law 417 = .ok (.invokevirtual 54, 3) := by decide +kernel
theorem dL_law_420 : decode cL_law 420 = .ok (.if_icmp .eq 618, 3) := by decide +kernel
theorem dL_law_423 : decode cL_law 423 = .ok (.iconst 0, 1) := by decide +kernel
theorem dL_law_424 : decode cL_law 424 = .ok (.ireturn, 1) := by decide +kernel
theorem dL_law_425 : decode cL_law 425 = .ok (.aload_n 1, 1) := by decide +kernel
theorem dL_law_426 : decode cL_law 426 = .ok (.aload_n 0, 1) := by decide +kernel
theorem dL_law_427 : decode cL_law 427 = .ok (.iload_n 3, 1) := by decide +kernel
theorem dL_law_428 : decode cL_law 428 = .ok (.iconst 1, 1) := by decide +kernel
theorem dL_law_429 : decode cL_law 429 = .ok (.iadd, 1) := by decide +kernel
theorem dL_law_430 : decode cL_law 430 = .ok (.iaload, 1) := by decide +kernel
theorem dL_law_431 : decode cL_law 431 = .ok (.invokevirtual 55, 3) := by decide +kernel
theorem dL_law_434 : decode cL_law 434 = .ok (.aload_n 2, 1) := by decide +kernel
theorem dL_law_435 : decode cL_law 435 = .ok (.aload_n 0, 1) := by decide +kernel
theorem dL_law_436 : decode cL_law 436 = .ok (.iload_n 3, 1) := by decide +kernel
theorem dL_law_437 : decode cL_law 437 = .ok (.iconst 1, 1) := by decide +kernel
theorem dL_law_438 : decode cL_law 438 = .ok (.iadd, 1) := by decide +kernel
theorem dL_law_439 : decode cL_law 439 = .ok (.iaload, 1) := by decide +kernel
theorem dL_law_440 : decode cL_law 440 = .ok (.invokevirtual 58, 3) := by decide +kernel
theorem dL_law_443 : decode cL_law 443 = .ok (.if_icmp .eq 595, 3) := by decide +kernel
theorem dL_law_446 : decode cL_law 446 = .ok (.iconst 0, 1) := by decide +kernel
theorem dL_law_447 : decode cL_law 447 = .ok (.ireturn, 1) := by decide +kernel
theorem dL_law_448 : decode cL_law 448 = .ok (.aload_n 1, 1) := by decide +kernel
theorem dL_law_449 : decode cL_law 449 = .ok (.aload_n 0, 1) := by decide +kernel
theorem dL_law_450 : decode cL_law 450 = .ok (.iload_n 3, 1) := by decide +kernel
theorem dL_law_451 : decode cL_law 451 = .ok (.iconst 1, 1) := by decide +kernel
theorem dL_law_452 : decode cL_law 452 = .ok (.iadd, 1) := by decide +kernel
theorem dL_law_453 : decode cL_law 453 = .ok (.iaload, 1) := by decide +kernel
theorem dL_law_454 : decode cL_law 454 = .ok (.aload_n 0, 1) := by decide +kernel
theorem dL_law_455 : decode cL_law 455 = .ok (.iload_n 3, 1) := by decide +kernel
theorem dL_law_456 : decode cL_law 456 = .ok (.iconst 2, 1) := by decide +kernel
theorem dL_law_457 : decode cL_law 457 = .ok (.iadd, 1) := by decide +kernel
theorem dL_law_458 : decode cL_law 458 = .ok (.iaload, 1) := by decide +kernel
theorem dL_law_459 : decode cL_law 459 = .ok (.invokevirtual 59, 3) := by decide +kernel
theorem dL_law_462 : decode cL_law 462 = .ok (.aload_n 2, 1) := by decide +kernel
theorem dL_law_463 : decode cL_law 463 = .ok (.aload_n 0, 1) := by decide +kernel
theorem dL_law_464 : decode cL_law 464 = .ok (.iload_n 3, 1) := by decide +kernel
theorem dL_law_465 : decode cL_law 465 = .ok (.iconst 1, 1) := by decide +kernel
theorem dL_law_466 : decode cL_law 466 = .ok (.iadd, 1) := by decide +kernel
theorem dL_law_467 : decode cL_law 467 = .ok (.iaload, 1) := by decide +kernel
theorem dL_law_468 : decode cL_law 468 = .ok (.aload_n 0, 1) := by decide +kernel
theorem dL_law_469 : decode cL_law 469 = .ok (.iload_n 3, 1) := by decide +kernel
theorem dL_law_470 : decode cL_law 470 = .ok (.iconst 2, 1) := by decide +kernel
theorem dL_law_471 : decode cL_law 471 = .ok (.iadd, 1) := by decide +kernel
theorem dL_law_472 : decode cL_law 472 = .ok (.iaload, 1) := by decide +kernel
theorem dL_law_473 : decode cL_law 473 = .ok (.invokevirtual 62, 3) := by decide +kernel
theorem dL_law_476 : decode cL_law 476 = .ok (.if_icmp .eq 562, 3) := by decide +kernel
theorem dL_law_479 : decode cL_law 479 = .ok (.iconst 0, 1) := by decide +kernel
theorem dL_law_480 : decode cL_law 480 = .ok (.ireturn, 1) := by decide +kernel
theorem dL_law_481 : decode cL_law 481 = .ok (.aload_n 1, 1) := by decide +kernel
theorem dL_law_482 : decode cL_law 482 = .ok (.aload_n 0, 1) := by decide +kernel
theorem dL_law_483 : decode cL_law 483 = .ok (.iload_n 3, 1) := by decide +kernel
theorem dL_law_484 : decode cL_law 484 = .ok (.iconst 1, 1) := by decide +kernel
theorem dL_law_485 : decode cL_law 485 = .ok (.iadd, 1) := by decide +kernel
theorem dL_law_486 : decode cL_law 486 = .ok (.iaload, 1) := by decide +kernel
theorem dL_law_487 : decode cL_law 487 = .ok (.aload_n 0, 1) := by decide +kernel
theorem dL_law_488 : decode cL_law 488 = .ok (.iload_n 3, 1) := by decide +kernel
theorem dL_law_489 : decode cL_law 489 = .ok (.iconst 2, 1) := by decide +kernel
theorem dL_law_490 : decode cL_law 490 = .ok (.iadd, 1) := by decide +kernel
theorem dL_law_491 : decode cL_law 491 = .ok (.iaload, 1) := by decide +kernel
theorem dL_law_492 : decode cL_law 492 = .ok (.invokevirtual 63, 3) := by decide +kernel
theorem dL_law_495 : decode cL_law 495 = .ok (.aload_n 2, 1) := by decide +kernel
theorem dL_law_496 : decode cL_law 496 = .ok (.aload_n 0, 1) := by decide +kernel
theorem dL_law_497 : decode cL_law 497 = .ok (.iload_n 3, 1) := by decide +kernel
theorem dL_law_498 : decode cL_law 498 = .ok (.iconst 1, 1) := by decide +kernel
theorem dL_law_499 : decode cL_law 499 = .ok (.iadd, 1) := by decide +kernel
theorem dL_law_500 : decode cL_law 500 = .ok (.iaload, 1) := by decide +kernel
theorem dL_law_501 : decode cL_law 501 = .ok (.aload_n 0, 1) := by decide +kernel
theorem dL_law_502 : decode cL_law 502 = .ok (.iload_n 3, 1) := by decide +kernel
theorem dL_law_503 : decode cL_law 503 = .ok (.iconst 2, 1) := by decide +kernel
theorem dL_law_504 : decode cL_law 504 = .ok (.iadd, 1) := by decide +kernel
theorem dL_law_505 : decode cL_law 505 = .ok (.iaload, 1) := by decide +kernel
theorem dL_law_506 : decode cL_law 506 = .ok (.invokevirtual 66, 3) := by decide +kernel
theorem dL_law_509 : decode cL_law 509 = .ok (.if_icmp .eq 529, 3) := by decide +kernel
theorem dL_law_512 : decode cL_law 512 = .ok (.iconst 0, 1) := by decide +kernel
theorem dL_law_513 : decode cL_law 513 = .ok (.ireturn, 1) := by decide +kernel
theorem dL_law_514 : decode cL_law 514 = .ok (.aload_n 1, 1) := by decide +kernel
theorem dL_law_515 : decode cL_law 515 = .ok (.invokevirtual 67, 3) := by decide +kernel
theorem dL_law_518 : decode cL_law 518 = .ok (.aload_n 2, 1) := by decide +kernel
theorem dL_law_519 : decode cL_law 519 = .ok (.invokevirtual 70, 3) := by decide +kernel
theorem dL_law_522 : decode cL_law 522 = .ok (.if_icmp .eq 516, 3) := by decide +kernel
theorem dL_law_525 : decode cL_law 525 = .ok (.iconst 0, 1) := by decide +kernel
theorem dL_law_526 : decode cL_law 526 = .ok (.ireturn, 1) := by decide +kernel
theorem dL_law_527 : decode cL_law 527 = .ok (.aload_n 1, 1) := by decide +kernel
theorem dL_law_528 : decode cL_law 528 = .ok (.aload_n 0, 1) := by decide +kernel
theorem dL_law_529 : decode cL_law 529 = .ok (.iload_n 3, 1) := by decide +kernel
theorem dL_law_530 : decode cL_law 530 = .ok (.iconst 1, 1) := by decide +kernel
theorem dL_law_531 : decode cL_law 531 = .ok (.iadd, 1) := by decide +kernel
theorem dL_law_532 : decode cL_law 532 = .ok (.iaload, 1) := by decide +kernel
theorem dL_law_533 : decode cL_law 533 = .ok (.invokevirtual 71, 3) := by decide +kernel
theorem dL_law_536 : decode cL_law 536 = .ok (.aload_n 2, 1) := by decide +kernel
theorem dL_law_537 : decode cL_law 537 = .ok (.aload_n 0, 1) := by decide +kernel
theorem dL_law_538 : decode cL_law 538 = .ok (.iload_n 3, 1) := by decide +kernel
theorem dL_law_539 : decode cL_law 539 = .ok (.iconst 1, 1) := by decide +kernel
theorem dL_law_540 : decode cL_law 540 = .ok (.iadd, 1) := by decide +kernel
theorem dL_law_541 : decode cL_law 541 = .ok (.iaload, 1) := by decide +kernel
theorem dL_law_542 : decode cL_law 542 = .ok (.invokevirtual 74, 3) := by decide +kernel
theorem dL_law_545 : decode cL_law 545 = .ok (.if_icmp .eq 493, 3) := by decide +kernel
theorem dL_law_548 : decode cL_law 548 = .ok (.iconst 0, 1) := by decide +kernel
theorem dL_law_549 : decode cL_law 549 = .ok (.ireturn, 1) := by decide +kernel
theorem dL_law_550 : decode cL_law 550 = .ok (.aload_n 1, 1) := by decide +kernel
theorem dL_law_551 : decode cL_law 551 = .ok (.aload_n 0, 1) := by decide +kernel
theorem dL_law_552 : decode cL_law 552 = .ok (.iload_n 3, 1) := by decide +kernel
theorem dL_law_553 : decode cL_law 553 = .ok (.iconst 1, 1) := by decide +kernel
theorem dL_law_554 : decode cL_law 554 = .ok (.iadd, 1) := by decide +kernel
theorem dL_law_555 : decode cL_law 555 = .ok (.iaload, 1) := by decide +kernel
theorem dL_law_556 : decode cL_law 556 = .ok (.invokevirtual 75, 3) := by decide +kernel
theorem dL_law_559 : decode cL_law 559 = .ok (.aload_n 2, 1) := by decide +kernel
theorem dL_law_560 : decode cL_law 560 = .ok (.aload_n 0, 1) := by decide +kernel
theorem dL_law_561 : decode cL_law 561 = .ok (.iload_n 3, 1) := by decide +kernel
theorem dL_law_562 : decode cL_law 562 = .ok (.iconst 1, 1) := by decide +kernel
theorem dL_law_563 : decode cL_law 563 = .ok (.iadd, 1) := by decide +kernel
theorem dL_law_564 : decode cL_law 564 = .ok (.iaload, 1) := by decide +kernel
theorem dL_law_565 : decode cL_law 565 = .ok (.invokevirtual 78, 3) := by decide +kernel
theorem dL_law_568 : decode cL_law 568 = .ok (.if_icmp .eq 470, 3) := by decide +kernel
theorem dL_law_571 : decode cL_law 571 = .ok (.iconst 0, 1) := by decide +kernel
theorem dL_law_572 : decode cL_law 572 = .ok (.ireturn, 1) := by decide +kernel
theorem dL_law_573 : decode cL_law 573 = .ok (.aload_n 1, 1) := by decide +kernel
theorem dL_law_574 : decode cL_law 574 = .ok (.aload_n 0, 1) := by decide +kernel
theorem dL_law_575 : decode cL_law 575 = .ok (.iload_n 3, 1) := by decide +kernel
theorem dL_law_576 : decode cL_law 576 = .ok (.iconst 1, 1) := by decide +kernel
theorem dL_law_577 : decode cL_law 577 = .ok (.iadd, 1) := by decide +kernel
theorem dL_law_578 : decode cL_law 578 = .ok (.iaload, 1) := by decide +kernel
theorem dL_law_579 : decode cL_law 579 = .ok (.invokevirtual 79, 3) := by decide +kernel
theorem dL_law_582 : decode cL_law 582 = .ok (.aload_n 2, 1) := by decide +kernel
theorem dL_law_583 : decode cL_law 583 = .ok (.aload_n 0, 1) := by decide +kernel
theorem dL_law_584 : decode cL_law 584 = .ok (.iload_n 3, 1) := by decide +kernel
theorem dL_law_585 : decode cL_law 585 = .ok (.iconst 1, 1) := by decide +kernel
theorem dL_law_586 : decode cL_law 586 = .ok (.iadd, 1) := by decide +kernel
theorem dL_law_587 : decode cL_law 587 = .ok (.iaload, 1) := by decide +kernel
theorem dL_law_588 : decode cL_law 588 = .ok (.invokevirtual 82, 3) := by decide +kernel
theorem dL_law_591 : decode cL_law 591 = .ok (.if_icmp .eq 447, 3) := by decide +kernel
theorem dL_law_594 : decode cL_law 594 = .ok (.iconst 0, 1) := by decide +kernel
theorem dL_law_595 : decode cL_law 595 = .ok (.ireturn, 1) := by decide +kernel
theorem dL_law_596 : decode cL_law 596 = .ok (.aload_n 1, 1) := by decide +kernel
theorem dL_law_597 : decode cL_law 597 = .ok (.aload_n 0, 1) := by decide +kernel
theorem dL_law_598 : decode cL_law 598 = .ok (.iload_n 3, 1) := by decide +kernel
theorem dL_law_599 : decode cL_law 599 = .ok (.iconst 1, 1) := by decide +kernel
theorem dL_law_600 : decode cL_law 600 = .ok (.iadd, 1) := by decide +kernel
theorem dL_law_601 : decode cL_law 601 = .ok (.iaload, 1) := by decide +kernel
theorem dL_law_602 : decode cL_law 602 = .ok (.aload_n 0, 1) := by decide +kernel
theorem dL_law_603 : decode cL_law 603 = .ok (.iload_n 3, 1) := by decide +kernel
theorem dL_law_604 : decode cL_law 604 = .ok (.iconst 2, 1) := by decide +kernel
theorem dL_law_605 : decode cL_law 605 = .ok (.iadd, 1) := by decide +kernel
theorem dL_law_606 : decode cL_law 606 = .ok (.iaload, 1) := by decide +kernel
theorem dL_law_607 : decode cL_law 607 = .ok (.aload_n 0, 1) := by decide +kernel
theorem dL_law_608 : decode cL_law 608 = .ok (.iload_n 3, 1) := by decide +kernel
theorem dL_law_609 : decode cL_law 609 = .ok (.iconst 3, 1) := by decide +kernel
theorem dL_law_610 : decode cL_law 610 = .ok (.iadd, 1) := by decide +kernel
theorem dL_law_611 : decode cL_law 611 = .ok (.iaload, 1) := by decide +kernel
theorem dL_law_612 : decode cL_law 612 = .ok (.invokevirtual 83, 3) := by decide +kernel
theorem dL_law_615 : decode cL_law 615 = .ok (.aload_n 2, 1) := by decide +kernel
theorem dL_law_616 : decode cL_law 616 = .ok (.aload_n 0, 1) := by decide +kernel
theorem dL_law_617 : decode cL_law 617 = .ok (.iload_n 3, 1) := by decide +kernel
theorem dL_law_618 : decode cL_law 618 = .ok (.iconst 1, 1) := by decide +kernel
theorem dL_law_619 : decode cL_law 619 = .ok (.iadd, 1) := by decide +kernel
theorem dL_law_620 : decode cL_law 620 = .ok (.iaload, 1) := by decide +kernel
theorem dL_law_621 : decode cL_law 621 = .ok (.aload_n 0, 1) := by decide +kernel
theorem dL_law_622 : decode cL_law 622 = .ok (.iload_n 3, 1) := by decide +kernel
theorem dL_law_623 : decode cL_law 623 = .ok (.iconst 2, 1) := by decide +kernel
theorem dL_law_624 : decode cL_law 624 = .ok (.iadd, 1) := by decide +kernel
theorem dL_law_625 : decode cL_law 625 = .ok (.iaload, 1) := by decide +kernel
theorem dL_law_626 : decode cL_law 626 = .ok (.aload_n 0, 1) := by decide +kernel
theorem dL_law_627 : decode cL_law 627 = .ok (.iload_n 3, 1) := by decide +kernel
theorem dL_law_628 : decode cL_law 628 = .ok (.iconst 3, 1) := by decide +kernel
theorem dL_law_629 : decode cL_law 629 = .ok (.iadd, 1) := by decide +kernel
theorem dL_law_630 : decode cL_law 630 = .ok (.iaload, 1) := by decide +kernel
theorem dL_law_631 : decode cL_law 631 = .ok (.invokevirtual 87, 3) := by decide +kernel
theorem dL_law_634 : decode cL_law 634 = .ok (.if_icmp .eq 404, 3) := by decide +kernel
theorem dL_law_637 : decode cL_law 637 = .ok (.iconst 0, 1) := by decide +kernel
theorem dL_law_638 : decode cL_law 638 = .ok (.ireturn, 1) := by decide +kernel
theorem dL_law_639 : decode cL_law 639 = .ok (.aload_n 1, 1) := by decide +kernel
theorem dL_law_640 : decode cL_law 640 = .ok (.aload_n 0, 1) := by decide +kernel
theorem dL_law_641 : decode cL_law 641 = .ok (.iload_n 3, 1) := by decide +kernel
theorem dL_law_642 : decode cL_law 642 = .ok (.iconst 1, 1) := by decide +kernel
theorem dL_law_643 : decode cL_law 643 = .ok (.iadd, 1) := by decide +kernel
theorem dL_law_644 : decode cL_law 644 = .ok (.iaload, 1) := by decide +kernel
theorem dL_law_645 : decode cL_law 645 = .ok (.invokevirtual 88, 3) := by decide +kernel
theorem dL_law_648 : decode cL_law 648 = .ok (.aload_n 2, 1) := by decide +kernel
theorem dL_law_649 : decode cL_law 649 = .ok (.aload_n 0, 1) := by decide +kernel
theorem dL_law_650 : decode cL_law 650 = .ok (.iload_n 3, 1) := by decide +kernel
theorem dL_law_651 : decode cL_law 651 = .ok (.iconst 1, 1) := by decide +kernel
theorem dL_law_652 : decode cL_law 652 = .ok (.iadd, 1) := by decide +kernel
theorem dL_law_653 : decode cL_law 653 = .ok (.iaload, 1) := by decide +kernel
theorem dL_law_654 : decode cL_law 654 = .ok (.invokevirtual 91, 3) := by decide +kernel
theorem dL_law_657 : decode cL_law 657 = .ok (.if_icmp .eq 381, 3) := by decide +kernel
theorem dL_law_660 : decode cL_law 660 = .ok (.iconst 0, 1) := by decide +kernel
theorem dL_law_661 : decode cL_law 661 = .ok (.ireturn, 1) := by decide +kernel
theorem dL_law_662 : decode cL_law 662 = .ok (.aload_n 1, 1) := by decide +kernel
theorem dL_law_663 : decode cL_law 663 = .ok (.aload_n 0, 1) := by decide +kernel
theorem dL_law_664 : decode cL_law 664 = .ok (.iload_n 3, 1) := by decide +kernel
theorem dL_law_665 : decode cL_law 665 = .ok (.iconst 1, 1) := by decide +kernel
theorem dL_law_666 : decode cL_law 666 = .ok (.iadd, 1) := by decide +kernel
theorem dL_law_667 : decode cL_law 667 = .ok (.iaload, 1) := by decide +kernel
theorem dL_law_668 : decode cL_law 668 = .ok (.aload_n 0, 1) := by decide +kernel
theorem dL_law_669 : decode cL_law 669 = .ok (.iload_n 3, 1) := by decide +kernel
theorem dL_law_670 : decode cL_law 670 = .ok (.iconst 2, 1) := by decide +kernel
theorem dL_law_671 : decode cL_law 671 = .ok (.iadd, 1) := by decide +kernel
theorem dL_law_672 : decode cL_law 672 = .ok (.iaload, 1) := by decide +kernel
theorem dL_law_673 : decode cL_law 673 = .ok (.invokevirtual 92, 3) := by decide +kernel
theorem dL_law_676 : decode cL_law 676 = .ok (.aload_n 2, 1) := by decide +kernel
theorem dL_law_677 : decode cL_law 677 = .ok (.aload_n 0, 1) := by decide +kernel
theorem dL_law_678 : decode cL_law 678 = .ok (.iload_n 3, 1) := by decide +kernel
theorem dL_law_679 : decode cL_law 679 = .ok (.iconst 1, 1) := by decide +kernel
theorem dL_law_680 : decode cL_law 680 = .ok (.iadd, 1) := by decide +kernel
theorem dL_law_681 : decode cL_law 681 = .ok (.iaload, 1) := by decide +kernel
theorem dL_law_682 : decode cL_law 682 = .ok (.aload_n 0, 1) := by decide +kernel
theorem dL_law_683 : decode cL_law 683 = .ok (.iload_n 3, 1) := by decide +kernel
theorem dL_law_684 : decode cL_law 684 = .ok (.iconst 2, 1) := by decide +kernel
theorem dL_law_685 : decode cL_law 685 = .ok (.iadd, 1) := by decide +kernel
theorem dL_law_686 : decode cL_law 686 = .ok (.iaload, 1) := by decide +kernel
theorem dL_law_687 : decode cL_law 687 = .ok (.invokevirtual 95, 3) := by decide +kernel
theorem dL_law_690 : decode cL_law 690 = .ok (.if_icmp .eq 348, 3) := by decide +kernel
theorem dL_law_693 : decode cL_law 693 = .ok (.iconst 0, 1) := by decide +kernel
theorem dL_law_694 : decode cL_law 694 = .ok (.ireturn, 1) := by decide +kernel
theorem dL_law_695 : decode cL_law 695 = .ok (.aload_n 1, 1) := by decide +kernel
theorem dL_law_696 : decode cL_law 696 = .ok (.aload_n 0, 1) := by decide +kernel
theorem dL_law_697 : decode cL_law 697 = .ok (.iload_n 3, 1) := by decide +kernel
theorem dL_law_698 : decode cL_law 698 = .ok (.iconst 1, 1) := by decide +kernel
theorem dL_law_699 : decode cL_law 699 = .ok (.iadd, 1) := by decide +kernel
theorem dL_law_700 : decode cL_law 700 = .ok (.iaload, 1) := by decide +kernel
theorem dL_law_701 : decode cL_law 701 = .ok (.aload_n 0, 1) := by decide +kernel
theorem dL_law_702 : decode cL_law 702 = .ok (.iload_n 3, 1) := by decide +kernel
theorem dL_law_703 : decode cL_law 703 = .ok (.iconst 2, 1) := by decide +kernel
theorem dL_law_704 : decode cL_law 704 = .ok (.iadd, 1) := by decide +kernel
theorem dL_law_705 : decode cL_law 705 = .ok (.iaload, 1) := by decide +kernel
theorem dL_law_706 : decode cL_law 706 = .ok (.aload_n 0, 1) := by decide +kernel
theorem dL_law_707 : decode cL_law 707 = .ok (.iload_n 3, 1) := by decide +kernel
theorem dL_law_708 : decode cL_law 708 = .ok (.iconst 3, 1) := by decide +kernel
theorem dL_law_709 : decode cL_law 709 = .ok (.iadd, 1) := by decide +kernel
theorem dL_law_710 : decode cL_law 710 = .ok (.iaload, 1) := by decide +kernel
theorem dL_law_711 : decode cL_law 711 = .ok (.invokevirtual 96, 3) := by decide +kernel
theorem dL_law_714 : decode cL_law 714 = .ok (.aload_n 2, 1) := by decide +kernel
theorem dL_law_715 : decode cL_law 715 = .ok (.aload_n 0, 1) := by decide +kernel
theorem dL_law_716 : decode cL_law 716 = .ok (.iload_n 3, 1) := by decide +kernel
theorem dL_law_717 : decode cL_law 717 = .ok (.iconst 1, 1) := by decide +kernel
theorem dL_law_718 : decode cL_law 718 = .ok (.iadd, 1) := by decide +kernel
theorem dL_law_719 : decode cL_law 719 = .ok (.iaload, 1) := by decide +kernel
theorem dL_law_720 : decode cL_law 720 = .ok (.aload_n 0, 1) := by decide +kernel
theorem dL_law_721 : decode cL_law 721 = .ok (.iload_n 3, 1) := by decide +kernel
theorem dL_law_722 : decode cL_law 722 = .ok (.iconst 2, 1) := by decide +kernel
theorem dL_law_723 : decode cL_law 723 = .ok (.iadd, 1) := by decide +kernel
theorem dL_law_724 : decode cL_law 724 = .ok (.iaload, 1) := by decide +kernel
theorem dL_law_725 : decode cL_law 725 = .ok (.aload_n 0, 1) := by decide +kernel
theorem dL_law_726 : decode cL_law 726 = .ok (.iload_n 3, 1) := by decide +kernel
theorem dL_law_727 : decode cL_law 727 = .ok (.iconst 3, 1) := by decide +kernel
theorem dL_law_728 : decode cL_law 728 = .ok (.iadd, 1) := by decide +kernel
theorem dL_law_729 : decode cL_law 729 = .ok (.iaload, 1) := by decide +kernel
theorem dL_law_730 : decode cL_law 730 = .ok (.invokevirtual 99, 3) := by decide +kernel
theorem dL_law_733 : decode cL_law 733 = .ok (.if_icmp .eq 305, 3) := by decide +kernel
theorem dL_law_736 : decode cL_law 736 = .ok (.iconst 0, 1) := by decide +kernel
theorem dL_law_737 : decode cL_law 737 = .ok (.ireturn, 1) := by decide +kernel
theorem dL_law_738 : decode cL_law 738 = .ok (.aload_n 1, 1) := by decide +kernel
theorem dL_law_739 : decode cL_law 739 = .ok (.aload_n 0, 1) := by decide +kernel
theorem dL_law_740 : decode cL_law 740 = .ok (.iload_n 3, 1) := by decide +kernel
theorem dL_law_741 : decode cL_law 741 = .ok (.iconst 1, 1) := by decide +kernel
theorem dL_law_742 : decode cL_law 742 = .ok (.iadd, 1) := by decide +kernel
theorem dL_law_743 : decode cL_law 743 = .ok (.iaload, 1) := by decide +kernel
theorem dL_law_744 : decode cL_law 744 = .ok (.aload_n 0, 1) := by decide +kernel
theorem dL_law_745 : decode cL_law 745 = .ok (.iload_n 3, 1) := by decide +kernel
theorem dL_law_746 : decode cL_law 746 = .ok (.iconst 2, 1) := by decide +kernel
theorem dL_law_747 : decode cL_law 747 = .ok (.iadd, 1) := by decide +kernel
theorem dL_law_748 : decode cL_law 748 = .ok (.iaload, 1) := by decide +kernel
theorem dL_law_749 : decode cL_law 749 = .ok (.aload_n 0, 1) := by decide +kernel
theorem dL_law_750 : decode cL_law 750 = .ok (.iload_n 3, 1) := by decide +kernel
theorem dL_law_751 : decode cL_law 751 = .ok (.iconst 3, 1) := by decide +kernel
theorem dL_law_752 : decode cL_law 752 = .ok (.iadd, 1) := by decide +kernel
theorem dL_law_753 : decode cL_law 753 = .ok (.iaload, 1) := by decide +kernel
theorem dL_law_754 : decode cL_law 754 = .ok (.invokevirtual 100, 3) := by decide +kernel
theorem dL_law_757 : decode cL_law 757 = .ok (.aload_n 2, 1) := by decide +kernel
theorem dL_law_758 : decode cL_law 758 = .ok (.aload_n 0, 1) := by decide +kernel
theorem dL_law_759 : decode cL_law 759 = .ok (.iload_n 3, 1) := by decide +kernel
theorem dL_law_760 : decode cL_law 760 = .ok (.iconst 1, 1) := by decide +kernel
theorem dL_law_761 : decode cL_law 761 = .ok (.iadd, 1) := by decide +kernel
theorem dL_law_762 : decode cL_law 762 = .ok (.iaload, 1) := by decide +kernel
theorem dL_law_763 : decode cL_law 763 = .ok (.aload_n 0, 1) := by decide +kernel
theorem dL_law_764 : decode cL_law 764 = .ok (.iload_n 3, 1) := by decide +kernel
theorem dL_law_765 : decode cL_law 765 = .ok (.iconst 2, 1) := by decide +kernel
theorem dL_law_766 : decode cL_law 766 = .ok (.iadd, 1) := by decide +kernel
theorem dL_law_767 : decode cL_law 767 = .ok (.iaload, 1) := by decide +kernel
theorem dL_law_768 : decode cL_law 768 = .ok (.aload_n 0, 1) := by decide +kernel
theorem dL_law_769 : decode cL_law 769 = .ok (.iload_n 3, 1) := by decide +kernel
theorem dL_law_770 : decode cL_law 770 = .ok (.iconst 3, 1) := by decide +kernel
theorem dL_law_771 : decode cL_law 771 = .ok (.iadd, 1) := by decide +kernel
theorem dL_law_772 : decode cL_law 772 = .ok (.iaload, 1) := by decide +kernel
theorem dL_law_773 : decode cL_law 773 = .ok (.invokevirtual 103, 3) := by decide +kernel
theorem dL_law_776 : decode cL_law 776 = .ok (.if_icmp .eq 262, 3) := by decide +kernel
theorem dL_law_779 : decode cL_law 779 = .ok (.iconst 0, 1) := by decide +kernel
theorem dL_law_780 : decode cL_law 780 = .ok (.ireturn, 1) := by decide +kernel
theorem dL_law_781 : decode cL_law 781 = .ok (.aload_n 1, 1) := by decide +kernel
theorem dL_law_782 : decode cL_law 782 = .ok (.aload_n 0, 1) := by decide +kernel
theorem dL_law_783 : decode cL_law 783 = .ok (.iload_n 3, 1) := by decide +kernel
theorem dL_law_784 : decode cL_law 784 = .ok (.iconst 1, 1) := by decide +kernel
theorem dL_law_785 : decode cL_law 785 = .ok (.iadd, 1) := by decide +kernel
theorem dL_law_786 : decode cL_law 786 = .ok (.iaload, 1) := by decide +kernel
theorem dL_law_787 : decode cL_law 787 = .ok (.aload_n 0, 1) := by decide +kernel
theorem dL_law_788 : decode cL_law 788 = .ok (.iload_n 3, 1) := by decide +kernel
theorem dL_law_789 : decode cL_law 789 = .ok (.iconst 2, 1) := by decide +kernel
theorem dL_law_790 : decode cL_law 790 = .ok (.iadd, 1) := by decide +kernel
theorem dL_law_791 : decode cL_law 791 = .ok (.iaload, 1) := by decide +kernel
theorem dL_law_792 : decode cL_law 792 = .ok (.invokevirtual 104, 3) := by decide +kernel
theorem dL_law_795 : decode cL_law 795 = .ok (.aload_n 2, 1) := by decide +kernel
theorem dL_law_796 : decode cL_law 796 = .ok (.aload_n 0, 1) := by decide +kernel
theorem dL_law_797 : decode cL_law 797 = .ok (.iload_n 3, 1) := by decide +kernel
theorem dL_law_798 : decode cL_law 798 = .ok (.iconst 1, 1) := by decide +kernel
theorem dL_law_799 : decode cL_law 799 = .ok (.iadd, 1) := by decide +kernel
theorem dL_law_800 : decode cL_law 800 = .ok (.iaload, 1) := by decide +kernel
theorem dL_law_801 : decode cL_law 801 = .ok (.aload_n 0, 1) := by decide +kernel
theorem dL_law_802 : decode cL_law 802 = .ok (.iload_n 3, 1) := by decide +kernel
theorem dL_law_803 : decode cL_law 803 = .ok (.iconst 2, 1) := by decide +kernel
theorem dL_law_804 : decode cL_law 804 = .ok (.iadd, 1) := by decide +kernel
theorem dL_law_805 : decode cL_law 805 = .ok (.iaload, 1) := by decide +kernel
theorem dL_law_806 : decode cL_law 806 = .ok (.invokevirtual 107, 3) := by decide +kernel
theorem dL_law_809 : decode cL_law 809 = .ok (.if_icmp .eq 229, 3) := by decide +kernel
theorem dL_law_812 : decode cL_law 812 = .ok (.iconst 0, 1) := by decide +kernel
theorem dL_law_813 : decode cL_law 813 = .ok (.ireturn, 1) := by decide +kernel
theorem dL_law_814 : decode cL_law 814 = .ok (.aload_n 1, 1) := by decide +kernel
theorem dL_law_815 : decode cL_law 815 = .ok (.aload_n 0, 1) := by decide +kernel
theorem dL_law_816 : decode cL_law 816 = .ok (.iload_n 3, 1) := by decide +kernel
theorem dL_law_817 : decode cL_law 817 = .ok (.iconst 1, 1) := by decide +kernel
theorem dL_law_818 : decode cL_law 818 = .ok (.iadd, 1) := by decide +kernel
theorem dL_law_819 : decode cL_law 819 = .ok (.iaload, 1) := by decide +kernel
theorem dL_law_820 : decode cL_law 820 = .ok (.aload_n 0, 1) := by decide +kernel
theorem dL_law_821 : decode cL_law 821 = .ok (.iload_n 3, 1) := by decide +kernel
theorem dL_law_822 : decode cL_law 822 = .ok (.iconst 2, 1) := by decide +kernel
theorem dL_law_823 : decode cL_law 823 = .ok (.iadd, 1) := by decide +kernel
theorem dL_law_824 : decode cL_law 824 = .ok (.iaload, 1) := by decide +kernel
theorem dL_law_825 : decode cL_law 825 = .ok (.invokevirtual 108, 3) := by decide +kernel
theorem dL_law_828 : decode cL_law 828 = .ok (.aload_n 2, 1) := by decide +kernel
theorem dL_law_829 : decode cL_law 829 = .ok (.aload_n 0, 1) := by decide +kernel
theorem dL_law_830 : decode cL_law 830 = .ok (.iload_n 3, 1) := by decide +kernel
theorem dL_law_831 : decode cL_law 831 = .ok (.iconst 1, 1) := by decide +kernel
theorem dL_law_832 : decode cL_law 832 = .ok (.iadd, 1) := by decide +kernel
theorem dL_law_833 : decode cL_law 833 = .ok (.iaload, 1) := by decide +kernel
theorem dL_law_834 : decode cL_law 834 = .ok (.aload_n 0, 1) := by decide +kernel
theorem dL_law_835 : decode cL_law 835 = .ok (.iload_n 3, 1) := by decide +kernel
theorem dL_law_836 : decode cL_law 836 = .ok (.iconst 2, 1) := by decide +kernel
theorem dL_law_837 : decode cL_law 837 = .ok (.iadd, 1) := by decide +kernel
theorem dL_law_838 : decode cL_law 838 = .ok (.iaload, 1) := by decide +kernel
theorem dL_law_839 : decode cL_law 839 = .ok (.invokevirtual 111, 3) := by decide +kernel
theorem dL_law_842 : decode cL_law 842 = .ok (.if_icmp .eq 196, 3) := by decide +kernel
theorem dL_law_845 : decode cL_law 845 = .ok (.iconst 0, 1) := by decide +kernel
theorem dL_law_846 : decode cL_law 846 = .ok (.ireturn, 1) := by decide +kernel
theorem dL_law_847 : decode cL_law 847 = .ok (.aload_n 1, 1) := by decide +kernel
theorem dL_law_848 : decode cL_law 848 = .ok (.aload_n 0, 1) := by decide +kernel
theorem dL_law_849 : decode cL_law 849 = .ok (.iload_n 3, 1) := by decide +kernel
theorem dL_law_850 : decode cL_law 850 = .ok (.iconst 1, 1) := by decide +kernel
theorem dL_law_851 : decode cL_law 851 = .ok (.iadd, 1) := by decide +kernel
theorem dL_law_852 : decode cL_law 852 = .ok (.iaload, 1) := by decide +kernel
theorem dL_law_853 : decode cL_law 853 = .ok (.invokevirtual 112, 3) := by decide +kernel
theorem dL_law_856 : decode cL_law 856 = .ok (.aload_n 2, 1) := by decide +kernel
theorem dL_law_857 : decode cL_law 857 = .ok (.aload_n 0, 1) := by decide +kernel
theorem dL_law_858 : decode cL_law 858 = .ok (.iload_n 3, 1) := by decide +kernel
theorem dL_law_859 : decode cL_law 859 = .ok (.iconst 1, 1) := by decide +kernel
theorem dL_law_860 : decode cL_law 860 = .ok (.iadd, 1) := by decide +kernel
theorem dL_law_861 : decode cL_law 861 = .ok (.iaload, 1) := by decide +kernel
theorem dL_law_862 : decode cL_law 862 = .ok (.invokevirtual 115, 3) := by decide +kernel
theorem dL_law_865 : decode cL_law 865 = .ok (.if_icmp .eq 173, 3) := by decide +kernel
theorem dL_law_868 : decode cL_law 868 = .ok (.iconst 0, 1) := by decide +kernel
theorem dL_law_869 : decode cL_law 869 = .ok (.ireturn, 1) := by decide +kernel
theorem dL_law_870 : decode cL_law 870 = .ok (.aload_n 1, 1) := by decide +kernel
theorem dL_law_871 : decode cL_law 871 = .ok (.aload_n 0, 1) := by decide +kernel
theorem dL_law_872 : decode cL_law 872 = .ok (.iload_n 3, 1) := by decide +kernel
theorem dL_law_873 : decode cL_law 873 = .ok (.iconst 1, 1) := by decide +kernel
theorem dL_law_874 : decode cL_law 874 = .ok (.iadd, 1) := by decide +kernel
theorem dL_law_875 : decode cL_law 875 = .ok (.iaload, 1) := by decide +kernel
theorem dL_law_876 : decode cL_law 876 = .ok (.aload_n 0, 1) := by decide +kernel
theorem dL_law_877 : decode cL_law 877 = .ok (.iload_n 3, 1) := by decide +kernel
theorem dL_law_878 : decode cL_law 878 = .ok (.iconst 2, 1) := by decide +kernel
theorem dL_law_879 : decode cL_law 879 = .ok (.iadd, 1) := by decide +kernel
theorem dL_law_880 : decode cL_law 880 = .ok (.iaload, 1) := by decide +kernel
theorem dL_law_881 : decode cL_law 881 = .ok (.aload_n 0, 1) := by decide +kernel
theorem dL_law_882 : decode cL_law 882 = .ok (.iload_n 3, 1) := by decide +kernel
theorem dL_law_883 : decode cL_law 883 = .ok (.iconst 3, 1) := by decide +kernel
theorem dL_law_884 : decode cL_law 884 = .ok (.iadd, 1) := by decide +kernel
theorem dL_law_885 : decode cL_law 885 = .ok (.iaload, 1) := by decide +kernel
theorem dL_law_886 : decode cL_law 886 = .ok (.invokevirtual 116, 3) := by decide +kernel
theorem dL_law_889 : decode cL_law 889 = .ok (.aload_n 2, 1) := by decide +kernel
theorem dL_law_890 : decode cL_law 890 = .ok (.aload_n 0, 1) := by decide +kernel
theorem dL_law_891 : decode cL_law 891 = .ok (.iload_n 3, 1) := by decide +kernel
theorem dL_law_892 : decode cL_law 892 = .ok (.iconst 1, 1) := by decide +kernel
theorem dL_law_893 : decode cL_law 893 = .ok (.iadd, 1) := by decide +kernel
theorem dL_law_894 : decode cL_law 894 = .ok (.iaload, 1) := by decide +kernel
theorem dL_law_895 : decode cL_law 895 = .ok (.aload_n 0, 1) := by decide +kernel
theorem dL_law_896 : decode cL_law 896 = .ok (.iload_n 3, 1) := by decide +kernel
theorem dL_law_897 : decode cL_law 897 = .ok (.iconst 2, 1) := by decide +kernel
theorem dL_law_898 : decode cL_law 898 = .ok (.iadd, 1) := by decide +kernel
theorem dL_law_899 : decode cL_law 899 = .ok (.iaload, 1) := by decide +kernel
theorem dL_law_900 : decode cL_law 900 = .ok (.aload_n 0, 1) := by decide +kernel
theorem dL_law_901 : decode cL_law 901 = .ok (.iload_n 3, 1) := by decide +kernel
theorem dL_law_902 : decode cL_law 902 = .ok (.iconst 3, 1) := by decide +kernel
theorem dL_law_903 : decode cL_law 903 = .ok (.iadd, 1) := by decide +kernel
theorem dL_law_904 : decode cL_law 904 = .ok (.iaload, 1) := by decide +kernel
theorem dL_law_905 : decode cL_law 905 = .ok (.invokevirtual 119, 3) := by decide +kernel
theorem dL_law_908 : decode cL_law 908 = .ok (.if_icmp .eq 130, 3) := by decide +kernel
theorem dL_law_911 : decode cL_law 911 = .ok (.iconst 0, 1) := by decide +kernel
theorem dL_law_912 : decode cL_law 912 = .ok (.ireturn, 1) := by decide +kernel
theorem dL_law_913 : decode cL_law 913 = .ok (.aload_n 1, 1) := by decide +kernel
theorem dL_law_914 : decode cL_law 914 = .ok (.invokevirtual 120, 3) := by decide +kernel
theorem dL_law_917 : decode cL_law 917 = .ok (.aload_n 2, 1) := by decide +kernel
theorem dL_law_918 : decode cL_law 918 = .ok (.invokevirtual 123, 3) := by decide +kernel
theorem dL_law_921 : decode cL_law 921 = .ok (.if_icmp .eq 117, 3) := by decide +kernel
theorem dL_law_924 : decode cL_law 924 = .ok (.iconst 0, 1) := by decide +kernel
theorem dL_law_925 : decode cL_law 925 = .ok (.ireturn, 1) := by decide +kernel
theorem dL_law_926 : decode cL_law 926 = .ok (.aload_n 1, 1) := by decide +kernel
theorem dL_law_927 : decode cL_law 927 = .ok (.aload_n 0, 1) := by decide +kernel
theorem dL_law_928 : decode cL_law 928 = .ok (.iload_n 3, 1) := by decide +kernel
theorem dL_law_929 : decode cL_law 929 = .ok (.iconst 1, 1) := by decide +kernel
theorem dL_law_930 : decode cL_law 930 = .ok (.iadd, 1) := by decide +kernel
theorem dL_law_931 : decode cL_law 931 = .ok (.iaload, 1) := by decide +kernel
theorem dL_law_932 : decode cL_law 932 = .ok (.invokevirtual 124, 3) := by decide +kernel
theorem dL_law_935 : decode cL_law 935 = .ok (.aload_n 2, 1) := by decide +kernel
theorem dL_law_936 : decode cL_law 936 = .ok (.aload_n 0, 1) := by decide +kernel
theorem dL_law_937 : decode cL_law 937 = .ok (.iload_n 3, 1) := by decide +kernel
theorem dL_law_938 : decode cL_law 938 = .ok (.iconst 1, 1) := by decide +kernel
theorem dL_law_939 : decode cL_law 939 = .ok (.iadd, 1) := by decide +kernel
theorem dL_law_940 : decode cL_law 940 = .ok (.iaload, 1) := by decide +kernel
theorem dL_law_941 : decode cL_law 941 = .ok (.invokevirtual 127, 3) := by decide +kernel
theorem dL_law_944 : decode cL_law 944 = .ok (.if_icmp .eq 94, 3) := by decide +kernel
theorem dL_law_947 : decode cL_law 947 = .ok (.iconst 0, 1) := by decide +kernel
theorem dL_law_948 : decode cL_law 948 = .ok (.ireturn, 1) := by decide +kernel
theorem dL_law_949 : decode cL_law 949 = .ok (.aload_n 1, 1) := by decide +kernel
theorem dL_law_950 : decode cL_law 950 = .ok (.aload_n 0, 1) := by decide +kernel
theorem dL_law_951 : decode cL_law 951 = .ok (.iload_n 3, 1) := by decide +kernel
theorem dL_law_952 : decode cL_law 952 = .ok (.iconst 1, 1) := by decide +kernel
theorem dL_law_953 : decode cL_law 953 = .ok (.iadd, 1) := by decide +kernel
theorem dL_law_954 : decode cL_law 954 = .ok (.iaload, 1) := by decide +kernel
theorem dL_law_955 : decode cL_law 955 = .ok (.aload_n 0, 1) := by decide +kernel
theorem dL_law_956 : decode cL_law 956 = .ok (.iload_n 3, 1) := by decide +kernel
theorem dL_law_957 : decode cL_law 957 = .ok (.iconst 2, 1) := by decide +kernel
theorem dL_law_958 : decode cL_law 958 = .ok (.iadd, 1) := by decide +kernel
theorem dL_law_959 : decode cL_law 959 = .ok (.iaload, 1) := by decide +kernel
theorem dL_law_960 : decode cL_law 960 = .ok (.invokevirtual 128, 3) := by decide +kernel
theorem dL_law_963 : decode cL_law 963 = .ok (.aload_n 2, 1) := by decide +kernel
theorem dL_law_964 : decode cL_law 964 = .ok (.aload_n 0, 1) := by decide +kernel
theorem dL_law_965 : decode cL_law 965 = .ok (.iload_n 3, 1) := by decide +kernel
theorem dL_law_966 : decode cL_law 966 = .ok (.iconst 1, 1) := by decide +kernel
theorem dL_law_967 : decode cL_law 967 = .ok (.iadd, 1) := by decide +kernel
theorem dL_law_968 : decode cL_law 968 = .ok (.iaload, 1) := by decide +kernel
theorem dL_law_969 : decode cL_law 969 = .ok (.aload_n 0, 1) := by decide +kernel
theorem dL_law_970 : decode cL_law 970 = .ok (.iload_n 3, 1) := by decide +kernel
theorem dL_law_971 : decode cL_law 971 = .ok (.iconst 2, 1) := by decide +kernel
theorem dL_law_972 : decode cL_law 972 = .ok (.iadd, 1) := by decide +kernel
theorem dL_law_973 : decode cL_law 973 = .ok (.iaload, 1) := by decide +kernel
theorem dL_law_974 : decode cL_law 974 = .ok (.invokevirtual 131, 3) := by decide +kernel
theorem dL_law_977 : decode cL_law 977 = .ok (.if_icmp .eq 61, 3) := by decide +kernel
theorem dL_law_980 : decode cL_law 980 = .ok (.iconst 0, 1) := by decide +kernel
theorem dL_law_981 : decode cL_law 981 = .ok (.ireturn, 1) := by decide +kernel
theorem dL_law_982 : decode cL_law 982 = .ok (.aload_n 1, 1) := by decide +kernel
theorem dL_law_983 : decode cL_law 983 = .ok (.aload_n 0, 1) := by decide +kernel
theorem dL_law_984 : decode cL_law 984 = .ok (.iload_n 3, 1) := by decide +kernel
theorem dL_law_985 : decode cL_law 985 = .ok (.iconst 1, 1) := by decide +kernel
theorem dL_law_986 : decode cL_law 986 = .ok (.iadd, 1) := by decide +kernel
theorem dL_law_987 : decode cL_law 987 = .ok (.iaload, 1) := by decide +kernel
theorem dL_law_988 : decode cL_law 988 = .ok (.aload_n 0, 1) := by decide +kernel
theorem dL_law_989 : decode cL_law 989 = .ok (.iload_n 3, 1) := by decide +kernel
theorem dL_law_990 : decode cL_law 990 = .ok (.iconst 2, 1) := by decide +kernel
theorem dL_law_991 : decode cL_law 991 = .ok (.iadd, 1) := by decide +kernel
theorem dL_law_992 : decode cL_law 992 = .ok (.iaload, 1) := by decide +kernel
theorem dL_law_993 : decode cL_law 993 = .ok (.invokevirtual 132, 3) := by decide +kernel
theorem dL_law_996 : decode cL_law 996 = .ok (.aload_n 2, 1) := by decide +kernel
theorem dL_law_997 : decode cL_law 997 = .ok (.aload_n 0, 1) := by decide +kernel
theorem dL_law_998 : decode cL_law 998 = .ok (.iload_n 3, 1) := by decide +kernel
theorem dL_law_999 : decode cL_law 999 = .ok (.iconst 1, 1) := by decide +kernel
theorem dL_law_1000 : decode cL_law 1000 = .ok (.iadd, 1) := by decide +kernel
theorem dL_law_1001 : decode cL_law 1001 = .ok (.iaload, 1) := by decide +kernel
theorem dL_law_1002 : decode cL_law 1002 = .ok (.aload_n 0, 1) := by decide +kernel
theorem dL_law_1003 : decode cL_law 1003 = .ok (.iload_n 3, 1) := by decide +kernel
theorem dL_law_1004 : decode cL_law 1004 = .ok (.iconst 2, 1) := by decide +kernel
theorem dL_law_1005 : decode cL_law 1005 = .ok (.iadd, 1) := by decide +kernel
theorem dL_law_1006 : decode cL_law 1006 = .ok (.iaload, 1) := by decide +kernel
theorem dL_law_1007 : decode cL_law 1007 = .ok (.invokevirtual 135, 3) := by decide +kernel
theorem dL_law_1010 : decode cL_law 1010 = .ok (.if_icmp .eq 28, 3) := by decide +kernel
theorem dL_law_1013 : decode cL_law 1013 = .ok (.iconst 0, 1) := by decide +kernel
theorem dL_law_1014 : decode cL_law 1014 = .ok (.ireturn, 1) := by decide +kernel
theorem dL_law_1015 : decode cL_law 1015 = .ok (.aload_n 1, 1) := by decide +kernel
theorem dL_law_1016 : decode cL_law 1016 = .ok (.aload_n 0, 1) := by decide +kernel
theorem dL_law_1017 : decode cL_law 1017 = .ok (.iload_n 3, 1) := by decide +kernel
theorem dL_law_1018 : decode cL_law 1018 = .ok (.iconst 1, 1) := by decide +kernel
theorem dL_law_1019 : decode cL_law 1019 = .ok (.iadd, 1) := by decide +kernel
theorem dL_law_1020 : decode cL_law 1020 = .ok (.iaload, 1) := by decide +kernel
theorem dL_law_1021 : decode cL_law 1021 = .ok (.invokevirtual 136, 3) := by decide +kernel
theorem dL_law_1024 : decode cL_law 1024 = .ok (.aload_n 2, 1) := by decide +kernel
theorem dL_law_1025 : decode cL_law 1025 = .ok (.aload_n 0, 1) := by decide +kernel
theorem dL_law_1026 : decode cL_law 1026 = .ok (.iload_n 3, 1) := by decide +kernel
theorem dL_law_1027 : decode cL_law 1027 = .ok (.iconst 1, 1) := by decide +kernel
theorem dL_law_1028 : decode cL_law 1028 = .ok (.iadd, 1) := by decide +kernel
theorem dL_law_1029 : decode cL_law 1029 = .ok (.iaload, 1) := by decide +kernel
theorem dL_law_1030 : decode cL_law 1030 = .ok (.invokevirtual 139, 3) := by decide +kernel
theorem dL_law_1033 : decode cL_law 1033 = .ok (.if_icmp .eq 5, 3) := by decide +kernel
theorem dL_law_1036 : decode cL_law 1036 = .ok (.iconst 0, 1) := by decide +kernel
theorem dL_law_1037 : decode cL_law 1037 = .ok (.ireturn, 1) := by decide +kernel
theorem dL_law_1038 : decode cL_law 1038 = .ok (.iinc 3 4, 3) := by decide +kernel
theorem dL_law_1041 : decode cL_law 1041 = .ok (.goto (-1023), 3) := by decide +kernel
theorem dL_law_1044 : decode cL_law 1044 = .ok (.iconst 1, 1) := by decide +kernel
theorem dL_law_1045 : decode cL_law 1045 = .ok (.ireturn, 1) := by decide +kernel
