theorem dX0_init_0 : decode cX0_init 0 = .ok (.aload_n 0, 1) := by decide +kernel
theorem dX0_init_1 : decode cX0_init 1 = .ok (.invokespecial 3, 3) := by decide +kernel
theorem dX0_init_4 : decode cX0_init 4 = .ok (.aload_n 0, 1) := by decide +kernel
theorem dX0_init_5 : decode cX0_init 5 = .ok (.bipush 12, 2) := by decide +kernel
theorem dX0_init_7 : decode cX0_init 7 = .ok (.newarray .int, 2) := by decide +kernel
theorem dX0_init_9 : decode cX0_init 9 = .ok (.putfield 9, 3) := by decide +kernel
theorem dX0_init_12 : decode cX0_init 12 = .ok (.aload_n 0, 1) := by decide +kernel
theorem dX0_init_13 : decode cX0_init 13 = .ok (.bipush 6, 2) := by decide +kernel
theorem dX0_init_15 : decode cX0_init 15 = .ok (.newarray .int, 2) := by decide +kernel
theorem dX0_init_17 : decode cX0_init 17 = .ok (.putfield 15, 3) := by decide +kernel
theorem dX0_init_20 : decode cX0_init 20 = .ok (.aload_n 0, 1) := by decide +kernel
theorem dX0_init_21 : decode cX0_init 21 = .ok (.bipush 6, 2) := by decide +kernel
theorem dX0_init_23 : decode cX0_init 23 = .ok (.newarray .int, 2) := by decide +kernel
theorem dX0_init_25 : decode cX0_init 25 = .ok (.putfield 18, 3) := by decide +kernel
theorem dX0_init_28 : decode cX0_init 28 = .ok (.aload_n 0, 1) := by decide +kernel
theorem dX0_init_29 : decode cX0_init 29 = .ok (.bipush 6, 2) := by decide +kernel
theorem dX0_init_31 : decode cX0_init 31 = .ok (.newarray .int, 2) := by decide +kernel
theorem dX0_init_33 : decode cX0_init 33 = .ok (.putfield 21, 3) := by decide +kernel
theorem dX0_init_36 : decode cX0_init 36 = .ok (.aload_n 0, 1) := by decide +kernel
theorem dX0_init_37 : decode cX0_init 37 = .ok (.bipush 6, 2) := by decide +kernel
theorem dX0_init_39 : decode cX0_init 39 = .ok (.newarray .int, 2) := by decide +kernel
theorem dX0_init_41 : decode cX0_init 41 = .ok (.putfield 24, 3) := by decide +kernel
theorem dX0_init_44 : decode cX0_init 44 = .ok (.aload_n 0, 1) := by decide +kernel
theorem dX0_init_45 : decode cX0_init 45 = .ok (.bipush 6, 2) := by decide +kernel
theorem dX0_init_47 : decode cX0_init 47 = .ok (.newarray .int, 2) := by decide +kernel
theorem dX0_init_49 : decode cX0_init 49 = .ok (.putfield 27, 3) := by decide +kernel
theorem dX0_init_52 : decode cX0_init 52 = .ok (.aload_n 0, 1) := by decide +kernel
theorem dX0_init_53 : decode cX0_init 53 = .ok (.bipush 8, 2) := by decide +kernel
theorem dX0_init_55 : decode cX0_init 55 = .ok (.newarray .int, 2) := by decide +kernel
theorem dX0_init_57 : decode cX0_init 57 = .ok (.putfield 30, 3) := by decide +kernel
theorem dX0_init_60 : decode cX0_init 60 = .ok (.return_, 1) := by decide +kernel
theorem dX0_begin_0 : decode cX0_begin 0 = .ok (.aload_n 0, 1) := by decide +kernel
theorem dX0_begin_1 : decode cX0_begin 1 = .ok (.aload_n 1, 1) := by decide +kernel
theorem dX0_begin_2 : decode cX0_begin 2 = .ok (.getfield 33, 3) := by decide +kernel
theorem dX0_begin_5 : decode cX0_begin 5 = .ok (.putfield 39, 3) := by decide +kernel
theorem dX0_begin_8 : decode cX0_begin 8 = .ok (.aload_n 0, 1) := by decide +kernel
theorem dX0_begin_9 : decode cX0_begin 9 = .ok (.iconst 0, 1) := by decide +kernel
theorem dX0_begin_10 : decode cX0_begin 10 = .ok (.putfield 40, 3) := by decide +kernel
theorem dX0_begin_13 : decode cX0_begin 13 = .ok (.aload_n 0, 1) := by decide +kernel
theorem dX0_begin_14 : decode cX0_begin 14 = .ok (.iconst (-1), 1) := by decide +kernel
theorem dX0_begin_15 : decode cX0_begin 15 = .ok (.putfield 43, 3) := by decide +kernel
theorem dX0_begin_18 : decode cX0_begin 18 = .ok (.aload_n 0, 1) := by decide +kernel
theorem dX0_begin_19 : decode cX0_begin 19 = .ok (.iconst 0, 1) := by decide +kernel
theorem dX0_begin_20 : decode cX0_begin 20 = .ok (.putfield 46, 3) := by decide +kernel
theorem dX0_begin_23 : decode cX0_begin 23 = .ok (.aload_n 1, 1) := by decide +kernel
theorem dX0_begin_24 : decode cX0_begin 24 = .ok (.getfield 49, 3) := by decide +kernel
theorem dX0_begin_27 : decode cX0_begin 27 = .ok (.iconst 0, 1) := by decide +kernel
theorem dX0_begin_28 : decode cX0_begin 28 = .ok (.aload_n 0, 1) := by decide +kernel
theorem dX0_begin_29 : decode cX0_begin 29 = .ok (.getfield 9, 3) := by decide +kernel
theorem dX0_begin_32 : decode cX0_begin 32 = .ok (.iconst 0, 1) := by decide +kernel
theorem dX0_begin_33 : decode cX0_begin 33 = .ok (.bipush 12, 2) := by decide +kernel
theorem dX0_begin_35 : decode cX0_begin 35 = .ok (.invokestatic 50, 3) := by decide +kernel
theorem dX0_begin_38 : decode cX0_begin 38 = .ok (.aload_n 1, 1) := by decide +kernel
theorem dX0_begin_39 : decode cX0_begin 39 = .ok (.getfield 56, 3) := by decide +kernel
theorem dX0_begin_42 : decode cX0_begin 42 = .ok (.iconst 0, 1) := by decide +kernel
theorem dX0_begin_43 : decode cX0_begin 43 = .ok (.aload_n 0, 1) := by decide +kernel
theorem dX0_begin_44 : decode cX0_begin 44 = .ok (.getfield 15, 3) := by decide +kernel
theorem dX0_begin_47 : decode cX0_begin 47 = .ok (.iconst 0, 1) := by decide +kernel
theorem dX0_begin_48 : decode cX0_begin 48 = .ok (.bipush 6, 2) := by decide +kernel
theorem dX0_begin_50 : decode cX0_begin 50 = .ok (.invokestatic 50, 3) := by decide +kernel
theorem dX0_begin_53 : decode cX0_begin 53 = .ok (.aload_n 1, 1) := by decide +kernel
theorem dX0_begin_54 : decode cX0_begin 54 = .ok (.getfield 59, 3) := by decide +kernel
theorem dX0_begin_57 : decode cX0_begin 57 = .ok (.iconst 0, 1) := by decide +kernel
theorem dX0_begin_58 : decode cX0_begin 58 = .ok (.aload_n 0, 1) := by decide +kernel
theorem dX0_begin_59 : decode cX0_begin 59 = .ok (.getfield 18, 3) := by decide +kernel
theorem dX0_begin_62 : decode cX0_begin 62 = .ok (.iconst 0, 1) := by decide +kernel
theorem dX0_begin_63 : decode cX0_begin 63 = .ok (.bipush 6, 2) := by decide +kernel
theorem dX0_begin_65 : decode cX0_begin 65 = .ok (.invokestatic 50, 3) := by decide +kernel
theorem dX0_begin_68 : decode cX0_begin 68 = .ok (.aload_n 0, 1) := by decide +kernel
theorem dX0_begin_69 : decode cX0_begin 69 = .ok (.getfield 21, 3) := by decide +kernel
theorem dX0_begin_72 : decode cX0_begin 72 = .ok (.iconst (-1), 1) := by decide +kernel
theorem dX0_begin_73 : decode cX0_begin 73 = .ok (.invokestatic 60, 3) := by decide +kernel
theorem dX0_begin_76 : decode cX0_begin 76 = .ok (.aload_n 0, 1) := by decide +kernel
theorem dX0_begin_77 : decode cX0_begin 77 = .ok (.getfield 24, 3) := by decide +kernel
theorem dX0_begin_80 : decode cX0_begin 80 = .ok (.iconst (-1), 1) := by decide +kernel
theorem dX0_begin_81 : decode cX0_begin 81 = .ok (.invokestatic 60, 3) := by decide +kernel
theorem dX0_begin_84 : decode cX0_begin 84 = .ok (.return_, 1) := by decide +kernel
theorem dX0_takeFrom_0 : decode cX0_takeFrom 0 = .ok (.aload_n 0, 1) := by decide +kernel
theorem dX0_takeFrom_1 : decode cX0_takeFrom 1 = .ok (.aload_n 1, 1) := by decide +kernel
theorem dX0_takeFrom_2 : decode cX0_takeFrom 2 = .ok (.getfield 39, 3) := by decide +kernel
theorem dX0_takeFrom_5 : decode cX0_takeFrom 5 = .ok (.putfield 39, 3) := by decide +kernel
theorem dX0_takeFrom_8 : decode cX0_takeFrom 8 = .ok (.aload_n 0, 1) := by decide +kernel
theorem dX0_takeFrom_9 : decode cX0_takeFrom 9 = .ok (.aload_n 1, 1) := by decide +kernel
theorem dX0_takeFrom_10 : decode cX0_takeFrom 10 = .ok (.getfield 40, 3) := by decide +kernel
theorem dX0_takeFrom_13 : decode cX0_takeFrom 13 = .ok (.putfield 40, 3) := by decide +kernel
theorem dX0_takeFrom_16 : decode cX0_takeFrom 16 = .ok (.aload_n 0, 1) := by decide +kernel
theorem dX0_takeFrom_17 : decode cX0_takeFrom 17 = .ok (.aload_n 1, 1) := by decide +kernel
theorem dX0_takeFrom_18 : decode cX0_takeFrom 18 = .ok (.getfield 43, 3) := by decide +kernel
theorem dX0_takeFrom_21 : decode cX0_takeFrom 21 = .ok (.putfield 43, 3) := by decide +kernel
theorem dX0_takeFrom_24 : decode cX0_takeFrom 24 = .ok (.aload_n 0, 1) := by decide +kernel
theorem dX0_takeFrom_25 : decode cX0_takeFrom 25 = .ok (.aload_n 1, 1) := by decide +kernel
theorem dX0_takeFrom_26 : decode cX0_takeFrom 26 = .ok (.getfield 46, 3) := by decide +kernel
theorem dX0_takeFrom_29 : decode cX0_takeFrom 29 = .ok (.putfield 46, 3) := by decide +kernel
theorem dX0_takeFrom_32 : decode cX0_takeFrom 32 = .ok (.aload_n 1, 1) := by decide +kernel
theorem dX0_takeFrom_33 : decode cX0_takeFrom 33 = .ok (.getfield 9, 3) := by decide +kernel
theorem dX0_takeFrom_36 : decode cX0_takeFrom 36 = .ok (.iconst 0, 1) := by decide +kernel
theorem dX0_takeFrom_37 : decode cX0_takeFrom 37 = .ok (.aload_n 0, 1) := by decide +kernel
theorem dX0_takeFrom_38 : decode cX0_takeFrom 38 = .ok (.getfield 9, 3) := by decide +kernel
theorem dX0_takeFrom_41 : decode cX0_takeFrom 41 = .ok (.iconst 0, 1) := by decide +kernel
theorem dX0_takeFrom_42 : decode cX0_takeFrom 42 = .ok (.bipush 12, 2) := by decide +kernel
theorem dX0_takeFrom_44 : decode cX0_takeFrom 44 = .ok (.invokestatic 50, 3) := by decide +kernel
theorem dX0_takeFrom_47 : decode cX0_takeFrom 47 = .ok (.aload_n 1, 1) := by decide +kernel
theorem dX0_takeFrom_48 : decode cX0_takeFrom 48 = .ok (.getfield 15, 3) := by decide +kernel
theorem dX0_takeFrom_51 : decode cX0_takeFrom 51 = .ok (.iconst 0, 1) := by decide +kernel
theorem dX0_takeFrom_52 : decode cX0_takeFrom 52 = .ok (.aload_n 0, 1) := by decide +kernel
theorem dX0_takeFrom_53 : decode cX0_takeFrom 53 = .ok (.getfield 15, 3) := by decide +kernel
theorem dX0_takeFrom_56 : decode cX0_takeFrom 56 = .ok (.iconst 0, 1) := by decide +kernel
theorem dX0_takeFrom_57 : decode cX0_takeFrom 57 = .ok (.bipush 6, 2) := by decide +kernel
theorem dX0_takeFrom_59 : decode cX0_takeFrom 59 = .ok (.invokestatic 50, 3) := by decide +kernel
theorem dX0_takeFrom_62 : decode cX0_takeFrom 62 = .ok (.aload_n 1, 1) := by decide +kernel
theorem dX0_takeFrom_63 : decode cX0_takeFrom 63 = .ok (.getfield 18, 3) := by decide +kernel
theorem dX0_takeFrom_66 : decode cX0_takeFrom 66 = .ok (.iconst 0, 1) := by decide +kernel
theorem dX0_takeFrom_67 : decode cX0_takeFrom 67 = .ok (.aload_n 0, 1) := by decide +kernel
theorem dX0_takeFrom_68 : decode cX0_takeFrom 68 = .ok (.getfield 18, 3) := by decide +kernel
theorem dX0_takeFrom_71 : decode cX0_takeFrom 71 = .ok (.iconst 0, 1) := by decide +kernel
theorem dX0_takeFrom_72 : decode cX0_takeFrom 72 = .ok (.bipush 6, 2) := by decide +kernel
theorem dX0_takeFrom_74 : decode cX0_takeFrom 74 = .ok (.invokestatic 50, 3) := by decide +kernel
theorem dX0_takeFrom_77 : decode cX0_takeFrom 77 = .ok (.aload_n 1, 1) := by decide +kernel
theorem dX0_takeFrom_78 : decode cX0_takeFrom 78 = .ok (.getfield 21, 3) := by decide +kernel
theorem dX0_takeFrom_81 : decode cX0_takeFrom 81 = .ok (.iconst 0, 1) := by decide +kernel
theorem dX0_takeFrom_82 : decode cX0_takeFrom 82 = .ok (.aload_n 0, 1) := by decide +kernel
theorem dX0_takeFrom_83 : decode cX0_takeFrom 83 = .ok (.getfield 21, 3) := by decide +kernel
theorem dX0_takeFrom_86 : decode cX0_takeFrom 86 = .ok (.iconst 0, 1) := by decide +kernel
theorem dX0_takeFrom_87 : decode cX0_takeFrom 87 = .ok (.bipush 6, 2) := by decide +kernel
theorem dX0_takeFrom_89 : decode cX0_takeFrom 89 = .ok (.invokestatic 50, 3) := by decide +kernel
theorem dX0_takeFrom_92 : decode cX0_takeFrom 92 = .ok (.aload_n 1, 1) := by decide +kernel
theorem dX0_takeFrom_93 : decode cX0_takeFrom 93 = .ok (.getfield 24, 3) := by decide +kernel
theorem dX0_takeFrom_96 : decode cX0_takeFrom 96 = .ok (.iconst 0, 1) := by decide +kernel
theorem dX0_takeFrom_97 : decode cX0_takeFrom 97 = .ok (.aload_n 0, 1) := by decide +kernel
theorem dX0_takeFrom_98 : decode cX0_takeFrom 98 = .ok (.getfield 24, 3) := by decide +kernel
theorem dX0_takeFrom_101 : decode cX0_takeFrom 101 = .ok (.iconst 0, 1) := by decide +kernel
theorem dX0_takeFrom_102 : decode cX0_takeFrom 102 = .ok (.bipush 6, 2) := by decide +kernel
theorem dX0_takeFrom_104 : decode cX0_takeFrom 104 = .ok (.invokestatic 50, 3) := by decide +kernel
theorem dX0_takeFrom_107 : decode cX0_takeFrom 107 = .ok (.return_, 1) := by decide +kernel
theorem dX0_run_0 : decode cX0_run 0 = .ok (.iconst 0, 1) := by decide +kernel
theorem dX0_run_1 : decode cX0_run 1 = .ok (.istore_n 3, 1) := by decide +kernel
theorem dX0_run_2 : decode cX0_run 2 = .ok (.iload_n 3, 1) := by decide +kernel
theorem dX0_run_3 : decode cX0_run 3 = .ok (.iload_n 2, 1) := by decide +kernel
theorem dX0_run_4 : decode cX0_run 4 = .ok (.if_icmp .ge 15, 3) := by decide +kernel
theorem dX0_run_7 : decode cX0_run 7 = .ok (.aload_n 0, 1) := by decide +kernel
theorem dX0_run_8 : decode cX0_run 8 = .ok (.aload_n 1, 1) := by decide +kernel
theorem dX0_run_9 : decode cX0_run 9 = .ok (.invokevirtual 66, 3) := by decide +kernel
theorem dX0_run_12 : decode cX0_run 12 = .ok (.pop, 1) := by decide +kernel
theorem dX0_run_13 : decode cX0_run 13 = .ok (.iinc 3 1, 3) := by decide +kernel
theorem dX0_run_16 : decode cX0_run 16 = .ok (.goto (-14), 3) := by decide +kernel
theorem dX0_run_19 : decode cX0_run 19 = .ok (.return_, 1) := by decide +kernel
theorem dX0_runUntilFiled_0 : decode cX0_runUntilFiled 0 = .ok (.iconst 0, 1) := by decide +kernel
theorem dX0_runUntilFiled_1 : decode cX0_runUntilFiled 1 = .ok (.istore 4, 2) := by decide +kernel
theorem dX0_runUntilFiled_3 : decode cX0_runUntilFiled 3 = .ok (.iload 4, 2) := by decide +kernel
theorem dX0_runUntilFiled_5 : decode cX0_runUntilFiled 5 = .ok (.iload_n 3, 1) := by decide +kernel
theorem dX0_runUntilFiled_6 : decode cX0_runUntilFiled 6 = .ok (.if_icmp .ge 48, 3) := by decide +kernel
theorem dX0_runUntilFiled_9 : decode cX0_runUntilFiled 9 = .ok (.aload_n 0, 1) := by decide +kernel
theorem dX0_runUntilFiled_10 : decode cX0_runUntilFiled 10 = .ok (.getfield 46, 3) := by decide +kernel
theorem dX0_runUntilFiled_13 : decode cX0_runUntilFiled 13 = .ok (.iload_n 2, 1) := by decide +kernel
theorem dX0_runUntilFiled_14 : decode cX0_runUntilFiled 14 = .ok (.iand, 1) := by decide +kernel
theorem dX0_runUntilFiled_15 : decode cX0_runUntilFiled 15 = .ok (.iload_n 2, 1) := by decide +kernel
theorem dX0_runUntilFiled_16 : decode cX0_runUntilFiled 16 = .ok (.if_icmp .eq 38, 3) := by decide +kernel
theorem dX0_runUntilFiled_19 : decode cX0_runUntilFiled 19 = .ok (.aload_n 0, 1) := by decide +kernel
theorem dX0_runUntilFiled_20 : decode cX0_runUntilFiled 20 = .ok (.getfield 39, 3) := by decide +kernel
theorem dX0_runUntilFiled_23 : decode cX0_runUntilFiled 23 = .ok (.ifCond .le 7, 3) := by decide +kernel
theorem dX0_runUntilFiled_26 : decode cX0_runUntilFiled 26 = .ok (.iconst 1, 1) := by decide +kernel
theorem dX0_runUntilFiled_27 : decode cX0_runUntilFiled 27 = .ok (.goto 4, 3) := by decide +kernel
theorem dX0_runUntilFiled_30 : decode cX0_runUntilFiled 30 = .ok (.iconst 0, 1) := by decide +kernel
theorem dX0_runUntilFiled_31 : decode cX0_runUntilFiled 31 = .ok (.istore 5, 2) := by decide +kernel
theorem dX0_runUntilFiled_33 : decode cX0_runUntilFiled 33 = .ok (.aload_n 0, 1) := by decide +kernel
theorem dX0_runUntilFiled_34 : decode cX0_runUntilFiled 34 = .ok (.aload_n 1, 1) := by decide +kernel
theorem dX0_runUntilFiled_35 : decode cX0_runUntilFiled 35 = .ok (.invokevirtual 66, 3) := by decide +kernel
theorem dX0_runUntilFiled_38 : decode cX0_runUntilFiled 38 = .ok (.ifCond .ne 10, 3) := by decide +kernel
theorem dX0_runUntilFiled_41 : decode cX0_runUntilFiled 41 = .ok (.iload 5, 2) := by decide +kernel
theorem dX0_runUntilFiled_43 : decode cX0_runUntilFiled 43 = .ok (.ifCond .ne 5, 3) := by decide +kernel
theorem dX0_runUntilFiled_46 : decode cX0_runUntilFiled 46 = .ok (.iconst 0, 1) := by decide +kernel
theorem dX0_runUntilFiled_47 : decode cX0_runUntilFiled 47 = .ok (.ireturn, 1) := by decide +kernel
theorem dX0_runUntilFiled_48 : decode cX0_runUntilFiled 48 = .ok (.iinc 4 1, 3) := by decide +kernel
theorem dX0_runUntilFiled_51 : decode cX0_runUntilFiled 51 = .ok (.goto (-48), 3) := by decide +kernel
theorem dX0_runUntilFiled_54 : decode cX0_runUntilFiled 54 = .ok (.aload_n 0, 1) := by decide +kernel
theorem dX0_runUntilFiled_55 : decode cX0_runUntilFiled 55 = .ok (.getfield 46, 3) := by decide +kernel
theorem dX0_runUntilFiled_58 : decode cX0_runUntilFiled 58 = .ok (.iload_n 2, 1) := by decide +kernel
theorem dX0_runUntilFiled_59 : decode cX0_runUntilFiled 59 = .ok (.iand, 1) := by decide +kernel
theorem dX0_runUntilFiled_60 : decode cX0_runUntilFiled 60 = .ok (.iload_n 2, 1) := by decide +kernel
theorem dX0_runUntilFiled_61 : decode cX0_runUntilFiled 61 = .ok (.if_icmp .ne 7, 3) := by decide +kernel
theorem dX0_runUntilFiled_64 : decode cX0_runUntilFiled 64 = .ok (.iconst 1, 1) := by decide +kernel
theorem dX0_runUntilFiled_65 : decode cX0_runUntilFiled 65 = .ok (.goto 4, 3) := by decide +kernel
theorem dX0_runUntilFiled_68 : decode cX0_runUntilFiled 68 = .ok (.iconst 0, 1) := by decide +kernel
theorem dX0_runUntilFiled_69 : decode cX0_runUntilFiled 69 = .ok (.ireturn, 1) := by decide +kernel
theorem dX0_passMinute_0 : decode cX0_passMinute 0 = .ok (.aload_n 0, 1) := by decide +kernel
theorem dX0_passMinute_1 : decode cX0_passMinute 1 = .ok (.aload_n 1, 1) := by decide +kernel
theorem dX0_passMinute_2 : decode cX0_passMinute 2 = .ok (.invokevirtual 70, 3) := by decide +kernel
theorem dX0_passMinute_5 : decode cX0_passMinute 5 = .ok (.istore_n 2, 1) := by decide +kernel
theorem dX0_passMinute_6 : decode cX0_passMinute 6 = .ok (.aload_n 0, 1) := by decide +kernel
theorem dX0_passMinute_7 : decode cX0_passMinute 7 = .ok (.getfield 39, 3) := by decide +kernel
theorem dX0_passMinute_10 : decode cX0_passMinute 10 = .ok (.ifCond .le 13, 3) := by decide +kernel
theorem dX0_passMinute_13 : decode cX0_passMinute 13 = .ok (.aload_n 0, 1) := by decide +kernel
theorem dX0_passMinute_14 : decode cX0_passMinute 14 = .ok (.dup, 1) := by decide +kernel
theorem dX0_passMinute_15 : decode cX0_passMinute 15 = .ok (.getfield 39, 3) := by decide +kernel
theorem dX0_passMinute_18 : decode cX0_passMinute 18 = .ok (.iconst 1, 1) := by decide +kernel
theorem dX0_passMinute_19 : decode cX0_passMinute 19 = .ok (.isub, 1) := by decide +kernel
theorem dX0_passMinute_20 : decode cX0_passMinute 20 = .ok (.putfield 39, 3) := by decide +kernel
theorem dX0_passMinute_23 : decode cX0_passMinute 23 = .ok (.iload_n 2, 1) := by decide +kernel
theorem dX0_passMinute_24 : decode cX0_passMinute 24 = .ok (.ifCond .eq 8, 3) := by decide +kernel
theorem dX0_passMinute_27 : decode cX0_passMinute 27 = .ok (.aload_n 0, 1) := by decide +kernel
theorem dX0_passMinute_28 : decode cX0_passMinute 28 = .ok (.aload_n 1, 1) := by decide +kernel
theorem dX0_passMinute_29 : decode cX0_passMinute 29 = .ok (.invokevirtual 73, 3) := by decide +kernel
theorem dX0_passMinute_32 : decode cX0_passMinute 32 = .ok (.aload_n 0, 1) := by decide +kernel
theorem dX0_passMinute_33 : decode cX0_passMinute 33 = .ok (.aload_n 1, 1) := by decide +kernel
theorem dX0_passMinute_34 : decode cX0_passMinute 34 = .ok (.invokevirtual 77, 3) := by decide +kernel
theorem dX0_passMinute_37 : decode cX0_passMinute 37 = .ok (.iload_n 2, 1) := by decide +kernel
theorem dX0_passMinute_38 : decode cX0_passMinute 38 = .ok (.ifCond .eq 8, 3) := by decide +kernel
theorem dX0_passMinute_41 : decode cX0_passMinute 41 = .ok (.aload_n 0, 1) := by decide +kernel
theorem dX0_passMinute_42 : decode cX0_passMinute 42 = .ok (.aload_n 1, 1) := by decide +kernel
theorem dX0_passMinute_43 : decode cX0_passMinute 43 = .ok (.invokevirtual 80, 3) := by decide +kernel
theorem dX0_passMinute_46 : decode cX0_passMinute 46 = .ok (.aload_n 0, 1) := by decide +kernel
theorem dX0_passMinute_47 : decode cX0_passMinute 47 = .ok (.dup, 1) := by decide +kernel
theorem dX0_passMinute_48 : decode cX0_passMinute 48 = .ok (.getfield 40, 3) := by decide +kernel
theorem dX0_passMinute_51 : decode cX0_passMinute 51 = .ok (.iconst 1, 1) := by decide +kernel
theorem dX0_passMinute_52 : decode cX0_passMinute 52 = .ok (.iadd, 1) := by decide +kernel
theorem dX0_passMinute_53 : decode cX0_passMinute 53 = .ok (.putfield 40, 3) := by decide +kernel
theorem dX0_passMinute_56 : decode cX0_passMinute 56 = .ok (.iload_n 2, 1) := by decide +kernel
theorem dX0_passMinute_57 : decode cX0_passMinute 57 = .ok (.ireturn, 1) := by decide +kernel
theorem dX0_choose_0 : decode cX0_choose 0 = .ok (.aload_n 0, 1) := by decide +kernel
theorem dX0_choose_1 : decode cX0_choose 1 = .ok (.getfield 27, 3) := by decide +kernel
theorem dX0_choose_4 : decode cX0_choose 4 = .ok (.iconst (-1), 1) := by decide +kernel
theorem dX0_choose_5 : decode cX0_choose 5 = .ok (.invokestatic 60, 3) := by decide +kernel
theorem dX0_choose_8 : decode cX0_choose 8 = .ok (.aload_n 0, 1) := by decide +kernel
theorem dX0_choose_9 : decode cX0_choose 9 = .ok (.getfield 39, 3) := by decide +kernel
theorem dX0_choose_12 : decode cX0_choose 12 = .ok (.ifCond .le 5, 3) := by decide +kernel
theorem dX0_choose_15 : decode cX0_choose 15 = .ok (.iconst 0, 1) := by decide +kernel
theorem dX0_choose_16 : decode cX0_choose 16 = .ok (.ireturn, 1) := by decide +kernel
theorem dX0_choose_17 : decode cX0_choose 17 = .ok (.aload_n 0, 1) := by decide +kernel
theorem dX0_choose_18 : decode cX0_choose 18 = .ok (.aload_n 1, 1) := by decide +kernel
theorem dX0_choose_19 : decode cX0_choose 19 = .ok (.invokevirtual 83, 3) := by decide +kernel
theorem dX0_choose_22 : decode cX0_choose 22 = .ok (.iconst 0, 1) := by decide +kernel
theorem dX0_choose_23 : decode cX0_choose 23 = .ok (.istore_n 2, 1) := by decide +kernel
theorem dX0_choose_24 : decode cX0_choose 24 = .ok (.iconst 0, 1) := by decide +kernel
theorem dX0_choose_25 : decode cX0_choose 25 = .ok (.istore_n 3, 1) := by decide +kernel
theorem dX0_choose_26 : decode cX0_choose 26 = .ok (.iload_n 3, 1) := by decide +kernel
theorem dX0_choose_27 : decode cX0_choose 27 = .ok (.aload_n 1, 1) := by decide +kernel
theorem dX0_choose_28 : decode cX0_choose 28 = .ok (.getfield 86, 3) := by decide +kernel
theorem dX0_choose_31 : decode cX0_choose 31 = .ok (.if_icmp .ge 68, 3) := by decide +kernel
theorem dX0_choose_34 : decode cX0_choose 34 = .ok (.aload_n 0, 1) := by decide +kernel
theorem dX0_choose_35 : decode cX0_choose 35 = .ok (.getfield 30, 3) := by decide +kernel
theorem dX0_choose_38 : decode cX0_choose 38 = .ok (.iload_n 3, 1) := by decide +kernel
theorem dX0_choose_39 : decode cX0_choose 39 = .ok (.iaload, 1) := by decide +kernel
theorem dX0_choose_40 : decode cX0_choose 40 = .ok (.istore 4, 2) := by decide +kernel
theorem dX0_choose_42 : decode cX0_choose 42 = .ok (.iload 4, 2) := by decide +kernel
theorem dX0_choose_44 : decode cX0_choose 44 = .ok (.iconst (-1), 1) := by decide +kernel
theorem dX0_choose_45 : decode cX0_choose 45 = .ok (.if_icmp .eq 48, 3) := by decide +kernel
theorem dX0_choose_48 : decode cX0_choose 48 = .ok (.aload_n 0, 1) := by decide +kernel
theorem dX0_choose_49 : decode cX0_choose 49 = .ok (.iload_n 3, 1) := by decide +kernel
theorem dX0_choose_50 : decode cX0_choose 50 = .ok (.aload_n 1, 1) := by decide +kernel
theorem dX0_choose_51 : decode cX0_choose 51 = .ok (.invokevirtual 89, 3) := by decide +kernel
theorem dX0_choose_54 : decode cX0_choose 54 = .ok (.ifCond .ne 6, 3) := by decide +kernel
theorem dX0_choose_57 : decode cX0_choose 57 = .ok (.goto 36, 3) := by decide +kernel
theorem dX0_choose_60 : decode cX0_choose 60 = .ok (.aload_n 0, 1) := by decide +kernel
theorem dX0_choose_61 : decode cX0_choose 61 = .ok (.getfield 27, 3) := by decide +kernel
theorem dX0_choose_64 : decode cX0_choose 64 = .ok (.iload 4, 2) := by decide +kernel
theorem dX0_choose_66 : decode cX0_choose 66 = .ok (.aload_n 0, 1) := by decide +kernel
theorem dX0_choose_67 : decode cX0_choose 67 = .ok (.iload_n 3, 1) := by decide +kernel
theorem dX0_choose_68 : decode cX0_choose 68 = .ok (.aload_n 0, 1) := by decide +kernel
theorem dX0_choose_69 : decode cX0_choose 69 = .ok (.getfield 21, 3) := by decide +kernel
theorem dX0_choose_72 : decode cX0_choose 72 = .ok (.iload 4, 2) := by decide +kernel
theorem dX0_choose_74 : decode cX0_choose 74 = .ok (.iaload, 1) := by decide +kernel
theorem dX0_choose_75 : decode cX0_choose 75 = .ok (.aload_n 1, 1) := by decide +kernel
theorem dX0_choose_76 : decode cX0_choose 76 = .ok (.invokevirtual 93, 3) := by decide +kernel
theorem dX0_choose_79 : decode cX0_choose 79 = .ok (.iastore, 1) := by decide +kernel
theorem dX0_choose_80 : decode cX0_choose 80 = .ok (.aload_n 0, 1) := by decide +kernel
theorem dX0_choose_81 : decode cX0_choose 81 = .ok (.getfield 27, 3) := by decide +kernel
theorem dX0_choose_84 : decode cX0_choose 84 = .ok (.iload 4, 2) := by decide +kernel
theorem dX0_choose_86 : decode cX0_choose 86 = .ok (.iaload, 1) := by decide +kernel
theorem dX0_choose_87 : decode cX0_choose 87 = .ok (.iconst (-1), 1) := by decide +kernel
theorem dX0_choose_88 : decode cX0_choose 88 = .ok (.if_icmp .eq 5, 3) := by decide +kernel
theorem dX0_choose_91 : decode cX0_choose 91 = .ok (.iconst 1, 1) := by decide +kernel
theorem dX0_choose_92 : decode cX0_choose 92 = .ok (.istore_n 2, 1) := by decide +kernel
theorem dX0_choose_93 : decode cX0_choose 93 = .ok (.iinc 3 1, 3) := by decide +kernel
theorem dX0_choose_96 : decode cX0_choose 96 = .ok (.goto (-70), 3) := by decide +kernel
theorem dX0_choose_99 : decode cX0_choose 99 = .ok (.iload_n 2, 1) := by decide +kernel
theorem dX0_choose_100 : decode cX0_choose 100 = .ok (.ireturn, 1) := by decide +kernel
theorem dX0_letsGo_0 : decode cX0_letsGo 0 = .ok (.iload_n 1, 1) := by decide +kernel
theorem dX0_letsGo_1 : decode cX0_letsGo 1 = .ok (.aload_n 0, 1) := by decide +kernel
theorem dX0_letsGo_2 : decode cX0_letsGo 2 = .ok (.getfield 43, 3) := by decide +kernel
theorem dX0_letsGo_5 : decode cX0_letsGo 5 = .ok (.if_icmp .eq 17, 3) := by decide +kernel
theorem dX0_letsGo_8 : decode cX0_letsGo 8 = .ok (.aload_n 2, 1) := by decide +kernel
theorem dX0_letsGo_9 : decode cX0_letsGo 9 = .ok (.getfield 97, 3) := by decide +kernel
theorem dX0_letsGo_12 : decode cX0_letsGo 12 = .ok (.iload_n 1, 1) := by decide +kernel
theorem dX0_letsGo_13 : decode cX0_letsGo 13 = .ok (.iaload, 1) := by decide +kernel
theorem dX0_letsGo_14 : decode cX0_letsGo 14 = .ok (.iconst 3, 1) := by decide +kernel
theorem dX0_letsGo_15 : decode cX0_letsGo 15 = .ok (.if_icmp .eq 7, 3) := by decide +kernel
theorem dX0_letsGo_18 : decode cX0_letsGo 18 = .ok (.iconst 1, 1) := by decide +kernel
theorem dX0_letsGo_19 : decode cX0_letsGo 19 = .ok (.goto 4, 3) := by decide +kernel
theorem dX0_letsGo_22 : decode cX0_letsGo 22 = .ok (.iconst 0, 1) := by decide +kernel
theorem dX0_letsGo_23 : decode cX0_letsGo 23 = .ok (.ireturn, 1) := by decide +kernel
theorem dX0_findSweetest_0 : decode cX0_findSweetest 0 = .ok (.aload_n 0, 1) := by decide +kernel
theorem dX0_findSweetest_1 : decode cX0_findSweetest 1 = .ok (.getfield 30, 3) := by decide +kernel
theorem dX0_findSweetest_4 : decode cX0_findSweetest 4 = .ok (.iconst (-1), 1) := by decide +kernel
theorem dX0_findSweetest_5 : decode cX0_findSweetest 5 = .ok (.invokestatic 60, 3) := by decide +kernel
theorem dX0_findSweetest_8 : decode cX0_findSweetest 8 = .ok (.iconst 0, 1) := by decide +kernel
theorem dX0_findSweetest_9 : decode cX0_findSweetest 9 = .ok (.istore_n 2, 1) := by decide +kernel
theorem dX0_findSweetest_10 : decode cX0_findSweetest 10 = .ok (.iload_n 2, 1) := by decide +kernel
theorem dX0_findSweetest_11 : decode cX0_findSweetest 11 = .ok (.aload_n 1, 1) := by decide +kernel
theorem dX0_findSweetest_12 : decode cX0_findSweetest 12 = .ok (.getfield 100, 3) := by decide +kernel
theorem dX0_findSweetest_15 : decode cX0_findSweetest 15 = .ok (.if_icmp .ge 73, 3) := by decide +kernel
theorem dX0_findSweetest_18 : decode cX0_findSweetest 18 = .ok (.aload_n 0, 1) := by decide +kernel
theorem dX0_findSweetest_19 : decode cX0_findSweetest 19 = .ok (.iload_n 2, 1) := by decide +kernel
theorem dX0_findSweetest_20 : decode cX0_findSweetest 20 = .ok (.invokevirtual 103, 3) := by decide +kernel
theorem dX0_findSweetest_23 : decode cX0_findSweetest 23 = .ok (.ifCond .ne 59, 3) := by decide +kernel
theorem dX0_findSweetest_26 : decode cX0_findSweetest 26 = .ok (.aload_n 0, 1) := by decide +kernel
theorem dX0_findSweetest_27 : decode cX0_findSweetest 27 = .ok (.getfield 18, 3) := by decide +kernel
theorem dX0_findSweetest_30 : decode cX0_findSweetest 30 = .ok (.iload_n 2, 1) := by decide +kernel
theorem dX0_findSweetest_31 : decode cX0_findSweetest 31 = .ok (.iaload, 1) := by decide +kernel
theorem dX0_findSweetest_32 : decode cX0_findSweetest 32 = .ok (.ifCond .ne 6, 3) := by decide +kernel
theorem dX0_findSweetest_35 : decode cX0_findSweetest 35 = .ok (.goto 47, 3) := by decide +kernel
theorem dX0_findSweetest_38 : decode cX0_findSweetest 38 = .ok (.aload_n 0, 1) := by decide +kernel
theorem dX0_findSweetest_39 : decode cX0_findSweetest 39 = .ok (.getfield 30, 3) := by decide +kernel
theorem dX0_findSweetest_42 : decode cX0_findSweetest 42 = .ok (.aload_n 0, 1) := by decide +kernel
theorem dX0_findSweetest_43 : decode cX0_findSweetest 43 = .ok (.getfield 15, 3) := by decide +kernel
theorem dX0_findSweetest_46 : decode cX0_findSweetest 46 = .ok (.iload_n 2, 1) := by decide +kernel
theorem dX0_findSweetest_47 : decode cX0_findSweetest 47 = .ok (.iaload, 1) := by decide +kernel
theorem dX0_findSweetest_48 : decode cX0_findSweetest 48 = .ok (.iaload, 1) := by decide +kernel
theorem dX0_findSweetest_49 : decode cX0_findSweetest 49 = .ok (.istore_n 3, 1) := by decide +kernel
theorem dX0_findSweetest_50 : decode cX0_findSweetest 50 = .ok (.iload_n 3, 1) := by decide +kernel
theorem dX0_findSweetest_51 : decode cX0_findSweetest 51 = .ok (.iconst (-1), 1) := by decide +kernel
theorem dX0_findSweetest_52 : decode cX0_findSweetest 52 = .ok (.if_icmp .eq 18, 3) := by decide +kernel
theorem dX0_findSweetest_55 : decode cX0_findSweetest 55 = .ok (.aload_n 0, 1) := by decide +kernel
theorem dX0_findSweetest_56 : decode cX0_findSweetest 56 = .ok (.getfield 18, 3) := by decide +kernel
theorem dX0_findSweetest_59 : decode cX0_findSweetest 59 = .ok (.iload_n 2, 1) := by decide +kernel
theorem dX0_findSweetest_60 : decode cX0_findSweetest 60 = .ok (.iaload, 1) := by decide +kernel
theorem dX0_findSweetest_61 : decode cX0_findSweetest 61 = .ok (.aload_n 0, 1) := by decide +kernel
theorem dX0_findSweetest_62 : decode cX0_findSweetest 62 = .ok (.getfield 18, 3) := by decide +kernel
theorem dX0_findSweetest_65 : decode cX0_findSweetest 65 = .ok (.iload_n 3, 1) := by decide +kernel
theorem dX0_findSweetest_66 : decode cX0_findSweetest 66 = .ok (.iaload, 1) := by decide +kernel
theorem dX0_findSweetest_67 : decode cX0_findSweetest 67 = .ok (.if_icmp .le 15, 3) := by decide +kernel
theorem dX0_findSweetest_70 : decode cX0_findSweetest 70 = .ok (.aload_n 0, 1) := by decide +kernel
theorem dX0_findSweetest_71 : decode cX0_findSweetest 71 = .ok (.getfield 30, 3) := by decide +kernel
theorem dX0_findSweetest_74 : decode cX0_findSweetest 74 = .ok (.aload_n 0, 1) := by decide +kernel
theorem dX0_findSweetest_75 : decode cX0_findSweetest 75 = .ok (.getfield 15, 3) := by decide +kernel
theorem dX0_findSweetest_78 : decode cX0_findSweetest 78 = .ok (.iload_n 2, 1) := by decide +kernel
theorem dX0_findSweetest_79 : decode cX0_findSweetest 79 = .ok (.iaload, 1) := by decide +kernel
theorem dX0_findSweetest_80 : decode cX0_findSweetest 80 = .ok (.iload_n 2, 1) := by decide +kernel
theorem dX0_findSweetest_81 : decode cX0_findSweetest 81 = .ok (.iastore, 1) := by decide +kernel
theorem dX0_findSweetest_82 : decode cX0_findSweetest 82 = .ok (.iinc 2 1, 3) := by decide +kernel
theorem dX0_findSweetest_85 : decode cX0_findSweetest 85 = .ok (.goto (-75), 3) := by decide +kernel
theorem dX0_findSweetest_88 : decode cX0_findSweetest 88 = .ok (.return_, 1) := by decide +kernel
theorem dX0_wayFrom_0 : decode cX0_wayFrom 0 = .ok (.iconst (-1), 1) := by decide +kernel
theorem dX0_wayFrom_1 : decode cX0_wayFrom 1 = .ok (.istore 4, 2) := by decide +kernel
theorem dX0_wayFrom_3 : decode cX0_wayFrom 3 = .ok (.iconst 0, 1) := by decide +kernel
theorem dX0_wayFrom_4 : decode cX0_wayFrom 4 = .ok (.istore 5, 2) := by decide +kernel
theorem dX0_wayFrom_6 : decode cX0_wayFrom 6 = .ok (.iload 5, 2) := by decide +kernel
theorem dX0_wayFrom_8 : decode cX0_wayFrom 8 = .ok (.aload_n 3, 1) := by decide +kernel
theorem dX0_wayFrom_9 : decode cX0_wayFrom 9 = .ok (.getfield 107, 3) := by decide +kernel
theorem dX0_wayFrom_12 : decode cX0_wayFrom 12 = .ok (.if_icmp .ge 55, 3) := by decide +kernel
theorem dX0_wayFrom_15 : decode cX0_wayFrom 15 = .ok (.iload 5, 2) := by decide +kernel
theorem dX0_wayFrom_17 : decode cX0_wayFrom 17 = .ok (.iload_n 2, 1) := by decide +kernel
theorem dX0_wayFrom_18 : decode cX0_wayFrom 18 = .ok (.if_icmp .eq 43, 3) := by decide +kernel
theorem dX0_wayFrom_21 : decode cX0_wayFrom 21 = .ok (.aload_n 3, 1) := by decide +kernel
theorem dX0_wayFrom_22 : decode cX0_wayFrom 22 = .ok (.iload 5, 2) := by decide +kernel
theorem dX0_wayFrom_24 : decode cX0_wayFrom 24 = .ok (.iload_n 1, 1) := by decide +kernel
theorem dX0_wayFrom_25 : decode cX0_wayFrom 25 = .ok (.invokevirtual 110, 3) := by decide +kernel
theorem dX0_wayFrom_28 : decode cX0_wayFrom 28 = .ok (.ifCond .ne 6, 3) := by decide +kernel
theorem dX0_wayFrom_31 : decode cX0_wayFrom 31 = .ok (.goto 30, 3) := by decide +kernel
theorem dX0_wayFrom_34 : decode cX0_wayFrom 34 = .ok (.iload 4, 2) := by decide +kernel
theorem dX0_wayFrom_36 : decode cX0_wayFrom 36 = .ok (.iconst (-1), 1) := by decide +kernel
theorem dX0_wayFrom_37 : decode cX0_wayFrom 37 = .ok (.if_icmp .eq 20, 3) := by decide +kernel
theorem dX0_wayFrom_40 : decode cX0_wayFrom 40 = .ok (.aload_n 0, 1) := by decide +kernel
theorem dX0_wayFrom_41 : decode cX0_wayFrom 41 = .ok (.getfield 9, 3) := by decide +kernel
theorem dX0_wayFrom_44 : decode cX0_wayFrom 44 = .ok (.iload 5, 2) := by decide +kernel
theorem dX0_wayFrom_46 : decode cX0_wayFrom 46 = .ok (.iaload, 1) := by decide +kernel
theorem dX0_wayFrom_47 : decode cX0_wayFrom 47 = .ok (.aload_n 0, 1) := by decide +kernel
theorem dX0_wayFrom_48 : decode cX0_wayFrom 48 = .ok (.getfield 9, 3) := by decide +kernel
theorem dX0_wayFrom_51 : decode cX0_wayFrom 51 = .ok (.iload 4, 2) := by decide +kernel
theorem dX0_wayFrom_53 : decode cX0_wayFrom 53 = .ok (.iaload, 1) := by decide +kernel
theorem dX0_wayFrom_54 : decode cX0_wayFrom 54 = .ok (.if_icmp .le 7, 3) := by decide +kernel
theorem dX0_wayFrom_57 : decode cX0_wayFrom 57 = .ok (.iload 5, 2) := by decide +kernel
theorem dX0_wayFrom_59 : decode cX0_wayFrom 59 = .ok (.istore 4, 2) := by decide +kernel
theorem dX0_wayFrom_61 : decode cX0_wayFrom 61 = .ok (.iinc 5 1, 3) := by decide +kernel
theorem dX0_wayFrom_64 : decode cX0_wayFrom 64 = .ok (.goto (-58), 3) := by decide +kernel
theorem dX0_wayFrom_67 : decode cX0_wayFrom 67 = .ok (.iload 4, 2) := by decide +kernel
theorem dX0_wayFrom_69 : decode cX0_wayFrom 69 = .ok (.iconst (-1), 1) := by decide +kernel
theorem dX0_wayFrom_70 : decode cX0_wayFrom 70 = .ok (.if_icmp .ne 7, 3) := by decide +kernel
theorem dX0_wayFrom_73 : decode cX0_wayFrom 73 = .ok (.iload_n 2, 1) := by decide +kernel
theorem dX0_wayFrom_74 : decode cX0_wayFrom 74 = .ok (.goto 5, 3) := by decide +kernel
theorem dX0_wayFrom_77 : decode cX0_wayFrom 77 = .ok (.iload 4, 2) := by decide +kernel
theorem dX0_wayFrom_79 : decode cX0_wayFrom 79 = .ok (.ireturn, 1) := by decide +kernel
theorem dX0_leaveScent_0 : decode cX0_leaveScent 0 = .ok (.iconst 0, 1) := by decide +kernel
theorem dX0_leaveScent_1 : decode cX0_leaveScent 1 = .ok (.istore_n 2, 1) := by decide +kernel
theorem dX0_leaveScent_2 : decode cX0_leaveScent 2 = .ok (.iload_n 2, 1) := by decide +kernel
theorem dX0_leaveScent_3 : decode cX0_leaveScent 3 = .ok (.aload_n 1, 1) := by decide +kernel
theorem dX0_leaveScent_4 : decode cX0_leaveScent 4 = .ok (.getfield 100, 3) := by decide +kernel
theorem dX0_leaveScent_7 : decode cX0_leaveScent 7 = .ok (.if_icmp .ge 45, 3) := by decide +kernel
theorem dX0_leaveScent_10 : decode cX0_leaveScent 10 = .ok (.aload_n 0, 1) := by decide +kernel
theorem dX0_leaveScent_11 : decode cX0_leaveScent 11 = .ok (.getfield 27, 3) := by decide +kernel
theorem dX0_leaveScent_14 : decode cX0_leaveScent 14 = .ok (.iload_n 2, 1) := by decide +kernel
theorem dX0_leaveScent_15 : decode cX0_leaveScent 15 = .ok (.iaload, 1) := by decide +kernel
theorem dX0_leaveScent_16 : decode cX0_leaveScent 16 = .ok (.istore_n 3, 1) := by decide +kernel
theorem dX0_leaveScent_17 : decode cX0_leaveScent 17 = .ok (.iload_n 3, 1) := by decide +kernel
theorem dX0_leaveScent_18 : decode cX0_leaveScent 18 = .ok (.iconst (-1), 1) := by decide +kernel
theorem dX0_leaveScent_19 : decode cX0_leaveScent 19 = .ok (.if_icmp .eq 27, 3) := by decide +kernel
theorem dX0_leaveScent_22 : decode cX0_leaveScent 22 = .ok (.aload_n 0, 1) := by decide +kernel
theorem dX0_leaveScent_23 : decode cX0_leaveScent 23 = .ok (.getfield 9, 3) := by decide +kernel
theorem dX0_leaveScent_26 : decode cX0_leaveScent 26 = .ok (.iload_n 3, 1) := by decide +kernel
theorem dX0_leaveScent_27 : decode cX0_leaveScent 27 = .ok (.bipush 99, 2) := by decide +kernel
theorem dX0_leaveScent_29 : decode cX0_leaveScent 29 = .ok (.aload_n 0, 1) := by decide +kernel
theorem dX0_leaveScent_30 : decode cX0_leaveScent 30 = .ok (.getfield 9, 3) := by decide +kernel
theorem dX0_leaveScent_33 : decode cX0_leaveScent 33 = .ok (.iload_n 3, 1) := by decide +kernel
theorem dX0_leaveScent_34 : decode cX0_leaveScent 34 = .ok (.iaload, 1) := by decide +kernel
theorem dX0_leaveScent_35 : decode cX0_leaveScent 35 = .ok (.aload_n 0, 1) := by decide +kernel
theorem dX0_leaveScent_36 : decode cX0_leaveScent 36 = .ok (.getfield 18, 3) := by decide +kernel
theorem dX0_leaveScent_39 : decode cX0_leaveScent 39 = .ok (.iload_n 2, 1) := by decide +kernel
theorem dX0_leaveScent_40 : decode cX0_leaveScent 40 = .ok (.iaload, 1) := by decide +kernel
theorem dX0_leaveScent_41 : decode cX0_leaveScent 41 = .ok (.iadd, 1) := by decide +kernel
theorem dX0_leaveScent_42 : decode cX0_leaveScent 42 = .ok (.invokestatic 114, 3) := by decide +kernel
theorem dX0_leaveScent_45 : decode cX0_leaveScent 45 = .ok (.iastore, 1) := by decide +kernel
theorem dX0_leaveScent_46 : decode cX0_leaveScent 46 = .ok (.iinc 2 1, 3) := by decide +kernel
theorem dX0_leaveScent_49 : decode cX0_leaveScent 49 = .ok (.goto (-47), 3) := by decide +kernel
theorem dX0_leaveScent_52 : decode cX0_leaveScent 52 = .ok (.return_, 1) := by decide +kernel
theorem dX0_fadeScents_0 : decode cX0_fadeScents 0 = .ok (.iconst 0, 1) := by decide +kernel
theorem dX0_fadeScents_1 : decode cX0_fadeScents 1 = .ok (.istore_n 2, 1) := by decide +kernel
theorem dX0_fadeScents_2 : decode cX0_fadeScents 2 = .ok (.iload_n 2, 1) := by decide +kernel
theorem dX0_fadeScents_3 : decode cX0_fadeScents 3 = .ok (.aload_n 1, 1) := by decide +kernel
theorem dX0_fadeScents_4 : decode cX0_fadeScents 4 = .ok (.getfield 107, 3) := by decide +kernel
theorem dX0_fadeScents_7 : decode cX0_fadeScents 7 = .ok (.if_icmp .ge 30, 3) := by decide +kernel
theorem dX0_fadeScents_10 : decode cX0_fadeScents 10 = .ok (.aload_n 0, 1) := by decide +kernel
theorem dX0_fadeScents_11 : decode cX0_fadeScents 11 = .ok (.getfield 9, 3) := by decide +kernel
theorem dX0_fadeScents_14 : decode cX0_fadeScents 14 = .ok (.iload_n 2, 1) := by decide +kernel
theorem dX0_fadeScents_15 : decode cX0_fadeScents 15 = .ok (.iconst 0, 1) := by decide +kernel
theorem dX0_fadeScents_16 : decode cX0_fadeScents 16 = .ok (.aload_n 0, 1) := by decide +kernel
theorem dX0_fadeScents_17 : decode cX0_fadeScents 17 = .ok (.getfield 9, 3) := by decide +kernel
theorem dX0_fadeScents_20 : decode cX0_fadeScents 20 = .ok (.iload_n 2, 1) := by decide +kernel
theorem dX0_fadeScents_21 : decode cX0_fadeScents 21 = .ok (.iaload, 1) := by decide +kernel
theorem dX0_fadeScents_22 : decode cX0_fadeScents 22 = .ok (.aload_n 1, 1) := by decide +kernel
theorem dX0_fadeScents_23 : decode cX0_fadeScents 23 = .ok (.getfield 120, 3) := by decide +kernel
theorem dX0_fadeScents_26 : decode cX0_fadeScents 26 = .ok (.isub, 1) := by decide +kernel
theorem dX0_fadeScents_27 : decode cX0_fadeScents 27 = .ok (.invokestatic 123, 3) := by decide +kernel
theorem dX0_fadeScents_30 : decode cX0_fadeScents 30 = .ok (.iastore, 1) := by decide +kernel
theorem dX0_fadeScents_31 : decode cX0_fadeScents 31 = .ok (.iinc 2 1, 3) := by decide +kernel
theorem dX0_fadeScents_34 : decode cX0_fadeScents 34 = .ok (.goto (-32), 3) := by decide +kernel
theorem dX0_fadeScents_37 : decode cX0_fadeScents 37 = .ok (.return_, 1) := by decide +kernel
theorem dX0_arrive_0 : decode cX0_arrive 0 = .ok (.iconst 0, 1) := by decide +kernel
theorem dX0_arrive_1 : decode cX0_arrive 1 = .ok (.istore_n 2, 1) := by decide +kernel
theorem dX0_arrive_2 : decode cX0_arrive 2 = .ok (.iload_n 2, 1) := by decide +kernel
theorem dX0_arrive_3 : decode cX0_arrive 3 = .ok (.aload_n 1, 1) := by decide +kernel
theorem dX0_arrive_4 : decode cX0_arrive 4 = .ok (.getfield 100, 3) := by decide +kernel
theorem dX0_arrive_7 : decode cX0_arrive 7 = .ok (.if_icmp .ge 107, 3) := by decide +kernel
theorem dX0_arrive_10 : decode cX0_arrive 10 = .ok (.aload_n 0, 1) := by decide +kernel
theorem dX0_arrive_11 : decode cX0_arrive 11 = .ok (.getfield 27, 3) := by decide +kernel
theorem dX0_arrive_14 : decode cX0_arrive 14 = .ok (.iload_n 2, 1) := by decide +kernel
theorem dX0_arrive_15 : decode cX0_arrive 15 = .ok (.iaload, 1) := by decide +kernel
theorem dX0_arrive_16 : decode cX0_arrive 16 = .ok (.istore_n 3, 1) := by decide +kernel
theorem dX0_arrive_17 : decode cX0_arrive 17 = .ok (.iload_n 3, 1) := by decide +kernel
theorem dX0_arrive_18 : decode cX0_arrive 18 = .ok (.iconst (-1), 1) := by decide +kernel
theorem dX0_arrive_19 : decode cX0_arrive 19 = .ok (.if_icmp .ne 6, 3) := by decide +kernel
theorem dX0_arrive_22 : decode cX0_arrive 22 = .ok (.goto 86, 3) := by decide +kernel
theorem dX0_arrive_25 : decode cX0_arrive 25 = .ok (.aload_n 0, 1) := by decide +kernel
theorem dX0_arrive_26 : decode cX0_arrive 26 = .ok (.getfield 21, 3) := by decide +kernel
theorem dX0_arrive_29 : decode cX0_arrive 29 = .ok (.iload_n 2, 1) := by decide +kernel
theorem dX0_arrive_30 : decode cX0_arrive 30 = .ok (.iload_n 3, 1) := by decide +kernel
theorem dX0_arrive_31 : decode cX0_arrive 31 = .ok (.iastore, 1) := by decide +kernel
theorem dX0_arrive_32 : decode cX0_arrive 32 = .ok (.aload_n 0, 1) := by decide +kernel
theorem dX0_arrive_33 : decode cX0_arrive 33 = .ok (.getfield 15, 3) := by decide +kernel
theorem dX0_arrive_36 : decode cX0_arrive 36 = .ok (.iload_n 2, 1) := by decide +kernel
theorem dX0_arrive_37 : decode cX0_arrive 37 = .ok (.aload_n 1, 1) := by decide +kernel
theorem dX0_arrive_38 : decode cX0_arrive 38 = .ok (.iload_n 3, 1) := by decide +kernel
theorem dX0_arrive_39 : decode cX0_arrive 39 = .ok (.aload_n 0, 1) := by decide +kernel
theorem dX0_arrive_40 : decode cX0_arrive 40 = .ok (.getfield 15, 3) := by decide +kernel
theorem dX0_arrive_43 : decode cX0_arrive 43 = .ok (.iload_n 2, 1) := by decide +kernel
theorem dX0_arrive_44 : decode cX0_arrive 44 = .ok (.iaload, 1) := by decide +kernel
theorem dX0_arrive_45 : decode cX0_arrive 45 = .ok (.invokevirtual 126, 3) := by decide +kernel
theorem dX0_arrive_48 : decode cX0_arrive 48 = .ok (.iastore, 1) := by decide +kernel
theorem dX0_arrive_49 : decode cX0_arrive 49 = .ok (.aload_n 0, 1) := by decide +kernel
theorem dX0_arrive_50 : decode cX0_arrive 50 = .ok (.getfield 18, 3) := by decide +kernel
theorem dX0_arrive_53 : decode cX0_arrive 53 = .ok (.iload_n 2, 1) := by decide +kernel
theorem dX0_arrive_54 : decode cX0_arrive 54 = .ok (.aload_n 1, 1) := by decide +kernel
theorem dX0_arrive_55 : decode cX0_arrive 55 = .ok (.aload_n 0, 1) := by decide +kernel
theorem dX0_arrive_56 : decode cX0_arrive 56 = .ok (.getfield 15, 3) := by decide +kernel
theorem dX0_arrive_59 : decode cX0_arrive 59 = .ok (.iload_n 2, 1) := by decide +kernel
theorem dX0_arrive_60 : decode cX0_arrive 60 = .ok (.iaload, 1) := by decide +kernel
theorem dX0_arrive_61 : decode cX0_arrive 61 = .ok (.aload_n 0, 1) := by decide +kernel
theorem dX0_arrive_62 : decode cX0_arrive 62 = .ok (.getfield 18, 3) := by decide +kernel
theorem dX0_arrive_65 : decode cX0_arrive 65 = .ok (.iload_n 2, 1) := by decide +kernel
theorem dX0_arrive_66 : decode cX0_arrive 66 = .ok (.iaload, 1) := by decide +kernel
theorem dX0_arrive_67 : decode cX0_arrive 67 = .ok (.invokevirtual 129, 3) := by decide +kernel
theorem dX0_arrive_70 : decode cX0_arrive 70 = .ok (.iastore, 1) := by decide +kernel
theorem dX0_arrive_71 : decode cX0_arrive 71 = .ok (.aload_n 0, 1) := by decide +kernel
theorem dX0_arrive_72 : decode cX0_arrive 72 = .ok (.getfield 15, 3) := by decide +kernel
theorem dX0_arrive_75 : decode cX0_arrive 75 = .ok (.iload_n 2, 1) := by decide +kernel
theorem dX0_arrive_76 : decode cX0_arrive 76 = .ok (.iaload, 1) := by decide +kernel
theorem dX0_arrive_77 : decode cX0_arrive 77 = .ok (.aload_n 1, 1) := by decide +kernel
theorem dX0_arrive_78 : decode cX0_arrive 78 = .ok (.getfield 132, 3) := by decide +kernel
theorem dX0_arrive_81 : decode cX0_arrive 81 = .ok (.iload_n 2, 1) := by decide +kernel
theorem dX0_arrive_82 : decode cX0_arrive 82 = .ok (.iaload, 1) := by decide +kernel
theorem dX0_arrive_83 : decode cX0_arrive 83 = .ok (.if_icmp .ne 25, 3) := by decide +kernel
theorem dX0_arrive_86 : decode cX0_arrive 86 = .ok (.aload_n 0, 1) := by decide +kernel
theorem dX0_arrive_87 : decode cX0_arrive 87 = .ok (.getfield 24, 3) := by decide +kernel
theorem dX0_arrive_90 : decode cX0_arrive 90 = .ok (.iload_n 2, 1) := by decide +kernel
theorem dX0_arrive_91 : decode cX0_arrive 91 = .ok (.aload_n 0, 1) := by decide +kernel
theorem dX0_arrive_92 : decode cX0_arrive 92 = .ok (.getfield 40, 3) := by decide +kernel
theorem dX0_arrive_95 : decode cX0_arrive 95 = .ok (.iastore, 1) := by decide +kernel
theorem dX0_arrive_96 : decode cX0_arrive 96 = .ok (.aload_n 0, 1) := by decide +kernel
theorem dX0_arrive_97 : decode cX0_arrive 97 = .ok (.dup, 1) := by decide +kernel
theorem dX0_arrive_98 : decode cX0_arrive 98 = .ok (.getfield 46, 3) := by decide +kernel
theorem dX0_arrive_101 : decode cX0_arrive 101 = .ok (.iconst 1, 1) := by decide +kernel
theorem dX0_arrive_102 : decode cX0_arrive 102 = .ok (.iload_n 2, 1) := by decide +kernel
theorem dX0_arrive_103 : decode cX0_arrive 103 = .ok (.ishl, 1) := by decide +kernel
theorem dX0_arrive_104 : decode cX0_arrive 104 = .ok (.ior, 1) := by decide +kernel
theorem dX0_arrive_105 : decode cX0_arrive 105 = .ok (.putfield 46, 3) := by decide +kernel
theorem dX0_arrive_108 : decode cX0_arrive 108 = .ok (.iinc 2 1, 3) := by decide +kernel
theorem dX0_arrive_111 : decode cX0_arrive 111 = .ok (.goto (-109), 3) := by decide +kernel
theorem dX0_arrive_114 : decode cX0_arrive 114 = .ok (.return_, 1) := by decide +kernel
theorem dX0_isFiled_0 : decode cX0_isFiled 0 = .ok (.aload_n 0, 1) := by decide +kernel
theorem dX0_isFiled_1 : decode cX0_isFiled 1 = .ok (.getfield 24, 3) := by decide +kernel
theorem dX0_isFiled_4 : decode cX0_isFiled 4 = .ok (.iload_n 1, 1) := by decide +kernel
theorem dX0_isFiled_5 : decode cX0_isFiled 5 = .ok (.iaload, 1) := by decide +kernel
theorem dX0_isFiled_6 : decode cX0_isFiled 6 = .ok (.iconst (-1), 1) := by decide +kernel
theorem dX0_isFiled_7 : decode cX0_isFiled 7 = .ok (.if_icmp .eq 7, 3) := by decide +kernel
theorem dX0_isFiled_10 : decode cX0_isFiled 10 = .ok (.iconst 1, 1) := by decide +kernel
theorem dX0_isFiled_11 : decode cX0_isFiled 11 = .ok (.goto 4, 3) := by decide +kernel
theorem dX0_isFiled_14 : decode cX0_isFiled 14 = .ok (.iconst 0, 1) := by decide +kernel
theorem dX0_isFiled_15 : decode cX0_isFiled 15 = .ok (.ireturn, 1) := by decide +kernel
theorem dX0_filesAt_0 : decode cX0_filesAt 0 = .ok (.iconst 0, 1) := by decide +kernel
theorem dX0_filesAt_1 : decode cX0_filesAt 1 = .ok (.istore_n 3, 1) := by decide +kernel
theorem dX0_filesAt_2 : decode cX0_filesAt 2 = .ok (.iconst 0, 1) := by decide +kernel
theorem dX0_filesAt_3 : decode cX0_filesAt 3 = .ok (.istore 4, 2) := by decide +kernel
theorem dX0_filesAt_5 : decode cX0_filesAt 5 = .ok (.iload 4, 2) := by decide +kernel
theorem dX0_filesAt_7 : decode cX0_filesAt 7 = .ok (.iload_n 2, 1) := by decide +kernel
theorem dX0_filesAt_8 : decode cX0_filesAt 8 = .ok (.if_icmp .ge 27, 3) := by decide +kernel
theorem dX0_filesAt_11 : decode cX0_filesAt 11 = .ok (.aload_n 0, 1) := by decide +kernel
theorem dX0_filesAt_12 : decode cX0_filesAt 12 = .ok (.getfield 15, 3) := by decide +kernel
theorem dX0_filesAt_15 : decode cX0_filesAt 15 = .ok (.iload 4, 2) := by decide +kernel
theorem dX0_filesAt_17 : decode cX0_filesAt 17 = .ok (.iaload, 1) := by decide +kernel
theorem dX0_filesAt_18 : decode cX0_filesAt 18 = .ok (.iload_n 1, 1) := by decide +kernel
theorem dX0_filesAt_19 : decode cX0_filesAt 19 = .ok (.if_icmp .ne 10, 3) := by decide +kernel
theorem dX0_filesAt_22 : decode cX0_filesAt 22 = .ok (.iload_n 3, 1) := by decide +kernel
theorem dX0_filesAt_23 : decode cX0_filesAt 23 = .ok (.iconst 1, 1) := by decide +kernel
theorem dX0_filesAt_24 : decode cX0_filesAt 24 = .ok (.iload 4, 2) := by decide +kernel
theorem dX0_filesAt_26 : decode cX0_filesAt 26 = .ok (.ishl, 1) := by decide +kernel
theorem dX0_filesAt_27 : decode cX0_filesAt 27 = .ok (.ior, 1) := by decide +kernel
theorem dX0_filesAt_28 : decode cX0_filesAt 28 = .ok (.istore_n 3, 1) := by decide +kernel
theorem dX0_filesAt_29 : decode cX0_filesAt 29 = .ok (.iinc 4 1, 3) := by decide +kernel
theorem dX0_filesAt_32 : decode cX0_filesAt 32 = .ok (.goto (-27), 3) := by decide +kernel
theorem dX0_filesAt_35 : decode cX0_filesAt 35 = .ok (.iload_n 3, 1) := by decide +kernel
theorem dX0_filesAt_36 : decode cX0_filesAt 36 = .ok (.ireturn, 1) := by decide +kernel
theorem dX0_halveScents_0 : decode cX0_halveScents 0 = .ok (.iconst 0, 1) := by decide +kernel
theorem dX0_halveScents_1 : decode cX0_halveScents 1 = .ok (.istore_n 2, 1) := by decide +kernel
theorem dX0_halveScents_2 : decode cX0_halveScents 2 = .ok (.iconst 0, 1) := by decide +kernel
theorem dX0_halveScents_3 : decode cX0_halveScents 3 = .ok (.istore_n 3, 1) := by decide +kernel
theorem dX0_halveScents_4 : decode cX0_halveScents 4 = .ok (.iload_n 3, 1) := by decide +kernel
theorem dX0_halveScents_5 : decode cX0_halveScents 5 = .ok (.iload_n 1, 1) := by decide +kernel
theorem dX0_halveScents_6 : decode cX0_halveScents 6 = .ok (.if_icmp .ge 31, 3) := by decide +kernel
theorem dX0_halveScents_9 : decode cX0_halveScents 9 = .ok (.aload_n 0, 1) := by decide +kernel
theorem dX0_halveScents_10 : decode cX0_halveScents 10 = .ok (.getfield 9, 3) := by decide +kernel
theorem dX0_halveScents_13 : decode cX0_halveScents 13 = .ok (.iload_n 3, 1) := by decide +kernel
theorem dX0_halveScents_14 : decode cX0_halveScents 14 = .ok (.dup2, 1) := by decide +kernel
theorem dX0_halveScents_15 : decode cX0_halveScents 15 = .ok (.iaload, 1) := by decide +kernel
theorem dX0_halveScents_16 : decode cX0_halveScents 16 = .ok (.iconst 2, 1) := by decide +kernel
theorem dX0_halveScents_17 : decode cX0_halveScents 17 = .ok (.idiv, 1) := by decide +kernel
theorem dX0_halveScents_18 : decode cX0_halveScents 18 = .ok (.iastore, 1) := by decide +kernel
theorem dX0_halveScents_19 : decode cX0_halveScents 19 = .ok (.aload_n 0, 1) := by decide +kernel
theorem dX0_halveScents_20 : decode cX0_halveScents 20 = .ok (.getfield 9, 3) := by decide +kernel
theorem dX0_halveScents_23 : decode cX0_halveScents 23 = .ok (.iload_n 3, 1) := by decide +kernel
theorem dX0_halveScents_24 : decode cX0_halveScents 24 = .ok (.iaload, 1) := by decide +kernel
theorem dX0_halveScents_25 : decode cX0_halveScents 25 = .ok (.ifCond .le 6, 3) := by decide +kernel
theorem dX0_halveScents_28 : decode cX0_halveScents 28 = .ok (.iinc 2 1, 3) := by decide +kernel
theorem dX0_halveScents_31 : decode cX0_halveScents 31 = .ok (.iinc 3 1, 3) := by decide +kernel
theorem dX0_halveScents_34 : decode cX0_halveScents 34 = .ok (.goto (-30), 3) := by decide +kernel
theorem dX0_halveScents_37 : decode cX0_halveScents 37 = .ok (.iload_n 2, 1) := by decide +kernel
theorem dX0_halveScents_38 : decode cX0_halveScents 38 = .ok (.ireturn, 1) := by decide +kernel
theorem dX1_init_0 : decode cX1_init 0 = .ok (.aload_n 0, 1) := by decide +kernel
theorem dX1_init_1 : decode cX1_init 1 = .ok (.invokespecial 3, 3) := by decide +kernel
theorem dX1_init_4 : decode cX1_init 4 = .ok (.aload_n 0, 1) := by decide +kernel
theorem dX1_init_5 : decode cX1_init 5 = .ok (.bipush 8, 2) := by decide +kernel
theorem dX1_init_7 : decode cX1_init 7 = .ok (.newarray .int, 2) := by decide +kernel
theorem dX1_init_9 : decode cX1_init 9 = .ok (.putfield 9, 3) := by decide +kernel
theorem dX1_init_12 : decode cX1_init 12 = .ok (.return_, 1) := by decide +kernel
theorem dX1_clear_0 : decode cX1_clear 0 = .ok (.aload_n 0, 1) := by decide +kernel
theorem dX1_clear_1 : decode cX1_clear 1 = .ok (.getfield 9, 3) := by decide +kernel
theorem dX1_clear_4 : decode cX1_clear 4 = .ok (.iconst 0, 1) := by decide +kernel
theorem dX1_clear_5 : decode cX1_clear 5 = .ok (.invokestatic 15, 3) := by decide +kernel
theorem dX1_clear_8 : decode cX1_clear 8 = .ok (.return_, 1) := by decide +kernel
theorem dX1_sum_0 : decode cX1_sum 0 = .ok (.iconst 0, 1) := by decide +kernel
theorem dX1_sum_1 : decode cX1_sum 1 = .ok (.istore_n 1, 1) := by decide +kernel
theorem dX1_sum_2 : decode cX1_sum 2 = .ok (.iconst 0, 1) := by decide +kernel
theorem dX1_sum_3 : decode cX1_sum 3 = .ok (.istore_n 2, 1) := by decide +kernel
theorem dX1_sum_4 : decode cX1_sum 4 = .ok (.iload_n 2, 1) := by decide +kernel
theorem dX1_sum_5 : decode cX1_sum 5 = .ok (.aload_n 0, 1) := by decide +kernel
theorem dX1_sum_6 : decode cX1_sum 6 = .ok (.getfield 9, 3) := by decide +kernel
theorem dX1_sum_9 : decode cX1_sum 9 = .ok (.arraylength, 1) := by decide +kernel
theorem dX1_sum_10 : decode cX1_sum 10 = .ok (.if_icmp .ge 18, 3) := by decide +kernel
theorem dX1_sum_13 : decode cX1_sum 13 = .ok (.iload_n 1, 1) := by decide +kernel
theorem dX1_sum_14 : decode cX1_sum 14 = .ok (.aload_n 0, 1) := by decide +kernel
theorem dX1_sum_15 : decode cX1_sum 15 = .ok (.getfield 9, 3) := by decide +kernel
theorem dX1_sum_18 : decode cX1_sum 18 = .ok (.iload_n 2, 1) := by decide +kernel
theorem dX1_sum_19 : decode cX1_sum 19 = .ok (.iaload, 1) := by decide +kernel
theorem dX1_sum_20 : decode cX1_sum 20 = .ok (.iadd, 1) := by decide +kernel
theorem dX1_sum_21 : decode cX1_sum 21 = .ok (.istore_n 1, 1) := by decide +kernel
theorem dX1_sum_22 : decode cX1_sum 22 = .ok (.iinc 2 1, 3) := by decide +kernel
theorem dX1_sum_25 : decode cX1_sum 25 = .ok (.goto (-21), 3) := by decide +kernel
theorem dX1_sum_28 : decode cX1_sum 28 = .ok (.iload_n 1, 1) := by decide +kernel
theorem dX1_sum_29 : decode cX1_sum 29 = .ok (.ireturn, 1) := by decide +kernel
theorem dX1_commonDivisor_0 : decode cX1_commonDivisor 0 = .ok (.iload_n 1, 1) := by decide +kernel
theorem dX1_commonDivisor_1 : decode cX1_commonDivisor 1 = .ok (.istore_n 2, 1) := by decide +kernel
theorem dX1_commonDivisor_2 : decode cX1_commonDivisor 2 = .ok (.iload_n 2, 1) := by decide +kernel
theorem dX1_commonDivisor_3 : decode cX1_commonDivisor 3 = .ok (.iconst 1, 1) := by decide +kernel
theorem dX1_commonDivisor_4 : decode cX1_commonDivisor 4 = .ok (.if_icmp .le 23, 3) := by decide +kernel
theorem dX1_commonDivisor_7 : decode cX1_commonDivisor 7 = .ok (.iload_n 0, 1) := by decide +kernel
theorem dX1_commonDivisor_8 : decode cX1_commonDivisor 8 = .ok (.iload_n 2, 1) := by decide +kernel
theorem dX1_commonDivisor_9 : decode cX1_commonDivisor 9 = .ok (.irem, 1) := by decide +kernel
theorem dX1_commonDivisor_10 : decode cX1_commonDivisor 10 = .ok (.ifCond .ne 11, 3) := by decide +kernel
theorem dX1_commonDivisor_13 : decode cX1_commonDivisor 13 = .ok (.iload_n 1, 1) := by decide +kernel
theorem dX1_commonDivisor_14 : decode cX1_commonDivisor 14 = .ok (.iload_n 2, 1) := by decide +kernel
theorem dX1_commonDivisor_15 : decode cX1_commonDivisor 15 = .ok (.irem, 1) := by decide +kernel
theorem dX1_commonDivisor_16 : decode cX1_commonDivisor 16 = .ok (.ifCond .ne 5, 3) := by decide +kernel
theorem dX1_commonDivisor_19 : decode cX1_commonDivisor 19 = .ok (.iload_n 2, 1) := by decide +kernel
theorem dX1_commonDivisor_20 : decode cX1_commonDivisor 20 = .ok (.ireturn, 1) := by decide +kernel
theorem dX1_commonDivisor_21 : decode cX1_commonDivisor 21 = .ok (.iinc 2 (-1), 3) := by decide +kernel
theorem dX1_commonDivisor_24 : decode cX1_commonDivisor 24 = .ok (.goto (-22), 3) := by decide +kernel
theorem dX1_commonDivisor_27 : decode cX1_commonDivisor 27 = .ok (.iconst 1, 1) := by decide +kernel
theorem dX1_commonDivisor_28 : decode cX1_commonDivisor 28 = .ok (.ireturn, 1) := by decide +kernel
theorem dX2_init_0 : decode cX2_init 0 = .ok (.aload_n 0, 1) := by decide +kernel
theorem dX2_init_1 : decode cX2_init 1 = .ok (.invokespecial 3, 3) := by decide +kernel
theorem dX2_init_4 : decode cX2_init 4 = .ok (.aload_n 0, 1) := by decide +kernel
theorem dX2_init_5 : decode cX2_init 5 = .ok (.new 9, 3) := by decide +kernel
theorem dX2_init_8 : decode cX2_init 8 = .ok (.dup, 1) := by decide +kernel
theorem dX2_init_9 : decode cX2_init 9 = .ok (.invokespecial 11, 3) := by decide +kernel
theorem dX2_init_12 : decode cX2_init 12 = .ok (.putfield 12, 3) := by decide +kernel
theorem dX2_init_15 : decode cX2_init 15 = .ok (.aload_n 0, 1) := by decide +kernel
theorem dX2_init_16 : decode cX2_init 16 = .ok (.iconst 4, 1) := by decide +kernel
theorem dX2_init_17 : decode cX2_init 17 = .ok (.newarray .int, 2) := by decide +kernel
theorem dX2_init_19 : decode cX2_init 19 = .ok (.putfield 18, 3) := by decide +kernel
theorem dX2_init_22 : decode cX2_init 22 = .ok (.aload_n 0, 1) := by decide +kernel
theorem dX2_init_23 : decode cX2_init 23 = .ok (.iconst 4, 1) := by decide +kernel
theorem dX2_init_24 : decode cX2_init 24 = .ok (.newarray .int, 2) := by decide +kernel
theorem dX2_init_26 : decode cX2_init 26 = .ok (.putfield 22, 3) := by decide +kernel
theorem dX2_init_29 : decode cX2_init 29 = .ok (.aload_n 0, 1) := by decide +kernel
theorem dX2_init_30 : decode cX2_init 30 = .ok (.iconst 3, 1) := by decide +kernel
theorem dX2_init_31 : decode cX2_init 31 = .ok (.newarray .int, 2) := by decide +kernel
theorem dX2_init_33 : decode cX2_init 33 = .ok (.putfield 25, 3) := by decide +kernel
theorem dX2_init_36 : decode cX2_init 36 = .ok (.aload_n 0, 1) := by decide +kernel
theorem dX2_init_37 : decode cX2_init 37 = .ok (.bipush 8, 2) := by decide +kernel
theorem dX2_init_39 : decode cX2_init 39 = .ok (.newarray .int, 2) := by decide +kernel
theorem dX2_init_41 : decode cX2_init 41 = .ok (.putfield 28, 3) := by decide +kernel
theorem dX2_init_44 : decode cX2_init 44 = .ok (.aload_n 0, 1) := by decide +kernel
theorem dX2_init_45 : decode cX2_init 45 = .ok (.aload_n 1, 1) := by decide +kernel
theorem dX2_init_46 : decode cX2_init 46 = .ok (.putfield 31, 3) := by decide +kernel
theorem dX2_init_49 : decode cX2_init 49 = .ok (.aload_n 0, 1) := by decide +kernel
theorem dX2_init_50 : decode cX2_init 50 = .ok (.aload_n 2, 1) := by decide +kernel
theorem dX2_init_51 : decode cX2_init 51 = .ok (.putfield 35, 3) := by decide +kernel
theorem dX2_init_54 : decode cX2_init 54 = .ok (.return_, 1) := by decide +kernel
theorem dX2_inMinutes_0 : decode cX2_inMinutes 0 = .ok (.aload_n 0, 1) := by decide +kernel
theorem dX2_inMinutes_1 : decode cX2_inMinutes 1 = .ok (.getfield 12, 3) := by decide +kernel
theorem dX2_inMinutes_4 : decode cX2_inMinutes 4 = .ok (.aload_n 0, 1) := by decide +kernel
theorem dX2_inMinutes_5 : decode cX2_inMinutes 5 = .ok (.getfield 35, 3) := by decide +kernel
theorem dX2_inMinutes_8 : decode cX2_inMinutes 8 = .ok (.invokevirtual 38, 3) := by decide +kernel
theorem dX2_inMinutes_11 : decode cX2_inMinutes 11 = .ok (.aload_n 0, 1) := by decide +kernel
theorem dX2_inMinutes_12 : decode cX2_inMinutes 12 = .ok (.getfield 12, 3) := by decide +kernel
theorem dX2_inMinutes_15 : decode cX2_inMinutes 15 = .ok (.aload_n 0, 1) := by decide +kernel
theorem dX2_inMinutes_16 : decode cX2_inMinutes 16 = .ok (.getfield 31, 3) := by decide +kernel
theorem dX2_inMinutes_19 : decode cX2_inMinutes 19 = .ok (.iload_n 1, 1) := by decide +kernel
theorem dX2_inMinutes_20 : decode cX2_inMinutes 20 = .ok (.invokevirtual 42, 3) := by decide +kernel
theorem dX2_inMinutes_23 : decode cX2_inMinutes 23 = .ok (.aload_n 0, 1) := by decide +kernel
theorem dX2_inMinutes_24 : decode cX2_inMinutes 24 = .ok (.getfield 12, 3) := by decide +kernel
theorem dX2_inMinutes_27 : decode cX2_inMinutes 27 = .ok (.areturn, 1) := by decide +kernel
theorem dX2_minuteOfFiling_0 : decode cX2_minuteOfFiling 0 = .ok (.aload_n 0, 1) := by decide +kernel
theorem dX2_minuteOfFiling_1 : decode cX2_minuteOfFiling 1 = .ok (.getfield 12, 3) := by decide +kernel
theorem dX2_minuteOfFiling_4 : decode cX2_minuteOfFiling 4 = .ok (.aload_n 0, 1) := by decide +kernel
theorem dX2_minuteOfFiling_5 : decode cX2_minuteOfFiling 5 = .ok (.getfield 35, 3) := by decide +kernel
theorem dX2_minuteOfFiling_8 : decode cX2_minuteOfFiling 8 = .ok (.invokevirtual 38, 3) := by decide +kernel
theorem dX2_minuteOfFiling_11 : decode cX2_minuteOfFiling 11 = .ok (.aload_n 0, 1) := by decide +kernel
theorem dX2_minuteOfFiling_12 : decode cX2_minuteOfFiling 12 = .ok (.getfield 12, 3) := by decide +kernel
theorem dX2_minuteOfFiling_15 : decode cX2_minuteOfFiling 15 = .ok (.aload_n 0, 1) := by decide +kernel
theorem dX2_minuteOfFiling_16 : decode cX2_minuteOfFiling 16 = .ok (.getfield 31, 3) := by decide +kernel
theorem dX2_minuteOfFiling_19 : decode cX2_minuteOfFiling 19 = .ok (.iconst 1, 1) := by decide +kernel
theorem dX2_minuteOfFiling_20 : decode cX2_minuteOfFiling 20 = .ok (.iload_n 1, 1) := by decide +kernel
theorem dX2_minuteOfFiling_21 : decode cX2_minuteOfFiling 21 = .ok (.ishl, 1) := by decide +kernel
theorem dX2_minuteOfFiling_22 : decode cX2_minuteOfFiling 22 = .ok (.sipush 200, 3) := by decide +kernel
theorem dX2_minuteOfFiling_25 : decode cX2_minuteOfFiling 25 = .ok (.invokevirtual 46, 3) := by decide +kernel
theorem dX2_minuteOfFiling_28 : decode cX2_minuteOfFiling 28 = .ok (.pop, 1) := by decide +kernel
theorem dX2_minuteOfFiling_29 : decode cX2_minuteOfFiling 29 = .ok (.aload_n 0, 1) := by decide +kernel
theorem dX2_minuteOfFiling_30 : decode cX2_minuteOfFiling 30 = .ok (.getfield 12, 3) := by decide +kernel
theorem dX2_minuteOfFiling_33 : decode cX2_minuteOfFiling 33 = .ok (.getfield 50, 3) := by decide +kernel
theorem dX2_minuteOfFiling_36 : decode cX2_minuteOfFiling 36 = .ok (.iload_n 1, 1) := by decide +kernel
theorem dX2_minuteOfFiling_37 : decode cX2_minuteOfFiling 37 = .ok (.iaload, 1) := by decide +kernel
theorem dX2_minuteOfFiling_38 : decode cX2_minuteOfFiling 38 = .ok (.ireturn, 1) := by decide +kernel
theorem dX2_leastHoney_0 : decode cX2_leastHoney 0 = .ok (.iconst 0, 1) := by decide +kernel
theorem dX2_leastHoney_1 : decode cX2_leastHoney 1 = .ok (.istore_n 3, 1) := by decide +kernel
theorem dX2_leastHoney_2 : decode cX2_leastHoney 2 = .ok (.iconst 0, 1) := by decide +kernel
theorem dX2_leastHoney_3 : decode cX2_leastHoney 3 = .ok (.istore 4, 2) := by decide +kernel
theorem dX2_leastHoney_5 : decode cX2_leastHoney 5 = .ok (.iload 4, 2) := by decide +kernel
theorem dX2_leastHoney_7 : decode cX2_leastHoney 7 = .ok (.aload_n 0, 1) := by decide +kernel
theorem dX2_leastHoney_8 : decode cX2_leastHoney 8 = .ok (.getfield 31, 3) := by decide +kernel
theorem dX2_leastHoney_11 : decode cX2_leastHoney 11 = .ok (.getfield 53, 3) := by decide +kernel
theorem dX2_leastHoney_14 : decode cX2_leastHoney 14 = .ok (.if_icmp .ge 49, 3) := by decide +kernel
theorem dX2_leastHoney_17 : decode cX2_leastHoney 17 = .ok (.iload_n 1, 1) := by decide +kernel
theorem dX2_leastHoney_18 : decode cX2_leastHoney 18 = .ok (.iload 4, 2) := by decide +kernel
theorem dX2_leastHoney_20 : decode cX2_leastHoney 20 = .ok (.ishr, 1) := by decide +kernel
theorem dX2_leastHoney_21 : decode cX2_leastHoney 21 = .ok (.iconst 1, 1) := by decide +kernel
theorem dX2_leastHoney_22 : decode cX2_leastHoney 22 = .ok (.iand, 1) := by decide +kernel
theorem dX2_leastHoney_23 : decode cX2_leastHoney 23 = .ok (.ifCond .eq 34, 3) := by decide +kernel
theorem dX2_leastHoney_26 : decode cX2_leastHoney 26 = .ok (.iload_n 3, 1) := by decide +kernel
theorem dX2_leastHoney_27 : decode cX2_leastHoney 27 = .ok (.iconst 4, 1) := by decide +kernel
theorem dX2_leastHoney_28 : decode cX2_leastHoney 28 = .ok (.if_icmp .lt 6, 3) := by decide +kernel
theorem dX2_leastHoney_31 : decode cX2_leastHoney 31 = .ok (.goto 26, 3) := by decide +kernel
theorem dX2_leastHoney_34 : decode cX2_leastHoney 34 = .ok (.aload_n 0, 1) := by decide +kernel
theorem dX2_leastHoney_35 : decode cX2_leastHoney 35 = .ok (.iload 4, 2) := by decide +kernel
theorem dX2_leastHoney_37 : decode cX2_leastHoney 37 = .ok (.iload_n 2, 1) := by decide +kernel
theorem dX2_leastHoney_38 : decode cX2_leastHoney 38 = .ok (.invokevirtual 59, 3) := by decide +kernel
theorem dX2_leastHoney_41 : decode cX2_leastHoney 41 = .ok (.ifCond .ne 5, 3) := by decide +kernel
theorem dX2_leastHoney_44 : decode cX2_leastHoney 44 = .ok (.iconst (-1), 1) := by decide +kernel
theorem dX2_leastHoney_45 : decode cX2_leastHoney 45 = .ok (.ireturn, 1) := by decide +kernel
theorem dX2_leastHoney_46 : decode cX2_leastHoney 46 = .ok (.aload_n 0, 1) := by decide +kernel
theorem dX2_leastHoney_47 : decode cX2_leastHoney 47 = .ok (.getfield 18, 3) := by decide +kernel
theorem dX2_leastHoney_50 : decode cX2_leastHoney 50 = .ok (.iload_n 3, 1) := by decide +kernel
theorem dX2_leastHoney_51 : decode cX2_leastHoney 51 = .ok (.iinc 3 1, 3) := by decide +kernel
theorem dX2_leastHoney_54 : decode cX2_leastHoney 54 = .ok (.iload 4, 2) := by decide +kernel
theorem dX2_leastHoney_56 : decode cX2_leastHoney 56 = .ok (.iastore, 1) := by decide +kernel
theorem dX2_leastHoney_57 : decode cX2_leastHoney 57 = .ok (.iinc 4 1, 3) := by decide +kernel
theorem dX2_leastHoney_60 : decode cX2_leastHoney 60 = .ok (.goto (-55), 3) := by decide +kernel
theorem dX2_leastHoney_63 : decode cX2_leastHoney 63 = .ok (.iconst 0, 1) := by decide +kernel
theorem dX2_leastHoney_64 : decode cX2_leastHoney 64 = .ok (.istore 4, 2) := by decide +kernel
theorem dX2_leastHoney_66 : decode cX2_leastHoney 66 = .ok (.iload 4, 2) := by decide +kernel
theorem dX2_leastHoney_68 : decode cX2_leastHoney 68 = .ok (.iload_n 3, 1) := by decide +kernel
theorem dX2_leastHoney_69 : decode cX2_leastHoney 69 = .ok (.bipush 9, 2) := by decide +kernel
theorem dX2_leastHoney_71 : decode cX2_leastHoney 71 = .ok (.imul, 1) := by decide +kernel
theorem dX2_leastHoney_72 : decode cX2_leastHoney 72 = .ok (.if_icmp .gt 25, 3) := by decide +kernel
theorem dX2_leastHoney_75 : decode cX2_leastHoney 75 = .ok (.aload_n 0, 1) := by decide +kernel
theorem dX2_leastHoney_76 : decode cX2_leastHoney 76 = .ok (.iload 4, 2) := by decide +kernel
theorem dX2_leastHoney_78 : decode cX2_leastHoney 78 = .ok (.iconst 0, 1) := by decide +kernel
theorem dX2_leastHoney_79 : decode cX2_leastHoney 79 = .ok (.iload_n 3, 1) := by decide +kernel
theorem dX2_leastHoney_80 : decode cX2_leastHoney 80 = .ok (.iload_n 1, 1) := by decide +kernel
theorem dX2_leastHoney_81 : decode cX2_leastHoney 81 = .ok (.iload_n 2, 1) := by decide +kernel
theorem dX2_leastHoney_82 : decode cX2_leastHoney 82 = .ok (.invokevirtual 63, 3) := by decide +kernel
theorem dX2_leastHoney_85 : decode cX2_leastHoney 85 = .ok (.ifCond .eq 6, 3) := by decide +kernel
theorem dX2_leastHoney_88 : decode cX2_leastHoney 88 = .ok (.iload 4, 2) := by decide +kernel
theorem dX2_leastHoney_90 : decode cX2_leastHoney 90 = .ok (.ireturn, 1) := by decide +kernel
theorem dX2_leastHoney_91 : decode cX2_leastHoney 91 = .ok (.iinc 4 1, 3) := by decide +kernel
theorem dX2_leastHoney_94 : decode cX2_leastHoney 94 = .ok (.goto (-28), 3) := by decide +kernel
theorem dX2_leastHoney_97 : decode cX2_leastHoney 97 = .ok (.iconst (-1), 1) := by decide +kernel
theorem dX2_leastHoney_98 : decode cX2_leastHoney 98 = .ok (.ireturn, 1) := by decide +kernel
theorem dX2_mayBeInTime_0 : decode cX2_mayBeInTime 0 = .ok (.aload_n 0, 1) := by decide +kernel
theorem dX2_mayBeInTime_1 : decode cX2_mayBeInTime 1 = .ok (.aload_n 0, 1) := by decide +kernel
theorem dX2_mayBeInTime_2 : decode cX2_mayBeInTime 2 = .ok (.getfield 35, 3) := by decide +kernel
theorem dX2_mayBeInTime_5 : decode cX2_mayBeInTime 5 = .ok (.getfield 67, 3) := by decide +kernel
theorem dX2_mayBeInTime_8 : decode cX2_mayBeInTime 8 = .ok (.iload_n 1, 1) := by decide +kernel
theorem dX2_mayBeInTime_9 : decode cX2_mayBeInTime 9 = .ok (.iaload, 1) := by decide +kernel
theorem dX2_mayBeInTime_10 : decode cX2_mayBeInTime 10 = .ok (.aload_n 0, 1) := by decide +kernel
theorem dX2_mayBeInTime_11 : decode cX2_mayBeInTime 11 = .ok (.getfield 31, 3) := by decide +kernel
theorem dX2_mayBeInTime_14 : decode cX2_mayBeInTime 14 = .ok (.getfield 70, 3) := by decide +kernel
theorem dX2_mayBeInTime_17 : decode cX2_mayBeInTime 17 = .ok (.iload_n 1, 1) := by decide +kernel
theorem dX2_mayBeInTime_18 : decode cX2_mayBeInTime 18 = .ok (.iaload, 1) := by decide +kernel
theorem dX2_mayBeInTime_19 : decode cX2_mayBeInTime 19 = .ok (.iconst 0, 1) := by decide +kernel
theorem dX2_mayBeInTime_20 : decode cX2_mayBeInTime 20 = .ok (.invokevirtual 73, 3) := by decide +kernel
theorem dX2_mayBeInTime_23 : decode cX2_mayBeInTime 23 = .ok (.istore_n 3, 1) := by decide +kernel
theorem dX2_mayBeInTime_24 : decode cX2_mayBeInTime 24 = .ok (.iload_n 3, 1) := by decide +kernel
theorem dX2_mayBeInTime_25 : decode cX2_mayBeInTime 25 = .ok (.iconst (-1), 1) := by decide +kernel
theorem dX2_mayBeInTime_26 : decode cX2_mayBeInTime 26 = .ok (.if_icmp .eq 20, 3) := by decide +kernel
theorem dX2_mayBeInTime_29 : decode cX2_mayBeInTime 29 = .ok (.aload_n 0, 1) := by decide +kernel
theorem dX2_mayBeInTime_30 : decode cX2_mayBeInTime 30 = .ok (.getfield 35, 3) := by decide +kernel
theorem dX2_mayBeInTime_33 : decode cX2_mayBeInTime 33 = .ok (.getfield 77, 3) := by decide +kernel
theorem dX2_mayBeInTime_36 : decode cX2_mayBeInTime 36 = .ok (.iload_n 3, 1) := by decide +kernel
theorem dX2_mayBeInTime_37 : decode cX2_mayBeInTime 37 = .ok (.iadd, 1) := by decide +kernel
theorem dX2_mayBeInTime_38 : decode cX2_mayBeInTime 38 = .ok (.iload_n 2, 1) := by decide +kernel
theorem dX2_mayBeInTime_39 : decode cX2_mayBeInTime 39 = .ok (.if_icmp .gt 7, 3) := by decide +kernel
theorem dX2_mayBeInTime_42 : decode cX2_mayBeInTime 42 = .ok (.iconst 1, 1) := by decide +kernel
theorem dX2_mayBeInTime_43 : decode cX2_mayBeInTime 43 = .ok (.goto 4, 3) := by decide +kernel
theorem dX2_mayBeInTime_46 : decode cX2_mayBeInTime 46 = .ok (.iconst 0, 1) := by decide +kernel
theorem dX2_mayBeInTime_47 : decode cX2_mayBeInTime 47 = .ok (.ireturn, 1) := by decide +kernel
theorem dX2_spreads_0 : decode cX2_spreads 0 = .ok (.iload_n 2, 1) := by decide +kernel
theorem dX2_spreads_1 : decode cX2_spreads 1 = .ok (.iload_n 3, 1) := by decide +kernel
theorem dX2_spreads_2 : decode cX2_spreads 2 = .ok (.if_icmp .lt 24, 3) := by decide +kernel
theorem dX2_spreads_5 : decode cX2_spreads 5 = .ok (.aload_n 0, 1) := by decide +kernel
theorem dX2_spreads_6 : decode cX2_spreads 6 = .ok (.iload_n 3, 1) := by decide +kernel
theorem dX2_spreads_7 : decode cX2_spreads 7 = .ok (.invokevirtual 80, 3) := by decide +kernel
theorem dX2_spreads_10 : decode cX2_spreads 10 = .ok (.aload_n 0, 1) := by decide +kernel
theorem dX2_spreads_11 : decode cX2_spreads 11 = .ok (.getfield 12, 3) := by decide +kernel
theorem dX2_spreads_14 : decode cX2_spreads 14 = .ok (.aload_n 0, 1) := by decide +kernel
theorem dX2_spreads_15 : decode cX2_spreads 15 = .ok (.getfield 31, 3) := by decide +kernel
theorem dX2_spreads_18 : decode cX2_spreads 18 = .ok (.iload 4, 2) := by decide +kernel
theorem dX2_spreads_20 : decode cX2_spreads 20 = .ok (.iload 5, 2) := by decide +kernel
theorem dX2_spreads_22 : decode cX2_spreads 22 = .ok (.invokevirtual 46, 3) := by decide +kernel
theorem dX2_spreads_25 : decode cX2_spreads 25 = .ok (.ireturn, 1) := by decide +kernel
theorem dX2_spreads_26 : decode cX2_spreads 26 = .ok (.aload_n 0, 1) := by decide +kernel
theorem dX2_spreads_27 : decode cX2_spreads 27 = .ok (.getfield 35, 3) := by decide +kernel
theorem dX2_spreads_30 : decode cX2_spreads 30 = .ok (.getfield 84, 3) := by decide +kernel
theorem dX2_spreads_33 : decode cX2_spreads 33 = .ok (.aload_n 0, 1) := by decide +kernel
theorem dX2_spreads_34 : decode cX2_spreads 34 = .ok (.getfield 18, 3) := by decide +kernel
theorem dX2_spreads_37 : decode cX2_spreads 37 = .ok (.iload_n 2, 1) := by decide +kernel
theorem dX2_spreads_38 : decode cX2_spreads 38 = .ok (.iaload, 1) := by decide +kernel
theorem dX2_spreads_39 : decode cX2_spreads 39 = .ok (.iaload, 1) := by decide +kernel
theorem dX2_spreads_40 : decode cX2_spreads 40 = .ok (.istore 6, 2) := by decide +kernel
theorem dX2_spreads_42 : decode cX2_spreads 42 = .ok (.iload 6, 2) := by decide +kernel
theorem dX2_spreads_44 : decode cX2_spreads 44 = .ok (.ifCond .ne 7, 3) := by decide +kernel
theorem dX2_spreads_47 : decode cX2_spreads 47 = .ok (.iconst 1, 1) := by decide +kernel
theorem dX2_spreads_48 : decode cX2_spreads 48 = .ok (.goto 4, 3) := by decide +kernel
theorem dX2_spreads_51 : decode cX2_spreads 51 = .ok (.iconst 0, 1) := by decide +kernel
theorem dX2_spreads_52 : decode cX2_spreads 52 = .ok (.istore 7, 2) := by decide +kernel
theorem dX2_spreads_54 : decode cX2_spreads 54 = .ok (.iload_n 1, 1) := by decide +kernel
theorem dX2_spreads_55 : decode cX2_spreads 55 = .ok (.bipush 9, 2) := by decide +kernel
theorem dX2_spreads_57 : decode cX2_spreads 57 = .ok (.iload 6, 2) := by decide +kernel
theorem dX2_spreads_59 : decode cX2_spreads 59 = .ok (.isub, 1) := by decide +kernel
theorem dX2_spreads_60 : decode cX2_spreads 60 = .ok (.invokestatic 87, 3) := by decide +kernel
theorem dX2_spreads_63 : decode cX2_spreads 63 = .ok (.istore 8, 2) := by decide +kernel
theorem dX2_spreads_65 : decode cX2_spreads 65 = .ok (.iload_n 2, 1) := by decide +kernel
theorem dX2_spreads_66 : decode cX2_spreads 66 = .ok (.iload_n 3, 1) := by decide +kernel
theorem dX2_spreads_67 : decode cX2_spreads 67 = .ok (.iconst 1, 1) := by decide +kernel
theorem dX2_spreads_68 : decode cX2_spreads 68 = .ok (.isub, 1) := by decide +kernel
theorem dX2_spreads_69 : decode cX2_spreads 69 = .ok (.if_icmp .ne 11, 3) := by decide +kernel
theorem dX2_spreads_72 : decode cX2_spreads 72 = .ok (.iload 7, 2) := by decide +kernel
theorem dX2_spreads_74 : decode cX2_spreads 74 = .ok (.iload_n 1, 1) := by decide +kernel
theorem dX2_spreads_75 : decode cX2_spreads 75 = .ok (.invokestatic 93, 3) := by decide +kernel
theorem dX2_spreads_78 : decode cX2_spreads 78 = .ok (.istore 7, 2) := by decide +kernel
theorem dX2_spreads_80 : decode cX2_spreads 80 = .ok (.iload 7, 2) := by decide +kernel
theorem dX2_spreads_82 : decode cX2_spreads 82 = .ok (.istore 9, 2) := by decide +kernel
theorem dX2_spreads_84 : decode cX2_spreads 84 = .ok (.iload 9, 2) := by decide +kernel
theorem dX2_spreads_86 : decode cX2_spreads 86 = .ok (.iload 8, 2) := by decide +kernel
theorem dX2_spreads_88 : decode cX2_spreads 88 = .ok (.if_icmp .gt 38, 3) := by decide +kernel
theorem dX2_spreads_91 : decode cX2_spreads 91 = .ok (.aload_n 0, 1) := by decide +kernel
theorem dX2_spreads_92 : decode cX2_spreads 92 = .ok (.getfield 22, 3) := by decide +kernel
theorem dX2_spreads_95 : decode cX2_spreads 95 = .ok (.iload_n 2, 1) := by decide +kernel
theorem dX2_spreads_96 : decode cX2_spreads 96 = .ok (.iload 9, 2) := by decide +kernel
theorem dX2_spreads_98 : decode cX2_spreads 98 = .ok (.iastore, 1) := by decide +kernel
theorem dX2_spreads_99 : decode cX2_spreads 99 = .ok (.aload_n 0, 1) := by decide +kernel
theorem dX2_spreads_100 : decode cX2_spreads 100 = .ok (.iload_n 1, 1) := by decide +kernel
theorem dX2_spreads_101 : decode cX2_spreads 101 = .ok (.iload 9, 2) := by decide +kernel
theorem dX2_spreads_103 : decode cX2_spreads 103 = .ok (.isub, 1) := by decide +kernel
theorem dX2_spreads_104 : decode cX2_spreads 104 = .ok (.iload_n 2, 1) := by decide +kernel
theorem dX2_spreads_105 : decode cX2_spreads 105 = .ok (.iconst 1, 1) := by decide +kernel
theorem dX2_spreads_106 : decode cX2_spreads 106 = .ok (.iadd, 1) := by decide +kernel
theorem dX2_spreads_107 : decode cX2_spreads 107 = .ok (.iload_n 3, 1) := by decide +kernel
theorem dX2_spreads_108 : decode cX2_spreads 108 = .ok (.iload 4, 2) := by decide +kernel
theorem dX2_spreads_110 : decode cX2_spreads 110 = .ok (.iload 5, 2) := by decide +kernel
theorem dX2_spreads_112 : decode cX2_spreads 112 = .ok (.invokevirtual 63, 3) := by decide +kernel
theorem dX2_spreads_115 : decode cX2_spreads 115 = .ok (.ifCond .eq 5, 3) := by decide +kernel
theorem dX2_spreads_118 : decode cX2_spreads 118 = .ok (.iconst 1, 1) := by decide +kernel
theorem dX2_spreads_119 : decode cX2_spreads 119 = .ok (.ireturn, 1) := by decide +kernel
theorem dX2_spreads_120 : decode cX2_spreads 120 = .ok (.iinc 9 1, 3) := by decide +kernel
theorem dX2_spreads_123 : decode cX2_spreads 123 = .ok (.goto (-39), 3) := by decide +kernel
theorem dX2_spreads_126 : decode cX2_spreads 126 = .ok (.iconst 0, 1) := by decide +kernel
theorem dX2_spreads_127 : decode cX2_spreads 127 = .ok (.ireturn, 1) := by decide +kernel
theorem dX2_giveShares_0 : decode cX2_giveShares 0 = .ok (.aload_n 0, 1) := by decide +kernel
theorem dX2_giveShares_1 : decode cX2_giveShares 1 = .ok (.getfield 12, 3) := by decide +kernel
theorem dX2_giveShares_4 : decode cX2_giveShares 4 = .ok (.aload_n 0, 1) := by decide +kernel
theorem dX2_giveShares_5 : decode cX2_giveShares 5 = .ok (.getfield 35, 3) := by decide +kernel
theorem dX2_giveShares_8 : decode cX2_giveShares 8 = .ok (.invokevirtual 38, 3) := by decide +kernel
theorem dX2_giveShares_11 : decode cX2_giveShares 11 = .ok (.iconst 0, 1) := by decide +kernel
theorem dX2_giveShares_12 : decode cX2_giveShares 12 = .ok (.istore_n 2, 1) := by decide +kernel
theorem dX2_giveShares_13 : decode cX2_giveShares 13 = .ok (.iload_n 2, 1) := by decide +kernel
theorem dX2_giveShares_14 : decode cX2_giveShares 14 = .ok (.iload_n 1, 1) := by decide +kernel
theorem dX2_giveShares_15 : decode cX2_giveShares 15 = .ok (.if_icmp .ge 32, 3) := by decide +kernel
theorem dX2_giveShares_18 : decode cX2_giveShares 18 = .ok (.aload_n 0, 1) := by decide +kernel
theorem dX2_giveShares_19 : decode cX2_giveShares 19 = .ok (.getfield 12, 3) := by decide +kernel
theorem dX2_giveShares_22 : decode cX2_giveShares 22 = .ok (.getfield 84, 3) := by decide +kernel
theorem dX2_giveShares_25 : decode cX2_giveShares 25 = .ok (.aload_n 0, 1) := by decide +kernel
theorem dX2_giveShares_26 : decode cX2_giveShares 26 = .ok (.getfield 18, 3) := by decide +kernel
theorem dX2_giveShares_29 : decode cX2_giveShares 29 = .ok (.iload_n 2, 1) := by decide +kernel
theorem dX2_giveShares_30 : decode cX2_giveShares 30 = .ok (.iaload, 1) := by decide +kernel
theorem dX2_giveShares_31 : decode cX2_giveShares 31 = .ok (.dup2, 1) := by decide +kernel
theorem dX2_giveShares_32 : decode cX2_giveShares 32 = .ok (.iaload, 1) := by decide +kernel
theorem dX2_giveShares_33 : decode cX2_giveShares 33 = .ok (.aload_n 0, 1) := by decide +kernel
theorem dX2_giveShares_34 : decode cX2_giveShares 34 = .ok (.getfield 22, 3) := by decide +kernel
theorem dX2_giveShares_37 : decode cX2_giveShares 37 = .ok (.iload_n 2, 1) := by decide +kernel
theorem dX2_giveShares_38 : decode cX2_giveShares 38 = .ok (.iaload, 1) := by decide +kernel
theorem dX2_giveShares_39 : decode cX2_giveShares 39 = .ok (.iadd, 1) := by decide +kernel
theorem dX2_giveShares_40 : decode cX2_giveShares 40 = .ok (.iastore, 1) := by decide +kernel
theorem dX2_giveShares_41 : decode cX2_giveShares 41 = .ok (.iinc 2 1, 3) := by decide +kernel
theorem dX2_giveShares_44 : decode cX2_giveShares 44 = .ok (.goto (-31), 3) := by decide +kernel
theorem dX2_giveShares_47 : decode cX2_giveShares 47 = .ok (.return_, 1) := by decide +kernel
theorem dX2_findSmear_0 : decode cX2_findSmear 0 = .ok (.aload_n 0, 1) := by decide +kernel
theorem dX2_findSmear_1 : decode cX2_findSmear 1 = .ok (.getfield 25, 3) := by decide +kernel
theorem dX2_findSmear_4 : decode cX2_findSmear 4 = .ok (.iconst (-1), 1) := by decide +kernel
theorem dX2_findSmear_5 : decode cX2_findSmear 5 = .ok (.invokestatic 96, 3) := by decide +kernel
theorem dX2_findSmear_8 : decode cX2_findSmear 8 = .ok (.iload_n 2, 1) := by decide +kernel
theorem dX2_findSmear_9 : decode cX2_findSmear 9 = .ok (.istore_n 3, 1) := by decide +kernel
theorem dX2_findSmear_10 : decode cX2_findSmear 10 = .ok (.iconst 0, 1) := by decide +kernel
theorem dX2_findSmear_11 : decode cX2_findSmear 11 = .ok (.istore 4, 2) := by decide +kernel
theorem dX2_findSmear_13 : decode cX2_findSmear 13 = .ok (.iload 4, 2) := by decide +kernel
theorem dX2_findSmear_15 : decode cX2_findSmear 15 = .ok (.aload_n 0, 1) := by decide +kernel
theorem dX2_findSmear_16 : decode cX2_findSmear 16 = .ok (.getfield 31, 3) := by decide +kernel
theorem dX2_findSmear_19 : decode cX2_findSmear 19 = .ok (.getfield 102, 3) := by decide +kernel
theorem dX2_findSmear_22 : decode cX2_findSmear 22 = .ok (.if_icmp .ge 122, 3) := by decide +kernel
theorem dX2_findSmear_25 : decode cX2_findSmear 25 = .ok (.iconst 0, 1) := by decide +kernel
theorem dX2_findSmear_26 : decode cX2_findSmear 26 = .ok (.istore 5, 2) := by decide +kernel
theorem dX2_findSmear_28 : decode cX2_findSmear 28 = .ok (.iload 5, 2) := by decide +kernel
theorem dX2_findSmear_30 : decode cX2_findSmear 30 = .ok (.bipush 99, 2) := by decide +kernel
theorem dX2_findSmear_32 : decode cX2_findSmear 32 = .ok (.if_icmp .gt 106, 3) := by decide +kernel
theorem dX2_findSmear_35 : decode cX2_findSmear 35 = .ok (.iload_n 3, 1) := by decide +kernel
theorem dX2_findSmear_36 : decode cX2_findSmear 36 = .ok (.ifCond .le 102, 3) := by decide +kernel
theorem dX2_findSmear_39 : decode cX2_findSmear 39 = .ok (.aload_n 0, 1) := by decide +kernel
theorem dX2_findSmear_40 : decode cX2_findSmear 40 = .ok (.getfield 12, 3) := by decide +kernel
theorem dX2_findSmear_43 : decode cX2_findSmear 43 = .ok (.aload_n 0, 1) := by decide +kernel
theorem dX2_findSmear_44 : decode cX2_findSmear 44 = .ok (.getfield 35, 3) := by decide +kernel
theorem dX2_findSmear_47 : decode cX2_findSmear 47 = .ok (.invokevirtual 38, 3) := by decide +kernel
theorem dX2_findSmear_50 : decode cX2_findSmear 50 = .ok (.aload_n 0, 1) := by decide +kernel
theorem dX2_findSmear_51 : decode cX2_findSmear 51 = .ok (.getfield 12, 3) := by decide +kernel
theorem dX2_findSmear_54 : decode cX2_findSmear 54 = .ok (.getfield 105, 3) := by decide +kernel
theorem dX2_findSmear_57 : decode cX2_findSmear 57 = .ok (.iload 4, 2) := by decide +kernel
theorem dX2_findSmear_59 : decode cX2_findSmear 59 = .ok (.iload 5, 2) := by decide +kernel
theorem dX2_findSmear_61 : decode cX2_findSmear 61 = .ok (.iastore, 1) := by decide +kernel
theorem dX2_findSmear_62 : decode cX2_findSmear 62 = .ok (.aload_n 0, 1) := by decide +kernel
theorem dX2_findSmear_63 : decode cX2_findSmear 63 = .ok (.getfield 12, 3) := by decide +kernel
theorem dX2_findSmear_66 : decode cX2_findSmear 66 = .ok (.aload_n 0, 1) := by decide +kernel
theorem dX2_findSmear_67 : decode cX2_findSmear 67 = .ok (.getfield 31, 3) := by decide +kernel
theorem dX2_findSmear_70 : decode cX2_findSmear 70 = .ok (.iconst 1, 1) := by decide +kernel
theorem dX2_findSmear_71 : decode cX2_findSmear 71 = .ok (.iload_n 1, 1) := by decide +kernel
theorem dX2_findSmear_72 : decode cX2_findSmear 72 = .ok (.ishl, 1) := by decide +kernel
theorem dX2_findSmear_73 : decode cX2_findSmear 73 = .ok (.iload_n 3, 1) := by decide +kernel
theorem dX2_findSmear_74 : decode cX2_findSmear 74 = .ok (.invokevirtual 46, 3) := by decide +kernel
theorem dX2_findSmear_77 : decode cX2_findSmear 77 = .ok (.ifCond .ne 6, 3) := by decide +kernel
theorem dX2_findSmear_80 : decode cX2_findSmear 80 = .ok (.goto 52, 3) := by decide +kernel
theorem dX2_findSmear_83 : decode cX2_findSmear 83 = .ok (.aload_n 0, 1) := by decide +kernel
theorem dX2_findSmear_84 : decode cX2_findSmear 84 = .ok (.getfield 25, 3) := by decide +kernel
theorem dX2_findSmear_87 : decode cX2_findSmear 87 = .ok (.iconst 0, 1) := by decide +kernel
theorem dX2_findSmear_88 : decode cX2_findSmear 88 = .ok (.aload_n 0, 1) := by decide +kernel
theorem dX2_findSmear_89 : decode cX2_findSmear 89 = .ok (.getfield 12, 3) := by decide +kernel
theorem dX2_findSmear_92 : decode cX2_findSmear 92 = .ok (.getfield 50, 3) := by decide +kernel
theorem dX2_findSmear_95 : decode cX2_findSmear 95 = .ok (.iload_n 1, 1) := by decide +kernel
theorem dX2_findSmear_96 : decode cX2_findSmear 96 = .ok (.iaload, 1) := by decide +kernel
theorem dX2_findSmear_97 : decode cX2_findSmear 97 = .ok (.iastore, 1) := by decide +kernel
theorem dX2_findSmear_98 : decode cX2_findSmear 98 = .ok (.aload_n 0, 1) := by decide +kernel
theorem dX2_findSmear_99 : decode cX2_findSmear 99 = .ok (.getfield 25, 3) := by decide +kernel
theorem dX2_findSmear_102 : decode cX2_findSmear 102 = .ok (.iconst 1, 1) := by decide +kernel
theorem dX2_findSmear_103 : decode cX2_findSmear 103 = .ok (.iload 4, 2) := by decide +kernel
theorem dX2_findSmear_105 : decode cX2_findSmear 105 = .ok (.iastore, 1) := by decide +kernel
theorem dX2_findSmear_106 : decode cX2_findSmear 106 = .ok (.aload_n 0, 1) := by decide +kernel
theorem dX2_findSmear_107 : decode cX2_findSmear 107 = .ok (.getfield 25, 3) := by decide +kernel
theorem dX2_findSmear_110 : decode cX2_findSmear 110 = .ok (.iconst 2, 1) := by decide +kernel
theorem dX2_findSmear_111 : decode cX2_findSmear 111 = .ok (.iload 5, 2) := by decide +kernel
theorem dX2_findSmear_113 : decode cX2_findSmear 113 = .ok (.iastore, 1) := by decide +kernel
theorem dX2_findSmear_114 : decode cX2_findSmear 114 = .ok (.aload_n 0, 1) := by decide +kernel
theorem dX2_findSmear_115 : decode cX2_findSmear 115 = .ok (.getfield 12, 3) := by decide +kernel
theorem dX2_findSmear_118 : decode cX2_findSmear 118 = .ok (.getfield 50, 3) := by decide +kernel
theorem dX2_findSmear_121 : decode cX2_findSmear 121 = .ok (.iload_n 1, 1) := by decide +kernel
theorem dX2_findSmear_122 : decode cX2_findSmear 122 = .ok (.iaload, 1) := by decide +kernel
theorem dX2_findSmear_123 : decode cX2_findSmear 123 = .ok (.aload_n 0, 1) := by decide +kernel
theorem dX2_findSmear_124 : decode cX2_findSmear 124 = .ok (.getfield 35, 3) := by decide +kernel
theorem dX2_findSmear_127 : decode cX2_findSmear 127 = .ok (.getfield 108, 3) := by decide +kernel
theorem dX2_findSmear_130 : decode cX2_findSmear 130 = .ok (.isub, 1) := by decide +kernel
theorem dX2_findSmear_131 : decode cX2_findSmear 131 = .ok (.istore_n 3, 1) := by decide +kernel
theorem dX2_findSmear_132 : decode cX2_findSmear 132 = .ok (.iinc 5 1, 3) := by decide +kernel
theorem dX2_findSmear_135 : decode cX2_findSmear 135 = .ok (.goto (-107), 3) := by decide +kernel
theorem dX2_findSmear_138 : decode cX2_findSmear 138 = .ok (.iinc 4 1, 3) := by decide +kernel
theorem dX2_findSmear_141 : decode cX2_findSmear 141 = .ok (.goto (-128), 3) := by decide +kernel
theorem dX2_findSmear_144 : decode cX2_findSmear 144 = .ok (.return_, 1) := by decide +kernel
theorem dX2_fewestTrails_0 : decode cX2_fewestTrails 0 = .ok (.aload_n 0, 1) := by decide +kernel
theorem dX2_fewestTrails_1 : decode cX2_fewestTrails 1 = .ok (.getfield 28, 3) := by decide +kernel
theorem dX2_fewestTrails_4 : decode cX2_fewestTrails 4 = .ok (.iconst (-1), 1) := by decide +kernel
theorem dX2_fewestTrails_5 : decode cX2_fewestTrails 5 = .ok (.invokestatic 96, 3) := by decide +kernel
theorem dX2_fewestTrails_8 : decode cX2_fewestTrails 8 = .ok (.aload_n 0, 1) := by decide +kernel
theorem dX2_fewestTrails_9 : decode cX2_fewestTrails 9 = .ok (.getfield 28, 3) := by decide +kernel
theorem dX2_fewestTrails_12 : decode cX2_fewestTrails 12 = .ok (.iload_n 1, 1) := by decide +kernel
theorem dX2_fewestTrails_13 : decode cX2_fewestTrails 13 = .ok (.iconst 0, 1) := by decide +kernel
theorem dX2_fewestTrails_14 : decode cX2_fewestTrails 14 = .ok (.iastore, 1) := by decide +kernel
theorem dX2_fewestTrails_15 : decode cX2_fewestTrails 15 = .ok (.iconst 0, 1) := by decide +kernel
theorem dX2_fewestTrails_16 : decode cX2_fewestTrails 16 = .ok (.istore 4, 2) := by decide +kernel
theorem dX2_fewestTrails_18 : decode cX2_fewestTrails 18 = .ok (.iload 4, 2) := by decide +kernel
theorem dX2_fewestTrails_20 : decode cX2_fewestTrails 20 = .ok (.aload_n 0, 1) := by decide +kernel
theorem dX2_fewestTrails_21 : decode cX2_fewestTrails 21 = .ok (.getfield 31, 3) := by decide +kernel
theorem dX2_fewestTrails_24 : decode cX2_fewestTrails 24 = .ok (.getfield 111, 3) := by decide +kernel
theorem dX2_fewestTrails_27 : decode cX2_fewestTrails 27 = .ok (.if_icmp .ge 114, 3) := by decide +kernel
theorem dX2_fewestTrails_30 : decode cX2_fewestTrails 30 = .ok (.aload_n 0, 1) := by decide +kernel
theorem dX2_fewestTrails_31 : decode cX2_fewestTrails 31 = .ok (.getfield 28, 3) := by decide +kernel
theorem dX2_fewestTrails_34 : decode cX2_fewestTrails 34 = .ok (.iload_n 2, 1) := by decide +kernel
theorem dX2_fewestTrails_35 : decode cX2_fewestTrails 35 = .ok (.iaload, 1) := by decide +kernel
theorem dX2_fewestTrails_36 : decode cX2_fewestTrails 36 = .ok (.iconst (-1), 1) := by decide +kernel
theorem dX2_fewestTrails_37 : decode cX2_fewestTrails 37 = .ok (.if_icmp .ne 104, 3) := by decide +kernel
theorem dX2_fewestTrails_40 : decode cX2_fewestTrails 40 = .ok (.iconst 0, 1) := by decide +kernel
theorem dX2_fewestTrails_41 : decode cX2_fewestTrails 41 = .ok (.istore 5, 2) := by decide +kernel
theorem dX2_fewestTrails_43 : decode cX2_fewestTrails 43 = .ok (.iload 5, 2) := by decide +kernel
theorem dX2_fewestTrails_45 : decode cX2_fewestTrails 45 = .ok (.aload_n 0, 1) := by decide +kernel
theorem dX2_fewestTrails_46 : decode cX2_fewestTrails 46 = .ok (.getfield 31, 3) := by decide +kernel
theorem dX2_fewestTrails_49 : decode cX2_fewestTrails 49 = .ok (.getfield 102, 3) := by decide +kernel
theorem dX2_fewestTrails_52 : decode cX2_fewestTrails 52 = .ok (.if_icmp .ge 83, 3) := by decide +kernel
theorem dX2_fewestTrails_55 : decode cX2_fewestTrails 55 = .ok (.iload_n 3, 1) := by decide +kernel
theorem dX2_fewestTrails_56 : decode cX2_fewestTrails 56 = .ok (.ifCond .eq 19, 3) := by decide +kernel
theorem dX2_fewestTrails_59 : decode cX2_fewestTrails 59 = .ok (.aload_n 0, 1) := by decide +kernel
theorem dX2_fewestTrails_60 : decode cX2_fewestTrails 60 = .ok (.getfield 35, 3) := by decide +kernel
theorem dX2_fewestTrails_63 : decode cX2_fewestTrails 63 = .ok (.getfield 105, 3) := by decide +kernel
theorem dX2_fewestTrails_66 : decode cX2_fewestTrails 66 = .ok (.iload 5, 2) := by decide +kernel
theorem dX2_fewestTrails_68 : decode cX2_fewestTrails 68 = .ok (.iaload, 1) := by decide +kernel
theorem dX2_fewestTrails_69 : decode cX2_fewestTrails 69 = .ok (.ifCond .eq 6, 3) := by decide +kernel
theorem dX2_fewestTrails_72 : decode cX2_fewestTrails 72 = .ok (.goto 57, 3) := by decide +kernel
theorem dX2_fewestTrails_75 : decode cX2_fewestTrails 75 = .ok (.aload_n 0, 1) := by decide +kernel
theorem dX2_fewestTrails_76 : decode cX2_fewestTrails 76 = .ok (.aload_n 0, 1) := by decide +kernel
theorem dX2_fewestTrails_77 : decode cX2_fewestTrails 77 = .ok (.getfield 31, 3) := by decide +kernel
theorem dX2_fewestTrails_80 : decode cX2_fewestTrails 80 = .ok (.getfield 114, 3) := by decide +kernel
theorem dX2_fewestTrails_83 : decode cX2_fewestTrails 83 = .ok (.iload 5, 2) := by decide +kernel
theorem dX2_fewestTrails_85 : decode cX2_fewestTrails 85 = .ok (.iaload, 1) := by decide +kernel
theorem dX2_fewestTrails_86 : decode cX2_fewestTrails 86 = .ok (.aload_n 0, 1) := by decide +kernel
theorem dX2_fewestTrails_87 : decode cX2_fewestTrails 87 = .ok (.getfield 31, 3) := by decide +kernel
theorem dX2_fewestTrails_90 : decode cX2_fewestTrails 90 = .ok (.getfield 117, 3) := by decide +kernel
theorem dX2_fewestTrails_93 : decode cX2_fewestTrails 93 = .ok (.iload 5, 2) := by decide +kernel
theorem dX2_fewestTrails_95 : decode cX2_fewestTrails 95 = .ok (.iaload, 1) := by decide +kernel
theorem dX2_fewestTrails_96 : decode cX2_fewestTrails 96 = .ok (.iload 4, 2) := by decide +kernel
theorem dX2_fewestTrails_98 : decode cX2_fewestTrails 98 = .ok (.iload_n 3, 1) := by decide +kernel
theorem dX2_fewestTrails_99 : decode cX2_fewestTrails 99 = .ok (.invokevirtual 120, 3) := by decide +kernel
theorem dX2_fewestTrails_102 : decode cX2_fewestTrails 102 = .ok (.aload_n 0, 1) := by decide +kernel
theorem dX2_fewestTrails_103 : decode cX2_fewestTrails 103 = .ok (.aload_n 0, 1) := by decide +kernel
theorem dX2_fewestTrails_104 : decode cX2_fewestTrails 104 = .ok (.getfield 31, 3) := by decide +kernel
theorem dX2_fewestTrails_107 : decode cX2_fewestTrails 107 = .ok (.getfield 117, 3) := by decide +kernel
theorem dX2_fewestTrails_110 : decode cX2_fewestTrails 110 = .ok (.iload 5, 2) := by decide +kernel
theorem dX2_fewestTrails_112 : decode cX2_fewestTrails 112 = .ok (.iaload, 1) := by decide +kernel
theorem dX2_fewestTrails_113 : decode cX2_fewestTrails 113 = .ok (.aload_n 0, 1) := by decide +kernel
theorem dX2_fewestTrails_114 : decode cX2_fewestTrails 114 = .ok (.getfield 31, 3) := by decide +kernel
theorem dX2_fewestTrails_117 : decode cX2_fewestTrails 117 = .ok (.getfield 114, 3) := by decide +kernel
theorem dX2_fewestTrails_120 : decode cX2_fewestTrails 120 = .ok (.iload 5, 2) := by decide +kernel
theorem dX2_fewestTrails_122 : decode cX2_fewestTrails 122 = .ok (.iaload, 1) := by decide +kernel
theorem dX2_fewestTrails_123 : decode cX2_fewestTrails 123 = .ok (.iload 4, 2) := by decide +kernel
theorem dX2_fewestTrails_125 : decode cX2_fewestTrails 125 = .ok (.iload_n 3, 1) := by decide +kernel
theorem dX2_fewestTrails_126 : decode cX2_fewestTrails 126 = .ok (.invokevirtual 120, 3) := by decide +kernel
theorem dX2_fewestTrails_129 : decode cX2_fewestTrails 129 = .ok (.iinc 5 1, 3) := by decide +kernel
theorem dX2_fewestTrails_132 : decode cX2_fewestTrails 132 = .ok (.goto (-89), 3) := by decide +kernel
theorem dX2_fewestTrails_135 : decode cX2_fewestTrails 135 = .ok (.iinc 4 1, 3) := by decide +kernel
theorem dX2_fewestTrails_138 : decode cX2_fewestTrails 138 = .ok (.goto (-120), 3) := by decide +kernel
theorem dX2_fewestTrails_141 : decode cX2_fewestTrails 141 = .ok (.aload_n 0, 1) := by decide +kernel
theorem dX2_fewestTrails_142 : decode cX2_fewestTrails 142 = .ok (.getfield 28, 3) := by decide +kernel
theorem dX2_fewestTrails_145 : decode cX2_fewestTrails 145 = .ok (.iload_n 2, 1) := by decide +kernel
theorem dX2_fewestTrails_146 : decode cX2_fewestTrails 146 = .ok (.iaload, 1) := by decide +kernel
theorem dX2_fewestTrails_147 : decode cX2_fewestTrails 147 = .ok (.ireturn, 1) := by decide +kernel
theorem dX2_stepOver_0 : decode cX2_stepOver 0 = .ok (.aload_n 0, 1) := by decide +kernel
theorem dX2_stepOver_1 : decode cX2_stepOver 1 = .ok (.getfield 28, 3) := by decide +kernel
theorem dX2_stepOver_4 : decode cX2_stepOver 4 = .ok (.iload_n 1, 1) := by decide +kernel
theorem dX2_stepOver_5 : decode cX2_stepOver 5 = .ok (.iaload, 1) := by decide +kernel
theorem dX2_stepOver_6 : decode cX2_stepOver 6 = .ok (.iload_n 3, 1) := by decide +kernel
theorem dX2_stepOver_7 : decode cX2_stepOver 7 = .ok (.if_icmp .ne 13, 3) := by decide +kernel
theorem dX2_stepOver_10 : decode cX2_stepOver 10 = .ok (.aload_n 0, 1) := by decide +kernel
theorem dX2_stepOver_11 : decode cX2_stepOver 11 = .ok (.getfield 28, 3) := by decide +kernel
theorem dX2_stepOver_14 : decode cX2_stepOver 14 = .ok (.iload_n 2, 1) := by decide +kernel
theorem dX2_stepOver_15 : decode cX2_stepOver 15 = .ok (.iaload, 1) := by decide +kernel
theorem dX2_stepOver_16 : decode cX2_stepOver 16 = .ok (.iconst (-1), 1) := by decide +kernel
theorem dX2_stepOver_17 : decode cX2_stepOver 17 = .ok (.if_icmp .eq 4, 3) := by decide +kernel
theorem dX2_stepOver_20 : decode cX2_stepOver 20 = .ok (.return_, 1) := by decide +kernel
theorem dX2_stepOver_21 : decode cX2_stepOver 21 = .ok (.iload 4, 2) := by decide +kernel
theorem dX2_stepOver_23 : decode cX2_stepOver 23 = .ok (.ifCond .ne 18, 3) := by decide +kernel
theorem dX2_stepOver_26 : decode cX2_stepOver 26 = .ok (.aload_n 0, 1) := by decide +kernel
theorem dX2_stepOver_27 : decode cX2_stepOver 27 = .ok (.getfield 35, 3) := by decide +kernel
theorem dX2_stepOver_30 : decode cX2_stepOver 30 = .ok (.iload_n 1, 1) := by decide +kernel
theorem dX2_stepOver_31 : decode cX2_stepOver 31 = .ok (.aload_n 0, 1) := by decide +kernel
theorem dX2_stepOver_32 : decode cX2_stepOver 32 = .ok (.getfield 31, 3) := by decide +kernel
theorem dX2_stepOver_35 : decode cX2_stepOver 35 = .ok (.invokevirtual 124, 3) := by decide +kernel
theorem dX2_stepOver_38 : decode cX2_stepOver 38 = .ok (.ifCond .eq 12, 3) := by decide +kernel
theorem dX2_stepOver_41 : decode cX2_stepOver 41 = .ok (.aload_n 0, 1) := by decide +kernel
theorem dX2_stepOver_42 : decode cX2_stepOver 42 = .ok (.getfield 28, 3) := by decide +kernel
theorem dX2_stepOver_45 : decode cX2_stepOver 45 = .ok (.iload_n 2, 1) := by decide +kernel
theorem dX2_stepOver_46 : decode cX2_stepOver 46 = .ok (.iload_n 3, 1) := by decide +kernel
theorem dX2_stepOver_47 : decode cX2_stepOver 47 = .ok (.iconst 1, 1) := by decide +kernel
theorem dX2_stepOver_48 : decode cX2_stepOver 48 = .ok (.iadd, 1) := by decide +kernel
theorem dX2_stepOver_49 : decode cX2_stepOver 49 = .ok (.iastore, 1) := by decide +kernel
theorem dX2_stepOver_50 : decode cX2_stepOver 50 = .ok (.return_, 1) := by decide +kernel
theorem dX2_filesFiled_0 : decode cX2_filesFiled 0 = .ok (.aload_n 0, 1) := by decide +kernel
theorem dX2_filesFiled_1 : decode cX2_filesFiled 1 = .ok (.getfield 12, 3) := by decide +kernel
theorem dX2_filesFiled_4 : decode cX2_filesFiled 4 = .ok (.aload_n 0, 1) := by decide +kernel
theorem dX2_filesFiled_5 : decode cX2_filesFiled 5 = .ok (.getfield 35, 3) := by decide +kernel
theorem dX2_filesFiled_8 : decode cX2_filesFiled 8 = .ok (.invokevirtual 38, 3) := by decide +kernel
theorem dX2_filesFiled_11 : decode cX2_filesFiled 11 = .ok (.aload_n 0, 1) := by decide +kernel
theorem dX2_filesFiled_12 : decode cX2_filesFiled 12 = .ok (.getfield 12, 3) := by decide +kernel
theorem dX2_filesFiled_15 : decode cX2_filesFiled 15 = .ok (.iload_n 1, 1) := by decide +kernel
theorem dX2_filesFiled_16 : decode cX2_filesFiled 16 = .ok (.putfield 128, 3) := by decide +kernel
theorem dX2_filesFiled_19 : decode cX2_filesFiled 19 = .ok (.aload_n 0, 1) := by decide +kernel
theorem dX2_filesFiled_20 : decode cX2_filesFiled 20 = .ok (.getfield 12, 3) := by decide +kernel
theorem dX2_filesFiled_23 : decode cX2_filesFiled 23 = .ok (.aload_n 0, 1) := by decide +kernel
theorem dX2_filesFiled_24 : decode cX2_filesFiled 24 = .ok (.getfield 31, 3) := by decide +kernel
theorem dX2_filesFiled_27 : decode cX2_filesFiled 27 = .ok (.iload_n 2, 1) := by decide +kernel
theorem dX2_filesFiled_28 : decode cX2_filesFiled 28 = .ok (.invokevirtual 42, 3) := by decide +kernel
theorem dX2_filesFiled_31 : decode cX2_filesFiled 31 = .ok (.aload_n 0, 1) := by decide +kernel
theorem dX2_filesFiled_32 : decode cX2_filesFiled 32 = .ok (.getfield 12, 3) := by decide +kernel
theorem dX2_filesFiled_35 : decode cX2_filesFiled 35 = .ok (.getfield 131, 3) := by decide +kernel
theorem dX2_filesFiled_38 : decode cX2_filesFiled 38 = .ok (.invokestatic 134, 3) := by decide +kernel
theorem dX2_filesFiled_41 : decode cX2_filesFiled 41 = .ok (.ireturn, 1) := by decide +kernel
theorem dX2_worstDesk_0 : decode cX2_worstDesk 0 = .ok (.iconst 0, 1) := by decide +kernel
theorem dX2_worstDesk_1 : decode cX2_worstDesk 1 = .ok (.istore_n 2, 1) := by decide +kernel
theorem dX2_worstDesk_2 : decode cX2_worstDesk 2 = .ok (.aload_n 0, 1) := by decide +kernel
theorem dX2_worstDesk_3 : decode cX2_worstDesk 3 = .ok (.iconst 0, 1) := by decide +kernel
theorem dX2_worstDesk_4 : decode cX2_worstDesk 4 = .ok (.iload_n 1, 1) := by decide +kernel
theorem dX2_worstDesk_5 : decode cX2_worstDesk 5 = .ok (.invokevirtual 140, 3) := by decide +kernel
theorem dX2_worstDesk_8 : decode cX2_worstDesk 8 = .ok (.istore_n 3, 1) := by decide +kernel
theorem dX2_worstDesk_9 : decode cX2_worstDesk 9 = .ok (.iconst 1, 1) := by decide +kernel
theorem dX2_worstDesk_10 : decode cX2_worstDesk 10 = .ok (.istore 4, 2) := by decide +kernel
theorem dX2_worstDesk_12 : decode cX2_worstDesk 12 = .ok (.iload 4, 2) := by decide +kernel
theorem dX2_worstDesk_14 : decode cX2_worstDesk 14 = .ok (.aload_n 0, 1) := by decide +kernel
theorem dX2_worstDesk_15 : decode cX2_worstDesk 15 = .ok (.getfield 31, 3) := by decide +kernel
theorem dX2_worstDesk_18 : decode cX2_worstDesk 18 = .ok (.getfield 111, 3) := by decide +kernel
theorem dX2_worstDesk_21 : decode cX2_worstDesk 21 = .ok (.if_icmp .ge 33, 3) := by decide +kernel
theorem dX2_worstDesk_24 : decode cX2_worstDesk 24 = .ok (.aload_n 0, 1) := by decide +kernel
theorem dX2_worstDesk_25 : decode cX2_worstDesk 25 = .ok (.iload 4, 2) := by decide +kernel
theorem dX2_worstDesk_27 : decode cX2_worstDesk 27 = .ok (.iload_n 1, 1) := by decide +kernel
theorem dX2_worstDesk_28 : decode cX2_worstDesk 28 = .ok (.invokevirtual 140, 3) := by decide +kernel
theorem dX2_worstDesk_31 : decode cX2_worstDesk 31 = .ok (.istore 5, 2) := by decide +kernel
theorem dX2_worstDesk_33 : decode cX2_worstDesk 33 = .ok (.iload 5, 2) := by decide +kernel
theorem dX2_worstDesk_35 : decode cX2_worstDesk 35 = .ok (.iload_n 3, 1) := by decide +kernel
theorem dX2_worstDesk_36 : decode cX2_worstDesk 36 = .ok (.if_icmp .lt 6, 3) := by decide +kernel
theorem dX2_worstDesk_39 : decode cX2_worstDesk 39 = .ok (.goto 9, 3) := by decide +kernel
theorem dX2_worstDesk_42 : decode cX2_worstDesk 42 = .ok (.iload 5, 2) := by decide +kernel
theorem dX2_worstDesk_44 : decode cX2_worstDesk 44 = .ok (.istore_n 3, 1) := by decide +kernel
theorem dX2_worstDesk_45 : decode cX2_worstDesk 45 = .ok (.iload 4, 2) := by decide +kernel
theorem dX2_worstDesk_47 : decode cX2_worstDesk 47 = .ok (.istore_n 2, 1) := by decide +kernel
theorem dX2_worstDesk_48 : decode cX2_worstDesk 48 = .ok (.iinc 4 1, 3) := by decide +kernel
theorem dX2_worstDesk_51 : decode cX2_worstDesk 51 = .ok (.goto (-39), 3) := by decide +kernel
theorem dX2_worstDesk_54 : decode cX2_worstDesk 54 = .ok (.iload_n 2, 1) := by decide +kernel
theorem dX2_worstDesk_55 : decode cX2_worstDesk 55 = .ok (.ireturn, 1) := by decide +kernel
theorem dX2_stampsBy_0 : decode cX2_stampsBy 0 = .ok (.iconst 0, 1) := by decide +kernel
theorem dX2_stampsBy_1 : decode cX2_stampsBy 1 = .ok (.istore_n 3, 1) := by decide +kernel
theorem dX2_stampsBy_2 : decode cX2_stampsBy 2 = .ok (.iconst 0, 1) := by decide +kernel
theorem dX2_stampsBy_3 : decode cX2_stampsBy 3 = .ok (.istore 4, 2) := by decide +kernel
theorem dX2_stampsBy_5 : decode cX2_stampsBy 5 = .ok (.iload 4, 2) := by decide +kernel
theorem dX2_stampsBy_7 : decode cX2_stampsBy 7 = .ok (.bipush 9, 2) := by decide +kernel
theorem dX2_stampsBy_9 : decode cX2_stampsBy 9 = .ok (.if_icmp .gt 47, 3) := by decide +kernel
theorem dX2_stampsBy_12 : decode cX2_stampsBy 12 = .ok (.aload_n 0, 1) := by decide +kernel
theorem dX2_stampsBy_13 : decode cX2_stampsBy 13 = .ok (.getfield 12, 3) := by decide +kernel
theorem dX2_stampsBy_16 : decode cX2_stampsBy 16 = .ok (.aload_n 0, 1) := by decide +kernel
theorem dX2_stampsBy_17 : decode cX2_stampsBy 17 = .ok (.getfield 31, 3) := by decide +kernel
theorem dX2_stampsBy_20 : decode cX2_stampsBy 20 = .ok (.invokevirtual 143, 3) := by decide +kernel
theorem dX2_stampsBy_23 : decode cX2_stampsBy 23 = .ok (.aload_n 0, 1) := by decide +kernel
theorem dX2_stampsBy_24 : decode cX2_stampsBy 24 = .ok (.getfield 12, 3) := by decide +kernel
theorem dX2_stampsBy_27 : decode cX2_stampsBy 27 = .ok (.getfield 84, 3) := by decide +kernel
theorem dX2_stampsBy_30 : decode cX2_stampsBy 30 = .ok (.iload_n 2, 1) := by decide +kernel
theorem dX2_stampsBy_31 : decode cX2_stampsBy 31 = .ok (.iload 4, 2) := by decide +kernel
theorem dX2_stampsBy_33 : decode cX2_stampsBy 33 = .ok (.iastore, 1) := by decide +kernel
theorem dX2_stampsBy_34 : decode cX2_stampsBy 34 = .ok (.aload_n 0, 1) := by decide +kernel
theorem dX2_stampsBy_35 : decode cX2_stampsBy 35 = .ok (.aload_n 1, 1) := by decide +kernel
theorem dX2_stampsBy_36 : decode cX2_stampsBy 36 = .ok (.iload_n 2, 1) := by decide +kernel
theorem dX2_stampsBy_37 : decode cX2_stampsBy 37 = .ok (.invokevirtual 147, 3) := by decide +kernel
theorem dX2_stampsBy_40 : decode cX2_stampsBy 40 = .ok (.ifCond .eq 10, 3) := by decide +kernel
theorem dX2_stampsBy_43 : decode cX2_stampsBy 43 = .ok (.iload_n 3, 1) := by decide +kernel
theorem dX2_stampsBy_44 : decode cX2_stampsBy 44 = .ok (.iconst 1, 1) := by decide +kernel
theorem dX2_stampsBy_45 : decode cX2_stampsBy 45 = .ok (.iload 4, 2) := by decide +kernel
theorem dX2_stampsBy_47 : decode cX2_stampsBy 47 = .ok (.ishl, 1) := by decide +kernel
theorem dX2_stampsBy_48 : decode cX2_stampsBy 48 = .ok (.ior, 1) := by decide +kernel
theorem dX2_stampsBy_49 : decode cX2_stampsBy 49 = .ok (.istore_n 3, 1) := by decide +kernel
theorem dX2_stampsBy_50 : decode cX2_stampsBy 50 = .ok (.iinc 4 1, 3) := by decide +kernel
theorem dX2_stampsBy_53 : decode cX2_stampsBy 53 = .ok (.goto (-48), 3) := by decide +kernel
theorem dX2_stampsBy_56 : decode cX2_stampsBy 56 = .ok (.iload_n 3, 1) := by decide +kernel
theorem dX2_stampsBy_57 : decode cX2_stampsBy 57 = .ok (.ireturn, 1) := by decide +kernel
theorem dX2_agreesWith_0 : decode cX2_agreesWith 0 = .ok (.aload_n 1, 1) := by decide +kernel
theorem dX2_agreesWith_1 : decode cX2_agreesWith 1 = .ok (.iload_n 2, 1) := by decide +kernel
theorem dX2_agreesWith_2 : decode cX2_agreesWith 2 = .ok (.invokevirtual 151, 3) := by decide +kernel
theorem dX2_agreesWith_5 : decode cX2_agreesWith 5 = .ok (.istore_n 3, 1) := by decide +kernel
theorem dX2_agreesWith_6 : decode cX2_agreesWith 6 = .ok (.iconst 0, 1) := by decide +kernel
theorem dX2_agreesWith_7 : decode cX2_agreesWith 7 = .ok (.istore 4, 2) := by decide +kernel
theorem dX2_agreesWith_9 : decode cX2_agreesWith 9 = .ok (.iload 4, 2) := by decide +kernel
theorem dX2_agreesWith_11 : decode cX2_agreesWith 11 = .ok (.iload_n 3, 1) := by decide +kernel
theorem dX2_agreesWith_12 : decode cX2_agreesWith 12 = .ok (.if_icmp .gt 42, 3) := by decide +kernel
theorem dX2_agreesWith_15 : decode cX2_agreesWith 15 = .ok (.aload_n 1, 1) := by decide +kernel
theorem dX2_agreesWith_16 : decode cX2_agreesWith 16 = .ok (.iload_n 2, 1) := by decide +kernel
theorem dX2_agreesWith_17 : decode cX2_agreesWith 17 = .ok (.aload_n 0, 1) := by decide +kernel
theorem dX2_agreesWith_18 : decode cX2_agreesWith 18 = .ok (.getfield 12, 3) := by decide +kernel
theorem dX2_agreesWith_21 : decode cX2_agreesWith 21 = .ok (.getfield 67, 3) := by decide +kernel
theorem dX2_agreesWith_24 : decode cX2_agreesWith 24 = .ok (.iload_n 2, 1) := by decide +kernel
theorem dX2_agreesWith_25 : decode cX2_agreesWith 25 = .ok (.iaload, 1) := by decide +kernel
theorem dX2_agreesWith_26 : decode cX2_agreesWith 26 = .ok (.iload 4, 2) := by decide +kernel
theorem dX2_agreesWith_28 : decode cX2_agreesWith 28 = .ok (.invokevirtual 156, 3) := by decide +kernel
theorem dX2_agreesWith_31 : decode cX2_agreesWith 31 = .ok (.ifCond .ne 5, 3) := by decide +kernel
theorem dX2_agreesWith_34 : decode cX2_agreesWith 34 = .ok (.iconst 0, 1) := by decide +kernel
theorem dX2_agreesWith_35 : decode cX2_agreesWith 35 = .ok (.ireturn, 1) := by decide +kernel
theorem dX2_agreesWith_36 : decode cX2_agreesWith 36 = .ok (.aload_n 0, 1) := by decide +kernel
theorem dX2_agreesWith_37 : decode cX2_agreesWith 37 = .ok (.getfield 12, 3) := by decide +kernel
theorem dX2_agreesWith_40 : decode cX2_agreesWith 40 = .ok (.aload_n 0, 1) := by decide +kernel
theorem dX2_agreesWith_41 : decode cX2_agreesWith 41 = .ok (.getfield 31, 3) := by decide +kernel
theorem dX2_agreesWith_44 : decode cX2_agreesWith 44 = .ok (.invokevirtual 160, 3) := by decide +kernel
theorem dX2_agreesWith_47 : decode cX2_agreesWith 47 = .ok (.pop, 1) := by decide +kernel
theorem dX2_agreesWith_48 : decode cX2_agreesWith 48 = .ok (.iinc 4 1, 3) := by decide +kernel
theorem dX2_agreesWith_51 : decode cX2_agreesWith 51 = .ok (.goto (-42), 3) := by decide +kernel
theorem dX2_agreesWith_54 : decode cX2_agreesWith 54 = .ok (.iconst 1, 1) := by decide +kernel
theorem dX2_agreesWith_55 : decode cX2_agreesWith 55 = .ok (.ireturn, 1) := by decide +kernel
theorem dX3_init_0 : decode cX3_init 0 = .ok (.aload_n 0, 1) := by decide +kernel
theorem dX3_init_1 : decode cX3_init 1 = .ok (.invokespecial 3, 3) := by decide +kernel
theorem dX3_init_4 : decode cX3_init 4 = .ok (.aload_n 0, 1) := by decide +kernel
theorem dX3_init_5 : decode cX3_init 5 = .ok (.new 9, 3) := by decide +kernel
theorem dX3_init_8 : decode cX3_init 8 = .ok (.dup, 1) := by decide +kernel
theorem dX3_init_9 : decode cX3_init 9 = .ok (.invokespecial 11, 3) := by decide +kernel
theorem dX3_init_12 : decode cX3_init 12 = .ok (.putfield 12, 3) := by decide +kernel
theorem dX3_init_15 : decode cX3_init 15 = .ok (.aload_n 0, 1) := by decide +kernel
theorem dX3_init_16 : decode cX3_init 16 = .ok (.aload_n 1, 1) := by decide +kernel
theorem dX3_init_17 : decode cX3_init 17 = .ok (.putfield 18, 3) := by decide +kernel
theorem dX3_init_20 : decode cX3_init 20 = .ok (.return_, 1) := by decide +kernel
theorem dX3_readOn_0 : decode cX3_readOn 0 = .ok (.aload_n 0, 1) := by decide +kernel
theorem dX3_readOn_1 : decode cX3_readOn 1 = .ok (.getfield 12, 3) := by decide +kernel
theorem dX3_readOn_4 : decode cX3_readOn 4 = .ok (.aload_n 1, 1) := by decide +kernel
theorem dX3_readOn_5 : decode cX3_readOn 5 = .ok (.invokevirtual 22, 3) := by decide +kernel
theorem dX3_readOn_8 : decode cX3_readOn 8 = .ok (.aload_n 0, 1) := by decide +kernel
theorem dX3_readOn_9 : decode cX3_readOn 9 = .ok (.iconst (-1), 1) := by decide +kernel
theorem dX3_readOn_10 : decode cX3_readOn 10 = .ok (.putfield 26, 3) := by decide +kernel
theorem dX3_readOn_13 : decode cX3_readOn 13 = .ok (.aload_n 0, 1) := by decide +kernel
theorem dX3_readOn_14 : decode cX3_readOn 14 = .ok (.iconst 0, 1) := by decide +kernel
theorem dX3_readOn_15 : decode cX3_readOn 15 = .ok (.putfield 30, 3) := by decide +kernel
theorem dX3_readOn_18 : decode cX3_readOn 18 = .ok (.iconst 1, 1) := by decide +kernel
theorem dX3_readOn_19 : decode cX3_readOn 19 = .ok (.istore_n 2, 1) := by decide +kernel
theorem dX3_readOn_20 : decode cX3_readOn 20 = .ok (.iload_n 2, 1) := by decide +kernel
theorem dX3_readOn_21 : decode cX3_readOn 21 = .ok (.bipush 12, 2) := by decide +kernel
theorem dX3_readOn_23 : decode cX3_readOn 23 = .ok (.if_icmp .gt 69, 3) := by decide +kernel
theorem dX3_readOn_26 : decode cX3_readOn 26 = .ok (.aload_n 0, 1) := by decide +kernel
theorem dX3_readOn_27 : decode cX3_readOn 27 = .ok (.invokevirtual 33, 3) := by decide +kernel
theorem dX3_readOn_30 : decode cX3_readOn 30 = .ok (.ifCond .ne 4, 3) := by decide +kernel
theorem dX3_readOn_33 : decode cX3_readOn 33 = .ok (.return_, 1) := by decide +kernel
theorem dX3_readOn_34 : decode cX3_readOn 34 = .ok (.aload_n 0, 1) := by decide +kernel
theorem dX3_readOn_35 : decode cX3_readOn 35 = .ok (.iload_n 2, 1) := by decide +kernel
theorem dX3_readOn_36 : decode cX3_readOn 36 = .ok (.putfield 37, 3) := by decide +kernel
theorem dX3_readOn_39 : decode cX3_readOn 39 = .ok (.aload_n 0, 1) := by decide +kernel
theorem dX3_readOn_40 : decode cX3_readOn 40 = .ok (.invokevirtual 40, 3) := by decide +kernel
theorem dX3_readOn_43 : decode cX3_readOn 43 = .ok (.aload_n 0, 1) := by decide +kernel
theorem dX3_readOn_44 : decode cX3_readOn 44 = .ok (.getfield 43, 3) := by decide +kernel
theorem dX3_readOn_47 : decode cX3_readOn 47 = .ok (.aload_n 0, 1) := by decide +kernel
theorem dX3_readOn_48 : decode cX3_readOn 48 = .ok (.getfield 18, 3) := by decide +kernel
theorem dX3_readOn_51 : decode cX3_readOn 51 = .ok (.getfield 46, 3) := by decide +kernel
theorem dX3_readOn_54 : decode cX3_readOn 54 = .ok (.if_icmp .lt 4, 3) := by decide +kernel
theorem dX3_readOn_57 : decode cX3_readOn 57 = .ok (.return_, 1) := by decide +kernel
theorem dX3_readOn_58 : decode cX3_readOn 58 = .ok (.aload_n 0, 1) := by decide +kernel
theorem dX3_readOn_59 : decode cX3_readOn 59 = .ok (.getfield 18, 3) := by decide +kernel
theorem dX3_readOn_62 : decode cX3_readOn 62 = .ok (.aload_n 0, 1) := by decide +kernel
theorem dX3_readOn_63 : decode cX3_readOn 63 = .ok (.getfield 43, 3) := by decide +kernel
theorem dX3_readOn_66 : decode cX3_readOn 66 = .ok (.invokevirtual 51, 3) := by decide +kernel
theorem dX3_readOn_69 : decode cX3_readOn 69 = .ok (.bipush 59, 2) := by decide +kernel
theorem dX3_readOn_71 : decode cX3_readOn 71 = .ok (.if_icmp .ne 9, 3) := by decide +kernel
theorem dX3_readOn_74 : decode cX3_readOn 74 = .ok (.iload_n 2, 1) := by decide +kernel
theorem dX3_readOn_75 : decode cX3_readOn 75 = .ok (.bipush 12, 2) := by decide +kernel
theorem dX3_readOn_77 : decode cX3_readOn 77 = .ok (.if_icmp .ne 9, 3) := by decide +kernel
theorem dX3_readOn_80 : decode cX3_readOn 80 = .ok (.aload_n 0, 1) := by decide +kernel
theorem dX3_readOn_81 : decode cX3_readOn 81 = .ok (.invokevirtual 55, 3) := by decide +kernel
theorem dX3_readOn_84 : decode cX3_readOn 84 = .ok (.pop, 1) := by decide +kernel
theorem dX3_readOn_85 : decode cX3_readOn 85 = .ok (.return_, 1) := by decide +kernel
theorem dX3_readOn_86 : decode cX3_readOn 86 = .ok (.iinc 2 1, 3) := by decide +kernel
theorem dX3_readOn_89 : decode cX3_readOn 89 = .ok (.goto (-69), 3) := by decide +kernel
theorem dX3_readOn_92 : decode cX3_readOn 92 = .ok (.return_, 1) := by decide +kernel
theorem dX3_readLine_0 : decode cX3_readLine 0 = .ok (.aload_n 0, 1) := by decide +kernel
theorem dX3_readLine_1 : decode cX3_readLine 1 = .ok (.invokevirtual 40, 3) := by decide +kernel
theorem dX3_readLine_4 : decode cX3_readLine 4 = .ok (.aload_n 0, 1) := by decide +kernel
theorem dX3_readLine_5 : decode cX3_readLine 5 = .ok (.ldc 58, 2) := by decide +kernel
theorem dX3_readLine_7 : decode cX3_readLine 7 = .ok (.invokevirtual 60, 3) := by decide +kernel
theorem dX3_readLine_10 : decode cX3_readLine 10 = .ok (.ifCond .eq 8, 3) := by decide +kernel
theorem dX3_readLine_13 : decode cX3_readLine 13 = .ok (.aload_n 0, 1) := by decide +kernel
theorem dX3_readLine_14 : decode cX3_readLine 14 = .ok (.invokevirtual 64, 3) := by decide +kernel
theorem dX3_readLine_17 : decode cX3_readLine 17 = .ok (.ireturn, 1) := by decide +kernel
theorem dX3_readLine_18 : decode cX3_readLine 18 = .ok (.aload_n 0, 1) := by decide +kernel
theorem dX3_readLine_19 : decode cX3_readLine 19 = .ok (.ldc 67, 2) := by decide +kernel
theorem dX3_readLine_21 : decode cX3_readLine 21 = .ok (.invokevirtual 60, 3) := by decide +kernel
theorem dX3_readLine_24 : decode cX3_readLine 24 = .ok (.ifCond .eq 9, 3) := by decide +kernel
theorem dX3_readLine_27 : decode cX3_readLine 27 = .ok (.aload_n 0, 1) := by decide +kernel
theorem dX3_readLine_28 : decode cX3_readLine 28 = .ok (.iconst 0, 1) := by decide +kernel
theorem dX3_readLine_29 : decode cX3_readLine 29 = .ok (.invokevirtual 69, 3) := by decide +kernel
theorem dX3_readLine_32 : decode cX3_readLine 32 = .ok (.ireturn, 1) := by decide +kernel
theorem dX3_readLine_33 : decode cX3_readLine 33 = .ok (.aload_n 0, 1) := by decide +kernel
theorem dX3_readLine_34 : decode cX3_readLine 34 = .ok (.ldc 73, 2) := by decide +kernel
theorem dX3_readLine_36 : decode cX3_readLine 36 = .ok (.invokevirtual 60, 3) := by decide +kernel
theorem dX3_readLine_39 : decode cX3_readLine 39 = .ok (.ifCond .eq 9, 3) := by decide +kernel
theorem dX3_readLine_42 : decode cX3_readLine 42 = .ok (.aload_n 0, 1) := by decide +kernel
theorem dX3_readLine_43 : decode cX3_readLine 43 = .ok (.iconst 1, 1) := by decide +kernel
theorem dX3_readLine_44 : decode cX3_readLine 44 = .ok (.invokevirtual 69, 3) := by decide +kernel
theorem dX3_readLine_47 : decode cX3_readLine 47 = .ok (.ireturn, 1) := by decide +kernel
theorem dX3_readLine_48 : decode cX3_readLine 48 = .ok (.aload_n 0, 1) := by decide +kernel
theorem dX3_readLine_49 : decode cX3_readLine 49 = .ok (.ldc 75, 2) := by decide +kernel
theorem dX3_readLine_51 : decode cX3_readLine 51 = .ok (.invokevirtual 60, 3) := by decide +kernel
theorem dX3_readLine_54 : decode cX3_readLine 54 = .ok (.ifCond .eq 9, 3) := by decide +kernel
theorem dX3_readLine_57 : decode cX3_readLine 57 = .ok (.aload_n 0, 1) := by decide +kernel
theorem dX3_readLine_58 : decode cX3_readLine 58 = .ok (.iconst 2, 1) := by decide +kernel
theorem dX3_readLine_59 : decode cX3_readLine 59 = .ok (.invokevirtual 69, 3) := by decide +kernel
theorem dX3_readLine_62 : decode cX3_readLine 62 = .ok (.ireturn, 1) := by decide +kernel
theorem dX3_readLine_63 : decode cX3_readLine 63 = .ok (.aload_n 0, 1) := by decide +kernel
theorem dX3_readLine_64 : decode cX3_readLine 64 = .ok (.ldc 77, 2) := by decide +kernel
theorem dX3_readLine_66 : decode cX3_readLine 66 = .ok (.invokevirtual 60, 3) := by decide +kernel
theorem dX3_readLine_69 : decode cX3_readLine 69 = .ok (.ifCond .eq 9, 3) := by decide +kernel
theorem dX3_readLine_72 : decode cX3_readLine 72 = .ok (.aload_n 0, 1) := by decide +kernel
theorem dX3_readLine_73 : decode cX3_readLine 73 = .ok (.iconst 3, 1) := by decide +kernel
theorem dX3_readLine_74 : decode cX3_readLine 74 = .ok (.invokevirtual 69, 3) := by decide +kernel
theorem dX3_readLine_77 : decode cX3_readLine 77 = .ok (.ireturn, 1) := by decide +kernel
theorem dX3_readLine_78 : decode cX3_readLine 78 = .ok (.aload_n 0, 1) := by decide +kernel
theorem dX3_readLine_79 : decode cX3_readLine 79 = .ok (.ldc 79, 2) := by decide +kernel
theorem dX3_readLine_81 : decode cX3_readLine 81 = .ok (.invokevirtual 60, 3) := by decide +kernel
theorem dX3_readLine_84 : decode cX3_readLine 84 = .ok (.ifCond .eq 20, 3) := by decide +kernel
theorem dX3_readLine_87 : decode cX3_readLine 87 = .ok (.aload_n 0, 1) := by decide +kernel
theorem dX3_readLine_88 : decode cX3_readLine 88 = .ok (.getfield 12, 3) := by decide +kernel
theorem dX3_readLine_91 : decode cX3_readLine 91 = .ok (.getfield 81, 3) := by decide +kernel
theorem dX3_readLine_94 : decode cX3_readLine 94 = .ok (.bipush 12, 2) := by decide +kernel
theorem dX3_readLine_96 : decode cX3_readLine 96 = .ok (.if_icmp .ge 8, 3) := by decide +kernel
theorem dX3_readLine_99 : decode cX3_readLine 99 = .ok (.aload_n 0, 1) := by decide +kernel
theorem dX3_readLine_100 : decode cX3_readLine 100 = .ok (.invokevirtual 84, 3) := by decide +kernel
theorem dX3_readLine_103 : decode cX3_readLine 103 = .ok (.ireturn, 1) := by decide +kernel
theorem dX3_readLine_104 : decode cX3_readLine 104 = .ok (.aload_n 0, 1) := by decide +kernel
theorem dX3_readLine_105 : decode cX3_readLine 105 = .ok (.ldc 87, 2) := by decide +kernel
theorem dX3_readLine_107 : decode cX3_readLine 107 = .ok (.invokevirtual 60, 3) := by decide +kernel
theorem dX3_readLine_110 : decode cX3_readLine 110 = .ok (.ifCond .eq 20, 3) := by decide +kernel
theorem dX3_readLine_113 : decode cX3_readLine 113 = .ok (.aload_n 0, 1) := by decide +kernel
theorem dX3_readLine_114 : decode cX3_readLine 114 = .ok (.getfield 12, 3) := by decide +kernel
theorem dX3_readLine_117 : decode cX3_readLine 117 = .ok (.getfield 89, 3) := by decide +kernel
theorem dX3_readLine_120 : decode cX3_readLine 120 = .ok (.bipush 6, 2) := by decide +kernel
theorem dX3_readLine_122 : decode cX3_readLine 122 = .ok (.if_icmp .ge 8, 3) := by decide +kernel
theorem dX3_readLine_125 : decode cX3_readLine 125 = .ok (.aload_n 0, 1) := by decide +kernel
theorem dX3_readLine_126 : decode cX3_readLine 126 = .ok (.invokevirtual 92, 3) := by decide +kernel
theorem dX3_readLine_129 : decode cX3_readLine 129 = .ok (.ireturn, 1) := by decide +kernel
theorem dX3_readLine_130 : decode cX3_readLine 130 = .ok (.aload_n 0, 1) := by decide +kernel
theorem dX3_readLine_131 : decode cX3_readLine 131 = .ok (.ldc 95, 2) := by decide +kernel
theorem dX3_readLine_133 : decode cX3_readLine 133 = .ok (.invokevirtual 60, 3) := by decide +kernel
theorem dX3_readLine_136 : decode cX3_readLine 136 = .ok (.ifCond .eq 8, 3) := by decide +kernel
theorem dX3_readLine_139 : decode cX3_readLine 139 = .ok (.aload_n 0, 1) := by decide +kernel
theorem dX3_readLine_140 : decode cX3_readLine 140 = .ok (.invokevirtual 97, 3) := by decide +kernel
theorem dX3_readLine_143 : decode cX3_readLine 143 = .ok (.ireturn, 1) := by decide +kernel
theorem dX3_readLine_144 : decode cX3_readLine 144 = .ok (.aload_n 0, 1) := by decide +kernel
theorem dX3_readLine_145 : decode cX3_readLine 145 = .ok (.ldc 100, 2) := by decide +kernel
theorem dX3_readLine_147 : decode cX3_readLine 147 = .ok (.invokevirtual 60, 3) := by decide +kernel
theorem dX3_readLine_150 : decode cX3_readLine 150 = .ok (.ifCond .eq 8, 3) := by decide +kernel
theorem dX3_readLine_153 : decode cX3_readLine 153 = .ok (.aload_n 0, 1) := by decide +kernel
theorem dX3_readLine_154 : decode cX3_readLine 154 = .ok (.invokevirtual 102, 3) := by decide +kernel
theorem dX3_readLine_157 : decode cX3_readLine 157 = .ok (.ireturn, 1) := by decide +kernel
theorem dX3_readLine_158 : decode cX3_readLine 158 = .ok (.aload_n 0, 1) := by decide +kernel
theorem dX3_readLine_159 : decode cX3_readLine 159 = .ok (.invokevirtual 55, 3) := by decide +kernel
theorem dX3_readLine_162 : decode cX3_readLine 162 = .ok (.ireturn, 1) := by decide +kernel
theorem dX3_readOffice_0 : decode cX3_readOffice 0 = .ok (.aload_n 0, 1) := by decide +kernel
theorem dX3_readOffice_1 : decode cX3_readOffice 1 = .ok (.iconst 2, 1) := by decide +kernel
theorem dX3_readOffice_2 : decode cX3_readOffice 2 = .ok (.bipush 8, 2) := by decide +kernel
theorem dX3_readOffice_4 : decode cX3_readOffice 4 = .ok (.invokevirtual 105, 3) := by decide +kernel
theorem dX3_readOffice_7 : decode cX3_readOffice 7 = .ok (.istore_n 1, 1) := by decide +kernel
theorem dX3_readOffice_8 : decode cX3_readOffice 8 = .ok (.iload_n 1, 1) := by decide +kernel
theorem dX3_readOffice_9 : decode cX3_readOffice 9 = .ok (.iconst (-1), 1) := by decide +kernel
theorem dX3_readOffice_10 : decode cX3_readOffice 10 = .ok (.if_icmp .ne 5, 3) := by decide +kernel
theorem dX3_readOffice_13 : decode cX3_readOffice 13 = .ok (.iconst 0, 1) := by decide +kernel
theorem dX3_readOffice_14 : decode cX3_readOffice 14 = .ok (.ireturn, 1) := by decide +kernel
theorem dX3_readOffice_15 : decode cX3_readOffice 15 = .ok (.aload_n 0, 1) := by decide +kernel
theorem dX3_readOffice_16 : decode cX3_readOffice 16 = .ok (.getfield 12, 3) := by decide +kernel
theorem dX3_readOffice_19 : decode cX3_readOffice 19 = .ok (.iload_n 1, 1) := by decide +kernel
theorem dX3_readOffice_20 : decode cX3_readOffice 20 = .ok (.invokevirtual 109, 3) := by decide +kernel
theorem dX3_readOffice_23 : decode cX3_readOffice 23 = .ok (.iconst 1, 1) := by decide +kernel
theorem dX3_readOffice_24 : decode cX3_readOffice 24 = .ok (.ireturn, 1) := by decide +kernel
theorem dX3_readKind_0 : decode cX3_readKind 0 = .ok (.aload_n 0, 1) := by decide +kernel
theorem dX3_readKind_1 : decode cX3_readKind 1 = .ok (.iconst 0, 1) := by decide +kernel
theorem dX3_readKind_2 : decode cX3_readKind 2 = .ok (.aload_n 0, 1) := by decide +kernel
theorem dX3_readKind_3 : decode cX3_readKind 3 = .ok (.getfield 12, 3) := by decide +kernel
theorem dX3_readKind_6 : decode cX3_readKind 6 = .ok (.getfield 113, 3) := by decide +kernel
theorem dX3_readKind_9 : decode cX3_readKind 9 = .ok (.iconst 1, 1) := by decide +kernel
theorem dX3_readKind_10 : decode cX3_readKind 10 = .ok (.isub, 1) := by decide +kernel
theorem dX3_readKind_11 : decode cX3_readKind 11 = .ok (.invokevirtual 105, 3) := by decide +kernel
theorem dX3_readKind_14 : decode cX3_readKind 14 = .ok (.istore_n 2, 1) := by decide +kernel
theorem dX3_readKind_15 : decode cX3_readKind 15 = .ok (.iload_n 2, 1) := by decide +kernel
theorem dX3_readKind_16 : decode cX3_readKind 16 = .ok (.iconst (-1), 1) := by decide +kernel
theorem dX3_readKind_17 : decode cX3_readKind 17 = .ok (.if_icmp .ne 5, 3) := by decide +kernel
theorem dX3_readKind_20 : decode cX3_readKind 20 = .ok (.iconst 0, 1) := by decide +kernel
theorem dX3_readKind_21 : decode cX3_readKind 21 = .ok (.ireturn, 1) := by decide +kernel
theorem dX3_readKind_22 : decode cX3_readKind 22 = .ok (.aload_n 0, 1) := by decide +kernel
theorem dX3_readKind_23 : decode cX3_readKind 23 = .ok (.getfield 12, 3) := by decide +kernel
theorem dX3_readKind_26 : decode cX3_readKind 26 = .ok (.getfield 116, 3) := by decide +kernel
theorem dX3_readKind_29 : decode cX3_readKind 29 = .ok (.iload_n 2, 1) := by decide +kernel
theorem dX3_readKind_30 : decode cX3_readKind 30 = .ok (.iload_n 1, 1) := by decide +kernel
theorem dX3_readKind_31 : decode cX3_readKind 31 = .ok (.iastore, 1) := by decide +kernel
theorem dX3_readKind_32 : decode cX3_readKind 32 = .ok (.iconst 1, 1) := by decide +kernel
theorem dX3_readKind_33 : decode cX3_readKind 33 = .ok (.ireturn, 1) := by decide +kernel
theorem dX3_readTrail_0 : decode cX3_readTrail 0 = .ok (.aload_n 0, 1) := by decide +kernel
theorem dX3_readTrail_1 : decode cX3_readTrail 1 = .ok (.iconst 0, 1) := by decide +kernel
theorem dX3_readTrail_2 : decode cX3_readTrail 2 = .ok (.aload_n 0, 1) := by decide +kernel
theorem dX3_readTrail_3 : decode cX3_readTrail 3 = .ok (.getfield 12, 3) := by decide +kernel
theorem dX3_readTrail_6 : decode cX3_readTrail 6 = .ok (.getfield 113, 3) := by decide +kernel
theorem dX3_readTrail_9 : decode cX3_readTrail 9 = .ok (.iconst 1, 1) := by decide +kernel
theorem dX3_readTrail_10 : decode cX3_readTrail 10 = .ok (.isub, 1) := by decide +kernel
theorem dX3_readTrail_11 : decode cX3_readTrail 11 = .ok (.invokevirtual 105, 3) := by decide +kernel
theorem dX3_readTrail_14 : decode cX3_readTrail 14 = .ok (.istore_n 1, 1) := by decide +kernel
theorem dX3_readTrail_15 : decode cX3_readTrail 15 = .ok (.iload_n 1, 1) := by decide +kernel
theorem dX3_readTrail_16 : decode cX3_readTrail 16 = .ok (.iconst (-1), 1) := by decide +kernel
theorem dX3_readTrail_17 : decode cX3_readTrail 17 = .ok (.if_icmp .ne 7, 3) := by decide +kernel
theorem dX3_readTrail_20 : decode cX3_readTrail 20 = .ok (.iconst (-1), 1) := by decide +kernel
theorem dX3_readTrail_21 : decode cX3_readTrail 21 = .ok (.goto 8, 3) := by decide +kernel
theorem dX3_readTrail_24 : decode cX3_readTrail 24 = .ok (.aload_n 0, 1) := by decide +kernel
theorem dX3_readTrail_25 : decode cX3_readTrail 25 = .ok (.iload_n 1, 1) := by decide +kernel
theorem dX3_readTrail_26 : decode cX3_readTrail 26 = .ok (.invokevirtual 120, 3) := by decide +kernel
theorem dX3_readTrail_29 : decode cX3_readTrail 29 = .ok (.istore_n 2, 1) := by decide +kernel
theorem dX3_readTrail_30 : decode cX3_readTrail 30 = .ok (.iload_n 2, 1) := by decide +kernel
theorem dX3_readTrail_31 : decode cX3_readTrail 31 = .ok (.iconst (-1), 1) := by decide +kernel
theorem dX3_readTrail_32 : decode cX3_readTrail 32 = .ok (.if_icmp .ne 7, 3) := by decide +kernel
theorem dX3_readTrail_35 : decode cX3_readTrail 35 = .ok (.iconst (-1), 1) := by decide +kernel
theorem dX3_readTrail_36 : decode cX3_readTrail 36 = .ok (.goto 10, 3) := by decide +kernel
theorem dX3_readTrail_39 : decode cX3_readTrail 39 = .ok (.aload_n 0, 1) := by decide +kernel
theorem dX3_readTrail_40 : decode cX3_readTrail 40 = .ok (.iconst 0, 1) := by decide +kernel
theorem dX3_readTrail_41 : decode cX3_readTrail 41 = .ok (.bipush 99, 2) := by decide +kernel
theorem dX3_readTrail_43 : decode cX3_readTrail 43 = .ok (.invokevirtual 105, 3) := by decide +kernel
theorem dX3_readTrail_46 : decode cX3_readTrail 46 = .ok (.istore_n 3, 1) := by decide +kernel
theorem dX3_readTrail_47 : decode cX3_readTrail 47 = .ok (.iload_n 3, 1) := by decide +kernel
theorem dX3_readTrail_48 : decode cX3_readTrail 48 = .ok (.iconst (-1), 1) := by decide +kernel
theorem dX3_readTrail_49 : decode cX3_readTrail 49 = .ok (.if_icmp .ne 5, 3) := by decide +kernel
theorem dX3_readTrail_52 : decode cX3_readTrail 52 = .ok (.iconst 0, 1) := by decide +kernel
theorem dX3_readTrail_53 : decode cX3_readTrail 53 = .ok (.ireturn, 1) := by decide +kernel
theorem dX3_readTrail_54 : decode cX3_readTrail 54 = .ok (.aload_n 0, 1) := by decide +kernel
theorem dX3_readTrail_55 : decode cX3_readTrail 55 = .ok (.getfield 12, 3) := by decide +kernel
theorem dX3_readTrail_58 : decode cX3_readTrail 58 = .ok (.iload_n 1, 1) := by decide +kernel
theorem dX3_readTrail_59 : decode cX3_readTrail 59 = .ok (.iload_n 2, 1) := by decide +kernel
theorem dX3_readTrail_60 : decode cX3_readTrail 60 = .ok (.iload_n 3, 1) := by decide +kernel
theorem dX3_readTrail_61 : decode cX3_readTrail 61 = .ok (.invokevirtual 123, 3) := by decide +kernel
theorem dX3_readTrail_64 : decode cX3_readTrail 64 = .ok (.iconst 1, 1) := by decide +kernel
theorem dX3_readTrail_65 : decode cX3_readTrail 65 = .ok (.ireturn, 1) := by decide +kernel
theorem dX3_readFile_0 : decode cX3_readFile 0 = .ok (.aload_n 0, 1) := by decide +kernel
theorem dX3_readFile_1 : decode cX3_readFile 1 = .ok (.iconst 0, 1) := by decide +kernel
theorem dX3_readFile_2 : decode cX3_readFile 2 = .ok (.aload_n 0, 1) := by decide +kernel
theorem dX3_readFile_3 : decode cX3_readFile 3 = .ok (.getfield 12, 3) := by decide +kernel
theorem dX3_readFile_6 : decode cX3_readFile 6 = .ok (.getfield 113, 3) := by decide +kernel
theorem dX3_readFile_9 : decode cX3_readFile 9 = .ok (.iconst 1, 1) := by decide +kernel
theorem dX3_readFile_10 : decode cX3_readFile 10 = .ok (.isub, 1) := by decide +kernel
theorem dX3_readFile_11 : decode cX3_readFile 11 = .ok (.invokevirtual 105, 3) := by decide +kernel
theorem dX3_readFile_14 : decode cX3_readFile 14 = .ok (.istore_n 1, 1) := by decide +kernel
theorem dX3_readFile_15 : decode cX3_readFile 15 = .ok (.iload_n 1, 1) := by decide +kernel
theorem dX3_readFile_16 : decode cX3_readFile 16 = .ok (.iconst (-1), 1) := by decide +kernel
theorem dX3_readFile_17 : decode cX3_readFile 17 = .ok (.if_icmp .ne 7, 3) := by decide +kernel
theorem dX3_readFile_20 : decode cX3_readFile 20 = .ok (.iconst (-1), 1) := by decide +kernel
theorem dX3_readFile_21 : decode cX3_readFile 21 = .ok (.goto 8, 3) := by decide +kernel
theorem dX3_readFile_24 : decode cX3_readFile 24 = .ok (.aload_n 0, 1) := by decide +kernel
theorem dX3_readFile_25 : decode cX3_readFile 25 = .ok (.iload_n 1, 1) := by decide +kernel
theorem dX3_readFile_26 : decode cX3_readFile 26 = .ok (.invokevirtual 120, 3) := by decide +kernel
theorem dX3_readFile_29 : decode cX3_readFile 29 = .ok (.istore_n 2, 1) := by decide +kernel
theorem dX3_readFile_30 : decode cX3_readFile 30 = .ok (.iload_n 2, 1) := by decide +kernel
theorem dX3_readFile_31 : decode cX3_readFile 31 = .ok (.iconst (-1), 1) := by decide +kernel
theorem dX3_readFile_32 : decode cX3_readFile 32 = .ok (.if_icmp .ne 7, 3) := by decide +kernel
theorem dX3_readFile_35 : decode cX3_readFile 35 = .ok (.iconst (-1), 1) := by decide +kernel
theorem dX3_readFile_36 : decode cX3_readFile 36 = .ok (.goto 10, 3) := by decide +kernel
theorem dX3_readFile_39 : decode cX3_readFile 39 = .ok (.aload_n 0, 1) := by decide +kernel
theorem dX3_readFile_40 : decode cX3_readFile 40 = .ok (.iconst 0, 1) := by decide +kernel
theorem dX3_readFile_41 : decode cX3_readFile 41 = .ok (.bipush 9, 2) := by decide +kernel
theorem dX3_readFile_43 : decode cX3_readFile 43 = .ok (.invokevirtual 105, 3) := by decide +kernel
theorem dX3_readFile_46 : decode cX3_readFile 46 = .ok (.istore_n 3, 1) := by decide +kernel
theorem dX3_readFile_47 : decode cX3_readFile 47 = .ok (.iload_n 3, 1) := by decide +kernel
theorem dX3_readFile_48 : decode cX3_readFile 48 = .ok (.iconst (-1), 1) := by decide +kernel
theorem dX3_readFile_49 : decode cX3_readFile 49 = .ok (.if_icmp .ne 5, 3) := by decide +kernel
theorem dX3_readFile_52 : decode cX3_readFile 52 = .ok (.iconst 0, 1) := by decide +kernel
theorem dX3_readFile_53 : decode cX3_readFile 53 = .ok (.ireturn, 1) := by decide +kernel
theorem dX3_readFile_54 : decode cX3_readFile 54 = .ok (.aload_n 0, 1) := by decide +kernel
theorem dX3_readFile_55 : decode cX3_readFile 55 = .ok (.getfield 12, 3) := by decide +kernel
theorem dX3_readFile_58 : decode cX3_readFile 58 = .ok (.iload_n 1, 1) := by decide +kernel
theorem dX3_readFile_59 : decode cX3_readFile 59 = .ok (.iload_n 2, 1) := by decide +kernel
theorem dX3_readFile_60 : decode cX3_readFile 60 = .ok (.iload_n 3, 1) := by decide +kernel
theorem dX3_readFile_61 : decode cX3_readFile 61 = .ok (.invokevirtual 127, 3) := by decide +kernel
theorem dX3_readFile_64 : decode cX3_readFile 64 = .ok (.iconst 1, 1) := by decide +kernel
theorem dX3_readFile_65 : decode cX3_readFile 65 = .ok (.ireturn, 1) := by decide +kernel
theorem dX3_readFade_0 : decode cX3_readFade 0 = .ok (.aload_n 0, 1) := by decide +kernel
theorem dX3_readFade_1 : decode cX3_readFade 1 = .ok (.iconst 0, 1) := by decide +kernel
theorem dX3_readFade_2 : decode cX3_readFade 2 = .ok (.bipush 9, 2) := by decide +kernel
theorem dX3_readFade_4 : decode cX3_readFade 4 = .ok (.invokevirtual 105, 3) := by decide +kernel
theorem dX3_readFade_7 : decode cX3_readFade 7 = .ok (.istore_n 1, 1) := by decide +kernel
theorem dX3_readFade_8 : decode cX3_readFade 8 = .ok (.iload_n 1, 1) := by decide +kernel
theorem dX3_readFade_9 : decode cX3_readFade 9 = .ok (.iconst (-1), 1) := by decide +kernel
theorem dX3_readFade_10 : decode cX3_readFade 10 = .ok (.if_icmp .ne 5, 3) := by decide +kernel
theorem dX3_readFade_13 : decode cX3_readFade 13 = .ok (.iconst 0, 1) := by decide +kernel
theorem dX3_readFade_14 : decode cX3_readFade 14 = .ok (.ireturn, 1) := by decide +kernel
theorem dX3_readFade_15 : decode cX3_readFade 15 = .ok (.aload_n 0, 1) := by decide +kernel
theorem dX3_readFade_16 : decode cX3_readFade 16 = .ok (.getfield 12, 3) := by decide +kernel
theorem dX3_readFade_19 : decode cX3_readFade 19 = .ok (.iload_n 1, 1) := by decide +kernel
theorem dX3_readFade_20 : decode cX3_readFade 20 = .ok (.putfield 130, 3) := by decide +kernel
theorem dX3_readFade_23 : decode cX3_readFade 23 = .ok (.iconst 1, 1) := by decide +kernel
theorem dX3_readFade_24 : decode cX3_readFade 24 = .ok (.ireturn, 1) := by decide +kernel
theorem dX3_readWinter_0 : decode cX3_readWinter 0 = .ok (.aload_n 0, 1) := by decide +kernel
theorem dX3_readWinter_1 : decode cX3_readWinter 1 = .ok (.iconst 0, 1) := by decide +kernel
theorem dX3_readWinter_2 : decode cX3_readWinter 2 = .ok (.bipush 99, 2) := by decide +kernel
theorem dX3_readWinter_4 : decode cX3_readWinter 4 = .ok (.invokevirtual 105, 3) := by decide +kernel
theorem dX3_readWinter_7 : decode cX3_readWinter 7 = .ok (.istore_n 1, 1) := by decide +kernel
theorem dX3_readWinter_8 : decode cX3_readWinter 8 = .ok (.iload_n 1, 1) := by decide +kernel
theorem dX3_readWinter_9 : decode cX3_readWinter 9 = .ok (.iconst (-1), 1) := by decide +kernel
theorem dX3_readWinter_10 : decode cX3_readWinter 10 = .ok (.if_icmp .ne 5, 3) := by decide +kernel
theorem dX3_readWinter_13 : decode cX3_readWinter 13 = .ok (.iconst 0, 1) := by decide +kernel
theorem dX3_readWinter_14 : decode cX3_readWinter 14 = .ok (.ireturn, 1) := by decide +kernel
theorem dX3_readWinter_15 : decode cX3_readWinter 15 = .ok (.aload_n 0, 1) := by decide +kernel
theorem dX3_readWinter_16 : decode cX3_readWinter 16 = .ok (.getfield 12, 3) := by decide +kernel
theorem dX3_readWinter_19 : decode cX3_readWinter 19 = .ok (.iload_n 1, 1) := by decide +kernel
theorem dX3_readWinter_20 : decode cX3_readWinter 20 = .ok (.putfield 132, 3) := by decide +kernel
theorem dX3_readWinter_23 : decode cX3_readWinter 23 = .ok (.iconst 1, 1) := by decide +kernel
theorem dX3_readWinter_24 : decode cX3_readWinter 24 = .ok (.ireturn, 1) := by decide +kernel
theorem dX3_readDeskUnlike_0 : decode cX3_readDeskUnlike 0 = .ok (.aload_n 0, 1) := by decide +kernel
theorem dX3_readDeskUnlike_1 : decode cX3_readDeskUnlike 1 = .ok (.iconst 0, 1) := by decide +kernel
theorem dX3_readDeskUnlike_2 : decode cX3_readDeskUnlike 2 = .ok (.aload_n 0, 1) := by decide +kernel
theorem dX3_readDeskUnlike_3 : decode cX3_readDeskUnlike 3 = .ok (.getfield 12, 3) := by decide +kernel
theorem dX3_readDeskUnlike_6 : decode cX3_readDeskUnlike 6 = .ok (.getfield 113, 3) := by decide +kernel
theorem dX3_readDeskUnlike_9 : decode cX3_readDeskUnlike 9 = .ok (.iconst 1, 1) := by decide +kernel
theorem dX3_readDeskUnlike_10 : decode cX3_readDeskUnlike 10 = .ok (.isub, 1) := by decide +kernel
theorem dX3_readDeskUnlike_11 : decode cX3_readDeskUnlike 11 = .ok (.invokevirtual 105, 3) := by decide +kernel
theorem dX3_readDeskUnlike_14 : decode cX3_readDeskUnlike 14 = .ok (.istore_n 2, 1) := by decide +kernel
theorem dX3_readDeskUnlike_15 : decode cX3_readDeskUnlike 15 = .ok (.iload_n 2, 1) := by decide +kernel
theorem dX3_readDeskUnlike_16 : decode cX3_readDeskUnlike 16 = .ok (.iload_n 1, 1) := by decide +kernel
theorem dX3_readDeskUnlike_17 : decode cX3_readDeskUnlike 17 = .ok (.if_icmp .eq 5, 3) := by decide +kernel
theorem dX3_readDeskUnlike_20 : decode cX3_readDeskUnlike 20 = .ok (.iload_n 2, 1) := by decide +kernel
theorem dX3_readDeskUnlike_21 : decode cX3_readDeskUnlike 21 = .ok (.ireturn, 1) := by decide +kernel
theorem dX3_readDeskUnlike_22 : decode cX3_readDeskUnlike 22 = .ok (.aload_n 0, 1) := by decide +kernel
theorem dX3_readDeskUnlike_23 : decode cX3_readDeskUnlike 23 = .ok (.invokevirtual 55, 3) := by decide +kernel
theorem dX3_readDeskUnlike_26 : decode cX3_readDeskUnlike 26 = .ok (.pop, 1) := by decide +kernel
theorem dX3_readDeskUnlike_27 : decode cX3_readDeskUnlike 27 = .ok (.iconst (-1), 1) := by decide +kernel
theorem dX3_readDeskUnlike_28 : decode cX3_readDeskUnlike 28 = .ok (.ireturn, 1) := by decide +kernel
theorem dX3_readNumber_0 : decode cX3_readNumber 0 = .ok (.aload_n 0, 1) := by decide +kernel
theorem dX3_readNumber_1 : decode cX3_readNumber 1 = .ok (.invokevirtual 40, 3) := by decide +kernel
theorem dX3_readNumber_4 : decode cX3_readNumber 4 = .ok (.aload_n 0, 1) := by decide +kernel
theorem dX3_readNumber_5 : decode cX3_readNumber 5 = .ok (.getfield 30, 3) := by decide +kernel
theorem dX3_readNumber_8 : decode cX3_readNumber 8 = .ok (.aload_n 0, 1) := by decide +kernel
theorem dX3_readNumber_9 : decode cX3_readNumber 9 = .ok (.getfield 43, 3) := by decide +kernel
theorem dX3_readNumber_12 : decode cX3_readNumber 12 = .ok (.isub, 1) := by decide +kernel
theorem dX3_readNumber_13 : decode cX3_readNumber 13 = .ok (.istore_n 3, 1) := by decide +kernel
theorem dX3_readNumber_14 : decode cX3_readNumber 14 = .ok (.aload_n 0, 1) := by decide +kernel
theorem dX3_readNumber_15 : decode cX3_readNumber 15 = .ok (.getfield 18, 3) := by decide +kernel
theorem dX3_readNumber_18 : decode cX3_readNumber 18 = .ok (.aload_n 0, 1) := by decide +kernel
theorem dX3_readNumber_19 : decode cX3_readNumber 19 = .ok (.getfield 43, 3) := by decide +kernel
theorem dX3_readNumber_22 : decode cX3_readNumber 22 = .ok (.invokevirtual 51, 3) := by decide +kernel
theorem dX3_readNumber_25 : decode cX3_readNumber 25 = .ok (.invokestatic 134, 3) := by decide +kernel
theorem dX3_readNumber_28 : decode cX3_readNumber 28 = .ok (.ifCond .eq 68, 3) := by decide +kernel
theorem dX3_readNumber_31 : decode cX3_readNumber 31 = .ok (.iload_n 3, 1) := by decide +kernel
theorem dX3_readNumber_32 : decode cX3_readNumber 32 = .ok (.iconst 2, 1) := by decide +kernel
theorem dX3_readNumber_33 : decode cX3_readNumber 33 = .ok (.if_icmp .gt 63, 3) := by decide +kernel
theorem dX3_readNumber_36 : decode cX3_readNumber 36 = .ok (.aload_n 0, 1) := by decide +kernel
theorem dX3_readNumber_37 : decode cX3_readNumber 37 = .ok (.getfield 18, 3) := by decide +kernel
theorem dX3_readNumber_40 : decode cX3_readNumber 40 = .ok (.aload_n 0, 1) := by decide +kernel
theorem dX3_readNumber_41 : decode cX3_readNumber 41 = .ok (.getfield 43, 3) := by decide +kernel
theorem dX3_readNumber_44 : decode cX3_readNumber 44 = .ok (.invokevirtual 51, 3) := by decide +kernel
theorem dX3_readNumber_47 : decode cX3_readNumber 47 = .ok (.bipush 48, 2) := by decide +kernel
theorem dX3_readNumber_49 : decode cX3_readNumber 49 = .ok (.isub, 1) := by decide +kernel
theorem dX3_readNumber_50 : decode cX3_readNumber 50 = .ok (.istore 4, 2) := by decide +kernel
theorem dX3_readNumber_52 : decode cX3_readNumber 52 = .ok (.iload_n 3, 1) := by decide +kernel
theorem dX3_readNumber_53 : decode cX3_readNumber 53 = .ok (.iconst 2, 1) := by decide +kernel
theorem dX3_readNumber_54 : decode cX3_readNumber 54 = .ok (.if_icmp .ne 27, 3) := by decide +kernel
theorem dX3_readNumber_57 : decode cX3_readNumber 57 = .ok (.bipush 10, 2) := by decide +kernel
theorem dX3_readNumber_59 : decode cX3_readNumber 59 = .ok (.iload 4, 2) := by decide +kernel
theorem dX3_readNumber_61 : decode cX3_readNumber 61 = .ok (.imul, 1) := by decide +kernel
theorem dX3_readNumber_62 : decode cX3_readNumber 62 = .ok (.aload_n 0, 1) := by decide +kernel
theorem dX3_readNumber_63 : decode cX3_readNumber 63 = .ok (.getfield 18, 3) := by decide +kernel
theorem dX3_readNumber_66 : decode cX3_readNumber 66 = .ok (.aload_n 0, 1) := by decide +kernel
theorem dX3_readNumber_67 : decode cX3_readNumber 67 = .ok (.getfield 43, 3) := by decide +kernel
theorem dX3_readNumber_70 : decode cX3_readNumber 70 = .ok (.iconst 1, 1) := by decide +kernel
theorem dX3_readNumber_71 : decode cX3_readNumber 71 = .ok (.iadd, 1) := by decide +kernel
theorem dX3_readNumber_72 : decode cX3_readNumber 72 = .ok (.invokevirtual 51, 3) := by decide +kernel
theorem dX3_readNumber_75 : decode cX3_readNumber 75 = .ok (.iadd, 1) := by decide +kernel
theorem dX3_readNumber_76 : decode cX3_readNumber 76 = .ok (.bipush 48, 2) := by decide +kernel
theorem dX3_readNumber_78 : decode cX3_readNumber 78 = .ok (.isub, 1) := by decide +kernel
theorem dX3_readNumber_79 : decode cX3_readNumber 79 = .ok (.istore 4, 2) := by decide +kernel
theorem dX3_readNumber_81 : decode cX3_readNumber 81 = .ok (.iload 4, 2) := by decide +kernel
theorem dX3_readNumber_83 : decode cX3_readNumber 83 = .ok (.iload_n 1, 1) := by decide +kernel
theorem dX3_readNumber_84 : decode cX3_readNumber 84 = .ok (.if_icmp .lt 12, 3) := by decide +kernel
theorem dX3_readNumber_87 : decode cX3_readNumber 87 = .ok (.iload 4, 2) := by decide +kernel
theorem dX3_readNumber_89 : decode cX3_readNumber 89 = .ok (.iload_n 2, 1) := by decide +kernel
theorem dX3_readNumber_90 : decode cX3_readNumber 90 = .ok (.if_icmp .gt 6, 3) := by decide +kernel
theorem dX3_readNumber_93 : decode cX3_readNumber 93 = .ok (.iload 4, 2) := by decide +kernel
theorem dX3_readNumber_95 : decode cX3_readNumber 95 = .ok (.ireturn, 1) := by decide +kernel
theorem dX3_readNumber_96 : decode cX3_readNumber 96 = .ok (.aload_n 0, 1) := by decide +kernel
theorem dX3_readNumber_97 : decode cX3_readNumber 97 = .ok (.invokevirtual 55, 3) := by decide +kernel
theorem dX3_readNumber_100 : decode cX3_readNumber 100 = .ok (.pop, 1) := by decide +kernel
theorem dX3_readNumber_101 : decode cX3_readNumber 101 = .ok (.iconst (-1), 1) := by decide +kernel
theorem dX3_readNumber_102 : decode cX3_readNumber 102 = .ok (.ireturn, 1) := by decide +kernel
theorem dX3_refuseToken_0 : decode cX3_refuseToken 0 = .ok (.aload_n 0, 1) := by decide +kernel
theorem dX3_refuseToken_1 : decode cX3_refuseToken 1 = .ok (.aload_n 0, 1) := by decide +kernel
theorem dX3_refuseToken_2 : decode cX3_refuseToken 2 = .ok (.getfield 43, 3) := by decide +kernel
theorem dX3_refuseToken_5 : decode cX3_refuseToken 5 = .ok (.putfield 26, 3) := by decide +kernel
theorem dX3_refuseToken_8 : decode cX3_refuseToken 8 = .ok (.iconst 0, 1) := by decide +kernel
theorem dX3_refuseToken_9 : decode cX3_refuseToken 9 = .ok (.ireturn, 1) := by decide +kernel
theorem dX3_takeToken_0 : decode cX3_takeToken 0 = .ok (.aload_n 0, 1) := by decide +kernel
theorem dX3_takeToken_1 : decode cX3_takeToken 1 = .ok (.aload_n 0, 1) := by decide +kernel
theorem dX3_takeToken_2 : decode cX3_takeToken 2 = .ok (.getfield 30, 3) := by decide +kernel
theorem dX3_takeToken_5 : decode cX3_takeToken 5 = .ok (.putfield 43, 3) := by decide +kernel
theorem dX3_takeToken_8 : decode cX3_takeToken 8 = .ok (.aload_n 0, 1) := by decide +kernel
theorem dX3_takeToken_9 : decode cX3_takeToken 9 = .ok (.getfield 43, 3) := by decide +kernel
theorem dX3_takeToken_12 : decode cX3_takeToken 12 = .ok (.aload_n 0, 1) := by decide +kernel
theorem dX3_takeToken_13 : decode cX3_takeToken 13 = .ok (.getfield 18, 3) := by decide +kernel
theorem dX3_takeToken_16 : decode cX3_takeToken 16 = .ok (.getfield 46, 3) := by decide +kernel
theorem dX3_takeToken_19 : decode cX3_takeToken 19 = .ok (.if_icmp .ge 32, 3) := by decide +kernel
theorem dX3_takeToken_22 : decode cX3_takeToken 22 = .ok (.aload_n 0, 1) := by decide +kernel
theorem dX3_takeToken_23 : decode cX3_takeToken 23 = .ok (.getfield 18, 3) := by decide +kernel
theorem dX3_takeToken_26 : decode cX3_takeToken 26 = .ok (.aload_n 0, 1) := by decide +kernel
theorem dX3_takeToken_27 : decode cX3_takeToken 27 = .ok (.getfield 43, 3) := by decide +kernel
theorem dX3_takeToken_30 : decode cX3_takeToken 30 = .ok (.invokevirtual 51, 3) := by decide +kernel
theorem dX3_takeToken_33 : decode cX3_takeToken 33 = .ok (.bipush 32, 2) := by decide +kernel
theorem dX3_takeToken_35 : decode cX3_takeToken 35 = .ok (.if_icmp .ne 16, 3) := by decide +kernel
theorem dX3_takeToken_38 : decode cX3_takeToken 38 = .ok (.aload_n 0, 1) := by decide +kernel
theorem dX3_takeToken_39 : decode cX3_takeToken 39 = .ok (.dup, 1) := by decide +kernel
theorem dX3_takeToken_40 : decode cX3_takeToken 40 = .ok (.getfield 43, 3) := by decide +kernel
theorem dX3_takeToken_43 : decode cX3_takeToken 43 = .ok (.iconst 1, 1) := by decide +kernel
theorem dX3_takeToken_44 : decode cX3_takeToken 44 = .ok (.iadd, 1) := by decide +kernel
theorem dX3_takeToken_45 : decode cX3_takeToken 45 = .ok (.putfield 43, 3) := by decide +kernel
theorem dX3_takeToken_48 : decode cX3_takeToken 48 = .ok (.goto (-40), 3) := by decide +kernel
theorem dX3_takeToken_51 : decode cX3_takeToken 51 = .ok (.aload_n 0, 1) := by decide +kernel
theorem dX3_takeToken_52 : decode cX3_takeToken 52 = .ok (.aload_n 0, 1) := by decide +kernel
theorem dX3_takeToken_53 : decode cX3_takeToken 53 = .ok (.getfield 43, 3) := by decide +kernel
theorem dX3_takeToken_56 : decode cX3_takeToken 56 = .ok (.putfield 30, 3) := by decide +kernel
theorem dX3_takeToken_59 : decode cX3_takeToken 59 = .ok (.aload_n 0, 1) := by decide +kernel
theorem dX3_takeToken_60 : decode cX3_takeToken 60 = .ok (.getfield 30, 3) := by decide +kernel
theorem dX3_takeToken_63 : decode cX3_takeToken 63 = .ok (.aload_n 0, 1) := by decide +kernel
theorem dX3_takeToken_64 : decode cX3_takeToken 64 = .ok (.getfield 18, 3) := by decide +kernel
theorem dX3_takeToken_67 : decode cX3_takeToken 67 = .ok (.getfield 46, 3) := by decide +kernel
theorem dX3_takeToken_70 : decode cX3_takeToken 70 = .ok (.if_icmp .lt 4, 3) := by decide +kernel
theorem dX3_takeToken_73 : decode cX3_takeToken 73 = .ok (.return_, 1) := by decide +kernel
theorem dX3_takeToken_74 : decode cX3_takeToken 74 = .ok (.aload_n 0, 1) := by decide +kernel
theorem dX3_takeToken_75 : decode cX3_takeToken 75 = .ok (.dup, 1) := by decide +kernel
theorem dX3_takeToken_76 : decode cX3_takeToken 76 = .ok (.getfield 30, 3) := by decide +kernel
theorem dX3_takeToken_79 : decode cX3_takeToken 79 = .ok (.iconst 1, 1) := by decide +kernel
theorem dX3_takeToken_80 : decode cX3_takeToken 80 = .ok (.iadd, 1) := by decide +kernel
theorem dX3_takeToken_81 : decode cX3_takeToken 81 = .ok (.putfield 30, 3) := by decide +kernel
theorem dX3_takeToken_84 : decode cX3_takeToken 84 = .ok (.aload_n 0, 1) := by decide +kernel
theorem dX3_takeToken_85 : decode cX3_takeToken 85 = .ok (.getfield 18, 3) := by decide +kernel
theorem dX3_takeToken_88 : decode cX3_takeToken 88 = .ok (.aload_n 0, 1) := by decide +kernel
theorem dX3_takeToken_89 : decode cX3_takeToken 89 = .ok (.getfield 43, 3) := by decide +kernel
theorem dX3_takeToken_92 : decode cX3_takeToken 92 = .ok (.invokevirtual 51, 3) := by decide +kernel
theorem dX3_takeToken_95 : decode cX3_takeToken 95 = .ok (.istore_n 1, 1) := by decide +kernel
theorem dX3_takeToken_96 : decode cX3_takeToken 96 = .ok (.iload_n 1, 1) := by decide +kernel
theorem dX3_takeToken_97 : decode cX3_takeToken 97 = .ok (.invokestatic 137, 3) := by decide +kernel
theorem dX3_takeToken_100 : decode cX3_takeToken 100 = .ok (.ifCond .eq 47, 3) := by decide +kernel
theorem dX3_takeToken_103 : decode cX3_takeToken 103 = .ok (.aload_n 0, 1) := by decide +kernel
theorem dX3_takeToken_104 : decode cX3_takeToken 104 = .ok (.getfield 30, 3) := by decide +kernel
theorem dX3_takeToken_107 : decode cX3_takeToken 107 = .ok (.aload_n 0, 1) := by decide +kernel
theorem dX3_takeToken_108 : decode cX3_takeToken 108 = .ok (.getfield 18, 3) := by decide +kernel
theorem dX3_takeToken_111 : decode cX3_takeToken 111 = .ok (.getfield 46, 3) := by decide +kernel
theorem dX3_takeToken_114 : decode cX3_takeToken 114 = .ok (.if_icmp .ge 84, 3) := by decide +kernel
theorem dX3_takeToken_117 : decode cX3_takeToken 117 = .ok (.aload_n 0, 1) := by decide +kernel
theorem dX3_takeToken_118 : decode cX3_takeToken 118 = .ok (.getfield 18, 3) := by decide +kernel
theorem dX3_takeToken_121 : decode cX3_takeToken 121 = .ok (.aload_n 0, 1) := by decide +kernel
theorem dX3_takeToken_122 : decode cX3_takeToken 122 = .ok (.getfield 30, 3) := by decide +kernel
theorem dX3_takeToken_125 : decode cX3_takeToken 125 = .ok (.invokevirtual 51, 3) := by decide +kernel
theorem dX3_takeToken_128 : decode cX3_takeToken 128 = .ok (.invokestatic 137, 3) := by decide +kernel
theorem dX3_takeToken_131 : decode cX3_takeToken 131 = .ok (.ifCond .eq 67, 3) := by decide +kernel
theorem dX3_takeToken_134 : decode cX3_takeToken 134 = .ok (.aload_n 0, 1) := by decide +kernel
theorem dX3_takeToken_135 : decode cX3_takeToken 135 = .ok (.dup, 1) := by decide +kernel
theorem dX3_takeToken_136 : decode cX3_takeToken 136 = .ok (.getfield 30, 3) := by decide +kernel
theorem dX3_takeToken_139 : decode cX3_takeToken 139 = .ok (.iconst 1, 1) := by decide +kernel
theorem dX3_takeToken_140 : decode cX3_takeToken 140 = .ok (.iadd, 1) := by decide +kernel
theorem dX3_takeToken_141 : decode cX3_takeToken 141 = .ok (.putfield 30, 3) := by decide +kernel
theorem dX3_takeToken_144 : decode cX3_takeToken 144 = .ok (.goto (-41), 3) := by decide +kernel
theorem dX3_takeToken_147 : decode cX3_takeToken 147 = .ok (.iload_n 1, 1) := by decide +kernel
theorem dX3_takeToken_148 : decode cX3_takeToken 148 = .ok (.invokestatic 134, 3) := by decide +kernel
theorem dX3_takeToken_151 : decode cX3_takeToken 151 = .ok (.ifCond .eq 47, 3) := by decide +kernel
theorem dX3_takeToken_154 : decode cX3_takeToken 154 = .ok (.aload_n 0, 1) := by decide +kernel
theorem dX3_takeToken_155 : decode cX3_takeToken 155 = .ok (.getfield 30, 3) := by decide +kernel
theorem dX3_takeToken_158 : decode cX3_takeToken 158 = .ok (.aload_n 0, 1) := by decide +kernel
theorem dX3_takeToken_159 : decode cX3_takeToken 159 = .ok (.getfield 18, 3) := by decide +kernel
theorem dX3_takeToken_162 : decode cX3_takeToken 162 = .ok (.getfield 46, 3) := by decide +kernel
theorem dX3_takeToken_165 : decode cX3_takeToken 165 = .ok (.if_icmp .ge 33, 3) := by decide +kernel
theorem dX3_takeToken_168 : decode cX3_takeToken 168 = .ok (.aload_n 0, 1) := by decide +kernel
theorem dX3_takeToken_169 : decode cX3_takeToken 169 = .ok (.getfield 18, 3) := by decide +kernel
theorem dX3_takeToken_172 : decode cX3_takeToken 172 = .ok (.aload_n 0, 1) := by decide +kernel
theorem dX3_takeToken_173 : decode cX3_takeToken 173 = .ok (.getfield 30, 3) := by decide +kernel
theorem dX3_takeToken_176 : decode cX3_takeToken 176 = .ok (.invokevirtual 51, 3) := by decide +kernel
theorem dX3_takeToken_179 : decode cX3_takeToken 179 = .ok (.invokestatic 134, 3) := by decide +kernel
theorem dX3_takeToken_182 : decode cX3_takeToken 182 = .ok (.ifCond .eq 16, 3) := by decide +kernel
theorem dX3_takeToken_185 : decode cX3_takeToken 185 = .ok (.aload_n 0, 1) := by decide +kernel
theorem dX3_takeToken_186 : decode cX3_takeToken 186 = .ok (.dup, 1) := by decide +kernel
theorem dX3_takeToken_187 : decode cX3_takeToken 187 = .ok (.getfield 30, 3) := by decide +kernel
theorem dX3_takeToken_190 : decode cX3_takeToken 190 = .ok (.iconst 1, 1) := by decide +kernel
theorem dX3_takeToken_191 : decode cX3_takeToken 191 = .ok (.iadd, 1) := by decide +kernel
theorem dX3_takeToken_192 : decode cX3_takeToken 192 = .ok (.putfield 30, 3) := by decide +kernel
theorem dX3_takeToken_195 : decode cX3_takeToken 195 = .ok (.goto (-41), 3) := by decide +kernel
theorem dX3_takeToken_198 : decode cX3_takeToken 198 = .ok (.return_, 1) := by decide +kernel
theorem dX3_tokenIs_0 : decode cX3_tokenIs 0 = .ok (.aload_n 0, 1) := by decide +kernel
theorem dX3_tokenIs_1 : decode cX3_tokenIs 1 = .ok (.getfield 30, 3) := by decide +kernel
theorem dX3_tokenIs_4 : decode cX3_tokenIs 4 = .ok (.aload_n 0, 1) := by decide +kernel
theorem dX3_tokenIs_5 : decode cX3_tokenIs 5 = .ok (.getfield 43, 3) := by decide +kernel
theorem dX3_tokenIs_8 : decode cX3_tokenIs 8 = .ok (.isub, 1) := by decide +kernel
theorem dX3_tokenIs_9 : decode cX3_tokenIs 9 = .ok (.aload_n 1, 1) := by decide +kernel
theorem dX3_tokenIs_10 : decode cX3_tokenIs 10 = .ok (.invokevirtual 140, 3) := by decide +kernel
theorem dX3_tokenIs_13 : decode cX3_tokenIs 13 = .ok (.if_icmp .eq 5, 3) := by decide +kernel
theorem dX3_tokenIs_16 : decode cX3_tokenIs 16 = .ok (.iconst 0, 1) := by decide +kernel
theorem dX3_tokenIs_17 : decode cX3_tokenIs 17 = .ok (.ireturn, 1) := by decide +kernel
theorem dX3_tokenIs_18 : decode cX3_tokenIs 18 = .ok (.iconst 0, 1) := by decide +kernel
theorem dX3_tokenIs_19 : decode cX3_tokenIs 19 = .ok (.istore_n 2, 1) := by decide +kernel
theorem dX3_tokenIs_20 : decode cX3_tokenIs 20 = .ok (.iload_n 2, 1) := by decide +kernel
theorem dX3_tokenIs_21 : decode cX3_tokenIs 21 = .ok (.aload_n 1, 1) := by decide +kernel
theorem dX3_tokenIs_22 : decode cX3_tokenIs 22 = .ok (.invokevirtual 140, 3) := by decide +kernel
theorem dX3_tokenIs_25 : decode cX3_tokenIs 25 = .ok (.if_icmp .ge 32, 3) := by decide +kernel
theorem dX3_tokenIs_28 : decode cX3_tokenIs 28 = .ok (.aload_n 0, 1) := by decide +kernel
theorem dX3_tokenIs_29 : decode cX3_tokenIs 29 = .ok (.getfield 18, 3) := by decide +kernel
theorem dX3_tokenIs_32 : decode cX3_tokenIs 32 = .ok (.aload_n 0, 1) := by decide +kernel
theorem dX3_tokenIs_33 : decode cX3_tokenIs 33 = .ok (.getfield 43, 3) := by decide +kernel
theorem dX3_tokenIs_36 : decode cX3_tokenIs 36 = .ok (.iload_n 2, 1) := by decide +kernel
theorem dX3_tokenIs_37 : decode cX3_tokenIs 37 = .ok (.iadd, 1) := by decide +kernel
theorem dX3_tokenIs_38 : decode cX3_tokenIs 38 = .ok (.invokevirtual 51, 3) := by decide +kernel
theorem dX3_tokenIs_41 : decode cX3_tokenIs 41 = .ok (.aload_n 1, 1) := by decide +kernel
theorem dX3_tokenIs_42 : decode cX3_tokenIs 42 = .ok (.iload_n 2, 1) := by decide +kernel
theorem dX3_tokenIs_43 : decode cX3_tokenIs 43 = .ok (.invokevirtual 145, 3) := by decide +kernel
theorem dX3_tokenIs_46 : decode cX3_tokenIs 46 = .ok (.if_icmp .eq 5, 3) := by decide +kernel
theorem dX3_tokenIs_49 : decode cX3_tokenIs 49 = .ok (.iconst 0, 1) := by decide +kernel
theorem dX3_tokenIs_50 : decode cX3_tokenIs 50 = .ok (.ireturn, 1) := by decide +kernel
theorem dX3_tokenIs_51 : decode cX3_tokenIs 51 = .ok (.iinc 2 1, 3) := by decide +kernel
theorem dX3_tokenIs_54 : decode cX3_tokenIs 54 = .ok (.goto (-34), 3) := by decide +kernel
theorem dX3_tokenIs_57 : decode cX3_tokenIs 57 = .ok (.iconst 1, 1) := by decide +kernel
theorem dX3_tokenIs_58 : decode cX3_tokenIs 58 = .ok (.ireturn, 1) := by decide +kernel
theorem dX3_isLetter_0 : decode cX3_isLetter 0 = .ok (.iload_n 0, 1) := by decide +kernel
theorem dX3_isLetter_1 : decode cX3_isLetter 1 = .ok (.bipush 97, 2) := by decide +kernel
theorem dX3_isLetter_3 : decode cX3_isLetter 3 = .ok (.if_icmp .lt 13, 3) := by decide +kernel
theorem dX3_isLetter_6 : decode cX3_isLetter 6 = .ok (.iload_n 0, 1) := by decide +kernel
theorem dX3_isLetter_7 : decode cX3_isLetter 7 = .ok (.bipush 122, 2) := by decide +kernel
theorem dX3_isLetter_9 : decode cX3_isLetter 9 = .ok (.if_icmp .gt 7, 3) := by decide +kernel
theorem dX3_isLetter_12 : decode cX3_isLetter 12 = .ok (.iconst 1, 1) := by decide +kernel
theorem dX3_isLetter_13 : decode cX3_isLetter 13 = .ok (.goto 4, 3) := by decide +kernel
theorem dX3_isLetter_16 : decode cX3_isLetter 16 = .ok (.iconst 0, 1) := by decide +kernel
theorem dX3_isLetter_17 : decode cX3_isLetter 17 = .ok (.ireturn, 1) := by decide +kernel
theorem dX3_isDigit_0 : decode cX3_isDigit 0 = .ok (.iload_n 0, 1) := by decide +kernel
theorem dX3_isDigit_1 : decode cX3_isDigit 1 = .ok (.bipush 48, 2) := by decide +kernel
theorem dX3_isDigit_3 : decode cX3_isDigit 3 = .ok (.if_icmp .lt 13, 3) := by decide +kernel
theorem dX3_isDigit_6 : decode cX3_isDigit 6 = .ok (.iload_n 0, 1) := by decide +kernel
theorem dX3_isDigit_7 : decode cX3_isDigit 7 = .ok (.bipush 57, 2) := by decide +kernel
theorem dX3_isDigit_9 : decode cX3_isDigit 9 = .ok (.if_icmp .gt 7, 3) := by decide +kernel
theorem dX3_isDigit_12 : decode cX3_isDigit 12 = .ok (.iconst 1, 1) := by decide +kernel
theorem dX3_isDigit_13 : decode cX3_isDigit 13 = .ok (.goto 4, 3) := by decide +kernel
theorem dX3_isDigit_16 : decode cX3_isDigit 16 = .ok (.iconst 0, 1) := by decide +kernel
theorem dX3_isDigit_17 : decode cX3_isDigit 17 = .ok (.ireturn, 1) := by decide +kernel
theorem dX4_init_0 : decode cX4_init 0 = .ok (.aload_n 0, 1) := by decide +kernel
theorem dX4_init_1 : decode cX4_init 1 = .ok (.invokespecial 3, 3) := by decide +kernel
theorem dX4_init_4 : decode cX4_init 4 = .ok (.aload_n 0, 1) := by decide +kernel
theorem dX4_init_5 : decode cX4_init 5 = .ok (.iconst 0, 1) := by decide +kernel
theorem dX4_init_6 : decode cX4_init 6 = .ok (.putfield 9, 3) := by decide +kernel
theorem dX4_init_9 : decode cX4_init 9 = .ok (.aload_n 0, 1) := by decide +kernel
theorem dX4_init_10 : decode cX4_init 10 = .ok (.bipush 6, 2) := by decide +kernel
theorem dX4_init_12 : decode cX4_init 12 = .ok (.newarray .int, 2) := by decide +kernel
theorem dX4_init_14 : decode cX4_init 14 = .ok (.putfield 15, 3) := by decide +kernel
theorem dX4_init_17 : decode cX4_init 17 = .ok (.aload_n 0, 1) := by decide +kernel
theorem dX4_init_18 : decode cX4_init 18 = .ok (.bipush 6, 2) := by decide +kernel
theorem dX4_init_20 : decode cX4_init 20 = .ok (.newarray .int, 2) := by decide +kernel
theorem dX4_init_22 : decode cX4_init 22 = .ok (.putfield 19, 3) := by decide +kernel
theorem dX4_init_25 : decode cX4_init 25 = .ok (.aload_n 0, 1) := by decide +kernel
theorem dX4_init_26 : decode cX4_init 26 = .ok (.bipush 6, 2) := by decide +kernel
theorem dX4_init_28 : decode cX4_init 28 = .ok (.newarray .int, 2) := by decide +kernel
theorem dX4_init_30 : decode cX4_init 30 = .ok (.putfield 22, 3) := by decide +kernel
theorem dX4_init_33 : decode cX4_init 33 = .ok (.return_, 1) := by decide +kernel
theorem dX4_add_0 : decode cX4_add 0 = .ok (.aload_n 0, 1) := by decide +kernel
theorem dX4_add_1 : decode cX4_add 1 = .ok (.getfield 9, 3) := by decide +kernel
theorem dX4_add_4 : decode cX4_add 4 = .ok (.bipush 6, 2) := by decide +kernel
theorem dX4_add_6 : decode cX4_add 6 = .ok (.if_icmp .lt 8, 3) := by decide +kernel
theorem dX4_add_9 : decode cX4_add 9 = .ok (.aload_n 0, 1) := by decide +kernel
theorem dX4_add_10 : decode cX4_add 10 = .ok (.getfield 9, 3) := by decide +kernel
theorem dX4_add_13 : decode cX4_add 13 = .ok (.ireturn, 1) := by decide +kernel
theorem dX4_add_14 : decode cX4_add 14 = .ok (.aload_n 0, 1) := by decide +kernel
theorem dX4_add_15 : decode cX4_add 15 = .ok (.getfield 15, 3) := by decide +kernel
theorem dX4_add_18 : decode cX4_add 18 = .ok (.aload_n 0, 1) := by decide +kernel
theorem dX4_add_19 : decode cX4_add 19 = .ok (.getfield 9, 3) := by decide +kernel
theorem dX4_add_22 : decode cX4_add 22 = .ok (.iload_n 1, 1) := by decide +kernel
theorem dX4_add_23 : decode cX4_add 23 = .ok (.iastore, 1) := by decide +kernel
theorem dX4_add_24 : decode cX4_add 24 = .ok (.aload_n 0, 1) := by decide +kernel
theorem dX4_add_25 : decode cX4_add 25 = .ok (.getfield 19, 3) := by decide +kernel
theorem dX4_add_28 : decode cX4_add 28 = .ok (.aload_n 0, 1) := by decide +kernel
theorem dX4_add_29 : decode cX4_add 29 = .ok (.getfield 9, 3) := by decide +kernel
theorem dX4_add_32 : decode cX4_add 32 = .ok (.iload_n 2, 1) := by decide +kernel
theorem dX4_add_33 : decode cX4_add 33 = .ok (.iastore, 1) := by decide +kernel
theorem dX4_add_34 : decode cX4_add 34 = .ok (.aload_n 0, 1) := by decide +kernel
theorem dX4_add_35 : decode cX4_add 35 = .ok (.getfield 22, 3) := by decide +kernel
theorem dX4_add_38 : decode cX4_add 38 = .ok (.aload_n 0, 1) := by decide +kernel
theorem dX4_add_39 : decode cX4_add 39 = .ok (.getfield 9, 3) := by decide +kernel
theorem dX4_add_42 : decode cX4_add 42 = .ok (.iload_n 3, 1) := by decide +kernel
theorem dX4_add_43 : decode cX4_add 43 = .ok (.iastore, 1) := by decide +kernel
theorem dX4_add_44 : decode cX4_add 44 = .ok (.aload_n 0, 1) := by decide +kernel
theorem dX4_add_45 : decode cX4_add 45 = .ok (.dup, 1) := by decide +kernel
theorem dX4_add_46 : decode cX4_add 46 = .ok (.getfield 9, 3) := by decide +kernel
theorem dX4_add_49 : decode cX4_add 49 = .ok (.iconst 1, 1) := by decide +kernel
theorem dX4_add_50 : decode cX4_add 50 = .ok (.iadd, 1) := by decide +kernel
theorem dX4_add_51 : decode cX4_add 51 = .ok (.dup_x1, 1) := by decide +kernel
theorem dX4_add_52 : decode cX4_add 52 = .ok (.putfield 9, 3) := by decide +kernel
theorem dX4_add_55 : decode cX4_add 55 = .ok (.ireturn, 1) := by decide +kernel
theorem dX4_clear_0 : decode cX4_clear 0 = .ok (.aload_n 0, 1) := by decide +kernel
theorem dX4_clear_1 : decode cX4_clear 1 = .ok (.getfield 9, 3) := by decide +kernel
theorem dX4_clear_4 : decode cX4_clear 4 = .ok (.istore_n 1, 1) := by decide +kernel
theorem dX4_clear_5 : decode cX4_clear 5 = .ok (.aload_n 0, 1) := by decide +kernel
theorem dX4_clear_6 : decode cX4_clear 6 = .ok (.iconst 0, 1) := by decide +kernel
theorem dX4_clear_7 : decode cX4_clear 7 = .ok (.putfield 9, 3) := by decide +kernel
theorem dX4_clear_10 : decode cX4_clear 10 = .ok (.iload_n 1, 1) := by decide +kernel
theorem dX4_clear_11 : decode cX4_clear 11 = .ok (.ireturn, 1) := by decide +kernel
theorem dX4_lastOf_0 : decode cX4_lastOf 0 = .ok (.iconst (-1), 1) := by decide +kernel
theorem dX4_lastOf_1 : decode cX4_lastOf 1 = .ok (.istore_n 2, 1) := by decide +kernel
theorem dX4_lastOf_2 : decode cX4_lastOf 2 = .ok (.iconst 0, 1) := by decide +kernel
theorem dX4_lastOf_3 : decode cX4_lastOf 3 = .ok (.istore_n 3, 1) := by decide +kernel
theorem dX4_lastOf_4 : decode cX4_lastOf 4 = .ok (.iload_n 3, 1) := by decide +kernel
theorem dX4_lastOf_5 : decode cX4_lastOf 5 = .ok (.aload_n 0, 1) := by decide +kernel
theorem dX4_lastOf_6 : decode cX4_lastOf 6 = .ok (.getfield 9, 3) := by decide +kernel
theorem dX4_lastOf_9 : decode cX4_lastOf 9 = .ok (.if_icmp .ge 30, 3) := by decide +kernel
theorem dX4_lastOf_12 : decode cX4_lastOf 12 = .ok (.aload_n 0, 1) := by decide +kernel
theorem dX4_lastOf_13 : decode cX4_lastOf 13 = .ok (.getfield 15, 3) := by decide +kernel
theorem dX4_lastOf_16 : decode cX4_lastOf 16 = .ok (.iload_n 3, 1) := by decide +kernel
theorem dX4_lastOf_17 : decode cX4_lastOf 17 = .ok (.iaload, 1) := by decide +kernel
theorem dX4_lastOf_18 : decode cX4_lastOf 18 = .ok (.iload_n 1, 1) := by decide +kernel
theorem dX4_lastOf_19 : decode cX4_lastOf 19 = .ok (.if_icmp .ne 14, 3) := by decide +kernel
theorem dX4_lastOf_22 : decode cX4_lastOf 22 = .ok (.iload_n 2, 1) := by decide +kernel
theorem dX4_lastOf_23 : decode cX4_lastOf 23 = .ok (.aload_n 0, 1) := by decide +kernel
theorem dX4_lastOf_24 : decode cX4_lastOf 24 = .ok (.getfield 22, 3) := by decide +kernel
theorem dX4_lastOf_27 : decode cX4_lastOf 27 = .ok (.iload_n 3, 1) := by decide +kernel
theorem dX4_lastOf_28 : decode cX4_lastOf 28 = .ok (.iaload, 1) := by decide +kernel
theorem dX4_lastOf_29 : decode cX4_lastOf 29 = .ok (.invokestatic 25, 3) := by decide +kernel
theorem dX4_lastOf_32 : decode cX4_lastOf 32 = .ok (.istore_n 2, 1) := by decide +kernel
theorem dX4_lastOf_33 : decode cX4_lastOf 33 = .ok (.iinc 3 1, 3) := by decide +kernel
theorem dX4_lastOf_36 : decode cX4_lastOf 36 = .ok (.goto (-32), 3) := by decide +kernel
theorem dX4_lastOf_39 : decode cX4_lastOf 39 = .ok (.iload_n 2, 1) := by decide +kernel
theorem dX4_lastOf_40 : decode cX4_lastOf 40 = .ok (.ireturn, 1) := by decide +kernel
theorem dX4_allow_0 : decode cX4_allow 0 = .ok (.iconst 0, 1) := by decide +kernel
theorem dX4_allow_1 : decode cX4_allow 1 = .ok (.istore 4, 2) := by decide +kernel
theorem dX4_allow_3 : decode cX4_allow 3 = .ok (.iload 4, 2) := by decide +kernel
theorem dX4_allow_5 : decode cX4_allow 5 = .ok (.aload_n 0, 1) := by decide +kernel
theorem dX4_allow_6 : decode cX4_allow 6 = .ok (.getfield 9, 3) := by decide +kernel
theorem dX4_allow_9 : decode cX4_allow 9 = .ok (.if_icmp .ge 44, 3) := by decide +kernel
theorem dX4_allow_12 : decode cX4_allow 12 = .ok (.aload_n 0, 1) := by decide +kernel
theorem dX4_allow_13 : decode cX4_allow 13 = .ok (.getfield 15, 3) := by decide +kernel
theorem dX4_allow_16 : decode cX4_allow 16 = .ok (.iload 4, 2) := by decide +kernel
theorem dX4_allow_18 : decode cX4_allow 18 = .ok (.iaload, 1) := by decide +kernel
theorem dX4_allow_19 : decode cX4_allow 19 = .ok (.iload_n 1, 1) := by decide +kernel
theorem dX4_allow_20 : decode cX4_allow 20 = .ok (.if_icmp .ne 27, 3) := by decide +kernel
theorem dX4_allow_23 : decode cX4_allow 23 = .ok (.aload_n 0, 1) := by decide +kernel
theorem dX4_allow_24 : decode cX4_allow 24 = .ok (.getfield 22, 3) := by decide +kernel
theorem dX4_allow_27 : decode cX4_allow 27 = .ok (.iload 4, 2) := by decide +kernel
theorem dX4_allow_29 : decode cX4_allow 29 = .ok (.iaload, 1) := by decide +kernel
theorem dX4_allow_30 : decode cX4_allow 30 = .ok (.iload_n 3, 1) := by decide +kernel
theorem dX4_allow_31 : decode cX4_allow 31 = .ok (.if_icmp .ne 16, 3) := by decide +kernel
theorem dX4_allow_34 : decode cX4_allow 34 = .ok (.aload_n 0, 1) := by decide +kernel
theorem dX4_allow_35 : decode cX4_allow 35 = .ok (.getfield 19, 3) := by decide +kernel
theorem dX4_allow_38 : decode cX4_allow 38 = .ok (.iload 4, 2) := by decide +kernel
theorem dX4_allow_40 : decode cX4_allow 40 = .ok (.iaload, 1) := by decide +kernel
theorem dX4_allow_41 : decode cX4_allow 41 = .ok (.iload_n 2, 1) := by decide +kernel
theorem dX4_allow_42 : decode cX4_allow 42 = .ok (.if_icmp .eq 5, 3) := by decide +kernel
theorem dX4_allow_45 : decode cX4_allow 45 = .ok (.iconst 0, 1) := by decide +kernel
theorem dX4_allow_46 : decode cX4_allow 46 = .ok (.ireturn, 1) := by decide +kernel
theorem dX4_allow_47 : decode cX4_allow 47 = .ok (.iinc 4 1, 3) := by decide +kernel
theorem dX4_allow_50 : decode cX4_allow 50 = .ok (.goto (-47), 3) := by decide +kernel
theorem dX4_allow_53 : decode cX4_allow 53 = .ok (.iconst 1, 1) := by decide +kernel
theorem dX4_allow_54 : decode cX4_allow 54 = .ok (.ireturn, 1) := by decide +kernel
theorem dX5_init_0 : decode cX5_init 0 = .ok (.aload_n 0, 1) := by decide +kernel
theorem dX5_init_1 : decode cX5_init 1 = .ok (.invokespecial 3, 3) := by decide +kernel
theorem dX5_init_4 : decode cX5_init 4 = .ok (.aload_n 0, 1) := by decide +kernel
theorem dX5_init_5 : decode cX5_init 5 = .ok (.sipush 200, 3) := by decide +kernel
theorem dX5_init_8 : decode cX5_init 8 = .ok (.newarray .int, 2) := by decide +kernel
theorem dX5_init_10 : decode cX5_init 10 = .ok (.putfield 9, 3) := by decide +kernel
theorem dX5_init_13 : decode cX5_init 13 = .ok (.aload_n 0, 1) := by decide +kernel
theorem dX5_init_14 : decode cX5_init 14 = .ok (.iconst 0, 1) := by decide +kernel
theorem dX5_init_15 : decode cX5_init 15 = .ok (.putfield 15, 3) := by decide +kernel
theorem dX5_init_18 : decode cX5_init 18 = .ok (.return_, 1) := by decide +kernel
theorem dX5_append_0 : decode cX5_append 0 = .ok (.aload_n 0, 1) := by decide +kernel
theorem dX5_append_1 : decode cX5_append 1 = .ok (.getfield 15, 3) := by decide +kernel
theorem dX5_append_4 : decode cX5_append 4 = .ok (.sipush 200, 3) := by decide +kernel
theorem dX5_append_7 : decode cX5_append 7 = .ok (.if_icmp .ge 20, 3) := by decide +kernel
theorem dX5_append_10 : decode cX5_append 10 = .ok (.aload_n 0, 1) := by decide +kernel
theorem dX5_append_11 : decode cX5_append 11 = .ok (.getfield 9, 3) := by decide +kernel
theorem dX5_append_14 : decode cX5_append 14 = .ok (.aload_n 0, 1) := by decide +kernel
theorem dX5_append_15 : decode cX5_append 15 = .ok (.dup, 1) := by decide +kernel
theorem dX5_append_16 : decode cX5_append 16 = .ok (.getfield 15, 3) := by decide +kernel
theorem dX5_append_19 : decode cX5_append 19 = .ok (.dup_x1, 1) := by decide +kernel
theorem dX5_append_20 : decode cX5_append 20 = .ok (.iconst 1, 1) := by decide +kernel
theorem dX5_append_21 : decode cX5_append 21 = .ok (.iadd, 1) := by decide +kernel
theorem dX5_append_22 : decode cX5_append 22 = .ok (.putfield 15, 3) := by decide +kernel
theorem dX5_append_25 : decode cX5_append 25 = .ok (.iload_n 1, 1) := by decide +kernel
theorem dX5_append_26 : decode cX5_append 26 = .ok (.iastore, 1) := by decide +kernel
theorem dX5_append_27 : decode cX5_append 27 = .ok (.return_, 1) := by decide +kernel
theorem dX5_clear_0 : decode cX5_clear 0 = .ok (.aload_n 0, 1) := by decide +kernel
theorem dX5_clear_1 : decode cX5_clear 1 = .ok (.getfield 15, 3) := by decide +kernel
theorem dX5_clear_4 : decode cX5_clear 4 = .ok (.istore_n 1, 1) := by decide +kernel
theorem dX5_clear_5 : decode cX5_clear 5 = .ok (.aload_n 0, 1) := by decide +kernel
theorem dX5_clear_6 : decode cX5_clear 6 = .ok (.iconst 0, 1) := by decide +kernel
theorem dX5_clear_7 : decode cX5_clear 7 = .ok (.putfield 15, 3) := by decide +kernel
theorem dX5_clear_10 : decode cX5_clear 10 = .ok (.iload_n 1, 1) := by decide +kernel
theorem dX5_clear_11 : decode cX5_clear 11 = .ok (.ireturn, 1) := by decide +kernel
theorem dX5_at_0 : decode cX5_at 0 = .ok (.iload_n 1, 1) := by decide +kernel
theorem dX5_at_1 : decode cX5_at 1 = .ok (.ifCond .lt 20, 3) := by decide +kernel
theorem dX5_at_4 : decode cX5_at 4 = .ok (.iload_n 1, 1) := by decide +kernel
theorem dX5_at_5 : decode cX5_at 5 = .ok (.aload_n 0, 1) := by decide +kernel
theorem dX5_at_6 : decode cX5_at 6 = .ok (.getfield 15, 3) := by decide +kernel
theorem dX5_at_9 : decode cX5_at 9 = .ok (.if_icmp .ge 12, 3) := by decide +kernel
theorem dX5_at_12 : decode cX5_at 12 = .ok (.aload_n 0, 1) := by decide +kernel
theorem dX5_at_13 : decode cX5_at 13 = .ok (.getfield 9, 3) := by decide +kernel
theorem dX5_at_16 : decode cX5_at 16 = .ok (.iload_n 1, 1) := by decide +kernel
theorem dX5_at_17 : decode cX5_at 17 = .ok (.iaload, 1) := by decide +kernel
theorem dX5_at_18 : decode cX5_at 18 = .ok (.goto 4, 3) := by decide +kernel
theorem dX5_at_21 : decode cX5_at 21 = .ok (.iconst (-1), 1) := by decide +kernel
theorem dX5_at_22 : decode cX5_at 22 = .ok (.ireturn, 1) := by decide +kernel
theorem dX6_init_0 : decode cX6_init 0 = .ok (.aload_n 0, 1) := by decide +kernel
theorem dX6_init_1 : decode cX6_init 1 = .ok (.invokespecial 3, 3) := by decide +kernel
theorem dX6_init_4 : decode cX6_init 4 = .ok (.aload_n 0, 1) := by decide +kernel
theorem dX6_init_5 : decode cX6_init 5 = .ok (.bipush 8, 2) := by decide +kernel
theorem dX6_init_7 : decode cX6_init 7 = .ok (.newarray .int, 2) := by decide +kernel
theorem dX6_init_9 : decode cX6_init 9 = .ok (.putfield 9, 3) := by decide +kernel
theorem dX6_init_12 : decode cX6_init 12 = .ok (.aload_n 0, 1) := by decide +kernel
theorem dX6_init_13 : decode cX6_init 13 = .ok (.bipush 12, 2) := by decide +kernel
theorem dX6_init_15 : decode cX6_init 15 = .ok (.newarray .int, 2) := by decide +kernel
theorem dX6_init_17 : decode cX6_init 17 = .ok (.putfield 15, 3) := by decide +kernel
theorem dX6_init_20 : decode cX6_init 20 = .ok (.aload_n 0, 1) := by decide +kernel
theorem dX6_init_21 : decode cX6_init 21 = .ok (.bipush 12, 2) := by decide +kernel
theorem dX6_init_23 : decode cX6_init 23 = .ok (.newarray .int, 2) := by decide +kernel
theorem dX6_init_25 : decode cX6_init 25 = .ok (.putfield 18, 3) := by decide +kernel
theorem dX6_init_28 : decode cX6_init 28 = .ok (.aload_n 0, 1) := by decide +kernel
theorem dX6_init_29 : decode cX6_init 29 = .ok (.bipush 12, 2) := by decide +kernel
theorem dX6_init_31 : decode cX6_init 31 = .ok (.newarray .int, 2) := by decide +kernel
theorem dX6_init_33 : decode cX6_init 33 = .ok (.putfield 21, 3) := by decide +kernel
theorem dX6_init_36 : decode cX6_init 36 = .ok (.aload_n 0, 1) := by decide +kernel
theorem dX6_init_37 : decode cX6_init 37 = .ok (.bipush 6, 2) := by decide +kernel
theorem dX6_init_39 : decode cX6_init 39 = .ok (.newarray .int, 2) := by decide +kernel
theorem dX6_init_41 : decode cX6_init 41 = .ok (.putfield 24, 3) := by decide +kernel
theorem dX6_init_44 : decode cX6_init 44 = .ok (.aload_n 0, 1) := by decide +kernel
theorem dX6_init_45 : decode cX6_init 45 = .ok (.bipush 6, 2) := by decide +kernel
theorem dX6_init_47 : decode cX6_init 47 = .ok (.newarray .int, 2) := by decide +kernel
theorem dX6_init_49 : decode cX6_init 49 = .ok (.putfield 27, 3) := by decide +kernel
theorem dX6_init_52 : decode cX6_init 52 = .ok (.aload_n 0, 1) := by decide +kernel
theorem dX6_init_53 : decode cX6_init 53 = .ok (.bipush 6, 2) := by decide +kernel
theorem dX6_init_55 : decode cX6_init 55 = .ok (.newarray .int, 2) := by decide +kernel
theorem dX6_init_57 : decode cX6_init 57 = .ok (.putfield 30, 3) := by decide +kernel
theorem dX6_init_60 : decode cX6_init 60 = .ok (.aload_n 0, 1) := by decide +kernel
theorem dX6_init_61 : decode cX6_init 61 = .ok (.iconst 2, 1) := by decide +kernel
theorem dX6_init_62 : decode cX6_init 62 = .ok (.invokevirtual 33, 3) := by decide +kernel
theorem dX6_init_65 : decode cX6_init 65 = .ok (.return_, 1) := by decide +kernel
theorem dX6_becomeNew_0 : decode cX6_becomeNew 0 = .ok (.aload_n 0, 1) := by decide +kernel
theorem dX6_becomeNew_1 : decode cX6_becomeNew 1 = .ok (.iload_n 1, 1) := by decide +kernel
theorem dX6_becomeNew_2 : decode cX6_becomeNew 2 = .ok (.putfield 37, 3) := by decide +kernel
theorem dX6_becomeNew_5 : decode cX6_becomeNew 5 = .ok (.aload_n 0, 1) := by decide +kernel
theorem dX6_becomeNew_6 : decode cX6_becomeNew 6 = .ok (.iconst 0, 1) := by decide +kernel
theorem dX6_becomeNew_7 : decode cX6_becomeNew 7 = .ok (.putfield 41, 3) := by decide +kernel
theorem dX6_becomeNew_10 : decode cX6_becomeNew 10 = .ok (.aload_n 0, 1) := by decide +kernel
theorem dX6_becomeNew_11 : decode cX6_becomeNew 11 = .ok (.iconst 0, 1) := by decide +kernel
theorem dX6_becomeNew_12 : decode cX6_becomeNew 12 = .ok (.putfield 44, 3) := by decide +kernel
theorem dX6_becomeNew_15 : decode cX6_becomeNew 15 = .ok (.aload_n 0, 1) := by decide +kernel
theorem dX6_becomeNew_16 : decode cX6_becomeNew 16 = .ok (.iconst 1, 1) := by decide +kernel
theorem dX6_becomeNew_17 : decode cX6_becomeNew 17 = .ok (.putfield 47, 3) := by decide +kernel
theorem dX6_becomeNew_20 : decode cX6_becomeNew 20 = .ok (.aload_n 0, 1) := by decide +kernel
theorem dX6_becomeNew_21 : decode cX6_becomeNew 21 = .ok (.iconst 0, 1) := by decide +kernel
theorem dX6_becomeNew_22 : decode cX6_becomeNew 22 = .ok (.putfield 50, 3) := by decide +kernel
theorem dX6_becomeNew_25 : decode cX6_becomeNew 25 = .ok (.aload_n 0, 1) := by decide +kernel
theorem dX6_becomeNew_26 : decode cX6_becomeNew 26 = .ok (.getfield 9, 3) := by decide +kernel
theorem dX6_becomeNew_29 : decode cX6_becomeNew 29 = .ok (.iconst 0, 1) := by decide +kernel
theorem dX6_becomeNew_30 : decode cX6_becomeNew 30 = .ok (.invokestatic 53, 3) := by decide +kernel
theorem dX6_becomeNew_33 : decode cX6_becomeNew 33 = .ok (.return_, 1) := by decide +kernel
theorem dX6_takeFrom_0 : decode cX6_takeFrom 0 = .ok (.aload_n 0, 1) := by decide +kernel
theorem dX6_takeFrom_1 : decode cX6_takeFrom 1 = .ok (.aload_n 1, 1) := by decide +kernel
theorem dX6_takeFrom_2 : decode cX6_takeFrom 2 = .ok (.getfield 37, 3) := by decide +kernel
theorem dX6_takeFrom_5 : decode cX6_takeFrom 5 = .ok (.putfield 37, 3) := by decide +kernel
theorem dX6_takeFrom_8 : decode cX6_takeFrom 8 = .ok (.aload_n 0, 1) := by decide +kernel
theorem dX6_takeFrom_9 : decode cX6_takeFrom 9 = .ok (.aload_n 1, 1) := by decide +kernel
theorem dX6_takeFrom_10 : decode cX6_takeFrom 10 = .ok (.getfield 41, 3) := by decide +kernel
theorem dX6_takeFrom_13 : decode cX6_takeFrom 13 = .ok (.putfield 41, 3) := by decide +kernel
theorem dX6_takeFrom_16 : decode cX6_takeFrom 16 = .ok (.aload_n 0, 1) := by decide +kernel
theorem dX6_takeFrom_17 : decode cX6_takeFrom 17 = .ok (.aload_n 1, 1) := by decide +kernel
theorem dX6_takeFrom_18 : decode cX6_takeFrom 18 = .ok (.getfield 44, 3) := by decide +kernel
theorem dX6_takeFrom_21 : decode cX6_takeFrom 21 = .ok (.putfield 44, 3) := by decide +kernel
theorem dX6_takeFrom_24 : decode cX6_takeFrom 24 = .ok (.aload_n 0, 1) := by decide +kernel
theorem dX6_takeFrom_25 : decode cX6_takeFrom 25 = .ok (.aload_n 1, 1) := by decide +kernel
theorem dX6_takeFrom_26 : decode cX6_takeFrom 26 = .ok (.getfield 47, 3) := by decide +kernel
theorem dX6_takeFrom_29 : decode cX6_takeFrom 29 = .ok (.putfield 47, 3) := by decide +kernel
theorem dX6_takeFrom_32 : decode cX6_takeFrom 32 = .ok (.aload_n 0, 1) := by decide +kernel
theorem dX6_takeFrom_33 : decode cX6_takeFrom 33 = .ok (.aload_n 1, 1) := by decide +kernel
theorem dX6_takeFrom_34 : decode cX6_takeFrom 34 = .ok (.getfield 50, 3) := by decide +kernel
theorem dX6_takeFrom_37 : decode cX6_takeFrom 37 = .ok (.putfield 50, 3) := by decide +kernel
theorem dX6_takeFrom_40 : decode cX6_takeFrom 40 = .ok (.aload_n 1, 1) := by decide +kernel
theorem dX6_takeFrom_41 : decode cX6_takeFrom 41 = .ok (.getfield 9, 3) := by decide +kernel
theorem dX6_takeFrom_44 : decode cX6_takeFrom 44 = .ok (.iconst 0, 1) := by decide +kernel
theorem dX6_takeFrom_45 : decode cX6_takeFrom 45 = .ok (.aload_n 0, 1) := by decide +kernel
theorem dX6_takeFrom_46 : decode cX6_takeFrom 46 = .ok (.getfield 9, 3) := by decide +kernel
theorem dX6_takeFrom_49 : decode cX6_takeFrom 49 = .ok (.iconst 0, 1) := by decide +kernel
theorem dX6_takeFrom_50 : decode cX6_takeFrom 50 = .ok (.bipush 8, 2) := by decide +kernel
theorem dX6_takeFrom_52 : decode cX6_takeFrom 52 = .ok (.invokestatic 59, 3) := by decide +kernel
theorem dX6_takeFrom_55 : decode cX6_takeFrom 55 = .ok (.aload_n 1, 1) := by decide +kernel
theorem dX6_takeFrom_56 : decode cX6_takeFrom 56 = .ok (.getfield 15, 3) := by decide +kernel
theorem dX6_takeFrom_59 : decode cX6_takeFrom 59 = .ok (.iconst 0, 1) := by decide +kernel
theorem dX6_takeFrom_60 : decode cX6_takeFrom 60 = .ok (.aload_n 0, 1) := by decide +kernel
theorem dX6_takeFrom_61 : decode cX6_takeFrom 61 = .ok (.getfield 15, 3) := by decide +kernel
theorem dX6_takeFrom_64 : decode cX6_takeFrom 64 = .ok (.iconst 0, 1) := by decide +kernel
theorem dX6_takeFrom_65 : decode cX6_takeFrom 65 = .ok (.bipush 12, 2) := by decide +kernel
theorem dX6_takeFrom_67 : decode cX6_takeFrom 67 = .ok (.invokestatic 59, 3) := by decide +kernel
theorem dX6_takeFrom_70 : decode cX6_takeFrom 70 = .ok (.aload_n 1, 1) := by decide +kernel
theorem dX6_takeFrom_71 : decode cX6_takeFrom 71 = .ok (.getfield 18, 3) := by decide +kernel
theorem dX6_takeFrom_74 : decode cX6_takeFrom 74 = .ok (.iconst 0, 1) := by decide +kernel
theorem dX6_takeFrom_75 : decode cX6_takeFrom 75 = .ok (.aload_n 0, 1) := by decide +kernel
theorem dX6_takeFrom_76 : decode cX6_takeFrom 76 = .ok (.getfield 18, 3) := by decide +kernel
theorem dX6_takeFrom_79 : decode cX6_takeFrom 79 = .ok (.iconst 0, 1) := by decide +kernel
theorem dX6_takeFrom_80 : decode cX6_takeFrom 80 = .ok (.bipush 12, 2) := by decide +kernel
theorem dX6_takeFrom_82 : decode cX6_takeFrom 82 = .ok (.invokestatic 59, 3) := by decide +kernel
theorem dX6_takeFrom_85 : decode cX6_takeFrom 85 = .ok (.aload_n 1, 1) := by decide +kernel
theorem dX6_takeFrom_86 : decode cX6_takeFrom 86 = .ok (.getfield 21, 3) := by decide +kernel
theorem dX6_takeFrom_89 : decode cX6_takeFrom 89 = .ok (.iconst 0, 1) := by decide +kernel
theorem dX6_takeFrom_90 : decode cX6_takeFrom 90 = .ok (.aload_n 0, 1) := by decide +kernel
theorem dX6_takeFrom_91 : decode cX6_takeFrom 91 = .ok (.getfield 21, 3) := by decide +kernel
theorem dX6_takeFrom_94 : decode cX6_takeFrom 94 = .ok (.iconst 0, 1) := by decide +kernel
theorem dX6_takeFrom_95 : decode cX6_takeFrom 95 = .ok (.bipush 12, 2) := by decide +kernel
theorem dX6_takeFrom_97 : decode cX6_takeFrom 97 = .ok (.invokestatic 59, 3) := by decide +kernel
theorem dX6_takeFrom_100 : decode cX6_takeFrom 100 = .ok (.aload_n 1, 1) := by decide +kernel
theorem dX6_takeFrom_101 : decode cX6_takeFrom 101 = .ok (.getfield 24, 3) := by decide +kernel
theorem dX6_takeFrom_104 : decode cX6_takeFrom 104 = .ok (.iconst 0, 1) := by decide +kernel
theorem dX6_takeFrom_105 : decode cX6_takeFrom 105 = .ok (.aload_n 0, 1) := by decide +kernel
theorem dX6_takeFrom_106 : decode cX6_takeFrom 106 = .ok (.getfield 24, 3) := by decide +kernel
theorem dX6_takeFrom_109 : decode cX6_takeFrom 109 = .ok (.iconst 0, 1) := by decide +kernel
theorem dX6_takeFrom_110 : decode cX6_takeFrom 110 = .ok (.bipush 6, 2) := by decide +kernel
theorem dX6_takeFrom_112 : decode cX6_takeFrom 112 = .ok (.invokestatic 59, 3) := by decide +kernel
theorem dX6_takeFrom_115 : decode cX6_takeFrom 115 = .ok (.aload_n 1, 1) := by decide +kernel
theorem dX6_takeFrom_116 : decode cX6_takeFrom 116 = .ok (.getfield 27, 3) := by decide +kernel
theorem dX6_takeFrom_119 : decode cX6_takeFrom 119 = .ok (.iconst 0, 1) := by decide +kernel
theorem dX6_takeFrom_120 : decode cX6_takeFrom 120 = .ok (.aload_n 0, 1) := by decide +kernel
theorem dX6_takeFrom_121 : decode cX6_takeFrom 121 = .ok (.getfield 27, 3) := by decide +kernel
theorem dX6_takeFrom_124 : decode cX6_takeFrom 124 = .ok (.iconst 0, 1) := by decide +kernel
theorem dX6_takeFrom_125 : decode cX6_takeFrom 125 = .ok (.bipush 6, 2) := by decide +kernel
theorem dX6_takeFrom_127 : decode cX6_takeFrom 127 = .ok (.invokestatic 59, 3) := by decide +kernel
theorem dX6_takeFrom_130 : decode cX6_takeFrom 130 = .ok (.aload_n 1, 1) := by decide +kernel
theorem dX6_takeFrom_131 : decode cX6_takeFrom 131 = .ok (.getfield 30, 3) := by decide +kernel
theorem dX6_takeFrom_134 : decode cX6_takeFrom 134 = .ok (.iconst 0, 1) := by decide +kernel
theorem dX6_takeFrom_135 : decode cX6_takeFrom 135 = .ok (.aload_n 0, 1) := by decide +kernel
theorem dX6_takeFrom_136 : decode cX6_takeFrom 136 = .ok (.getfield 30, 3) := by decide +kernel
theorem dX6_takeFrom_139 : decode cX6_takeFrom 139 = .ok (.iconst 0, 1) := by decide +kernel
theorem dX6_takeFrom_140 : decode cX6_takeFrom 140 = .ok (.bipush 6, 2) := by decide +kernel
theorem dX6_takeFrom_142 : decode cX6_takeFrom 142 = .ok (.invokestatic 59, 3) := by decide +kernel
theorem dX6_takeFrom_145 : decode cX6_takeFrom 145 = .ok (.return_, 1) := by decide +kernel
theorem dX6_addTrail_0 : decode cX6_addTrail 0 = .ok (.aload_n 0, 1) := by decide +kernel
theorem dX6_addTrail_1 : decode cX6_addTrail 1 = .ok (.getfield 41, 3) := by decide +kernel
theorem dX6_addTrail_4 : decode cX6_addTrail 4 = .ok (.bipush 12, 2) := by decide +kernel
theorem dX6_addTrail_6 : decode cX6_addTrail 6 = .ok (.if_icmp .lt 4, 3) := by decide +kernel
theorem dX6_addTrail_9 : decode cX6_addTrail 9 = .ok (.return_, 1) := by decide +kernel
theorem dX6_addTrail_10 : decode cX6_addTrail 10 = .ok (.aload_n 0, 1) := by decide +kernel
theorem dX6_addTrail_11 : decode cX6_addTrail 11 = .ok (.getfield 15, 3) := by decide +kernel
theorem dX6_addTrail_14 : decode cX6_addTrail 14 = .ok (.aload_n 0, 1) := by decide +kernel
theorem dX6_addTrail_15 : decode cX6_addTrail 15 = .ok (.getfield 41, 3) := by decide +kernel
theorem dX6_addTrail_18 : decode cX6_addTrail 18 = .ok (.iload_n 1, 1) := by decide +kernel
theorem dX6_addTrail_19 : decode cX6_addTrail 19 = .ok (.iastore, 1) := by decide +kernel
theorem dX6_addTrail_20 : decode cX6_addTrail 20 = .ok (.aload_n 0, 1) := by decide +kernel
theorem dX6_addTrail_21 : decode cX6_addTrail 21 = .ok (.getfield 18, 3) := by decide +kernel
theorem dX6_addTrail_24 : decode cX6_addTrail 24 = .ok (.aload_n 0, 1) := by decide +kernel
theorem dX6_addTrail_25 : decode cX6_addTrail 25 = .ok (.getfield 41, 3) := by decide +kernel
theorem dX6_addTrail_28 : decode cX6_addTrail 28 = .ok (.iload_n 2, 1) := by decide +kernel
theorem dX6_addTrail_29 : decode cX6_addTrail 29 = .ok (.iastore, 1) := by decide +kernel
theorem dX6_addTrail_30 : decode cX6_addTrail 30 = .ok (.aload_n 0, 1) := by decide +kernel
theorem dX6_addTrail_31 : decode cX6_addTrail 31 = .ok (.getfield 21, 3) := by decide +kernel
theorem dX6_addTrail_34 : decode cX6_addTrail 34 = .ok (.aload_n 0, 1) := by decide +kernel
theorem dX6_addTrail_35 : decode cX6_addTrail 35 = .ok (.getfield 41, 3) := by decide +kernel
theorem dX6_addTrail_38 : decode cX6_addTrail 38 = .ok (.iload_n 3, 1) := by decide +kernel
theorem dX6_addTrail_39 : decode cX6_addTrail 39 = .ok (.iastore, 1) := by decide +kernel
theorem dX6_addTrail_40 : decode cX6_addTrail 40 = .ok (.aload_n 0, 1) := by decide +kernel
theorem dX6_addTrail_41 : decode cX6_addTrail 41 = .ok (.dup, 1) := by decide +kernel
theorem dX6_addTrail_42 : decode cX6_addTrail 42 = .ok (.getfield 41, 3) := by decide +kernel
theorem dX6_addTrail_45 : decode cX6_addTrail 45 = .ok (.iconst 1, 1) := by decide +kernel
theorem dX6_addTrail_46 : decode cX6_addTrail 46 = .ok (.iadd, 1) := by decide +kernel
theorem dX6_addTrail_47 : decode cX6_addTrail 47 = .ok (.putfield 41, 3) := by decide +kernel
theorem dX6_addTrail_50 : decode cX6_addTrail 50 = .ok (.return_, 1) := by decide +kernel
theorem dX6_addFile_0 : decode cX6_addFile 0 = .ok (.aload_n 0, 1) := by decide +kernel
theorem dX6_addFile_1 : decode cX6_addFile 1 = .ok (.getfield 44, 3) := by decide +kernel
theorem dX6_addFile_4 : decode cX6_addFile 4 = .ok (.bipush 6, 2) := by decide +kernel
theorem dX6_addFile_6 : decode cX6_addFile 6 = .ok (.if_icmp .lt 4, 3) := by decide +kernel
theorem dX6_addFile_9 : decode cX6_addFile 9 = .ok (.return_, 1) := by decide +kernel
theorem dX6_addFile_10 : decode cX6_addFile 10 = .ok (.aload_n 0, 1) := by decide +kernel
theorem dX6_addFile_11 : decode cX6_addFile 11 = .ok (.getfield 24, 3) := by decide +kernel
theorem dX6_addFile_14 : decode cX6_addFile 14 = .ok (.aload_n 0, 1) := by decide +kernel
theorem dX6_addFile_15 : decode cX6_addFile 15 = .ok (.getfield 44, 3) := by decide +kernel
theorem dX6_addFile_18 : decode cX6_addFile 18 = .ok (.iload_n 1, 1) := by decide +kernel
theorem dX6_addFile_19 : decode cX6_addFile 19 = .ok (.iastore, 1) := by decide +kernel
theorem dX6_addFile_20 : decode cX6_addFile 20 = .ok (.aload_n 0, 1) := by decide +kernel
theorem dX6_addFile_21 : decode cX6_addFile 21 = .ok (.getfield 27, 3) := by decide +kernel
theorem dX6_addFile_24 : decode cX6_addFile 24 = .ok (.aload_n 0, 1) := by decide +kernel
theorem dX6_addFile_25 : decode cX6_addFile 25 = .ok (.getfield 44, 3) := by decide +kernel
theorem dX6_addFile_28 : decode cX6_addFile 28 = .ok (.iload_n 2, 1) := by decide +kernel
theorem dX6_addFile_29 : decode cX6_addFile 29 = .ok (.iastore, 1) := by decide +kernel
theorem dX6_addFile_30 : decode cX6_addFile 30 = .ok (.aload_n 0, 1) := by decide +kernel
theorem dX6_addFile_31 : decode cX6_addFile 31 = .ok (.getfield 30, 3) := by decide +kernel
theorem dX6_addFile_34 : decode cX6_addFile 34 = .ok (.aload_n 0, 1) := by decide +kernel
theorem dX6_addFile_35 : decode cX6_addFile 35 = .ok (.getfield 44, 3) := by decide +kernel
theorem dX6_addFile_38 : decode cX6_addFile 38 = .ok (.iload_n 3, 1) := by decide +kernel
theorem dX6_addFile_39 : decode cX6_addFile 39 = .ok (.iastore, 1) := by decide +kernel
theorem dX6_addFile_40 : decode cX6_addFile 40 = .ok (.aload_n 0, 1) := by decide +kernel
theorem dX6_addFile_41 : decode cX6_addFile 41 = .ok (.dup, 1) := by decide +kernel
theorem dX6_addFile_42 : decode cX6_addFile 42 = .ok (.getfield 44, 3) := by decide +kernel
theorem dX6_addFile_45 : decode cX6_addFile 45 = .ok (.iconst 1, 1) := by decide +kernel
theorem dX6_addFile_46 : decode cX6_addFile 46 = .ok (.iadd, 1) := by decide +kernel
theorem dX6_addFile_47 : decode cX6_addFile 47 = .ok (.putfield 44, 3) := by decide +kernel
theorem dX6_addFile_50 : decode cX6_addFile 50 = .ok (.return_, 1) := by decide +kernel
theorem dX6_isOf_0 : decode cX6_isOf 0 = .ok (.aload_n 0, 1) := by decide +kernel
theorem dX6_isOf_1 : decode cX6_isOf 1 = .ok (.getfield 15, 3) := by decide +kernel
theorem dX6_isOf_4 : decode cX6_isOf 4 = .ok (.iload_n 1, 1) := by decide +kernel
theorem dX6_isOf_5 : decode cX6_isOf 5 = .ok (.iaload, 1) := by decide +kernel
theorem dX6_isOf_6 : decode cX6_isOf 6 = .ok (.iload_n 2, 1) := by decide +kernel
theorem dX6_isOf_7 : decode cX6_isOf 7 = .ok (.if_icmp .eq 13, 3) := by decide +kernel
theorem dX6_isOf_10 : decode cX6_isOf 10 = .ok (.aload_n 0, 1) := by decide +kernel
theorem dX6_isOf_11 : decode cX6_isOf 11 = .ok (.getfield 18, 3) := by decide +kernel
theorem dX6_isOf_14 : decode cX6_isOf 14 = .ok (.iload_n 1, 1) := by decide +kernel
theorem dX6_isOf_15 : decode cX6_isOf 15 = .ok (.iaload, 1) := by decide +kernel
theorem dX6_isOf_16 : decode cX6_isOf 16 = .ok (.iload_n 2, 1) := by decide +kernel
theorem dX6_isOf_17 : decode cX6_isOf 17 = .ok (.if_icmp .ne 7, 3) := by decide +kernel
theorem dX6_isOf_20 : decode cX6_isOf 20 = .ok (.iconst 1, 1) := by decide +kernel
theorem dX6_isOf_21 : decode cX6_isOf 21 = .ok (.goto 4, 3) := by decide +kernel
theorem dX6_isOf_24 : decode cX6_isOf 24 = .ok (.iconst 0, 1) := by decide +kernel
theorem dX6_isOf_25 : decode cX6_isOf 25 = .ok (.ireturn, 1) := by decide +kernel
theorem dX6_trailsOf_0 : decode cX6_trailsOf 0 = .ok (.iconst 0, 1) := by decide +kernel
theorem dX6_trailsOf_1 : decode cX6_trailsOf 1 = .ok (.istore_n 2, 1) := by decide +kernel
theorem dX6_trailsOf_2 : decode cX6_trailsOf 2 = .ok (.iconst 0, 1) := by decide +kernel
theorem dX6_trailsOf_3 : decode cX6_trailsOf 3 = .ok (.istore_n 3, 1) := by decide +kernel
theorem dX6_trailsOf_4 : decode cX6_trailsOf 4 = .ok (.iload_n 3, 1) := by decide +kernel
theorem dX6_trailsOf_5 : decode cX6_trailsOf 5 = .ok (.aload_n 0, 1) := by decide +kernel
theorem dX6_trailsOf_6 : decode cX6_trailsOf 6 = .ok (.getfield 41, 3) := by decide +kernel
theorem dX6_trailsOf_9 : decode cX6_trailsOf 9 = .ok (.if_icmp .ge 21, 3) := by decide +kernel
theorem dX6_trailsOf_12 : decode cX6_trailsOf 12 = .ok (.aload_n 0, 1) := by decide +kernel
theorem dX6_trailsOf_13 : decode cX6_trailsOf 13 = .ok (.iload_n 3, 1) := by decide +kernel
theorem dX6_trailsOf_14 : decode cX6_trailsOf 14 = .ok (.iload_n 1, 1) := by decide +kernel
theorem dX6_trailsOf_15 : decode cX6_trailsOf 15 = .ok (.invokevirtual 65, 3) := by decide +kernel
theorem dX6_trailsOf_18 : decode cX6_trailsOf 18 = .ok (.ifCond .eq 6, 3) := by decide +kernel
theorem dX6_trailsOf_21 : decode cX6_trailsOf 21 = .ok (.iinc 2 1, 3) := by decide +kernel
theorem dX6_trailsOf_24 : decode cX6_trailsOf 24 = .ok (.iinc 3 1, 3) := by decide +kernel
theorem dX6_trailsOf_27 : decode cX6_trailsOf 27 = .ok (.goto (-23), 3) := by decide +kernel
theorem dX6_trailsOf_30 : decode cX6_trailsOf 30 = .ok (.iload_n 2, 1) := by decide +kernel
theorem dX6_trailsOf_31 : decode cX6_trailsOf 31 = .ok (.ireturn, 1) := by decide +kernel
theorem dX6_across_0 : decode cX6_across 0 = .ok (.aload_n 0, 1) := by decide +kernel
theorem dX6_across_1 : decode cX6_across 1 = .ok (.getfield 15, 3) := by decide +kernel
theorem dX6_across_4 : decode cX6_across 4 = .ok (.iload_n 1, 1) := by decide +kernel
theorem dX6_across_5 : decode cX6_across 5 = .ok (.iaload, 1) := by decide +kernel
theorem dX6_across_6 : decode cX6_across 6 = .ok (.iload_n 2, 1) := by decide +kernel
theorem dX6_across_7 : decode cX6_across 7 = .ok (.if_icmp .ne 12, 3) := by decide +kernel
theorem dX6_across_10 : decode cX6_across 10 = .ok (.aload_n 0, 1) := by decide +kernel
theorem dX6_across_11 : decode cX6_across 11 = .ok (.getfield 18, 3) := by decide +kernel
theorem dX6_across_14 : decode cX6_across 14 = .ok (.iload_n 1, 1) := by decide +kernel
theorem dX6_across_15 : decode cX6_across 15 = .ok (.iaload, 1) := by decide +kernel
theorem dX6_across_16 : decode cX6_across 16 = .ok (.goto 9, 3) := by decide +kernel
theorem dX6_across_19 : decode cX6_across 19 = .ok (.aload_n 0, 1) := by decide +kernel
theorem dX6_across_20 : decode cX6_across 20 = .ok (.getfield 15, 3) := by decide +kernel
theorem dX6_across_23 : decode cX6_across 23 = .ok (.iload_n 1, 1) := by decide +kernel
theorem dX6_across_24 : decode cX6_across 24 = .ok (.iaload, 1) := by decide +kernel
theorem dX6_across_25 : decode cX6_across 25 = .ok (.ireturn, 1) := by decide +kernel
theorem dX6_isA_0 : decode cX6_isA 0 = .ok (.iload_n 2, 1) := by decide +kernel
theorem dX6_isA_1 : decode cX6_isA 1 = .ok (.tableswitch 101 0 4 #[35, 37, 53, 69, 85], 35) := by decide +kernel
theorem dX6_isA_36 : decode cX6_isA 36 = .ok (.iconst 1, 1) := by decide +kernel
theorem dX6_isA_37 : decode cX6_isA 37 = .ok (.ireturn, 1) := by decide +kernel
theorem dX6_isA_38 : decode cX6_isA 38 = .ok (.aload_n 0, 1) := by decide +kernel
theorem dX6_isA_39 : decode cX6_isA 39 = .ok (.getfield 9, 3) := by decide +kernel
theorem dX6_isA_42 : decode cX6_isA 42 = .ok (.iload_n 1, 1) := by decide +kernel
theorem dX6_isA_43 : decode cX6_isA 43 = .ok (.iaload, 1) := by decide +kernel
theorem dX6_isA_44 : decode cX6_isA 44 = .ok (.iconst 3, 1) := by decide +kernel
theorem dX6_isA_45 : decode cX6_isA 45 = .ok (.if_icmp .eq 7, 3) := by decide +kernel
theorem dX6_isA_48 : decode cX6_isA 48 = .ok (.iconst 1, 1) := by decide +kernel
theorem dX6_isA_49 : decode cX6_isA 49 = .ok (.goto 4, 3) := by decide +kernel
theorem dX6_isA_52 : decode cX6_isA 52 = .ok (.iconst 0, 1) := by decide +kernel
theorem dX6_isA_53 : decode cX6_isA 53 = .ok (.ireturn, 1) := by decide +kernel
theorem dX6_isA_54 : decode cX6_isA 54 = .ok (.aload_n 0, 1) := by decide +kernel
theorem dX6_isA_55 : decode cX6_isA 55 = .ok (.getfield 9, 3) := by decide +kernel
theorem dX6_isA_58 : decode cX6_isA 58 = .ok (.iload_n 1, 1) := by decide +kernel
theorem dX6_isA_59 : decode cX6_isA 59 = .ok (.iaload, 1) := by decide +kernel
theorem dX6_isA_60 : decode cX6_isA 60 = .ok (.iconst 1, 1) := by decide +kernel
theorem dX6_isA_61 : decode cX6_isA 61 = .ok (.if_icmp .ne 7, 3) := by decide +kernel
theorem dX6_isA_64 : decode cX6_isA 64 = .ok (.iconst 1, 1) := by decide +kernel
theorem dX6_isA_65 : decode cX6_isA 65 = .ok (.goto 4, 3) := by decide +kernel
theorem dX6_isA_68 : decode cX6_isA 68 = .ok (.iconst 0, 1) := by decide +kernel
theorem dX6_isA_69 : decode cX6_isA 69 = .ok (.ireturn, 1) := by decide +kernel
theorem dX6_isA_70 : decode cX6_isA 70 = .ok (.aload_n 0, 1) := by decide +kernel
theorem dX6_isA_71 : decode cX6_isA 71 = .ok (.getfield 9, 3) := by decide +kernel
theorem dX6_isA_74 : decode cX6_isA 74 = .ok (.iload_n 1, 1) := by decide +kernel
theorem dX6_isA_75 : decode cX6_isA 75 = .ok (.iaload, 1) := by decide +kernel
theorem dX6_isA_76 : decode cX6_isA 76 = .ok (.iconst 2, 1) := by decide +kernel
theorem dX6_isA_77 : decode cX6_isA 77 = .ok (.if_icmp .ne 7, 3) := by decide +kernel
theorem dX6_isA_80 : decode cX6_isA 80 = .ok (.iconst 1, 1) := by decide +kernel
theorem dX6_isA_81 : decode cX6_isA 81 = .ok (.goto 4, 3) := by decide +kernel
theorem dX6_isA_84 : decode cX6_isA 84 = .ok (.iconst 0, 1) := by decide +kernel
theorem dX6_isA_85 : decode cX6_isA 85 = .ok (.ireturn, 1) := by decide +kernel
theorem dX6_isA_86 : decode cX6_isA 86 = .ok (.aload_n 0, 1) := by decide +kernel
theorem dX6_isA_87 : decode cX6_isA 87 = .ok (.getfield 9, 3) := by decide +kernel
theorem dX6_isA_90 : decode cX6_isA 90 = .ok (.iload_n 1, 1) := by decide +kernel
theorem dX6_isA_91 : decode cX6_isA 91 = .ok (.iaload, 1) := by decide +kernel
theorem dX6_isA_92 : decode cX6_isA 92 = .ok (.iconst 3, 1) := by decide +kernel
theorem dX6_isA_93 : decode cX6_isA 93 = .ok (.if_icmp .ne 7, 3) := by decide +kernel
theorem dX6_isA_96 : decode cX6_isA 96 = .ok (.iconst 1, 1) := by decide +kernel
theorem dX6_isA_97 : decode cX6_isA 97 = .ok (.goto 4, 3) := by decide +kernel
theorem dX6_isA_100 : decode cX6_isA 100 = .ok (.iconst 0, 1) := by decide +kernel
theorem dX6_isA_101 : decode cX6_isA 101 = .ok (.ireturn, 1) := by decide +kernel
theorem dX6_isA_102 : decode cX6_isA 102 = .ok (.iconst 0, 1) := by decide +kernel
theorem dX6_isA_103 : decode cX6_isA 103 = .ok (.ireturn, 1) := by decide +kernel
theorem dX6_sweetnessBehind_0 : decode cX6_sweetnessBehind 0 = .ok (.aload_n 0, 1) := by decide +kernel
theorem dX6_sweetnessBehind_1 : decode cX6_sweetnessBehind 1 = .ok (.getfield 9, 3) := by decide +kernel
theorem dX6_sweetnessBehind_4 : decode cX6_sweetnessBehind 4 = .ok (.iload_n 1, 1) := by decide +kernel
theorem dX6_sweetnessBehind_5 : decode cX6_sweetnessBehind 5 = .ok (.iaload, 1) := by decide +kernel
theorem dX6_sweetnessBehind_6 : decode cX6_sweetnessBehind 6 = .ok (.lookupswitch 43 #[(1, 26), (2, 34)], 26) := by decide +kernel
theorem dX6_sweetnessBehind_32 : decode cX6_sweetnessBehind 32 = .ok (.iconst 0, 1) := by decide +kernel
theorem dX6_sweetnessBehind_33 : decode cX6_sweetnessBehind 33 = .ok (.iload_n 2, 1) := by decide +kernel
theorem dX6_sweetnessBehind_34 : decode cX6_sweetnessBehind 34 = .ok (.iconst 1, 1) := by decide +kernel
theorem dX6_sweetnessBehind_35 : decode cX6_sweetnessBehind 35 = .ok (.isub, 1) := by decide +kernel
theorem dX6_sweetnessBehind_36 : decode cX6_sweetnessBehind 36 = .ok (.invokestatic 69, 3) := by decide +kernel
theorem dX6_sweetnessBehind_39 : decode cX6_sweetnessBehind 39 = .ok (.ireturn, 1) := by decide +kernel
theorem dX6_sweetnessBehind_40 : decode cX6_sweetnessBehind 40 = .ok (.bipush 9, 2) := by decide +kernel
theorem dX6_sweetnessBehind_42 : decode cX6_sweetnessBehind 42 = .ok (.iload_n 2, 1) := by decide +kernel
theorem dX6_sweetnessBehind_43 : decode cX6_sweetnessBehind 43 = .ok (.iconst 1, 1) := by decide +kernel
theorem dX6_sweetnessBehind_44 : decode cX6_sweetnessBehind 44 = .ok (.iadd, 1) := by decide +kernel
theorem dX6_sweetnessBehind_45 : decode cX6_sweetnessBehind 45 = .ok (.invokestatic 75, 3) := by decide +kernel
theorem dX6_sweetnessBehind_48 : decode cX6_sweetnessBehind 48 = .ok (.ireturn, 1) := by decide +kernel
theorem dX6_sweetnessBehind_49 : decode cX6_sweetnessBehind 49 = .ok (.iload_n 2, 1) := by decide +kernel
theorem dX6_sweetnessBehind_50 : decode cX6_sweetnessBehind 50 = .ok (.ireturn, 1) := by decide +kernel
theorem dJ6_bitCount_0f7a4_0 : decode cJ6_bitCount_0f7a4 0 = .ok (.iload_n 0, 1) := by decide +kernel
theorem dJ6_bitCount_0f7a4_1 : decode cJ6_bitCount_0f7a4 1 = .ok (.iload_n 0, 1) := by decide +kernel
theorem dJ6_bitCount_0f7a4_2 : decode cJ6_bitCount_0f7a4 2 = .ok (.iconst 1, 1) := by decide +kernel
theorem dJ6_bitCount_0f7a4_3 : decode cJ6_bitCount_0f7a4 3 = .ok (.iushr, 1) := by decide +kernel
theorem dJ6_bitCount_0f7a4_4 : decode cJ6_bitCount_0f7a4 4 = .ok (.ldc_w 265, 3) := by decide +kernel
theorem dJ6_bitCount_0f7a4_7 : decode cJ6_bitCount_0f7a4 7 = .ok (.iand, 1) := by decide +kernel
theorem dJ6_bitCount_0f7a4_8 : decode cJ6_bitCount_0f7a4 8 = .ok (.isub, 1) := by decide +kernel
theorem dJ6_bitCount_0f7a4_9 : decode cJ6_bitCount_0f7a4 9 = .ok (.istore_n 0, 1) := by decide +kernel
theorem dJ6_bitCount_0f7a4_10 : decode cJ6_bitCount_0f7a4 10 = .ok (.iload_n 0, 1) := by decide +kernel
theorem dJ6_bitCount_0f7a4_11 : decode cJ6_bitCount_0f7a4 11 = .ok (.ldc_w 266, 3) := by decide +kernel
theorem dJ6_bitCount_0f7a4_14 : decode cJ6_bitCount_0f7a4 14 = .ok (.iand, 1) := by decide +kernel
theorem dJ6_bitCount_0f7a4_15 : decode cJ6_bitCount_0f7a4 15 = .ok (.iload_n 0, 1) := by decide +kernel
theorem dJ6_bitCount_0f7a4_16 : decode cJ6_bitCount_0f7a4 16 = .ok (.iconst 2, 1) := by decide +kernel
theorem dJ6_bitCount_0f7a4_17 : decode cJ6_bitCount_0f7a4 17 = .ok (.iushr, 1) := by decide +kernel
theorem dJ6_bitCount_0f7a4_18 : decode cJ6_bitCount_0f7a4 18 = .ok (.ldc_w 266, 3) := by decide +kernel
theorem dJ6_bitCount_0f7a4_21 : decode cJ6_bitCount_0f7a4 21 = .ok (.iand, 1) := by decide +kernel
theorem dJ6_bitCount_0f7a4_22 : decode cJ6_bitCount_0f7a4 22 = .ok (.iadd, 1) := by decide +kernel
theorem dJ6_bitCount_0f7a4_23 : decode cJ6_bitCount_0f7a4 23 = .ok (.istore_n 0, 1) := by decide +kernel
theorem dJ6_bitCount_0f7a4_24 : decode cJ6_bitCount_0f7a4 24 = .ok (.iload_n 0, 1) := by decide +kernel
theorem dJ6_bitCount_0f7a4_25 : decode cJ6_bitCount_0f7a4 25 = .ok (.iload_n 0, 1) := by decide +kernel
theorem dJ6_bitCount_0f7a4_26 : decode cJ6_bitCount_0f7a4 26 = .ok (.iconst 4, 1) := by decide +kernel
theorem dJ6_bitCount_0f7a4_27 : decode cJ6_bitCount_0f7a4 27 = .ok (.iushr, 1) := by decide +kernel
theorem dJ6_bitCount_0f7a4_28 : decode cJ6_bitCount_0f7a4 28 = .ok (.iadd, 1) := by decide +kernel
theorem dJ6_bitCount_0f7a4_29 : decode cJ6_bitCount_0f7a4 29 = .ok (.ldc_w 267, 3) := by decide +kernel
theorem dJ6_bitCount_0f7a4_32 : decode cJ6_bitCount_0f7a4 32 = .ok (.iand, 1) := by decide +kernel
theorem dJ6_bitCount_0f7a4_33 : decode cJ6_bitCount_0f7a4 33 = .ok (.istore_n 0, 1) := by decide +kernel
theorem dJ6_bitCount_0f7a4_34 : decode cJ6_bitCount_0f7a4 34 = .ok (.iload_n 0, 1) := by decide +kernel
theorem dJ6_bitCount_0f7a4_35 : decode cJ6_bitCount_0f7a4 35 = .ok (.iload_n 0, 1) := by decide +kernel
theorem dJ6_bitCount_0f7a4_36 : decode cJ6_bitCount_0f7a4 36 = .ok (.bipush 8, 2) := by decide +kernel
theorem dJ6_bitCount_0f7a4_38 : decode cJ6_bitCount_0f7a4 38 = .ok (.iushr, 1) := by decide +kernel
theorem dJ6_bitCount_0f7a4_39 : decode cJ6_bitCount_0f7a4 39 = .ok (.iadd, 1) := by decide +kernel
theorem dJ6_bitCount_0f7a4_40 : decode cJ6_bitCount_0f7a4 40 = .ok (.istore_n 0, 1) := by decide +kernel
theorem dJ6_bitCount_0f7a4_41 : decode cJ6_bitCount_0f7a4 41 = .ok (.iload_n 0, 1) := by decide +kernel
theorem dJ6_bitCount_0f7a4_42 : decode cJ6_bitCount_0f7a4 42 = .ok (.iload_n 0, 1) := by decide +kernel
theorem dJ6_bitCount_0f7a4_43 : decode cJ6_bitCount_0f7a4 43 = .ok (.bipush 16, 2) := by decide +kernel
theorem dJ6_bitCount_0f7a4_45 : decode cJ6_bitCount_0f7a4 45 = .ok (.iushr, 1) := by decide +kernel
theorem dJ6_bitCount_0f7a4_46 : decode cJ6_bitCount_0f7a4 46 = .ok (.iadd, 1) := by decide +kernel
theorem dJ6_bitCount_0f7a4_47 : decode cJ6_bitCount_0f7a4 47 = .ok (.istore_n 0, 1) := by decide +kernel
theorem dJ6_bitCount_0f7a4_48 : decode cJ6_bitCount_0f7a4 48 = .ok (.iload_n 0, 1) := by decide +kernel
theorem dJ6_bitCount_0f7a4_49 : decode cJ6_bitCount_0f7a4 49 = .ok (.bipush 63, 2) := by decide +kernel
theorem dJ6_bitCount_0f7a4_51 : decode cJ6_bitCount_0f7a4 51 = .ok (.iand, 1) := by decide +kernel
theorem dJ6_bitCount_0f7a4_52 : decode cJ6_bitCount_0f7a4 52 = .ok (.ireturn, 1) := by decide +kernel
theorem dJ9_max_7cf53_0 : decode cJ9_max_7cf53 0 = .ok (.iload_n 0, 1) := by decide +kernel
theorem dJ9_max_7cf53_1 : decode cJ9_max_7cf53 1 = .ok (.iload_n 1, 1) := by decide +kernel
theorem dJ9_max_7cf53_2 : decode cJ9_max_7cf53 2 = .ok (.if_icmp .lt 7, 3) := by decide +kernel
theorem dJ9_max_7cf53_5 : decode cJ9_max_7cf53 5 = .ok (.iload_n 0, 1) := by decide +kernel
theorem dJ9_max_7cf53_6 : decode cJ9_max_7cf53 6 = .ok (.goto 4, 3) := by decide +kernel
theorem dJ9_max_7cf53_9 : decode cJ9_max_7cf53 9 = .ok (.iload_n 1, 1) := by decide +kernel
theorem dJ9_max_7cf53_10 : decode cJ9_max_7cf53 10 = .ok (.ireturn, 1) := by decide +kernel
theorem dJ9_min_7cf53_0 : decode cJ9_min_7cf53 0 = .ok (.iload_n 0, 1) := by decide +kernel
theorem dJ9_min_7cf53_1 : decode cJ9_min_7cf53 1 = .ok (.iload_n 1, 1) := by decide +kernel
theorem dJ9_min_7cf53_2 : decode cJ9_min_7cf53 2 = .ok (.if_icmp .gt 7, 3) := by decide +kernel
theorem dJ9_min_7cf53_5 : decode cJ9_min_7cf53 5 = .ok (.iload_n 0, 1) := by decide +kernel
theorem dJ9_min_7cf53_6 : decode cJ9_min_7cf53 6 = .ok (.goto 4, 3) := by decide +kernel
theorem dJ9_min_7cf53_9 : decode cJ9_min_7cf53 9 = .ok (.iload_n 1, 1) := by decide +kernel
theorem dJ9_min_7cf53_10 : decode cJ9_min_7cf53 10 = .ok (.ireturn, 1) := by decide +kernel
theorem dJ0_length_8abf5_0 : decode cJ0_length_8abf5 0 = .ok (.aload_n 0, 1) := by decide +kernel
theorem dJ0_length_8abf5_1 : decode cJ0_length_8abf5 1 = .ok (.getfield 9, 3) := by decide +kernel
theorem dJ0_length_8abf5_4 : decode cJ0_length_8abf5 4 = .ok (.arraylength, 1) := by decide +kernel
theorem dJ0_length_8abf5_5 : decode cJ0_length_8abf5 5 = .ok (.aload_n 0, 1) := by decide +kernel
theorem dJ0_length_8abf5_6 : decode cJ0_length_8abf5 6 = .ok (.invokevirtual 335, 3) := by decide +kernel
theorem dJ0_length_8abf5_9 : decode cJ0_length_8abf5 9 = .ok (.ishr, 1) := by decide +kernel
theorem dJ0_length_8abf5_10 : decode cJ0_length_8abf5 10 = .ok (.ireturn, 1) := by decide +kernel
theorem dJ0_charAt_5068e_0 : decode cJ0_charAt_5068e 0 = .ok (.aload_n 0, 1) := by decide +kernel
theorem dJ0_charAt_5068e_1 : decode cJ0_charAt_5068e 1 = .ok (.invokevirtual 492, 3) := by decide +kernel
theorem dJ0_charAt_5068e_4 : decode cJ0_charAt_5068e 4 = .ok (.ifCond .eq 12, 3) := by decide +kernel
theorem dJ0_charAt_5068e_7 : decode cJ0_charAt_5068e 7 = .ok (.aload_n 0, 1) := by decide +kernel
theorem dJ0_charAt_5068e_8 : decode cJ0_charAt_5068e 8 = .ok (.getfield 9, 3) := by decide +kernel
theorem dJ0_charAt_5068e_11 : decode cJ0_charAt_5068e 11 = .ok (.iload_n 1, 1) := by decide +kernel
theorem dJ0_charAt_5068e_12 : decode cJ0_charAt_5068e 12 = .ok (.invokestatic 495, 3) := by decide +kernel
theorem dJ0_charAt_5068e_15 : decode cJ0_charAt_5068e 15 = .ok (.ireturn, 1) := by decide +kernel
theorem dJ0_charAt_5068e_16 : decode cJ0_charAt_5068e 16 = .ok (.aload_n 0, 1) := by decide +kernel
theorem dJ0_charAt_5068e_17 : decode cJ0_charAt_5068e 17 = .ok (.getfield 9, 3) := by decide +kernel
theorem dJ0_charAt_5068e_20 : decode cJ0_charAt_5068e 20 = .ok (.iload_n 1, 1) := by decide +kernel
theorem dJ0_charAt_5068e_21 : decode cJ0_charAt_5068e 21 = .ok (.invokestatic 498, 3) := by decide +kernel
theorem dJ0_charAt_5068e_24 : decode cJ0_charAt_5068e 24 = .ok (.ireturn, 1) := by decide +kernel
theorem dJ0_coder_7d493_0 : decode cJ0_coder_7d493 0 = .ok (.getstatic 38, 3) := by decide +kernel
theorem dJ0_coder_7d493_3 : decode cJ0_coder_7d493 3 = .ok (.ifCond .eq 10, 3) := by decide +kernel
theorem dJ0_coder_7d493_6 : decode cJ0_coder_7d493 6 = .ok (.aload_n 0, 1) := by decide +kernel
theorem dJ0_coder_7d493_7 : decode cJ0_coder_7d493 7 = .ok (.getfield 15, 3) := by decide +kernel
theorem dJ0_coder_7d493_10 : decode cJ0_coder_7d493 10 = .ok (.goto 4, 3) := by decide +kernel
theorem dJ0_coder_7d493_13 : decode cJ0_coder_7d493 13 = .ok (.iconst 1, 1) := by decide +kernel
theorem dJ0_coder_7d493_14 : decode cJ0_coder_7d493 14 = .ok (.ireturn, 1) := by decide +kernel
theorem dJ0_isLatin1_aae02_0 : decode cJ0_isLatin1_aae02 0 = .ok (.getstatic 38, 3) := by decide +kernel
theorem dJ0_isLatin1_aae02_3 : decode cJ0_isLatin1_aae02 3 = .ok (.ifCond .eq 14, 3) := by decide +kernel
theorem dJ0_isLatin1_aae02_6 : decode cJ0_isLatin1_aae02 6 = .ok (.aload_n 0, 1) := by decide +kernel
theorem dJ0_isLatin1_aae02_7 : decode cJ0_isLatin1_aae02 7 = .ok (.getfield 15, 3) := by decide +kernel
theorem dJ0_isLatin1_aae02_10 : decode cJ0_isLatin1_aae02 10 = .ok (.ifCond .ne 7, 3) := by decide +kernel
theorem dJ0_isLatin1_aae02_13 : decode cJ0_isLatin1_aae02 13 = .ok (.iconst 1, 1) := by decide +kernel
theorem dJ0_isLatin1_aae02_14 : decode cJ0_isLatin1_aae02 14 = .ok (.goto 4, 3) := by decide +kernel
theorem dJ0_isLatin1_aae02_17 : decode cJ0_isLatin1_aae02 17 = .ok (.iconst 0, 1) := by decide +kernel
theorem dJ0_isLatin1_aae02_18 : decode cJ0_isLatin1_aae02 18 = .ok (.ireturn, 1) := by decide +kernel
theorem dJ0_checkIndex_df160_0 : decode cJ0_checkIndex_df160 0 = .ok (.iload_n 0, 1) := by decide +kernel
theorem dJ0_checkIndex_df160_1 : decode cJ0_checkIndex_df160 1 = .ok (.iload_n 1, 1) := by decide +kernel
theorem dJ0_checkIndex_df160_2 : decode cJ0_checkIndex_df160 2 = .ok (.getstatic 1053, 3) := by decide +kernel
theorem dJ0_checkIndex_df160_5 : decode cJ0_checkIndex_df160 5 = .ok (.invokestatic 1059, 3) := by decide +kernel
theorem dJ0_checkIndex_df160_8 : decode cJ0_checkIndex_df160 8 = .ok (.pop, 1) := by decide +kernel
theorem dJ0_checkIndex_df160_9 : decode cJ0_checkIndex_df160 9 = .ok (.return_, 1) := by decide +kernel
theorem dJ1_charAt_3b067_0 : decode cJ1_charAt_3b067 0 = .ok (.iload_n 1, 1) := by decide +kernel
theorem dJ1_charAt_3b067_1 : decode cJ1_charAt_3b067 1 = .ok (.aload_n 0, 1) := by decide +kernel
theorem dJ1_charAt_3b067_2 : decode cJ1_charAt_3b067 2 = .ok (.arraylength, 1) := by decide +kernel
theorem dJ1_charAt_3b067_3 : decode cJ1_charAt_3b067 3 = .ok (.invokestatic 9, 3) := by decide +kernel
theorem dJ1_charAt_3b067_6 : decode cJ1_charAt_3b067 6 = .ok (.aload_n 0, 1) := by decide +kernel
theorem dJ1_charAt_3b067_7 : decode cJ1_charAt_3b067 7 = .ok (.iload_n 1, 1) := by decide +kernel
theorem dJ1_charAt_3b067_8 : decode cJ1_charAt_3b067 8 = .ok (.baload, 1) := by decide +kernel
theorem dJ1_charAt_3b067_9 : decode cJ1_charAt_3b067 9 = .ok (.sipush 255, 3) := by decide +kernel
theorem dJ1_charAt_3b067_12 : decode cJ1_charAt_3b067 12 = .ok (.iand, 1) := by decide +kernel
theorem dJ1_charAt_3b067_13 : decode cJ1_charAt_3b067 13 = .ok (.i2c, 1) := by decide +kernel
theorem dJ1_charAt_3b067_14 : decode cJ1_charAt_3b067 14 = .ok (.ireturn, 1) := by decide +kernel
theorem dJ2_getChar_3b067_0 : decode cJ2_getChar_3b067 0 = .ok (.getstatic 44, 3) := by decide +kernel
theorem dJ2_getChar_3b067_3 : decode cJ2_getChar_3b067 3 = .ok (.ifCond .ne 25, 3) := by decide +kernel
theorem dJ2_getChar_3b067_6 : decode cJ2_getChar_3b067 6 = .ok (.iload_n 1, 1) := by decide +kernel
theorem dJ2_getChar_3b067_7 : decode cJ2_getChar_3b067 7 = .ok (.ifCond .lt 11, 3) := by decide +kernel
theorem dJ2_getChar_3b067_10 : decode cJ2_getChar_3b067 10 = .ok (.iload_n 1, 1) := by decide +kernel
theorem dJ2_getChar_3b067_11 : decode cJ2_getChar_3b067 11 = .ok (.aload_n 0, 1) := by decide +kernel
theorem dJ2_getChar_3b067_12 : decode cJ2_getChar_3b067 12 = .ok (.invokestatic 48, 3) := by decide +kernel
theorem dJ2_getChar_3b067_15 : decode cJ2_getChar_3b067 15 = .ok (.if_icmp .lt 13, 3) := by decide +kernel
theorem dJ2_getChar_3b067_18 : decode cJ2_getChar_3b067 18 = .ok (.new 52, 3) := by decide +kernel
theorem dJ2_getChar_3b067_21 : decode cJ2_getChar_3b067 21 = .ok (.dup, 1) := by decide +kernel
theorem dJ2_getChar_3b067_22 : decode cJ2_getChar_3b067 22 = .ok (.ldc 54, 2) := by decide +kernel
theorem dJ2_getChar_3b067_24 : decode cJ2_getChar_3b067 24 = .ok (.invokespecial 56, 3) := by decide +kernel
theorem dJ2_getChar_3b067_27 : decode cJ2_getChar_3b067 27 = .ok (.athrow, 1) := by decide +kernel
theorem dJ2_getChar_3b067_28 : decode cJ2_getChar_3b067 28 = .ok (.iload_n 1, 1) := by decide +kernel
theorem dJ2_getChar_3b067_29 : decode cJ2_getChar_3b067 29 = .ok (.iconst 1, 1) := by decide +kernel
theorem dJ2_getChar_3b067_30 : decode cJ2_getChar_3b067 30 = .ok (.ishl, 1) := by decide +kernel
theorem dJ2_getChar_3b067_31 : decode cJ2_getChar_3b067 31 = .ok (.istore_n 1, 1) := by decide +kernel
theorem dJ2_getChar_3b067_32 : decode cJ2_getChar_3b067 32 = .ok (.aload_n 0, 1) := by decide +kernel
theorem dJ2_getChar_3b067_33 : decode cJ2_getChar_3b067 33 = .ok (.iload_n 1, 1) := by decide +kernel
theorem dJ2_getChar_3b067_34 : decode cJ2_getChar_3b067 34 = .ok (.iinc 1 1, 3) := by decide +kernel
theorem dJ2_getChar_3b067_37 : decode cJ2_getChar_3b067 37 = .ok (.baload, 1) := by decide +kernel
theorem dJ2_getChar_3b067_38 : decode cJ2_getChar_3b067 38 = .ok (.sipush 255, 3) := by decide +kernel
theorem dJ2_getChar_3b067_41 : decode cJ2_getChar_3b067 41 = .ok (.iand, 1) := by decide +kernel
theorem dJ2_getChar_3b067_42 : decode cJ2_getChar_3b067 42 = .ok (.getstatic 59, 3) := by decide +kernel
theorem dJ2_getChar_3b067_45 : decode cJ2_getChar_3b067 45 = .ok (.ishl, 1) := by decide +kernel
theorem dJ2_getChar_3b067_46 : decode cJ2_getChar_3b067 46 = .ok (.aload_n 0, 1) := by decide +kernel
theorem dJ2_getChar_3b067_47 : decode cJ2_getChar_3b067 47 = .ok (.iload_n 1, 1) := by decide +kernel
theorem dJ2_getChar_3b067_48 : decode cJ2_getChar_3b067 48 = .ok (.baload, 1) := by decide +kernel
theorem dJ2_getChar_3b067_49 : decode cJ2_getChar_3b067 49 = .ok (.sipush 255, 3) := by decide +kernel
theorem dJ2_getChar_3b067_52 : decode cJ2_getChar_3b067 52 = .ok (.iand, 1) := by decide +kernel
theorem dJ2_getChar_3b067_53 : decode cJ2_getChar_3b067 53 = .ok (.getstatic 63, 3) := by decide +kernel
theorem dJ2_getChar_3b067_56 : decode cJ2_getChar_3b067 56 = .ok (.ishl, 1) := by decide +kernel
theorem dJ2_getChar_3b067_57 : decode cJ2_getChar_3b067 57 = .ok (.ior, 1) := by decide +kernel
theorem dJ2_getChar_3b067_58 : decode cJ2_getChar_3b067 58 = .ok (.i2c, 1) := by decide +kernel
theorem dJ2_getChar_3b067_59 : decode cJ2_getChar_3b067 59 = .ok (.ireturn, 1) := by decide +kernel
theorem dJ2_length_9d52b_0 : decode cJ2_length_9d52b 0 = .ok (.aload_n 0, 1) := by decide +kernel
theorem dJ2_length_9d52b_1 : decode cJ2_length_9d52b 1 = .ok (.arraylength, 1) := by decide +kernel
theorem dJ2_length_9d52b_2 : decode cJ2_length_9d52b 2 = .ok (.iconst 1, 1) := by decide +kernel
theorem dJ2_length_9d52b_3 : decode cJ2_length_9d52b 3 = .ok (.ishr, 1) := by decide +kernel
theorem dJ2_length_9d52b_4 : decode cJ2_length_9d52b 4 = .ok (.ireturn, 1) := by decide +kernel
theorem dJ2_charAt_3b067_0 : decode cJ2_charAt_3b067 0 = .ok (.iload_n 1, 1) := by decide +kernel
theorem dJ2_charAt_3b067_1 : decode cJ2_charAt_3b067 1 = .ok (.aload_n 0, 1) := by decide +kernel
theorem dJ2_charAt_3b067_2 : decode cJ2_charAt_3b067 2 = .ok (.invokestatic 67, 3) := by decide +kernel
theorem dJ2_charAt_3b067_5 : decode cJ2_charAt_3b067 5 = .ok (.aload_n 0, 1) := by decide +kernel
theorem dJ2_charAt_3b067_6 : decode cJ2_charAt_3b067 6 = .ok (.iload_n 1, 1) := by decide +kernel
theorem dJ2_charAt_3b067_7 : decode cJ2_charAt_3b067 7 = .ok (.invokestatic 71, 3) := by decide +kernel
theorem dJ2_charAt_3b067_10 : decode cJ2_charAt_3b067 10 = .ok (.ireturn, 1) := by decide +kernel
theorem dJ2_checkIndex_2214a_0 : decode cJ2_checkIndex_2214a 0 = .ok (.iload_n 0, 1) := by decide +kernel
theorem dJ2_checkIndex_2214a_1 : decode cJ2_checkIndex_2214a 1 = .ok (.aload_n 1, 1) := by decide +kernel
theorem dJ2_checkIndex_2214a_2 : decode cJ2_checkIndex_2214a 2 = .ok (.invokestatic 48, 3) := by decide +kernel
theorem dJ2_checkIndex_2214a_5 : decode cJ2_checkIndex_2214a 5 = .ok (.invokestatic 414, 3) := by decide +kernel
theorem dJ2_checkIndex_2214a_8 : decode cJ2_checkIndex_2214a 8 = .ok (.return_, 1) := by decide +kernel
theorem dJ7_fill_53178_0 : decode cJ7_fill_53178 0 = .ok (.iconst 0, 1) := by decide +kernel
theorem dJ7_fill_53178_1 : decode cJ7_fill_53178 1 = .ok (.istore_n 2, 1) := by decide +kernel
theorem dJ7_fill_53178_2 : decode cJ7_fill_53178 2 = .ok (.aload_n 0, 1) := by decide +kernel
theorem dJ7_fill_53178_3 : decode cJ7_fill_53178 3 = .ok (.arraylength, 1) := by decide +kernel
theorem dJ7_fill_53178_4 : decode cJ7_fill_53178 4 = .ok (.istore_n 3, 1) := by decide +kernel
theorem dJ7_fill_53178_5 : decode cJ7_fill_53178 5 = .ok (.iload_n 2, 1) := by decide +kernel
theorem dJ7_fill_53178_6 : decode cJ7_fill_53178 6 = .ok (.iload_n 3, 1) := by decide +kernel
theorem dJ7_fill_53178_7 : decode cJ7_fill_53178 7 = .ok (.if_icmp .ge 13, 3) := by decide +kernel
theorem dJ7_fill_53178_10 : decode cJ7_fill_53178 10 = .ok (.aload_n 0, 1) := by decide +kernel
theorem dJ7_fill_53178_11 : decode cJ7_fill_53178 11 = .ok (.iload_n 2, 1) := by decide +kernel
theorem dJ7_fill_53178_12 : decode cJ7_fill_53178 12 = .ok (.iload_n 1, 1) := by decide +kernel
theorem dJ7_fill_53178_13 : decode cJ7_fill_53178 13 = .ok (.iastore, 1) := by decide +kernel
theorem dJ7_fill_53178_14 : decode cJ7_fill_53178 14 = .ok (.iinc 2 1, 3) := by decide +kernel
theorem dJ7_fill_53178_17 : decode cJ7_fill_53178 17 = .ok (.goto (-12), 3) := by decide +kernel
theorem dJ7_fill_53178_20 : decode cJ7_fill_53178 20 = .ok (.return_, 1) := by decide +kernel
theorem dJ3_checkIndex_8e157_0 : decode cJ3_checkIndex_8e157 0 = .ok (.iload_n 0, 1) := by decide +kernel
theorem dJ3_checkIndex_8e157_1 : decode cJ3_checkIndex_8e157 1 = .ok (.ifCond .lt 8, 3) := by decide +kernel
theorem dJ3_checkIndex_8e157_4 : decode cJ3_checkIndex_8e157 4 = .ok (.iload_n 0, 1) := by decide +kernel
theorem dJ3_checkIndex_8e157_5 : decode cJ3_checkIndex_8e157 5 = .ok (.iload_n 1, 1) := by decide +kernel
theorem dJ3_checkIndex_8e157_6 : decode cJ3_checkIndex_8e157 6 = .ok (.if_icmp .lt 10, 3) := by decide +kernel
theorem dJ3_checkIndex_8e157_9 : decode cJ3_checkIndex_8e157 9 = .ok (.aload_n 2, 1) := by decide +kernel
theorem dJ3_checkIndex_8e157_10 : decode cJ3_checkIndex_8e157 10 = .ok (.iload_n 0, 1) := by decide +kernel
theorem dJ3_checkIndex_8e157_11 : decode cJ3_checkIndex_8e157 11 = .ok (.iload_n 1, 1) := by decide +kernel
theorem dJ3_checkIndex_8e157_12 : decode cJ3_checkIndex_8e157 12 = .ok (.invokestatic 95, 3) := by decide +kernel
theorem dJ3_checkIndex_8e157_15 : decode cJ3_checkIndex_8e157 15 = .ok (.athrow, 1) := by decide +kernel
theorem dJ3_checkIndex_8e157_16 : decode cJ3_checkIndex_8e157 16 = .ok (.iload_n 0, 1) := by decide +kernel
theorem dJ3_checkIndex_8e157_17 : decode cJ3_checkIndex_8e157 17 = .ok (.ireturn, 1) := by decide +kernel
