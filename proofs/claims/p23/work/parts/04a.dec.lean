theorem dX0_init_0 : decode cX0_init 0 = .ok (.aload_n 0, 1) := by decide +kernel
theorem dX0_init_1 : decode cX0_init 1 = .ok (.invokespecial 3, 3) := by decide +kernel
theorem dX0_init_4 : decode cX0_init 4 = .ok (.aload_n 0, 1) := by decide +kernel
theorem dX0_init_5 : decode cX0_init 5 = .ok (.aload_n 1, 1) := by decide +kernel
theorem dX0_init_6 : decode cX0_init 6 = .ok (.putfield 9, 3) := by decide +kernel
theorem dX0_init_9 : decode cX0_init 9 = .ok (.aload_n 0, 1) := by decide +kernel
theorem dX0_init_10 : decode cX0_init 10 = .ok (.aload_n 2, 1) := by decide +kernel
theorem dX0_init_11 : decode cX0_init 11 = .ok (.putfield 15, 3) := by decide +kernel
theorem dX0_init_14 : decode cX0_init 14 = .ok (.aload_n 0, 1) := by decide +kernel
theorem dX0_init_15 : decode cX0_init 15 = .ok (.bipush 61, 2) := by decide +kernel
theorem dX0_init_17 : decode cX0_init 17 = .ok (.newarray .int, 2) := by decide +kernel
theorem dX0_init_19 : decode cX0_init 19 = .ok (.putfield 19, 3) := by decide +kernel
theorem dX0_init_22 : decode cX0_init 22 = .ok (.aload_n 0, 1) := by decide +kernel
theorem dX0_init_23 : decode cX0_init 23 = .ok (.bipush 60, 2) := by decide +kernel
theorem dX0_init_25 : decode cX0_init 25 = .ok (.newarray .int, 2) := by decide +kernel
theorem dX0_init_27 : decode cX0_init 27 = .ok (.putfield 23, 3) := by decide +kernel
theorem dX0_init_30 : decode cX0_init 30 = .ok (.return_, 1) := by decide +kernel
theorem dX0_exists_0 : decode cX0_exists 0 = .ok (.aload_n 0, 1) := by decide +kernel
theorem dX0_exists_1 : decode cX0_exists 1 = .ok (.getfield 9, 3) := by decide +kernel
theorem dX0_exists_4 : decode cX0_exists 4 = .ok (.getfield 26, 3) := by decide +kernel
theorem dX0_exists_7 : decode cX0_exists 7 = .ok (.ifCond .le 17, 3) := by decide +kernel
theorem dX0_exists_10 : decode cX0_exists 10 = .ok (.aload_n 0, 1) := by decide +kernel
theorem dX0_exists_11 : decode cX0_exists 11 = .ok (.getfield 19, 3) := by decide +kernel
theorem dX0_exists_14 : decode cX0_exists 14 = .ok (.iconst 0, 1) := by decide +kernel
theorem dX0_exists_15 : decode cX0_exists 15 = .ok (.iaload, 1) := by decide +kernel
theorem dX0_exists_16 : decode cX0_exists 16 = .ok (.iconst (-1), 1) := by decide +kernel
theorem dX0_exists_17 : decode cX0_exists 17 = .ok (.if_icmp .eq 7, 3) := by decide +kernel
theorem dX0_exists_20 : decode cX0_exists 20 = .ok (.iconst 1, 1) := by decide +kernel
theorem dX0_exists_21 : decode cX0_exists 21 = .ok (.goto 4, 3) := by decide +kernel
theorem dX0_exists_24 : decode cX0_exists 24 = .ok (.iconst 0, 1) := by decide +kernel
theorem dX0_exists_25 : decode cX0_exists 25 = .ok (.ireturn, 1) := by decide +kernel
theorem dX0_find_0 : decode cX0_find 0 = .ok (.aload_n 0, 1) := by decide +kernel
theorem dX0_find_1 : decode cX0_find 1 = .ok (.getfield 19, 3) := by decide +kernel
theorem dX0_find_4 : decode cX0_find 4 = .ok (.aload_n 0, 1) := by decide +kernel
theorem dX0_find_5 : decode cX0_find 5 = .ok (.getfield 9, 3) := by decide +kernel
theorem dX0_find_8 : decode cX0_find 8 = .ok (.getfield 26, 3) := by decide +kernel
theorem dX0_find_11 : decode cX0_find 11 = .ok (.iconst 0, 1) := by decide +kernel
theorem dX0_find_12 : decode cX0_find 12 = .ok (.iastore, 1) := by decide +kernel
theorem dX0_find_13 : decode cX0_find 13 = .ok (.aload_n 0, 1) := by decide +kernel
theorem dX0_find_14 : decode cX0_find 14 = .ok (.getfield 9, 3) := by decide +kernel
theorem dX0_find_17 : decode cX0_find 17 = .ok (.getfield 26, 3) := by decide +kernel
theorem dX0_find_20 : decode cX0_find 20 = .ok (.iconst 1, 1) := by decide +kernel
theorem dX0_find_21 : decode cX0_find 21 = .ok (.isub, 1) := by decide +kernel
theorem dX0_find_22 : decode cX0_find 22 = .ok (.istore_n 1, 1) := by decide +kernel
theorem dX0_find_23 : decode cX0_find 23 = .ok (.iload_n 1, 1) := by decide +kernel
theorem dX0_find_24 : decode cX0_find 24 = .ok (.ifCond .lt 88, 3) := by decide +kernel
theorem dX0_find_27 : decode cX0_find 27 = .ok (.aload_n 0, 1) := by decide +kernel
theorem dX0_find_28 : decode cX0_find 28 = .ok (.getfield 19, 3) := by decide +kernel
theorem dX0_find_31 : decode cX0_find 31 = .ok (.iload_n 1, 1) := by decide +kernel
theorem dX0_find_32 : decode cX0_find 32 = .ok (.iconst (-1), 1) := by decide +kernel
theorem dX0_find_33 : decode cX0_find 33 = .ok (.iastore, 1) := by decide +kernel
theorem dX0_find_34 : decode cX0_find 34 = .ok (.aload_n 0, 1) := by decide +kernel
theorem dX0_find_35 : decode cX0_find 35 = .ok (.getfield 23, 3) := by decide +kernel
theorem dX0_find_38 : decode cX0_find 38 = .ok (.iload_n 1, 1) := by decide +kernel
theorem dX0_find_39 : decode cX0_find 39 = .ok (.iconst (-1), 1) := by decide +kernel
theorem dX0_find_40 : decode cX0_find 40 = .ok (.iastore, 1) := by decide +kernel
theorem dX0_find_41 : decode cX0_find 41 = .ok (.iload_n 1, 1) := by decide +kernel
theorem dX0_find_42 : decode cX0_find 42 = .ok (.istore_n 2, 1) := by decide +kernel
theorem dX0_find_43 : decode cX0_find 43 = .ok (.iload_n 2, 1) := by decide +kernel
theorem dX0_find_44 : decode cX0_find 44 = .ok (.aload_n 0, 1) := by decide +kernel
theorem dX0_find_45 : decode cX0_find 45 = .ok (.getfield 9, 3) := by decide +kernel
theorem dX0_find_48 : decode cX0_find 48 = .ok (.getfield 26, 3) := by decide +kernel
theorem dX0_find_51 : decode cX0_find 51 = .ok (.if_icmp .ge 55, 3) := by decide +kernel
theorem dX0_find_54 : decode cX0_find 54 = .ok (.aload_n 0, 1) := by decide +kernel
theorem dX0_find_55 : decode cX0_find 55 = .ok (.iload_n 1, 1) := by decide +kernel
theorem dX0_find_56 : decode cX0_find 56 = .ok (.iload_n 2, 1) := by decide +kernel
theorem dX0_find_57 : decode cX0_find 57 = .ok (.invokevirtual 32, 3) := by decide +kernel
theorem dX0_find_60 : decode cX0_find 60 = .ok (.istore_n 3, 1) := by decide +kernel
theorem dX0_find_61 : decode cX0_find 61 = .ok (.iload_n 3, 1) := by decide +kernel
theorem dX0_find_62 : decode cX0_find 62 = .ok (.iconst (-1), 1) := by decide +kernel
theorem dX0_find_63 : decode cX0_find 63 = .ok (.if_icmp .eq 37, 3) := by decide +kernel
theorem dX0_find_66 : decode cX0_find 66 = .ok (.aload_n 0, 1) := by decide +kernel
theorem dX0_find_67 : decode cX0_find 67 = .ok (.getfield 19, 3) := by decide +kernel
theorem dX0_find_70 : decode cX0_find 70 = .ok (.iload_n 1, 1) := by decide +kernel
theorem dX0_find_71 : decode cX0_find 71 = .ok (.iaload, 1) := by decide +kernel
theorem dX0_find_72 : decode cX0_find 72 = .ok (.iconst (-1), 1) := by decide +kernel
theorem dX0_find_73 : decode cX0_find 73 = .ok (.if_icmp .eq 13, 3) := by decide +kernel
theorem dX0_find_76 : decode cX0_find 76 = .ok (.iload_n 3, 1) := by decide +kernel
theorem dX0_find_77 : decode cX0_find 77 = .ok (.aload_n 0, 1) := by decide +kernel
theorem dX0_find_78 : decode cX0_find 78 = .ok (.getfield 19, 3) := by decide +kernel
theorem dX0_find_81 : decode cX0_find 81 = .ok (.iload_n 1, 1) := by decide +kernel
theorem dX0_find_82 : decode cX0_find 82 = .ok (.iaload, 1) := by decide +kernel
theorem dX0_find_83 : decode cX0_find 83 = .ok (.if_icmp .gt 17, 3) := by decide +kernel
theorem dX0_find_86 : decode cX0_find 86 = .ok (.aload_n 0, 1) := by decide +kernel
theorem dX0_find_87 : decode cX0_find 87 = .ok (.getfield 19, 3) := by decide +kernel
theorem dX0_find_90 : decode cX0_find 90 = .ok (.iload_n 1, 1) := by decide +kernel
theorem dX0_find_91 : decode cX0_find 91 = .ok (.iload_n 3, 1) := by decide +kernel
theorem dX0_find_92 : decode cX0_find 92 = .ok (.iastore, 1) := by decide +kernel
theorem dX0_find_93 : decode cX0_find 93 = .ok (.aload_n 0, 1) := by decide +kernel
theorem dX0_find_94 : decode cX0_find 94 = .ok (.getfield 23, 3) := by decide +kernel
theorem dX0_find_97 : decode cX0_find 97 = .ok (.iload_n 1, 1) := by decide +kernel
theorem dX0_find_98 : decode cX0_find 98 = .ok (.iload_n 2, 1) := by decide +kernel
theorem dX0_find_99 : decode cX0_find 99 = .ok (.iastore, 1) := by decide +kernel
theorem dX0_find_100 : decode cX0_find 100 = .ok (.iinc 2 1, 3) := by decide +kernel
theorem dX0_find_103 : decode cX0_find 103 = .ok (.goto (-60), 3) := by decide +kernel
theorem dX0_find_106 : decode cX0_find 106 = .ok (.iinc 1 (-1), 3) := by decide +kernel
theorem dX0_find_109 : decode cX0_find 109 = .ok (.goto (-86), 3) := by decide +kernel
theorem dX0_find_112 : decode cX0_find 112 = .ok (.return_, 1) := by decide +kernel
theorem dX0_sumWith_0 : decode cX0_sumWith 0 = .ok (.aload_n 0, 1) := by decide +kernel
theorem dX0_sumWith_1 : decode cX0_sumWith 1 = .ok (.getfield 19, 3) := by decide +kernel
theorem dX0_sumWith_4 : decode cX0_sumWith 4 = .ok (.iload_n 2, 1) := by decide +kernel
theorem dX0_sumWith_5 : decode cX0_sumWith 5 = .ok (.iconst 1, 1) := by decide +kernel
theorem dX0_sumWith_6 : decode cX0_sumWith 6 = .ok (.iadd, 1) := by decide +kernel
theorem dX0_sumWith_7 : decode cX0_sumWith 7 = .ok (.invokestatic 36, 3) := by decide +kernel
theorem dX0_sumWith_10 : decode cX0_sumWith 10 = .ok (.istore_n 3, 1) := by decide +kernel
theorem dX0_sumWith_11 : decode cX0_sumWith 11 = .ok (.iload_n 3, 1) := by decide +kernel
theorem dX0_sumWith_12 : decode cX0_sumWith 12 = .ok (.iconst (-1), 1) := by decide +kernel
theorem dX0_sumWith_13 : decode cX0_sumWith 13 = .ok (.if_icmp .ne 5, 3) := by decide +kernel
theorem dX0_sumWith_16 : decode cX0_sumWith 16 = .ok (.iconst (-1), 1) := by decide +kernel
theorem dX0_sumWith_17 : decode cX0_sumWith 17 = .ok (.ireturn, 1) := by decide +kernel
theorem dX0_sumWith_18 : decode cX0_sumWith 18 = .ok (.aload_n 0, 1) := by decide +kernel
theorem dX0_sumWith_19 : decode cX0_sumWith 19 = .ok (.getfield 15, 3) := by decide +kernel
theorem dX0_sumWith_22 : decode cX0_sumWith 22 = .ok (.iload_n 1, 1) := by decide +kernel
theorem dX0_sumWith_23 : decode cX0_sumWith 23 = .ok (.iload_n 2, 1) := by decide +kernel
theorem dX0_sumWith_24 : decode cX0_sumWith 24 = .ok (.invokevirtual 40, 3) := by decide +kernel
theorem dX0_sumWith_27 : decode cX0_sumWith 27 = .ok (.istore 4, 2) := by decide +kernel
theorem dX0_sumWith_29 : decode cX0_sumWith 29 = .ok (.iload 4, 2) := by decide +kernel
theorem dX0_sumWith_31 : decode cX0_sumWith 31 = .ok (.iconst (-1), 1) := by decide +kernel
theorem dX0_sumWith_32 : decode cX0_sumWith 32 = .ok (.if_icmp .ne 7, 3) := by decide +kernel
theorem dX0_sumWith_35 : decode cX0_sumWith 35 = .ok (.iconst (-1), 1) := by decide +kernel
theorem dX0_sumWith_36 : decode cX0_sumWith 36 = .ok (.goto 7, 3) := by decide +kernel
theorem dX0_sumWith_39 : decode cX0_sumWith 39 = .ok (.iload 4, 2) := by decide +kernel
theorem dX0_sumWith_41 : decode cX0_sumWith 41 = .ok (.iload_n 3, 1) := by decide +kernel
theorem dX0_sumWith_42 : decode cX0_sumWith 42 = .ok (.iadd, 1) := by decide +kernel
theorem dX0_sumWith_43 : decode cX0_sumWith 43 = .ok (.ireturn, 1) := by decide +kernel
theorem dX1_init_0 : decode cX1_init 0 = .ok (.aload_n 0, 1) := by decide +kernel
theorem dX1_init_1 : decode cX1_init 1 = .ok (.invokespecial 3, 3) := by decide +kernel
theorem dX1_init_4 : decode cX1_init 4 = .ok (.aload_n 0, 1) := by decide +kernel
theorem dX1_init_5 : decode cX1_init 5 = .ok (.aload_n 1, 1) := by decide +kernel
theorem dX1_init_6 : decode cX1_init 6 = .ok (.putfield 9, 3) := by decide +kernel
theorem dX1_init_9 : decode cX1_init 9 = .ok (.aload_n 0, 1) := by decide +kernel
theorem dX1_init_10 : decode cX1_init 10 = .ok (.aload_n 2, 1) := by decide +kernel
theorem dX1_init_11 : decode cX1_init 11 = .ok (.putfield 15, 3) := by decide +kernel
theorem dX1_init_14 : decode cX1_init 14 = .ok (.aload_n 0, 1) := by decide +kernel
theorem dX1_init_15 : decode cX1_init 15 = .ok (.aload_n 3, 1) := by decide +kernel
theorem dX1_init_16 : decode cX1_init 16 = .ok (.putfield 19, 3) := by decide +kernel
theorem dX1_init_19 : decode cX1_init 19 = .ok (.aload_n 0, 1) := by decide +kernel
theorem dX1_init_20 : decode cX1_init 20 = .ok (.aload 4, 2) := by decide +kernel
theorem dX1_init_22 : decode cX1_init 22 = .ok (.putfield 23, 3) := by decide +kernel
theorem dX1_init_25 : decode cX1_init 25 = .ok (.aload_n 0, 1) := by decide +kernel
theorem dX1_init_26 : decode cX1_init 26 = .ok (.iconst 0, 1) := by decide +kernel
theorem dX1_init_27 : decode cX1_init 27 = .ok (.putfield 27, 3) := by decide +kernel
theorem dX1_init_30 : decode cX1_init 30 = .ok (.aload_n 0, 1) := by decide +kernel
theorem dX1_init_31 : decode cX1_init 31 = .ok (.iconst 0, 1) := by decide +kernel
theorem dX1_init_32 : decode cX1_init 32 = .ok (.putfield 31, 3) := by decide +kernel
theorem dX1_init_35 : decode cX1_init 35 = .ok (.aload_n 0, 1) := by decide +kernel
theorem dX1_init_36 : decode cX1_init 36 = .ok (.bipush 61, 2) := by decide +kernel
theorem dX1_init_38 : decode cX1_init 38 = .ok (.newarray .int, 2) := by decide +kernel
theorem dX1_init_40 : decode cX1_init 40 = .ok (.putfield 34, 3) := by decide +kernel
theorem dX1_init_43 : decode cX1_init 43 = .ok (.aload_n 0, 1) := by decide +kernel
theorem dX1_init_44 : decode cX1_init 44 = .ok (.bipush 60, 2) := by decide +kernel
theorem dX1_init_46 : decode cX1_init 46 = .ok (.newarray .int, 2) := by decide +kernel
theorem dX1_init_48 : decode cX1_init 48 = .ok (.putfield 38, 3) := by decide +kernel
theorem dX1_init_51 : decode cX1_init 51 = .ok (.aload_n 0, 1) := by decide +kernel
theorem dX1_init_52 : decode cX1_init 52 = .ok (.bipush 60, 2) := by decide +kernel
theorem dX1_init_54 : decode cX1_init 54 = .ok (.newarray .int, 2) := by decide +kernel
theorem dX1_init_56 : decode cX1_init 56 = .ok (.putfield 41, 3) := by decide +kernel
theorem dX1_init_59 : decode cX1_init 59 = .ok (.aload_n 0, 1) := by decide +kernel
theorem dX1_init_60 : decode cX1_init 60 = .ok (.bipush 60, 2) := by decide +kernel
theorem dX1_init_62 : decode cX1_init 62 = .ok (.newarray .int, 2) := by decide +kernel
theorem dX1_init_64 : decode cX1_init 64 = .ok (.putfield 44, 3) := by decide +kernel
theorem dX1_init_67 : decode cX1_init 67 = .ok (.aload_n 0, 1) := by decide +kernel
theorem dX1_init_68 : decode cX1_init 68 = .ok (.bipush 60, 2) := by decide +kernel
theorem dX1_init_70 : decode cX1_init 70 = .ok (.newarray .int, 2) := by decide +kernel
theorem dX1_init_72 : decode cX1_init 72 = .ok (.putfield 47, 3) := by decide +kernel
theorem dX1_init_75 : decode cX1_init 75 = .ok (.aload_n 0, 1) := by decide +kernel
theorem dX1_init_76 : decode cX1_init 76 = .ok (.new 50, 3) := by decide +kernel
theorem dX1_init_79 : decode cX1_init 79 = .ok (.dup, 1) := by decide +kernel
theorem dX1_init_80 : decode cX1_init 80 = .ok (.invokespecial 52, 3) := by decide +kernel
theorem dX1_init_83 : decode cX1_init 83 = .ok (.putfield 53, 3) := by decide +kernel
theorem dX1_init_86 : decode cX1_init 86 = .ok (.return_, 1) := by decide +kernel
theorem dX1_hasLine_0 : decode cX1_hasLine 0 = .ok (.iload_n 1, 1) := by decide +kernel
theorem dX1_hasLine_1 : decode cX1_hasLine 1 = .ok (.ifCond .lt 15, 3) := by decide +kernel
theorem dX1_hasLine_4 : decode cX1_hasLine 4 = .ok (.iload_n 1, 1) := by decide +kernel
theorem dX1_hasLine_5 : decode cX1_hasLine 5 = .ok (.aload_n 0, 1) := by decide +kernel
theorem dX1_hasLine_6 : decode cX1_hasLine 6 = .ok (.getfield 27, 3) := by decide +kernel
theorem dX1_hasLine_9 : decode cX1_hasLine 9 = .ok (.if_icmp .ge 7, 3) := by decide +kernel
theorem dX1_hasLine_12 : decode cX1_hasLine 12 = .ok (.iconst 1, 1) := by decide +kernel
theorem dX1_hasLine_13 : decode cX1_hasLine 13 = .ok (.goto 4, 3) := by decide +kernel
theorem dX1_hasLine_16 : decode cX1_hasLine 16 = .ok (.iconst 0, 1) := by decide +kernel
theorem dX1_hasLine_17 : decode cX1_hasLine 17 = .ok (.ireturn, 1) := by decide +kernel
theorem dX1_firstWord_0 : decode cX1_firstWord 0 = .ok (.aload_n 0, 1) := by decide +kernel
theorem dX1_firstWord_1 : decode cX1_firstWord 1 = .ok (.iload_n 1, 1) := by decide +kernel
theorem dX1_firstWord_2 : decode cX1_firstWord 2 = .ok (.invokevirtual 57, 3) := by decide +kernel
theorem dX1_firstWord_5 : decode cX1_firstWord 5 = .ok (.ifCond .eq 12, 3) := by decide +kernel
theorem dX1_firstWord_8 : decode cX1_firstWord 8 = .ok (.aload_n 0, 1) := by decide +kernel
theorem dX1_firstWord_9 : decode cX1_firstWord 9 = .ok (.getfield 34, 3) := by decide +kernel
theorem dX1_firstWord_12 : decode cX1_firstWord 12 = .ok (.iload_n 1, 1) := by decide +kernel
theorem dX1_firstWord_13 : decode cX1_firstWord 13 = .ok (.iaload, 1) := by decide +kernel
theorem dX1_firstWord_14 : decode cX1_firstWord 14 = .ok (.goto 4, 3) := by decide +kernel
theorem dX1_firstWord_17 : decode cX1_firstWord 17 = .ok (.iconst (-1), 1) := by decide +kernel
theorem dX1_firstWord_18 : decode cX1_firstWord 18 = .ok (.ireturn, 1) := by decide +kernel
theorem dX1_lastWord_0 : decode cX1_lastWord 0 = .ok (.aload_n 0, 1) := by decide +kernel
theorem dX1_lastWord_1 : decode cX1_lastWord 1 = .ok (.iload_n 1, 1) := by decide +kernel
theorem dX1_lastWord_2 : decode cX1_lastWord 2 = .ok (.invokevirtual 57, 3) := by decide +kernel
theorem dX1_lastWord_5 : decode cX1_lastWord 5 = .ok (.ifCond .eq 16, 3) := by decide +kernel
theorem dX1_lastWord_8 : decode cX1_lastWord 8 = .ok (.aload_n 0, 1) := by decide +kernel
theorem dX1_lastWord_9 : decode cX1_lastWord 9 = .ok (.getfield 34, 3) := by decide +kernel
theorem dX1_lastWord_12 : decode cX1_lastWord 12 = .ok (.iload_n 1, 1) := by decide +kernel
theorem dX1_lastWord_13 : decode cX1_lastWord 13 = .ok (.iconst 1, 1) := by decide +kernel
theorem dX1_lastWord_14 : decode cX1_lastWord 14 = .ok (.iadd, 1) := by decide +kernel
theorem dX1_lastWord_15 : decode cX1_lastWord 15 = .ok (.iaload, 1) := by decide +kernel
theorem dX1_lastWord_16 : decode cX1_lastWord 16 = .ok (.iconst 1, 1) := by decide +kernel
theorem dX1_lastWord_17 : decode cX1_lastWord 17 = .ok (.isub, 1) := by decide +kernel
theorem dX1_lastWord_18 : decode cX1_lastWord 18 = .ok (.goto 4, 3) := by decide +kernel
theorem dX1_lastWord_21 : decode cX1_lastWord 21 = .ok (.iconst (-1), 1) := by decide +kernel
theorem dX1_lastWord_22 : decode cX1_lastWord 22 = .ok (.ireturn, 1) := by decide +kernel
theorem dX1_endOf_0 : decode cX1_endOf 0 = .ok (.aload_n 0, 1) := by decide +kernel
theorem dX1_endOf_1 : decode cX1_endOf 1 = .ok (.getfield 44, 3) := by decide +kernel
theorem dX1_endOf_4 : decode cX1_endOf 4 = .ok (.iload_n 1, 1) := by decide +kernel
theorem dX1_endOf_5 : decode cX1_endOf 5 = .ok (.invokestatic 61, 3) := by decide +kernel
theorem dX1_endOf_8 : decode cX1_endOf 8 = .ok (.aload_n 0, 1) := by decide +kernel
theorem dX1_endOf_9 : decode cX1_endOf 9 = .ok (.getfield 9, 3) := by decide +kernel
theorem dX1_endOf_12 : decode cX1_endOf 12 = .ok (.getfield 65, 3) := by decide +kernel
theorem dX1_endOf_15 : decode cX1_endOf 15 = .ok (.iload_n 1, 1) := by decide +kernel
theorem dX1_endOf_16 : decode cX1_endOf 16 = .ok (.invokestatic 61, 3) := by decide +kernel
theorem dX1_endOf_19 : decode cX1_endOf 19 = .ok (.iadd, 1) := by decide +kernel
theorem dX1_endOf_20 : decode cX1_endOf 20 = .ok (.ireturn, 1) := by decide +kernel
theorem dX1_demeritsBefore_0 : decode cX1_demeritsBefore 0 = .ok (.iconst 0, 1) := by decide +kernel
theorem dX1_demeritsBefore_1 : decode cX1_demeritsBefore 1 = .ok (.istore_n 2, 1) := by decide +kernel
theorem dX1_demeritsBefore_2 : decode cX1_demeritsBefore 2 = .ok (.iconst 0, 1) := by decide +kernel
theorem dX1_demeritsBefore_3 : decode cX1_demeritsBefore 3 = .ok (.istore_n 3, 1) := by decide +kernel
theorem dX1_demeritsBefore_4 : decode cX1_demeritsBefore 4 = .ok (.iload_n 3, 1) := by decide +kernel
theorem dX1_demeritsBefore_5 : decode cX1_demeritsBefore 5 = .ok (.iload_n 1, 1) := by decide +kernel
theorem dX1_demeritsBefore_6 : decode cX1_demeritsBefore 6 = .ok (.if_icmp .ge 37, 3) := by decide +kernel
theorem dX1_demeritsBefore_9 : decode cX1_demeritsBefore 9 = .ok (.iload_n 3, 1) := by decide +kernel
theorem dX1_demeritsBefore_10 : decode cX1_demeritsBefore 10 = .ok (.aload_n 0, 1) := by decide +kernel
theorem dX1_demeritsBefore_11 : decode cX1_demeritsBefore 11 = .ok (.getfield 27, 3) := by decide +kernel
theorem dX1_demeritsBefore_14 : decode cX1_demeritsBefore 14 = .ok (.if_icmp .ge 29, 3) := by decide +kernel
theorem dX1_demeritsBefore_17 : decode cX1_demeritsBefore 17 = .ok (.iload_n 2, 1) := by decide +kernel
theorem dX1_demeritsBefore_18 : decode cX1_demeritsBefore 18 = .ok (.aload_n 0, 1) := by decide +kernel
theorem dX1_demeritsBefore_19 : decode cX1_demeritsBefore 19 = .ok (.getfield 19, 3) := by decide +kernel
theorem dX1_demeritsBefore_22 : decode cX1_demeritsBefore 22 = .ok (.aload_n 0, 1) := by decide +kernel
theorem dX1_demeritsBefore_23 : decode cX1_demeritsBefore 23 = .ok (.iload_n 3, 1) := by decide +kernel
theorem dX1_demeritsBefore_24 : decode cX1_demeritsBefore 24 = .ok (.invokevirtual 70, 3) := by decide +kernel
theorem dX1_demeritsBefore_27 : decode cX1_demeritsBefore 27 = .ok (.aload_n 0, 1) := by decide +kernel
theorem dX1_demeritsBefore_28 : decode cX1_demeritsBefore 28 = .ok (.iload_n 3, 1) := by decide +kernel
theorem dX1_demeritsBefore_29 : decode cX1_demeritsBefore 29 = .ok (.invokevirtual 74, 3) := by decide +kernel
theorem dX1_demeritsBefore_32 : decode cX1_demeritsBefore 32 = .ok (.invokevirtual 77, 3) := by decide +kernel
theorem dX1_demeritsBefore_35 : decode cX1_demeritsBefore 35 = .ok (.iadd, 1) := by decide +kernel
theorem dX1_demeritsBefore_36 : decode cX1_demeritsBefore 36 = .ok (.istore_n 2, 1) := by decide +kernel
theorem dX1_demeritsBefore_37 : decode cX1_demeritsBefore 37 = .ok (.iinc 3 1, 3) := by decide +kernel
theorem dX1_demeritsBefore_40 : decode cX1_demeritsBefore 40 = .ok (.goto (-36), 3) := by decide +kernel
theorem dX1_demeritsBefore_43 : decode cX1_demeritsBefore 43 = .ok (.iload_n 2, 1) := by decide +kernel
theorem dX1_demeritsBefore_44 : decode cX1_demeritsBefore 44 = .ok (.ireturn, 1) := by decide +kernel
theorem dX1_linesWorseThan_0 : decode cX1_linesWorseThan 0 = .ok (.aload_n 0, 1) := by decide +kernel
theorem dX1_linesWorseThan_1 : decode cX1_linesWorseThan 1 = .ok (.getfield 19, 3) := by decide +kernel
theorem dX1_linesWorseThan_4 : decode cX1_linesWorseThan 4 = .ok (.aload_n 0, 1) := by decide +kernel
theorem dX1_linesWorseThan_5 : decode cX1_linesWorseThan 5 = .ok (.iload_n 1, 1) := by decide +kernel
theorem dX1_linesWorseThan_6 : decode cX1_linesWorseThan 6 = .ok (.invokevirtual 70, 3) := by decide +kernel
theorem dX1_linesWorseThan_9 : decode cX1_linesWorseThan 9 = .ok (.aload_n 0, 1) := by decide +kernel
theorem dX1_linesWorseThan_10 : decode cX1_linesWorseThan 10 = .ok (.iload_n 1, 1) := by decide +kernel
theorem dX1_linesWorseThan_11 : decode cX1_linesWorseThan 11 = .ok (.invokevirtual 74, 3) := by decide +kernel
theorem dX1_linesWorseThan_14 : decode cX1_linesWorseThan 14 = .ok (.invokevirtual 82, 3) := by decide +kernel
theorem dX1_linesWorseThan_17 : decode cX1_linesWorseThan 17 = .ok (.istore_n 2, 1) := by decide +kernel
theorem dX1_linesWorseThan_18 : decode cX1_linesWorseThan 18 = .ok (.iconst 0, 1) := by decide +kernel
theorem dX1_linesWorseThan_19 : decode cX1_linesWorseThan 19 = .ok (.istore_n 3, 1) := by decide +kernel
theorem dX1_linesWorseThan_20 : decode cX1_linesWorseThan 20 = .ok (.iconst 0, 1) := by decide +kernel
theorem dX1_linesWorseThan_21 : decode cX1_linesWorseThan 21 = .ok (.istore 4, 2) := by decide +kernel
theorem dX1_linesWorseThan_23 : decode cX1_linesWorseThan 23 = .ok (.iload 4, 2) := by decide +kernel
theorem dX1_linesWorseThan_25 : decode cX1_linesWorseThan 25 = .ok (.aload_n 0, 1) := by decide +kernel
theorem dX1_linesWorseThan_26 : decode cX1_linesWorseThan 26 = .ok (.getfield 27, 3) := by decide +kernel
theorem dX1_linesWorseThan_29 : decode cX1_linesWorseThan 29 = .ok (.if_icmp .ge 51, 3) := by decide +kernel
theorem dX1_linesWorseThan_32 : decode cX1_linesWorseThan 32 = .ok (.aload_n 0, 1) := by decide +kernel
theorem dX1_linesWorseThan_33 : decode cX1_linesWorseThan 33 = .ok (.getfield 19, 3) := by decide +kernel
theorem dX1_linesWorseThan_36 : decode cX1_linesWorseThan 36 = .ok (.aload_n 0, 1) := by decide +kernel
theorem dX1_linesWorseThan_37 : decode cX1_linesWorseThan 37 = .ok (.iload 4, 2) := by decide +kernel
theorem dX1_linesWorseThan_39 : decode cX1_linesWorseThan 39 = .ok (.invokevirtual 70, 3) := by decide +kernel
theorem dX1_linesWorseThan_42 : decode cX1_linesWorseThan 42 = .ok (.aload_n 0, 1) := by decide +kernel
theorem dX1_linesWorseThan_43 : decode cX1_linesWorseThan 43 = .ok (.iload 4, 2) := by decide +kernel
theorem dX1_linesWorseThan_45 : decode cX1_linesWorseThan 45 = .ok (.invokevirtual 74, 3) := by decide +kernel
theorem dX1_linesWorseThan_48 : decode cX1_linesWorseThan 48 = .ok (.invokevirtual 82, 3) := by decide +kernel
theorem dX1_linesWorseThan_51 : decode cX1_linesWorseThan 51 = .ok (.istore 5, 2) := by decide +kernel
theorem dX1_linesWorseThan_53 : decode cX1_linesWorseThan 53 = .ok (.iload 5, 2) := by decide +kernel
theorem dX1_linesWorseThan_55 : decode cX1_linesWorseThan 55 = .ok (.iload_n 2, 1) := by decide +kernel
theorem dX1_linesWorseThan_56 : decode cX1_linesWorseThan 56 = .ok (.if_icmp .gt 15, 3) := by decide +kernel
theorem dX1_linesWorseThan_59 : decode cX1_linesWorseThan 59 = .ok (.iload 5, 2) := by decide +kernel
theorem dX1_linesWorseThan_61 : decode cX1_linesWorseThan 61 = .ok (.iload_n 2, 1) := by decide +kernel
theorem dX1_linesWorseThan_62 : decode cX1_linesWorseThan 62 = .ok (.if_icmp .ne 12, 3) := by decide +kernel
theorem dX1_linesWorseThan_65 : decode cX1_linesWorseThan 65 = .ok (.iload 4, 2) := by decide +kernel
theorem dX1_linesWorseThan_67 : decode cX1_linesWorseThan 67 = .ok (.iload_n 1, 1) := by decide +kernel
theorem dX1_linesWorseThan_68 : decode cX1_linesWorseThan 68 = .ok (.if_icmp .ge 6, 3) := by decide +kernel
theorem dX1_linesWorseThan_71 : decode cX1_linesWorseThan 71 = .ok (.iinc 3 1, 3) := by decide +kernel
theorem dX1_linesWorseThan_74 : decode cX1_linesWorseThan 74 = .ok (.iinc 4 1, 3) := by decide +kernel
theorem dX1_linesWorseThan_77 : decode cX1_linesWorseThan 77 = .ok (.goto (-54), 3) := by decide +kernel
theorem dX1_linesWorseThan_80 : decode cX1_linesWorseThan 80 = .ok (.iload_n 3, 1) := by decide +kernel
theorem dX1_linesWorseThan_81 : decode cX1_linesWorseThan 81 = .ok (.ireturn, 1) := by decide +kernel
theorem dX1_secondLast_0 : decode cX1_secondLast 0 = .ok (.aload_n 0, 1) := by decide +kernel
theorem dX1_secondLast_1 : decode cX1_secondLast 1 = .ok (.iload_n 1, 1) := by decide +kernel
theorem dX1_secondLast_2 : decode cX1_secondLast 2 = .ok (.invokevirtual 57, 3) := by decide +kernel
theorem dX1_secondLast_5 : decode cX1_secondLast 5 = .ok (.ifCond .ne 5, 3) := by decide +kernel
theorem dX1_secondLast_8 : decode cX1_secondLast 8 = .ok (.iconst (-1), 1) := by decide +kernel
theorem dX1_secondLast_9 : decode cX1_secondLast 9 = .ok (.ireturn, 1) := by decide +kernel
theorem dX1_secondLast_10 : decode cX1_secondLast 10 = .ok (.aload_n 0, 1) := by decide +kernel
theorem dX1_secondLast_11 : decode cX1_secondLast 11 = .ok (.iload_n 1, 1) := by decide +kernel
theorem dX1_secondLast_12 : decode cX1_secondLast 12 = .ok (.invokevirtual 70, 3) := by decide +kernel
theorem dX1_secondLast_15 : decode cX1_secondLast 15 = .ok (.istore_n 2, 1) := by decide +kernel
theorem dX1_secondLast_16 : decode cX1_secondLast 16 = .ok (.aload_n 0, 1) := by decide +kernel
theorem dX1_secondLast_17 : decode cX1_secondLast 17 = .ok (.iload_n 1, 1) := by decide +kernel
theorem dX1_secondLast_18 : decode cX1_secondLast 18 = .ok (.invokevirtual 74, 3) := by decide +kernel
theorem dX1_secondLast_21 : decode cX1_secondLast 21 = .ok (.istore_n 3, 1) := by decide +kernel
theorem dX1_secondLast_22 : decode cX1_secondLast 22 = .ok (.iconst (-1), 1) := by decide +kernel
theorem dX1_secondLast_23 : decode cX1_secondLast 23 = .ok (.istore 4, 2) := by decide +kernel
theorem dX1_secondLast_25 : decode cX1_secondLast 25 = .ok (.iconst 0, 1) := by decide +kernel
theorem dX1_secondLast_26 : decode cX1_secondLast 26 = .ok (.istore 5, 2) := by decide +kernel
theorem dX1_secondLast_28 : decode cX1_secondLast 28 = .ok (.iload_n 2, 1) := by decide +kernel
theorem dX1_secondLast_29 : decode cX1_secondLast 29 = .ok (.istore 6, 2) := by decide +kernel
theorem dX1_secondLast_31 : decode cX1_secondLast 31 = .ok (.iload 6, 2) := by decide +kernel
theorem dX1_secondLast_33 : decode cX1_secondLast 33 = .ok (.aload_n 0, 1) := by decide +kernel
theorem dX1_secondLast_34 : decode cX1_secondLast 34 = .ok (.getfield 9, 3) := by decide +kernel
theorem dX1_secondLast_37 : decode cX1_secondLast 37 = .ok (.getfield 85, 3) := by decide +kernel
theorem dX1_secondLast_40 : decode cX1_secondLast 40 = .ok (.if_icmp .ge 58, 3) := by decide +kernel
theorem dX1_secondLast_43 : decode cX1_secondLast 43 = .ok (.iload 6, 2) := by decide +kernel
theorem dX1_secondLast_45 : decode cX1_secondLast 45 = .ok (.iload_n 3, 1) := by decide +kernel
theorem dX1_secondLast_46 : decode cX1_secondLast 46 = .ok (.if_icmp .ne 7, 3) := by decide +kernel
theorem dX1_secondLast_49 : decode cX1_secondLast 49 = .ok (.iconst (-1), 1) := by decide +kernel
theorem dX1_secondLast_50 : decode cX1_secondLast 50 = .ok (.goto 13, 3) := by decide +kernel
theorem dX1_secondLast_53 : decode cX1_secondLast 53 = .ok (.aload_n 0, 1) := by decide +kernel
theorem dX1_secondLast_54 : decode cX1_secondLast 54 = .ok (.getfield 23, 3) := by decide +kernel
theorem dX1_secondLast_57 : decode cX1_secondLast 57 = .ok (.iload_n 2, 1) := by decide +kernel
theorem dX1_secondLast_58 : decode cX1_secondLast 58 = .ok (.iload 6, 2) := by decide +kernel
theorem dX1_secondLast_60 : decode cX1_secondLast 60 = .ok (.invokevirtual 88, 3) := by decide +kernel
theorem dX1_secondLast_63 : decode cX1_secondLast 63 = .ok (.istore 7, 2) := by decide +kernel
theorem dX1_secondLast_65 : decode cX1_secondLast 65 = .ok (.iload 7, 2) := by decide +kernel
theorem dX1_secondLast_67 : decode cX1_secondLast 67 = .ok (.iconst (-1), 1) := by decide +kernel
theorem dX1_secondLast_68 : decode cX1_secondLast 68 = .ok (.if_icmp .eq 24, 3) := by decide +kernel
theorem dX1_secondLast_71 : decode cX1_secondLast 71 = .ok (.iload 4, 2) := by decide +kernel
theorem dX1_secondLast_73 : decode cX1_secondLast 73 = .ok (.iconst (-1), 1) := by decide +kernel
theorem dX1_secondLast_74 : decode cX1_secondLast 74 = .ok (.if_icmp .eq 10, 3) := by decide +kernel
theorem dX1_secondLast_77 : decode cX1_secondLast 77 = .ok (.iload 7, 2) := by decide +kernel
theorem dX1_secondLast_79 : decode cX1_secondLast 79 = .ok (.iload 5, 2) := by decide +kernel
theorem dX1_secondLast_81 : decode cX1_secondLast 81 = .ok (.if_icmp .gt 11, 3) := by decide +kernel
theorem dX1_secondLast_84 : decode cX1_secondLast 84 = .ok (.iload 6, 2) := by decide +kernel
theorem dX1_secondLast_86 : decode cX1_secondLast 86 = .ok (.istore 4, 2) := by decide +kernel
theorem dX1_secondLast_88 : decode cX1_secondLast 88 = .ok (.iload 7, 2) := by decide +kernel
theorem dX1_secondLast_90 : decode cX1_secondLast 90 = .ok (.istore 5, 2) := by decide +kernel
theorem dX1_secondLast_92 : decode cX1_secondLast 92 = .ok (.iinc 6 1, 3) := by decide +kernel
theorem dX1_secondLast_95 : decode cX1_secondLast 95 = .ok (.goto (-64), 3) := by decide +kernel
theorem dX1_secondLast_98 : decode cX1_secondLast 98 = .ok (.iload 4, 2) := by decide +kernel
theorem dX1_secondLast_100 : decode cX1_secondLast 100 = .ok (.ireturn, 1) := by decide +kernel
theorem dX1_becomeBest_0 : decode cX1_becomeBest 0 = .ok (.aload_n 0, 1) := by decide +kernel
theorem dX1_becomeBest_1 : decode cX1_becomeBest 1 = .ok (.iconst 0, 1) := by decide +kernel
theorem dX1_becomeBest_2 : decode cX1_becomeBest 2 = .ok (.putfield 27, 3) := by decide +kernel
theorem dX1_becomeBest_5 : decode cX1_becomeBest 5 = .ok (.aload_n 0, 1) := by decide +kernel
theorem dX1_becomeBest_6 : decode cX1_becomeBest 6 = .ok (.getfield 23, 3) := by decide +kernel
theorem dX1_becomeBest_9 : decode cX1_becomeBest 9 = .ok (.invokevirtual 93, 3) := by decide +kernel
theorem dX1_becomeBest_12 : decode cX1_becomeBest 12 = .ok (.ifCond .eq 8, 3) := by decide +kernel
theorem dX1_becomeBest_15 : decode cX1_becomeBest 15 = .ok (.aload_n 0, 1) := by decide +kernel
theorem dX1_becomeBest_16 : decode cX1_becomeBest 16 = .ok (.iconst 0, 1) := by decide +kernel
theorem dX1_becomeBest_17 : decode cX1_becomeBest 17 = .ok (.invokevirtual 97, 3) := by decide +kernel
theorem dX1_becomeBest_20 : decode cX1_becomeBest 20 = .ok (.aload_n 0, 1) := by decide +kernel
theorem dX1_becomeBest_21 : decode cX1_becomeBest 21 = .ok (.invokevirtual 101, 3) := by decide +kernel
theorem dX1_becomeBest_24 : decode cX1_becomeBest 24 = .ok (.return_, 1) := by decide +kernel
theorem dX1_copyBreaks_0 : decode cX1_copyBreaks 0 = .ok (.aload_n 0, 1) := by decide +kernel
theorem dX1_copyBreaks_1 : decode cX1_copyBreaks 1 = .ok (.aload_n 1, 1) := by decide +kernel
theorem dX1_copyBreaks_2 : decode cX1_copyBreaks 2 = .ok (.getfield 27, 3) := by decide +kernel
theorem dX1_copyBreaks_5 : decode cX1_copyBreaks 5 = .ok (.putfield 27, 3) := by decide +kernel
theorem dX1_copyBreaks_8 : decode cX1_copyBreaks 8 = .ok (.iconst 0, 1) := by decide +kernel
theorem dX1_copyBreaks_9 : decode cX1_copyBreaks 9 = .ok (.istore_n 2, 1) := by decide +kernel
theorem dX1_copyBreaks_10 : decode cX1_copyBreaks 10 = .ok (.iload_n 2, 1) := by decide +kernel
theorem dX1_copyBreaks_11 : decode cX1_copyBreaks 11 = .ok (.bipush 60, 2) := by decide +kernel
theorem dX1_copyBreaks_13 : decode cX1_copyBreaks 13 = .ok (.if_icmp .gt 21, 3) := by decide +kernel
theorem dX1_copyBreaks_16 : decode cX1_copyBreaks 16 = .ok (.aload_n 0, 1) := by decide +kernel
theorem dX1_copyBreaks_17 : decode cX1_copyBreaks 17 = .ok (.getfield 34, 3) := by decide +kernel
theorem dX1_copyBreaks_20 : decode cX1_copyBreaks 20 = .ok (.iload_n 2, 1) := by decide +kernel
theorem dX1_copyBreaks_21 : decode cX1_copyBreaks 21 = .ok (.aload_n 1, 1) := by decide +kernel
theorem dX1_copyBreaks_22 : decode cX1_copyBreaks 22 = .ok (.getfield 34, 3) := by decide +kernel
theorem dX1_copyBreaks_25 : decode cX1_copyBreaks 25 = .ok (.iload_n 2, 1) := by decide +kernel
theorem dX1_copyBreaks_26 : decode cX1_copyBreaks 26 = .ok (.iaload, 1) := by decide +kernel
theorem dX1_copyBreaks_27 : decode cX1_copyBreaks 27 = .ok (.iastore, 1) := by decide +kernel
theorem dX1_copyBreaks_28 : decode cX1_copyBreaks 28 = .ok (.iinc 2 1, 3) := by decide +kernel
theorem dX1_copyBreaks_31 : decode cX1_copyBreaks 31 = .ok (.goto (-21), 3) := by decide +kernel
theorem dX1_copyBreaks_34 : decode cX1_copyBreaks 34 = .ok (.return_, 1) := by decide +kernel
theorem dX1_endLineWith_0 : decode cX1_endLineWith 0 = .ok (.aload_n 0, 1) := by decide +kernel
theorem dX1_endLineWith_1 : decode cX1_endLineWith 1 = .ok (.iload_n 1, 1) := by decide +kernel
theorem dX1_endLineWith_2 : decode cX1_endLineWith 2 = .ok (.invokevirtual 57, 3) := by decide +kernel
theorem dX1_endLineWith_5 : decode cX1_endLineWith 5 = .ok (.ifCond .eq 14, 3) := by decide +kernel
theorem dX1_endLineWith_8 : decode cX1_endLineWith 8 = .ok (.aload_n 0, 1) := by decide +kernel
theorem dX1_endLineWith_9 : decode cX1_endLineWith 9 = .ok (.getfield 9, 3) := by decide +kernel
theorem dX1_endLineWith_12 : decode cX1_endLineWith 12 = .ok (.iload_n 2, 1) := by decide +kernel
theorem dX1_endLineWith_13 : decode cX1_endLineWith 13 = .ok (.invokevirtual 104, 3) := by decide +kernel
theorem dX1_endLineWith_16 : decode cX1_endLineWith 16 = .ok (.ifCond .ne 4, 3) := by decide +kernel
theorem dX1_endLineWith_19 : decode cX1_endLineWith 19 = .ok (.return_, 1) := by decide +kernel
theorem dX1_endLineWith_20 : decode cX1_endLineWith 20 = .ok (.aload_n 0, 1) := by decide +kernel
theorem dX1_endLineWith_21 : decode cX1_endLineWith 21 = .ok (.iload_n 1, 1) := by decide +kernel
theorem dX1_endLineWith_22 : decode cX1_endLineWith 22 = .ok (.iconst 1, 1) := by decide +kernel
theorem dX1_endLineWith_23 : decode cX1_endLineWith 23 = .ok (.iadd, 1) := by decide +kernel
theorem dX1_endLineWith_24 : decode cX1_endLineWith 24 = .ok (.putfield 27, 3) := by decide +kernel
theorem dX1_endLineWith_27 : decode cX1_endLineWith 27 = .ok (.aload_n 0, 1) := by decide +kernel
theorem dX1_endLineWith_28 : decode cX1_endLineWith 28 = .ok (.iload_n 2, 1) := by decide +kernel
theorem dX1_endLineWith_29 : decode cX1_endLineWith 29 = .ok (.iconst 1, 1) := by decide +kernel
theorem dX1_endLineWith_30 : decode cX1_endLineWith 30 = .ok (.iadd, 1) := by decide +kernel
theorem dX1_endLineWith_31 : decode cX1_endLineWith 31 = .ok (.invokevirtual 97, 3) := by decide +kernel
theorem dX1_endLineWith_34 : decode cX1_endLineWith 34 = .ok (.aload_n 0, 1) := by decide +kernel
theorem dX1_endLineWith_35 : decode cX1_endLineWith 35 = .ok (.invokevirtual 101, 3) := by decide +kernel
theorem dX1_endLineWith_38 : decode cX1_endLineWith 38 = .ok (.return_, 1) := by decide +kernel
theorem dX1_goOnFrom_0 : decode cX1_goOnFrom 0 = .ok (.iload_n 1, 1) := by decide +kernel
theorem dX1_goOnFrom_1 : decode cX1_goOnFrom 1 = .ok (.istore_n 2, 1) := by decide +kernel
theorem dX1_goOnFrom_2 : decode cX1_goOnFrom 2 = .ok (.iload_n 2, 1) := by decide +kernel
theorem dX1_goOnFrom_3 : decode cX1_goOnFrom 3 = .ok (.aload_n 0, 1) := by decide +kernel
theorem dX1_goOnFrom_4 : decode cX1_goOnFrom 4 = .ok (.getfield 9, 3) := by decide +kernel
theorem dX1_goOnFrom_7 : decode cX1_goOnFrom 7 = .ok (.getfield 85, 3) := by decide +kernel
theorem dX1_goOnFrom_10 : decode cX1_goOnFrom 10 = .ok (.if_icmp .ge 49, 3) := by decide +kernel
theorem dX1_goOnFrom_13 : decode cX1_goOnFrom 13 = .ok (.aload_n 0, 1) := by decide +kernel
theorem dX1_goOnFrom_14 : decode cX1_goOnFrom 14 = .ok (.getfield 27, 3) := by decide +kernel
theorem dX1_goOnFrom_17 : decode cX1_goOnFrom 17 = .ok (.bipush 60, 2) := by decide +kernel
theorem dX1_goOnFrom_19 : decode cX1_goOnFrom 19 = .ok (.if_icmp .ge 40, 3) := by decide +kernel
theorem dX1_goOnFrom_22 : decode cX1_goOnFrom 22 = .ok (.aload_n 0, 1) := by decide +kernel
theorem dX1_goOnFrom_23 : decode cX1_goOnFrom 23 = .ok (.getfield 34, 3) := by decide +kernel
theorem dX1_goOnFrom_26 : decode cX1_goOnFrom 26 = .ok (.aload_n 0, 1) := by decide +kernel
theorem dX1_goOnFrom_27 : decode cX1_goOnFrom 27 = .ok (.getfield 27, 3) := by decide +kernel
theorem dX1_goOnFrom_30 : decode cX1_goOnFrom 30 = .ok (.iload_n 2, 1) := by decide +kernel
theorem dX1_goOnFrom_31 : decode cX1_goOnFrom 31 = .ok (.iastore, 1) := by decide +kernel
theorem dX1_goOnFrom_32 : decode cX1_goOnFrom 32 = .ok (.aload_n 0, 1) := by decide +kernel
theorem dX1_goOnFrom_33 : decode cX1_goOnFrom 33 = .ok (.getfield 23, 3) := by decide +kernel
theorem dX1_goOnFrom_36 : decode cX1_goOnFrom 36 = .ok (.getfield 107, 3) := by decide +kernel
theorem dX1_goOnFrom_39 : decode cX1_goOnFrom 39 = .ok (.iload_n 2, 1) := by decide +kernel
theorem dX1_goOnFrom_40 : decode cX1_goOnFrom 40 = .ok (.invokestatic 61, 3) := by decide +kernel
theorem dX1_goOnFrom_43 : decode cX1_goOnFrom 43 = .ok (.iconst 1, 1) := by decide +kernel
theorem dX1_goOnFrom_44 : decode cX1_goOnFrom 44 = .ok (.iadd, 1) := by decide +kernel
theorem dX1_goOnFrom_45 : decode cX1_goOnFrom 45 = .ok (.istore_n 2, 1) := by decide +kernel
theorem dX1_goOnFrom_46 : decode cX1_goOnFrom 46 = .ok (.aload_n 0, 1) := by decide +kernel
theorem dX1_goOnFrom_47 : decode cX1_goOnFrom 47 = .ok (.dup, 1) := by decide +kernel
theorem dX1_goOnFrom_48 : decode cX1_goOnFrom 48 = .ok (.getfield 27, 3) := by decide +kernel
theorem dX1_goOnFrom_51 : decode cX1_goOnFrom 51 = .ok (.iconst 1, 1) := by decide +kernel
theorem dX1_goOnFrom_52 : decode cX1_goOnFrom 52 = .ok (.iadd, 1) := by decide +kernel
theorem dX1_goOnFrom_53 : decode cX1_goOnFrom 53 = .ok (.putfield 27, 3) := by decide +kernel
theorem dX1_goOnFrom_56 : decode cX1_goOnFrom 56 = .ok (.goto (-54), 3) := by decide +kernel
theorem dX1_goOnFrom_59 : decode cX1_goOnFrom 59 = .ok (.aload_n 0, 1) := by decide +kernel
theorem dX1_goOnFrom_60 : decode cX1_goOnFrom 60 = .ok (.getfield 34, 3) := by decide +kernel
theorem dX1_goOnFrom_63 : decode cX1_goOnFrom 63 = .ok (.aload_n 0, 1) := by decide +kernel
theorem dX1_goOnFrom_64 : decode cX1_goOnFrom 64 = .ok (.getfield 27, 3) := by decide +kernel
theorem dX1_goOnFrom_67 : decode cX1_goOnFrom 67 = .ok (.aload_n 0, 1) := by decide +kernel
theorem dX1_goOnFrom_68 : decode cX1_goOnFrom 68 = .ok (.getfield 9, 3) := by decide +kernel
theorem dX1_goOnFrom_71 : decode cX1_goOnFrom 71 = .ok (.getfield 85, 3) := by decide +kernel
theorem dX1_goOnFrom_74 : decode cX1_goOnFrom 74 = .ok (.iastore, 1) := by decide +kernel
theorem dX1_goOnFrom_75 : decode cX1_goOnFrom 75 = .ok (.return_, 1) := by decide +kernel
theorem dX1_settle_0 : decode cX1_settle 0 = .ok (.aload_n 0, 1) := by decide +kernel
theorem dX1_settle_1 : decode cX1_settle 1 = .ok (.iconst 0, 1) := by decide +kernel
theorem dX1_settle_2 : decode cX1_settle 2 = .ok (.putfield 31, 3) := by decide +kernel
theorem dX1_settle_5 : decode cX1_settle 5 = .ok (.iconst 0, 1) := by decide +kernel
theorem dX1_settle_6 : decode cX1_settle 6 = .ok (.istore_n 1, 1) := by decide +kernel
theorem dX1_settle_7 : decode cX1_settle 7 = .ok (.iload_n 1, 1) := by decide +kernel
theorem dX1_settle_8 : decode cX1_settle 8 = .ok (.aload_n 0, 1) := by decide +kernel
theorem dX1_settle_9 : decode cX1_settle 9 = .ok (.getfield 27, 3) := by decide +kernel
theorem dX1_settle_12 : decode cX1_settle 12 = .ok (.if_icmp .ge 74, 3) := by decide +kernel
theorem dX1_settle_15 : decode cX1_settle 15 = .ok (.aload_n 0, 1) := by decide +kernel
theorem dX1_settle_16 : decode cX1_settle 16 = .ok (.iload_n 1, 1) := by decide +kernel
theorem dX1_settle_17 : decode cX1_settle 17 = .ok (.invokevirtual 70, 3) := by decide +kernel
theorem dX1_settle_20 : decode cX1_settle 20 = .ok (.istore_n 2, 1) := by decide +kernel
theorem dX1_settle_21 : decode cX1_settle 21 = .ok (.aload_n 0, 1) := by decide +kernel
theorem dX1_settle_22 : decode cX1_settle 22 = .ok (.iload_n 1, 1) := by decide +kernel
theorem dX1_settle_23 : decode cX1_settle 23 = .ok (.invokevirtual 74, 3) := by decide +kernel
theorem dX1_settle_26 : decode cX1_settle 26 = .ok (.istore_n 3, 1) := by decide +kernel
theorem dX1_settle_27 : decode cX1_settle 27 = .ok (.aload_n 0, 1) := by decide +kernel
theorem dX1_settle_28 : decode cX1_settle 28 = .ok (.getfield 9, 3) := by decide +kernel
theorem dX1_settle_31 : decode cX1_settle 31 = .ok (.iload_n 2, 1) := by decide +kernel
theorem dX1_settle_32 : decode cX1_settle 32 = .ok (.invokevirtual 104, 3) := by decide +kernel
theorem dX1_settle_35 : decode cX1_settle 35 = .ok (.ifCond .eq 45, 3) := by decide +kernel
theorem dX1_settle_38 : decode cX1_settle 38 = .ok (.aload_n 0, 1) := by decide +kernel
theorem dX1_settle_39 : decode cX1_settle 39 = .ok (.getfield 9, 3) := by decide +kernel
theorem dX1_settle_42 : decode cX1_settle 42 = .ok (.iload_n 3, 1) := by decide +kernel
theorem dX1_settle_43 : decode cX1_settle 43 = .ok (.invokevirtual 104, 3) := by decide +kernel
theorem dX1_settle_46 : decode cX1_settle 46 = .ok (.ifCond .eq 34, 3) := by decide +kernel
theorem dX1_settle_49 : decode cX1_settle 49 = .ok (.aload_n 0, 1) := by decide +kernel
theorem dX1_settle_50 : decode cX1_settle 50 = .ok (.dup, 1) := by decide +kernel
theorem dX1_settle_51 : decode cX1_settle 51 = .ok (.getfield 31, 3) := by decide +kernel
theorem dX1_settle_54 : decode cX1_settle 54 = .ok (.aload_n 0, 1) := by decide +kernel
theorem dX1_settle_55 : decode cX1_settle 55 = .ok (.getfield 19, 3) := by decide +kernel
theorem dX1_settle_58 : decode cX1_settle 58 = .ok (.iload_n 2, 1) := by decide +kernel
theorem dX1_settle_59 : decode cX1_settle 59 = .ok (.iload_n 3, 1) := by decide +kernel
theorem dX1_settle_60 : decode cX1_settle 60 = .ok (.invokevirtual 77, 3) := by decide +kernel
theorem dX1_settle_63 : decode cX1_settle 63 = .ok (.iadd, 1) := by decide +kernel
theorem dX1_settle_64 : decode cX1_settle 64 = .ok (.putfield 31, 3) := by decide +kernel
theorem dX1_settle_67 : decode cX1_settle 67 = .ok (.aload_n 0, 1) := by decide +kernel
theorem dX1_settle_68 : decode cX1_settle 68 = .ok (.iload_n 2, 1) := by decide +kernel
theorem dX1_settle_69 : decode cX1_settle 69 = .ok (.iload_n 3, 1) := by decide +kernel
theorem dX1_settle_70 : decode cX1_settle 70 = .ok (.invokevirtual 110, 3) := by decide +kernel
theorem dX1_settle_73 : decode cX1_settle 73 = .ok (.aload_n 0, 1) := by decide +kernel
theorem dX1_settle_74 : decode cX1_settle 74 = .ok (.iload_n 1, 1) := by decide +kernel
theorem dX1_settle_75 : decode cX1_settle 75 = .ok (.iload_n 2, 1) := by decide +kernel
theorem dX1_settle_76 : decode cX1_settle 76 = .ok (.iload_n 3, 1) := by decide +kernel
theorem dX1_settle_77 : decode cX1_settle 77 = .ok (.invokevirtual 114, 3) := by decide +kernel
theorem dX1_settle_80 : decode cX1_settle 80 = .ok (.iinc 1 1, 3) := by decide +kernel
theorem dX1_settle_83 : decode cX1_settle 83 = .ok (.goto (-76), 3) := by decide +kernel
theorem dX1_settle_86 : decode cX1_settle 86 = .ok (.aload_n 0, 1) := by decide +kernel
theorem dX1_settle_87 : decode cX1_settle 87 = .ok (.getfield 53, 3) := by decide +kernel
theorem dX1_settle_90 : decode cX1_settle 90 = .ok (.aload_n 0, 1) := by decide +kernel
theorem dX1_settle_91 : decode cX1_settle 91 = .ok (.aload_n 0, 1) := by decide +kernel
theorem dX1_settle_92 : decode cX1_settle 92 = .ok (.getfield 9, 3) := by decide +kernel
theorem dX1_settle_95 : decode cX1_settle 95 = .ok (.getfield 85, 3) := by decide +kernel
theorem dX1_settle_98 : decode cX1_settle 98 = .ok (.aload_n 0, 1) := by decide +kernel
theorem dX1_settle_99 : decode cX1_settle 99 = .ok (.getfield 15, 3) := by decide +kernel
theorem dX1_settle_102 : decode cX1_settle 102 = .ok (.getfield 118, 3) := by decide +kernel
theorem dX1_settle_105 : decode cX1_settle 105 = .ok (.invokevirtual 123, 3) := by decide +kernel
theorem dX1_settle_108 : decode cX1_settle 108 = .ok (.return_, 1) := by decide +kernel
theorem dX1_shareOut_0 : decode cX1_shareOut 0 = .ok (.iload_n 1, 1) := by decide +kernel
theorem dX1_shareOut_1 : decode cX1_shareOut 1 = .ok (.istore_n 3, 1) := by decide +kernel
theorem dX1_shareOut_2 : decode cX1_shareOut 2 = .ok (.iload_n 3, 1) := by decide +kernel
theorem dX1_shareOut_3 : decode cX1_shareOut 3 = .ok (.iload_n 2, 1) := by decide +kernel
theorem dX1_shareOut_4 : decode cX1_shareOut 4 = .ok (.if_icmp .ge 34, 3) := by decide +kernel
theorem dX1_shareOut_7 : decode cX1_shareOut 7 = .ok (.aload_n 0, 1) := by decide +kernel
theorem dX1_shareOut_8 : decode cX1_shareOut 8 = .ok (.getfield 47, 3) := by decide +kernel
theorem dX1_shareOut_11 : decode cX1_shareOut 11 = .ok (.iload_n 3, 1) := by decide +kernel
theorem dX1_shareOut_12 : decode cX1_shareOut 12 = .ok (.aload_n 0, 1) := by decide +kernel
theorem dX1_shareOut_13 : decode cX1_shareOut 13 = .ok (.getfield 15, 3) := by decide +kernel
theorem dX1_shareOut_16 : decode cX1_shareOut 16 = .ok (.getfield 127, 3) := by decide +kernel
theorem dX1_shareOut_19 : decode cX1_shareOut 19 = .ok (.aload_n 0, 1) := by decide +kernel
theorem dX1_shareOut_20 : decode cX1_shareOut 20 = .ok (.getfield 9, 3) := by decide +kernel
theorem dX1_shareOut_23 : decode cX1_shareOut 23 = .ok (.getfield 130, 3) := by decide +kernel
theorem dX1_shareOut_26 : decode cX1_shareOut 26 = .ok (.iload_n 3, 1) := by decide +kernel
theorem dX1_shareOut_27 : decode cX1_shareOut 27 = .ok (.iaload, 1) := by decide +kernel
theorem dX1_shareOut_28 : decode cX1_shareOut 28 = .ok (.invokestatic 61, 3) := by decide +kernel
theorem dX1_shareOut_31 : decode cX1_shareOut 31 = .ok (.iastore, 1) := by decide +kernel
theorem dX1_shareOut_32 : decode cX1_shareOut 32 = .ok (.iinc 3 1, 3) := by decide +kernel
theorem dX1_shareOut_35 : decode cX1_shareOut 35 = .ok (.goto (-33), 3) := by decide +kernel
theorem dX1_shareOut_38 : decode cX1_shareOut 38 = .ok (.aload_n 0, 1) := by decide +kernel
theorem dX1_shareOut_39 : decode cX1_shareOut 39 = .ok (.getfield 15, 3) := by decide +kernel
theorem dX1_shareOut_42 : decode cX1_shareOut 42 = .ok (.getfield 133, 3) := by decide +kernel
theorem dX1_shareOut_45 : decode cX1_shareOut 45 = .ok (.aload_n 0, 1) := by decide +kernel
theorem dX1_shareOut_46 : decode cX1_shareOut 46 = .ok (.getfield 19, 3) := by decide +kernel
theorem dX1_shareOut_49 : decode cX1_shareOut 49 = .ok (.iload_n 1, 1) := by decide +kernel
theorem dX1_shareOut_50 : decode cX1_shareOut 50 = .ok (.iload_n 2, 1) := by decide +kernel
theorem dX1_shareOut_51 : decode cX1_shareOut 51 = .ok (.invokevirtual 136, 3) := by decide +kernel
theorem dX1_shareOut_54 : decode cX1_shareOut 54 = .ok (.isub, 1) := by decide +kernel
theorem dX1_shareOut_55 : decode cX1_shareOut 55 = .ok (.istore_n 3, 1) := by decide +kernel
theorem dX1_shareOut_56 : decode cX1_shareOut 56 = .ok (.iload_n 3, 1) := by decide +kernel
theorem dX1_shareOut_57 : decode cX1_shareOut 57 = .ok (.ifCond .le 15, 3) := by decide +kernel
theorem dX1_shareOut_60 : decode cX1_shareOut 60 = .ok (.aload_n 0, 1) := by decide +kernel
theorem dX1_shareOut_61 : decode cX1_shareOut 61 = .ok (.getfield 19, 3) := by decide +kernel
theorem dX1_shareOut_64 : decode cX1_shareOut 64 = .ok (.iload_n 2, 1) := by decide +kernel
theorem dX1_shareOut_65 : decode cX1_shareOut 65 = .ok (.invokevirtual 139, 3) := by decide +kernel
theorem dX1_shareOut_68 : decode cX1_shareOut 68 = .ok (.ifCond .eq 4, 3) := by decide +kernel
theorem dX1_shareOut_71 : decode cX1_shareOut 71 = .ok (.return_, 1) := by decide +kernel
theorem dX1_shareOut_72 : decode cX1_shareOut 72 = .ok (.iload_n 3, 1) := by decide +kernel
theorem dX1_shareOut_73 : decode cX1_shareOut 73 = .ok (.ifCond .le 7, 3) := by decide +kernel
theorem dX1_shareOut_76 : decode cX1_shareOut 76 = .ok (.iconst 1, 1) := by decide +kernel
theorem dX1_shareOut_77 : decode cX1_shareOut 77 = .ok (.goto 4, 3) := by decide +kernel
theorem dX1_shareOut_80 : decode cX1_shareOut 80 = .ok (.iconst (-1), 1) := by decide +kernel
theorem dX1_shareOut_81 : decode cX1_shareOut 81 = .ok (.istore 4, 2) := by decide +kernel
theorem dX1_shareOut_83 : decode cX1_shareOut 83 = .ok (.iload_n 3, 1) := by decide +kernel
theorem dX1_shareOut_84 : decode cX1_shareOut 84 = .ok (.invokestatic 142, 3) := by decide +kernel
theorem dX1_shareOut_87 : decode cX1_shareOut 87 = .ok (.istore 5, 2) := by decide +kernel
theorem dX1_shareOut_89 : decode cX1_shareOut 89 = .ok (.iconst 0, 1) := by decide +kernel
theorem dX1_shareOut_90 : decode cX1_shareOut 90 = .ok (.istore 6, 2) := by decide +kernel
theorem dX1_shareOut_92 : decode cX1_shareOut 92 = .ok (.iload 6, 2) := by decide +kernel
theorem dX1_shareOut_94 : decode cX1_shareOut 94 = .ok (.bipush 40, 2) := by decide +kernel
theorem dX1_shareOut_96 : decode cX1_shareOut 96 = .ok (.if_icmp .ge 71, 3) := by decide +kernel
theorem dX1_shareOut_99 : decode cX1_shareOut 99 = .ok (.iload 5, 2) := by decide +kernel
theorem dX1_shareOut_101 : decode cX1_shareOut 101 = .ok (.ifCond .le 66, 3) := by decide +kernel
theorem dX1_shareOut_104 : decode cX1_shareOut 104 = .ok (.aload_n 0, 1) := by decide +kernel
theorem dX1_shareOut_105 : decode cX1_shareOut 105 = .ok (.iload_n 1, 1) := by decide +kernel
theorem dX1_shareOut_106 : decode cX1_shareOut 106 = .ok (.iload_n 2, 1) := by decide +kernel
theorem dX1_shareOut_107 : decode cX1_shareOut 107 = .ok (.iload 4, 2) := by decide +kernel
theorem dX1_shareOut_109 : decode cX1_shareOut 109 = .ok (.ifCond .le 7, 3) := by decide +kernel
theorem dX1_shareOut_112 : decode cX1_shareOut 112 = .ok (.iconst 2, 1) := by decide +kernel
theorem dX1_shareOut_113 : decode cX1_shareOut 113 = .ok (.goto 4, 3) := by decide +kernel
theorem dX1_shareOut_116 : decode cX1_shareOut 116 = .ok (.iconst 1, 1) := by decide +kernel
theorem dX1_shareOut_117 : decode cX1_shareOut 117 = .ok (.iload 4, 2) := by decide +kernel
theorem dX1_shareOut_119 : decode cX1_shareOut 119 = .ok (.iload 5, 2) := by decide +kernel
theorem dX1_shareOut_121 : decode cX1_shareOut 121 = .ok (.invokevirtual 147, 3) := by decide +kernel
theorem dX1_shareOut_124 : decode cX1_shareOut 124 = .ok (.istore 5, 2) := by decide +kernel
theorem dX1_shareOut_126 : decode cX1_shareOut 126 = .ok (.aload_n 0, 1) := by decide +kernel
theorem dX1_shareOut_127 : decode cX1_shareOut 127 = .ok (.iload_n 1, 1) := by decide +kernel
theorem dX1_shareOut_128 : decode cX1_shareOut 128 = .ok (.iload_n 2, 1) := by decide +kernel
theorem dX1_shareOut_129 : decode cX1_shareOut 129 = .ok (.iload 4, 2) := by decide +kernel
theorem dX1_shareOut_131 : decode cX1_shareOut 131 = .ok (.ifCond .le 7, 3) := by decide +kernel
theorem dX1_shareOut_134 : decode cX1_shareOut 134 = .ok (.iconst 1, 1) := by decide +kernel
theorem dX1_shareOut_135 : decode cX1_shareOut 135 = .ok (.goto 4, 3) := by decide +kernel
theorem dX1_shareOut_138 : decode cX1_shareOut 138 = .ok (.iconst 2, 1) := by decide +kernel
theorem dX1_shareOut_139 : decode cX1_shareOut 139 = .ok (.iload 4, 2) := by decide +kernel
theorem dX1_shareOut_141 : decode cX1_shareOut 141 = .ok (.iload 5, 2) := by decide +kernel
theorem dX1_shareOut_143 : decode cX1_shareOut 143 = .ok (.invokevirtual 147, 3) := by decide +kernel
theorem dX1_shareOut_146 : decode cX1_shareOut 146 = .ok (.istore 5, 2) := by decide +kernel
theorem dX1_shareOut_148 : decode cX1_shareOut 148 = .ok (.aload_n 0, 1) := by decide +kernel
theorem dX1_shareOut_149 : decode cX1_shareOut 149 = .ok (.iload_n 1, 1) := by decide +kernel
theorem dX1_shareOut_150 : decode cX1_shareOut 150 = .ok (.iload_n 2, 1) := by decide +kernel
theorem dX1_shareOut_151 : decode cX1_shareOut 151 = .ok (.iconst 0, 1) := by decide +kernel
theorem dX1_shareOut_152 : decode cX1_shareOut 152 = .ok (.iload 4, 2) := by decide +kernel
theorem dX1_shareOut_154 : decode cX1_shareOut 154 = .ok (.iload 5, 2) := by decide +kernel
theorem dX1_shareOut_156 : decode cX1_shareOut 156 = .ok (.invokevirtual 147, 3) := by decide +kernel
theorem dX1_shareOut_159 : decode cX1_shareOut 159 = .ok (.istore 5, 2) := by decide +kernel
theorem dX1_shareOut_161 : decode cX1_shareOut 161 = .ok (.iinc 6 1, 3) := by decide +kernel
theorem dX1_shareOut_164 : decode cX1_shareOut 164 = .ok (.goto (-72), 3) := by decide +kernel
theorem dX1_shareOut_167 : decode cX1_shareOut 167 = .ok (.return_, 1) := by decide +kernel
theorem dX1_changeKind_0 : decode cX1_changeKind 0 = .ok (.iload 4, 2) := by decide +kernel
theorem dX1_changeKind_2 : decode cX1_changeKind 2 = .ok (.ifCond .le 13, 3) := by decide +kernel
theorem dX1_changeKind_5 : decode cX1_changeKind 5 = .ok (.aload_n 0, 1) := by decide +kernel
theorem dX1_changeKind_6 : decode cX1_changeKind 6 = .ok (.getfield 15, 3) := by decide +kernel
theorem dX1_changeKind_9 : decode cX1_changeKind 9 = .ok (.getfield 151, 3) := by decide +kernel
theorem dX1_changeKind_12 : decode cX1_changeKind 12 = .ok (.goto 10, 3) := by decide +kernel
theorem dX1_changeKind_15 : decode cX1_changeKind 15 = .ok (.aload_n 0, 1) := by decide +kernel
theorem dX1_changeKind_16 : decode cX1_changeKind 16 = .ok (.getfield 15, 3) := by decide +kernel
theorem dX1_changeKind_19 : decode cX1_changeKind 19 = .ok (.getfield 154, 3) := by decide +kernel
theorem dX1_changeKind_22 : decode cX1_changeKind 22 = .ok (.iload_n 3, 1) := by decide +kernel
theorem dX1_changeKind_23 : decode cX1_changeKind 23 = .ok (.invokestatic 61, 3) := by decide +kernel
theorem dX1_changeKind_26 : decode cX1_changeKind 26 = .ok (.istore 6, 2) := by decide +kernel
theorem dX1_changeKind_28 : decode cX1_changeKind 28 = .ok (.iload 5, 2) := by decide +kernel
theorem dX1_changeKind_30 : decode cX1_changeKind 30 = .ok (.istore 7, 2) := by decide +kernel
theorem dX1_changeKind_32 : decode cX1_changeKind 32 = .ok (.iload_n 1, 1) := by decide +kernel
theorem dX1_changeKind_33 : decode cX1_changeKind 33 = .ok (.istore 8, 2) := by decide +kernel
theorem dX1_changeKind_35 : decode cX1_changeKind 35 = .ok (.iload 8, 2) := by decide +kernel
theorem dX1_changeKind_37 : decode cX1_changeKind 37 = .ok (.iload_n 2, 1) := by decide +kernel
theorem dX1_changeKind_38 : decode cX1_changeKind 38 = .ok (.if_icmp .ge 55, 3) := by decide +kernel
theorem dX1_changeKind_41 : decode cX1_changeKind 41 = .ok (.iload 7, 2) := by decide +kernel
theorem dX1_changeKind_43 : decode cX1_changeKind 43 = .ok (.ifCond .le 50, 3) := by decide +kernel
theorem dX1_changeKind_46 : decode cX1_changeKind 46 = .ok (.aload_n 0, 1) := by decide +kernel
theorem dX1_changeKind_47 : decode cX1_changeKind 47 = .ok (.getfield 9, 3) := by decide +kernel
theorem dX1_changeKind_50 : decode cX1_changeKind 50 = .ok (.getfield 130, 3) := by decide +kernel
theorem dX1_changeKind_53 : decode cX1_changeKind 53 = .ok (.iload 8, 2) := by decide +kernel
theorem dX1_changeKind_55 : decode cX1_changeKind 55 = .ok (.iaload, 1) := by decide +kernel
theorem dX1_changeKind_56 : decode cX1_changeKind 56 = .ok (.iload_n 3, 1) := by decide +kernel
theorem dX1_changeKind_57 : decode cX1_changeKind 57 = .ok (.if_icmp .ne 30, 3) := by decide +kernel
theorem dX1_changeKind_60 : decode cX1_changeKind 60 = .ok (.aload_n 0, 1) := by decide +kernel
theorem dX1_changeKind_61 : decode cX1_changeKind 61 = .ok (.getfield 47, 3) := by decide +kernel
theorem dX1_changeKind_64 : decode cX1_changeKind 64 = .ok (.iload 8, 2) := by decide +kernel
theorem dX1_changeKind_66 : decode cX1_changeKind 66 = .ok (.iaload, 1) := by decide +kernel
theorem dX1_changeKind_67 : decode cX1_changeKind 67 = .ok (.iload 6, 2) := by decide +kernel
theorem dX1_changeKind_69 : decode cX1_changeKind 69 = .ok (.if_icmp .eq 18, 3) := by decide +kernel
theorem dX1_changeKind_72 : decode cX1_changeKind 72 = .ok (.aload_n 0, 1) := by decide +kernel
theorem dX1_changeKind_73 : decode cX1_changeKind 73 = .ok (.getfield 47, 3) := by decide +kernel
theorem dX1_changeKind_76 : decode cX1_changeKind 76 = .ok (.iload 8, 2) := by decide +kernel
theorem dX1_changeKind_78 : decode cX1_changeKind 78 = .ok (.dup2, 1) := by decide +kernel
theorem dX1_changeKind_79 : decode cX1_changeKind 79 = .ok (.iaload, 1) := by decide +kernel
theorem dX1_changeKind_80 : decode cX1_changeKind 80 = .ok (.iload 4, 2) := by decide +kernel
theorem dX1_changeKind_82 : decode cX1_changeKind 82 = .ok (.iadd, 1) := by decide +kernel
theorem dX1_changeKind_83 : decode cX1_changeKind 83 = .ok (.iastore, 1) := by decide +kernel
theorem dX1_changeKind_84 : decode cX1_changeKind 84 = .ok (.iinc 7 (-1), 3) := by decide +kernel
theorem dX1_changeKind_87 : decode cX1_changeKind 87 = .ok (.iinc 8 1, 3) := by decide +kernel
theorem dX1_changeKind_90 : decode cX1_changeKind 90 = .ok (.goto (-55), 3) := by decide +kernel
theorem dX1_changeKind_93 : decode cX1_changeKind 93 = .ok (.iload 7, 2) := by decide +kernel
theorem dX1_changeKind_95 : decode cX1_changeKind 95 = .ok (.ireturn, 1) := by decide +kernel
theorem dX1_placeWords_0 : decode cX1_placeWords 0 = .ok (.aload_n 0, 1) := by decide +kernel
theorem dX1_placeWords_1 : decode cX1_placeWords 1 = .ok (.getfield 19, 3) := by decide +kernel
theorem dX1_placeWords_4 : decode cX1_placeWords 4 = .ok (.getfield 157, 3) := by decide +kernel
theorem dX1_placeWords_7 : decode cX1_placeWords 7 = .ok (.iload_n 2, 1) := by decide +kernel
theorem dX1_placeWords_8 : decode cX1_placeWords 8 = .ok (.iaload, 1) := by decide +kernel
theorem dX1_placeWords_9 : decode cX1_placeWords 9 = .ok (.ineg, 1) := by decide +kernel
theorem dX1_placeWords_10 : decode cX1_placeWords 10 = .ok (.istore 4, 2) := by decide +kernel
theorem dX1_placeWords_12 : decode cX1_placeWords 12 = .ok (.iload_n 2, 1) := by decide +kernel
theorem dX1_placeWords_13 : decode cX1_placeWords 13 = .ok (.istore 5, 2) := by decide +kernel
theorem dX1_placeWords_15 : decode cX1_placeWords 15 = .ok (.iload 5, 2) := by decide +kernel
theorem dX1_placeWords_17 : decode cX1_placeWords 17 = .ok (.iload_n 3, 1) := by decide +kernel
theorem dX1_placeWords_18 : decode cX1_placeWords 18 = .ok (.if_icmp .gt 70, 3) := by decide +kernel
theorem dX1_placeWords_21 : decode cX1_placeWords 21 = .ok (.aload_n 0, 1) := by decide +kernel
theorem dX1_placeWords_22 : decode cX1_placeWords 22 = .ok (.getfield 38, 3) := by decide +kernel
theorem dX1_placeWords_25 : decode cX1_placeWords 25 = .ok (.iload 5, 2) := by decide +kernel
theorem dX1_placeWords_27 : decode cX1_placeWords 27 = .ok (.iload_n 1, 1) := by decide +kernel
theorem dX1_placeWords_28 : decode cX1_placeWords 28 = .ok (.iastore, 1) := by decide +kernel
theorem dX1_placeWords_29 : decode cX1_placeWords 29 = .ok (.aload_n 0, 1) := by decide +kernel
theorem dX1_placeWords_30 : decode cX1_placeWords 30 = .ok (.getfield 41, 3) := by decide +kernel
theorem dX1_placeWords_33 : decode cX1_placeWords 33 = .ok (.iload 5, 2) := by decide +kernel
theorem dX1_placeWords_35 : decode cX1_placeWords 35 = .ok (.iload 5, 2) := by decide +kernel
theorem dX1_placeWords_37 : decode cX1_placeWords 37 = .ok (.iload_n 3, 1) := by decide +kernel
theorem dX1_placeWords_38 : decode cX1_placeWords 38 = .ok (.if_icmp .ge 7, 3) := by decide +kernel
theorem dX1_placeWords_41 : decode cX1_placeWords 41 = .ok (.iload_n 1, 1) := by decide +kernel
theorem dX1_placeWords_42 : decode cX1_placeWords 42 = .ok (.goto 4, 3) := by decide +kernel
theorem dX1_placeWords_45 : decode cX1_placeWords 45 = .ok (.iconst (-1), 1) := by decide +kernel
theorem dX1_placeWords_46 : decode cX1_placeWords 46 = .ok (.iastore, 1) := by decide +kernel
theorem dX1_placeWords_47 : decode cX1_placeWords 47 = .ok (.aload_n 0, 1) := by decide +kernel
theorem dX1_placeWords_48 : decode cX1_placeWords 48 = .ok (.getfield 44, 3) := by decide +kernel
theorem dX1_placeWords_51 : decode cX1_placeWords 51 = .ok (.iload 5, 2) := by decide +kernel
theorem dX1_placeWords_53 : decode cX1_placeWords 53 = .ok (.iload 4, 2) := by decide +kernel
theorem dX1_placeWords_55 : decode cX1_placeWords 55 = .ok (.iastore, 1) := by decide +kernel
theorem dX1_placeWords_56 : decode cX1_placeWords 56 = .ok (.aload_n 0, 1) := by decide +kernel
theorem dX1_placeWords_57 : decode cX1_placeWords 57 = .ok (.iload 5, 2) := by decide +kernel
theorem dX1_placeWords_59 : decode cX1_placeWords 59 = .ok (.invokevirtual 160, 3) := by decide +kernel
theorem dX1_placeWords_62 : decode cX1_placeWords 62 = .ok (.iload 5, 2) := by decide +kernel
theorem dX1_placeWords_64 : decode cX1_placeWords 64 = .ok (.iload_n 3, 1) := by decide +kernel
theorem dX1_placeWords_65 : decode cX1_placeWords 65 = .ok (.if_icmp .ge 13, 3) := by decide +kernel
theorem dX1_placeWords_68 : decode cX1_placeWords 68 = .ok (.aload_n 0, 1) := by decide +kernel
theorem dX1_placeWords_69 : decode cX1_placeWords 69 = .ok (.getfield 47, 3) := by decide +kernel
theorem dX1_placeWords_72 : decode cX1_placeWords 72 = .ok (.iload 5, 2) := by decide +kernel
theorem dX1_placeWords_74 : decode cX1_placeWords 74 = .ok (.iaload, 1) := by decide +kernel
theorem dX1_placeWords_75 : decode cX1_placeWords 75 = .ok (.goto 4, 3) := by decide +kernel
theorem dX1_placeWords_78 : decode cX1_placeWords 78 = .ok (.iconst 0, 1) := by decide +kernel
theorem dX1_placeWords_79 : decode cX1_placeWords 79 = .ok (.iadd, 1) := by decide +kernel
theorem dX1_placeWords_80 : decode cX1_placeWords 80 = .ok (.istore 4, 2) := by decide +kernel
theorem dX1_placeWords_82 : decode cX1_placeWords 82 = .ok (.iinc 5 1, 3) := by decide +kernel
theorem dX1_placeWords_85 : decode cX1_placeWords 85 = .ok (.goto (-70), 3) := by decide +kernel
theorem dX1_placeWords_88 : decode cX1_placeWords 88 = .ok (.return_, 1) := by decide +kernel
theorem dX2_init_0 : decode cX2_init 0 = .ok (.aload_n 0, 1) := by decide +kernel
theorem dX2_init_1 : decode cX2_init 1 = .ok (.invokespecial 3, 3) := by decide +kernel
theorem dX2_init_4 : decode cX2_init 4 = .ok (.aload_n 0, 1) := by decide +kernel
theorem dX2_init_5 : decode cX2_init 5 = .ok (.aload_n 1, 1) := by decide +kernel
theorem dX2_init_6 : decode cX2_init 6 = .ok (.putfield 9, 3) := by decide +kernel
theorem dX2_init_9 : decode cX2_init 9 = .ok (.aload_n 0, 1) := by decide +kernel
theorem dX2_init_10 : decode cX2_init 10 = .ok (.aload_n 2, 1) := by decide +kernel
theorem dX2_init_11 : decode cX2_init 11 = .ok (.putfield 15, 3) := by decide +kernel
theorem dX2_init_14 : decode cX2_init 14 = .ok (.aload_n 0, 1) := by decide +kernel
theorem dX2_init_15 : decode cX2_init 15 = .ok (.bipush 61, 2) := by decide +kernel
theorem dX2_init_17 : decode cX2_init 17 = .ok (.newarray .int, 2) := by decide +kernel
theorem dX2_init_19 : decode cX2_init 19 = .ok (.putfield 19, 3) := by decide +kernel
theorem dX2_init_22 : decode cX2_init 22 = .ok (.aload_n 0, 1) := by decide +kernel
theorem dX2_init_23 : decode cX2_init 23 = .ok (.bipush 61, 2) := by decide +kernel
theorem dX2_init_25 : decode cX2_init 25 = .ok (.newarray .int, 2) := by decide +kernel
theorem dX2_init_27 : decode cX2_init 27 = .ok (.putfield 23, 3) := by decide +kernel
theorem dX2_init_30 : decode cX2_init 30 = .ok (.aload_n 0, 1) := by decide +kernel
theorem dX2_init_31 : decode cX2_init 31 = .ok (.bipush 61, 2) := by decide +kernel
theorem dX2_init_33 : decode cX2_init 33 = .ok (.newarray .int, 2) := by decide +kernel
theorem dX2_init_35 : decode cX2_init 35 = .ok (.putfield 26, 3) := by decide +kernel
theorem dX2_init_38 : decode cX2_init 38 = .ok (.aload_n 0, 1) := by decide +kernel
theorem dX2_init_39 : decode cX2_init 39 = .ok (.bipush 61, 2) := by decide +kernel
theorem dX2_init_41 : decode cX2_init 41 = .ok (.newarray .int, 2) := by decide +kernel
theorem dX2_init_43 : decode cX2_init 43 = .ok (.putfield 29, 3) := by decide +kernel
theorem dX2_init_46 : decode cX2_init 46 = .ok (.aload_n 0, 1) := by decide +kernel
theorem dX2_init_47 : decode cX2_init 47 = .ok (.bipush 60, 2) := by decide +kernel
theorem dX2_init_49 : decode cX2_init 49 = .ok (.newarray .int, 2) := by decide +kernel
theorem dX2_init_51 : decode cX2_init 51 = .ok (.putfield 32, 3) := by decide +kernel
theorem dX2_init_54 : decode cX2_init 54 = .ok (.aload_n 0, 1) := by decide +kernel
theorem dX2_init_55 : decode cX2_init 55 = .ok (.bipush 60, 2) := by decide +kernel
theorem dX2_init_57 : decode cX2_init 57 = .ok (.newarray .int, 2) := by decide +kernel
theorem dX2_init_59 : decode cX2_init 59 = .ok (.putfield 35, 3) := by decide +kernel
theorem dX2_init_62 : decode cX2_init 62 = .ok (.return_, 1) := by decide +kernel
theorem dX2_prepare_0 : decode cX2_prepare 0 = .ok (.iconst 0, 1) := by decide +kernel
theorem dX2_prepare_1 : decode cX2_prepare 1 = .ok (.istore_n 1, 1) := by decide +kernel
theorem dX2_prepare_2 : decode cX2_prepare 2 = .ok (.iload_n 1, 1) := by decide +kernel
theorem dX2_prepare_3 : decode cX2_prepare 3 = .ok (.aload_n 0, 1) := by decide +kernel
theorem dX2_prepare_4 : decode cX2_prepare 4 = .ok (.getfield 9, 3) := by decide +kernel
theorem dX2_prepare_7 : decode cX2_prepare 7 = .ok (.getfield 38, 3) := by decide +kernel
theorem dX2_prepare_10 : decode cX2_prepare 10 = .ok (.if_icmp .ge 187, 3) := by decide +kernel
theorem dX2_prepare_13 : decode cX2_prepare 13 = .ok (.aload_n 0, 1) := by decide +kernel
theorem dX2_prepare_14 : decode cX2_prepare 14 = .ok (.getfield 9, 3) := by decide +kernel
theorem dX2_prepare_17 : decode cX2_prepare 17 = .ok (.getfield 44, 3) := by decide +kernel
theorem dX2_prepare_20 : decode cX2_prepare 20 = .ok (.iload_n 1, 1) := by decide +kernel
theorem dX2_prepare_21 : decode cX2_prepare 21 = .ok (.iaload, 1) := by decide +kernel
theorem dX2_prepare_22 : decode cX2_prepare 22 = .ok (.istore_n 2, 1) := by decide +kernel
theorem dX2_prepare_23 : decode cX2_prepare 23 = .ok (.aload_n 0, 1) := by decide +kernel
theorem dX2_prepare_24 : decode cX2_prepare 24 = .ok (.getfield 15, 3) := by decide +kernel
theorem dX2_prepare_27 : decode cX2_prepare 27 = .ok (.getfield 47, 3) := by decide +kernel
theorem dX2_prepare_30 : decode cX2_prepare 30 = .ok (.iload_n 2, 1) := by decide +kernel
theorem dX2_prepare_31 : decode cX2_prepare 31 = .ok (.invokestatic 52, 3) := by decide +kernel
theorem dX2_prepare_34 : decode cX2_prepare 34 = .ok (.istore_n 3, 1) := by decide +kernel
theorem dX2_prepare_35 : decode cX2_prepare 35 = .ok (.aload_n 0, 1) := by decide +kernel
theorem dX2_prepare_36 : decode cX2_prepare 36 = .ok (.getfield 15, 3) := by decide +kernel
theorem dX2_prepare_39 : decode cX2_prepare 39 = .ok (.getfield 56, 3) := by decide +kernel
theorem dX2_prepare_42 : decode cX2_prepare 42 = .ok (.iload_n 2, 1) := by decide +kernel
theorem dX2_prepare_43 : decode cX2_prepare 43 = .ok (.invokestatic 52, 3) := by decide +kernel
theorem dX2_prepare_46 : decode cX2_prepare 46 = .ok (.iload_n 3, 1) := by decide +kernel
theorem dX2_prepare_47 : decode cX2_prepare 47 = .ok (.isub, 1) := by decide +kernel
theorem dX2_prepare_48 : decode cX2_prepare 48 = .ok (.istore 4, 2) := by decide +kernel
theorem dX2_prepare_50 : decode cX2_prepare 50 = .ok (.iload_n 3, 1) := by decide +kernel
theorem dX2_prepare_51 : decode cX2_prepare 51 = .ok (.aload_n 0, 1) := by decide +kernel
theorem dX2_prepare_52 : decode cX2_prepare 52 = .ok (.getfield 15, 3) := by decide +kernel
theorem dX2_prepare_55 : decode cX2_prepare 55 = .ok (.getfield 59, 3) := by decide +kernel
theorem dX2_prepare_58 : decode cX2_prepare 58 = .ok (.iload_n 2, 1) := by decide +kernel
theorem dX2_prepare_59 : decode cX2_prepare 59 = .ok (.invokestatic 52, 3) := by decide +kernel
theorem dX2_prepare_62 : decode cX2_prepare 62 = .ok (.isub, 1) := by decide +kernel
theorem dX2_prepare_63 : decode cX2_prepare 63 = .ok (.istore 5, 2) := by decide +kernel
theorem dX2_prepare_65 : decode cX2_prepare 65 = .ok (.aload_n 0, 1) := by decide +kernel
theorem dX2_prepare_66 : decode cX2_prepare 66 = .ok (.getfield 19, 3) := by decide +kernel
theorem dX2_prepare_69 : decode cX2_prepare 69 = .ok (.iload_n 1, 1) := by decide +kernel
theorem dX2_prepare_70 : decode cX2_prepare 70 = .ok (.iconst 1, 1) := by decide +kernel
theorem dX2_prepare_71 : decode cX2_prepare 71 = .ok (.iadd, 1) := by decide +kernel
theorem dX2_prepare_72 : decode cX2_prepare 72 = .ok (.aload_n 0, 1) := by decide +kernel
theorem dX2_prepare_73 : decode cX2_prepare 73 = .ok (.getfield 19, 3) := by decide +kernel
theorem dX2_prepare_76 : decode cX2_prepare 76 = .ok (.iload_n 1, 1) := by decide +kernel
theorem dX2_prepare_77 : decode cX2_prepare 77 = .ok (.iaload, 1) := by decide +kernel
theorem dX2_prepare_78 : decode cX2_prepare 78 = .ok (.aload_n 0, 1) := by decide +kernel
theorem dX2_prepare_79 : decode cX2_prepare 79 = .ok (.getfield 9, 3) := by decide +kernel
theorem dX2_prepare_82 : decode cX2_prepare 82 = .ok (.getfield 62, 3) := by decide +kernel
theorem dX2_prepare_85 : decode cX2_prepare 85 = .ok (.iload_n 1, 1) := by decide +kernel
theorem dX2_prepare_86 : decode cX2_prepare 86 = .ok (.iaload, 1) := by decide +kernel
theorem dX2_prepare_87 : decode cX2_prepare 87 = .ok (.iadd, 1) := by decide +kernel
theorem dX2_prepare_88 : decode cX2_prepare 88 = .ok (.iastore, 1) := by decide +kernel
theorem dX2_prepare_89 : decode cX2_prepare 89 = .ok (.aload_n 0, 1) := by decide +kernel
theorem dX2_prepare_90 : decode cX2_prepare 90 = .ok (.getfield 23, 3) := by decide +kernel
theorem dX2_prepare_93 : decode cX2_prepare 93 = .ok (.iload_n 1, 1) := by decide +kernel
theorem dX2_prepare_94 : decode cX2_prepare 94 = .ok (.iconst 1, 1) := by decide +kernel
theorem dX2_prepare_95 : decode cX2_prepare 95 = .ok (.iadd, 1) := by decide +kernel
theorem dX2_prepare_96 : decode cX2_prepare 96 = .ok (.aload_n 0, 1) := by decide +kernel
theorem dX2_prepare_97 : decode cX2_prepare 97 = .ok (.getfield 23, 3) := by decide +kernel
theorem dX2_prepare_100 : decode cX2_prepare 100 = .ok (.iload_n 1, 1) := by decide +kernel
theorem dX2_prepare_101 : decode cX2_prepare 101 = .ok (.iaload, 1) := by decide +kernel
theorem dX2_prepare_102 : decode cX2_prepare 102 = .ok (.iload_n 3, 1) := by decide +kernel
theorem dX2_prepare_103 : decode cX2_prepare 103 = .ok (.iadd, 1) := by decide +kernel
theorem dX2_prepare_104 : decode cX2_prepare 104 = .ok (.iastore, 1) := by decide +kernel
theorem dX2_prepare_105 : decode cX2_prepare 105 = .ok (.aload_n 0, 1) := by decide +kernel
theorem dX2_prepare_106 : decode cX2_prepare 106 = .ok (.getfield 26, 3) := by decide +kernel
theorem dX2_prepare_109 : decode cX2_prepare 109 = .ok (.iload_n 1, 1) := by decide +kernel
theorem dX2_prepare_110 : decode cX2_prepare 110 = .ok (.iconst 1, 1) := by decide +kernel
theorem dX2_prepare_111 : decode cX2_prepare 111 = .ok (.iadd, 1) := by decide +kernel
theorem dX2_prepare_112 : decode cX2_prepare 112 = .ok (.aload_n 0, 1) := by decide +kernel
theorem dX2_prepare_113 : decode cX2_prepare 113 = .ok (.getfield 26, 3) := by decide +kernel
theorem dX2_prepare_116 : decode cX2_prepare 116 = .ok (.iload_n 1, 1) := by decide +kernel
theorem dX2_prepare_117 : decode cX2_prepare 117 = .ok (.iaload, 1) := by decide +kernel
theorem dX2_prepare_118 : decode cX2_prepare 118 = .ok (.iload 4, 2) := by decide +kernel
theorem dX2_prepare_120 : decode cX2_prepare 120 = .ok (.iadd, 1) := by decide +kernel
theorem dX2_prepare_121 : decode cX2_prepare 121 = .ok (.iastore, 1) := by decide +kernel
theorem dX2_prepare_122 : decode cX2_prepare 122 = .ok (.aload_n 0, 1) := by decide +kernel
theorem dX2_prepare_123 : decode cX2_prepare 123 = .ok (.getfield 29, 3) := by decide +kernel
theorem dX2_prepare_126 : decode cX2_prepare 126 = .ok (.iload_n 1, 1) := by decide +kernel
theorem dX2_prepare_127 : decode cX2_prepare 127 = .ok (.iconst 1, 1) := by decide +kernel
theorem dX2_prepare_128 : decode cX2_prepare 128 = .ok (.iadd, 1) := by decide +kernel
theorem dX2_prepare_129 : decode cX2_prepare 129 = .ok (.aload_n 0, 1) := by decide +kernel
theorem dX2_prepare_130 : decode cX2_prepare 130 = .ok (.getfield 29, 3) := by decide +kernel
theorem dX2_prepare_133 : decode cX2_prepare 133 = .ok (.iload_n 1, 1) := by decide +kernel
theorem dX2_prepare_134 : decode cX2_prepare 134 = .ok (.iaload, 1) := by decide +kernel
theorem dX2_prepare_135 : decode cX2_prepare 135 = .ok (.iload 5, 2) := by decide +kernel
theorem dX2_prepare_137 : decode cX2_prepare 137 = .ok (.iadd, 1) := by decide +kernel
theorem dX2_prepare_138 : decode cX2_prepare 138 = .ok (.iastore, 1) := by decide +kernel
theorem dX2_prepare_139 : decode cX2_prepare 139 = .ok (.aload_n 0, 1) := by decide +kernel
theorem dX2_prepare_140 : decode cX2_prepare 140 = .ok (.getfield 32, 3) := by decide +kernel
theorem dX2_prepare_143 : decode cX2_prepare 143 = .ok (.iload_n 1, 1) := by decide +kernel
theorem dX2_prepare_144 : decode cX2_prepare 144 = .ok (.aload_n 0, 1) := by decide +kernel
theorem dX2_prepare_145 : decode cX2_prepare 145 = .ok (.getfield 9, 3) := by decide +kernel
theorem dX2_prepare_148 : decode cX2_prepare 148 = .ok (.getfield 65, 3) := by decide +kernel
theorem dX2_prepare_151 : decode cX2_prepare 151 = .ok (.iload_n 1, 1) := by decide +kernel
theorem dX2_prepare_152 : decode cX2_prepare 152 = .ok (.iaload, 1) := by decide +kernel
theorem dX2_prepare_153 : decode cX2_prepare 153 = .ok (.aload_n 0, 1) := by decide +kernel
theorem dX2_prepare_154 : decode cX2_prepare 154 = .ok (.getfield 15, 3) := by decide +kernel
theorem dX2_prepare_157 : decode cX2_prepare 157 = .ok (.getfield 68, 3) := by decide +kernel
theorem dX2_prepare_160 : decode cX2_prepare 160 = .ok (.imul, 1) := by decide +kernel
theorem dX2_prepare_161 : decode cX2_prepare 161 = .ok (.bipush 100, 2) := by decide +kernel
theorem dX2_prepare_163 : decode cX2_prepare 163 = .ok (.idiv, 1) := by decide +kernel
theorem dX2_prepare_164 : decode cX2_prepare 164 = .ok (.iastore, 1) := by decide +kernel
theorem dX2_prepare_165 : decode cX2_prepare 165 = .ok (.aload_n 0, 1) := by decide +kernel
theorem dX2_prepare_166 : decode cX2_prepare 166 = .ok (.getfield 35, 3) := by decide +kernel
theorem dX2_prepare_169 : decode cX2_prepare 169 = .ok (.iload_n 1, 1) := by decide +kernel
theorem dX2_prepare_170 : decode cX2_prepare 170 = .ok (.aload_n 0, 1) := by decide +kernel
theorem dX2_prepare_171 : decode cX2_prepare 171 = .ok (.getfield 9, 3) := by decide +kernel
theorem dX2_prepare_174 : decode cX2_prepare 174 = .ok (.getfield 71, 3) := by decide +kernel
theorem dX2_prepare_177 : decode cX2_prepare 177 = .ok (.iload_n 1, 1) := by decide +kernel
theorem dX2_prepare_178 : decode cX2_prepare 178 = .ok (.iaload, 1) := by decide +kernel
theorem dX2_prepare_179 : decode cX2_prepare 179 = .ok (.aload_n 0, 1) := by decide +kernel
theorem dX2_prepare_180 : decode cX2_prepare 180 = .ok (.getfield 15, 3) := by decide +kernel
theorem dX2_prepare_183 : decode cX2_prepare 183 = .ok (.getfield 68, 3) := by decide +kernel
theorem dX2_prepare_186 : decode cX2_prepare 186 = .ok (.imul, 1) := by decide +kernel
theorem dX2_prepare_187 : decode cX2_prepare 187 = .ok (.bipush 100, 2) := by decide +kernel
theorem dX2_prepare_189 : decode cX2_prepare 189 = .ok (.idiv, 1) := by decide +kernel
theorem dX2_prepare_190 : decode cX2_prepare 190 = .ok (.iastore, 1) := by decide +kernel
theorem dX2_prepare_191 : decode cX2_prepare 191 = .ok (.iinc 1 1, 3) := by decide +kernel
theorem dX2_prepare_194 : decode cX2_prepare 194 = .ok (.goto (-192), 3) := by decide +kernel
theorem dX2_prepare_197 : decode cX2_prepare 197 = .ok (.return_, 1) := by decide +kernel
theorem dX2_isEnd_0 : decode cX2_isEnd 0 = .ok (.iload_n 1, 1) := by decide +kernel
theorem dX2_isEnd_1 : decode cX2_isEnd 1 = .ok (.aload_n 0, 1) := by decide +kernel
theorem dX2_isEnd_2 : decode cX2_isEnd 2 = .ok (.getfield 9, 3) := by decide +kernel
theorem dX2_isEnd_5 : decode cX2_isEnd 5 = .ok (.getfield 38, 3) := by decide +kernel
theorem dX2_isEnd_8 : decode cX2_isEnd 8 = .ok (.iconst 1, 1) := by decide +kernel
theorem dX2_isEnd_9 : decode cX2_isEnd 9 = .ok (.isub, 1) := by decide +kernel
theorem dX2_isEnd_10 : decode cX2_isEnd 10 = .ok (.if_icmp .ne 7, 3) := by decide +kernel
theorem dX2_isEnd_13 : decode cX2_isEnd 13 = .ok (.iconst 1, 1) := by decide +kernel
theorem dX2_isEnd_14 : decode cX2_isEnd 14 = .ok (.goto 4, 3) := by decide +kernel
theorem dX2_isEnd_17 : decode cX2_isEnd 17 = .ok (.iconst 0, 1) := by decide +kernel
theorem dX2_isEnd_18 : decode cX2_isEnd 18 = .ok (.ireturn, 1) := by decide +kernel
theorem dX2_naturalWidth_0 : decode cX2_naturalWidth 0 = .ok (.iload_n 1, 1) := by decide +kernel
theorem dX2_naturalWidth_1 : decode cX2_naturalWidth 1 = .ok (.ifCond .lt 14, 3) := by decide +kernel
theorem dX2_naturalWidth_4 : decode cX2_naturalWidth 4 = .ok (.iload_n 2, 1) := by decide +kernel
theorem dX2_naturalWidth_5 : decode cX2_naturalWidth 5 = .ok (.iload_n 1, 1) := by decide +kernel
theorem dX2_naturalWidth_6 : decode cX2_naturalWidth 6 = .ok (.if_icmp .lt 9, 3) := by decide +kernel
theorem dX2_naturalWidth_9 : decode cX2_naturalWidth 9 = .ok (.iload_n 2, 1) := by decide +kernel
theorem dX2_naturalWidth_10 : decode cX2_naturalWidth 10 = .ok (.bipush 60, 2) := by decide +kernel
theorem dX2_naturalWidth_12 : decode cX2_naturalWidth 12 = .ok (.if_icmp .lt 5, 3) := by decide +kernel
theorem dX2_naturalWidth_15 : decode cX2_naturalWidth 15 = .ok (.iconst 0, 1) := by decide +kernel
theorem dX2_naturalWidth_16 : decode cX2_naturalWidth 16 = .ok (.ireturn, 1) := by decide +kernel
theorem dX2_naturalWidth_17 : decode cX2_naturalWidth 17 = .ok (.aload_n 0, 1) := by decide +kernel
theorem dX2_naturalWidth_18 : decode cX2_naturalWidth 18 = .ok (.getfield 19, 3) := by decide +kernel
theorem dX2_naturalWidth_21 : decode cX2_naturalWidth 21 = .ok (.iload_n 2, 1) := by decide +kernel
theorem dX2_naturalWidth_22 : decode cX2_naturalWidth 22 = .ok (.iconst 1, 1) := by decide +kernel
theorem dX2_naturalWidth_23 : decode cX2_naturalWidth 23 = .ok (.iadd, 1) := by decide +kernel
theorem dX2_naturalWidth_24 : decode cX2_naturalWidth 24 = .ok (.iaload, 1) := by decide +kernel
theorem dX2_naturalWidth_25 : decode cX2_naturalWidth 25 = .ok (.aload_n 0, 1) := by decide +kernel
theorem dX2_naturalWidth_26 : decode cX2_naturalWidth 26 = .ok (.getfield 19, 3) := by decide +kernel
theorem dX2_naturalWidth_29 : decode cX2_naturalWidth 29 = .ok (.iload_n 1, 1) := by decide +kernel
theorem dX2_naturalWidth_30 : decode cX2_naturalWidth 30 = .ok (.iaload, 1) := by decide +kernel
theorem dX2_naturalWidth_31 : decode cX2_naturalWidth 31 = .ok (.isub, 1) := by decide +kernel
theorem dX2_naturalWidth_32 : decode cX2_naturalWidth 32 = .ok (.istore_n 3, 1) := by decide +kernel
theorem dX2_naturalWidth_33 : decode cX2_naturalWidth 33 = .ok (.aload_n 0, 1) := by decide +kernel
theorem dX2_naturalWidth_34 : decode cX2_naturalWidth 34 = .ok (.getfield 23, 3) := by decide +kernel
theorem dX2_naturalWidth_37 : decode cX2_naturalWidth 37 = .ok (.iload_n 2, 1) := by decide +kernel
theorem dX2_naturalWidth_38 : decode cX2_naturalWidth 38 = .ok (.iaload, 1) := by decide +kernel
theorem dX2_naturalWidth_39 : decode cX2_naturalWidth 39 = .ok (.aload_n 0, 1) := by decide +kernel
theorem dX2_naturalWidth_40 : decode cX2_naturalWidth 40 = .ok (.getfield 23, 3) := by decide +kernel
theorem dX2_naturalWidth_43 : decode cX2_naturalWidth 43 = .ok (.iload_n 1, 1) := by decide +kernel
theorem dX2_naturalWidth_44 : decode cX2_naturalWidth 44 = .ok (.iaload, 1) := by decide +kernel
theorem dX2_naturalWidth_45 : decode cX2_naturalWidth 45 = .ok (.isub, 1) := by decide +kernel
theorem dX2_naturalWidth_46 : decode cX2_naturalWidth 46 = .ok (.istore 4, 2) := by decide +kernel
theorem dX2_naturalWidth_48 : decode cX2_naturalWidth 48 = .ok (.iload_n 3, 1) := by decide +kernel
theorem dX2_naturalWidth_49 : decode cX2_naturalWidth 49 = .ok (.iload 4, 2) := by decide +kernel
theorem dX2_naturalWidth_51 : decode cX2_naturalWidth 51 = .ok (.iadd, 1) := by decide +kernel
theorem dX2_naturalWidth_52 : decode cX2_naturalWidth 52 = .ok (.aload_n 0, 1) := by decide +kernel
theorem dX2_naturalWidth_53 : decode cX2_naturalWidth 53 = .ok (.getfield 32, 3) := by decide +kernel
theorem dX2_naturalWidth_56 : decode cX2_naturalWidth 56 = .ok (.iload_n 1, 1) := by decide +kernel
theorem dX2_naturalWidth_57 : decode cX2_naturalWidth 57 = .ok (.iaload, 1) := by decide +kernel
theorem dX2_naturalWidth_58 : decode cX2_naturalWidth 58 = .ok (.isub, 1) := by decide +kernel
theorem dX2_naturalWidth_59 : decode cX2_naturalWidth 59 = .ok (.aload_n 0, 1) := by decide +kernel
theorem dX2_naturalWidth_60 : decode cX2_naturalWidth 60 = .ok (.getfield 35, 3) := by decide +kernel
theorem dX2_naturalWidth_63 : decode cX2_naturalWidth 63 = .ok (.iload_n 2, 1) := by decide +kernel
theorem dX2_naturalWidth_64 : decode cX2_naturalWidth 64 = .ok (.iaload, 1) := by decide +kernel
theorem dX2_naturalWidth_65 : decode cX2_naturalWidth 65 = .ok (.isub, 1) := by decide +kernel
theorem dX2_naturalWidth_66 : decode cX2_naturalWidth 66 = .ok (.ireturn, 1) := by decide +kernel
theorem dX2_badness_0 : decode cX2_badness 0 = .ok (.aload_n 0, 1) := by decide +kernel
theorem dX2_badness_1 : decode cX2_badness 1 = .ok (.getfield 15, 3) := by decide +kernel
theorem dX2_badness_4 : decode cX2_badness 4 = .ok (.getfield 74, 3) := by decide +kernel
theorem dX2_badness_7 : decode cX2_badness 7 = .ok (.aload_n 0, 1) := by decide +kernel
theorem dX2_badness_8 : decode cX2_badness 8 = .ok (.iload_n 1, 1) := by decide +kernel
theorem dX2_badness_9 : decode cX2_badness 9 = .ok (.iload_n 2, 1) := by decide +kernel
theorem dX2_badness_10 : decode cX2_badness 10 = .ok (.invokevirtual 77, 3) := by decide +kernel
theorem dX2_badness_13 : decode cX2_badness 13 = .ok (.isub, 1) := by decide +kernel
theorem dX2_badness_14 : decode cX2_badness 14 = .ok (.istore_n 3, 1) := by decide +kernel
theorem dX2_badness_15 : decode cX2_badness 15 = .ok (.iload_n 3, 1) := by decide +kernel
theorem dX2_badness_16 : decode cX2_badness 16 = .ok (.ifCond .eq 15, 3) := by decide +kernel
theorem dX2_badness_19 : decode cX2_badness 19 = .ok (.iload_n 3, 1) := by decide +kernel
theorem dX2_badness_20 : decode cX2_badness 20 = .ok (.ifCond .le 13, 3) := by decide +kernel
theorem dX2_badness_23 : decode cX2_badness 23 = .ok (.aload_n 0, 1) := by decide +kernel
theorem dX2_badness_24 : decode cX2_badness 24 = .ok (.iload_n 2, 1) := by decide +kernel
theorem dX2_badness_25 : decode cX2_badness 25 = .ok (.invokevirtual 81, 3) := by decide +kernel
theorem dX2_badness_28 : decode cX2_badness 28 = .ok (.ifCond .eq 5, 3) := by decide +kernel
theorem dX2_badness_31 : decode cX2_badness 31 = .ok (.iconst 0, 1) := by decide +kernel
theorem dX2_badness_32 : decode cX2_badness 32 = .ok (.ireturn, 1) := by decide +kernel
theorem dX2_badness_33 : decode cX2_badness 33 = .ok (.iload_n 3, 1) := by decide +kernel
theorem dX2_badness_34 : decode cX2_badness 34 = .ok (.ifCond .le 10, 3) := by decide +kernel
theorem dX2_badness_37 : decode cX2_badness 37 = .ok (.aload_n 0, 1) := by decide +kernel
theorem dX2_badness_38 : decode cX2_badness 38 = .ok (.getfield 26, 3) := by decide +kernel
theorem dX2_badness_41 : decode cX2_badness 41 = .ok (.goto 7, 3) := by decide +kernel
theorem dX2_badness_44 : decode cX2_badness 44 = .ok (.aload_n 0, 1) := by decide +kernel
theorem dX2_badness_45 : decode cX2_badness 45 = .ok (.getfield 29, 3) := by decide +kernel
theorem dX2_badness_48 : decode cX2_badness 48 = .ok (.astore 4, 2) := by decide +kernel
theorem dX2_badness_50 : decode cX2_badness 50 = .ok (.aload 4, 2) := by decide +kernel
theorem dX2_badness_52 : decode cX2_badness 52 = .ok (.iload_n 2, 1) := by decide +kernel
theorem dX2_badness_53 : decode cX2_badness 53 = .ok (.invokestatic 52, 3) := by decide +kernel
theorem dX2_badness_56 : decode cX2_badness 56 = .ok (.aload 4, 2) := by decide +kernel
theorem dX2_badness_58 : decode cX2_badness 58 = .ok (.iload_n 1, 1) := by decide +kernel
theorem dX2_badness_59 : decode cX2_badness 59 = .ok (.invokestatic 52, 3) := by decide +kernel
theorem dX2_badness_62 : decode cX2_badness 62 = .ok (.isub, 1) := by decide +kernel
theorem dX2_badness_63 : decode cX2_badness 63 = .ok (.istore 5, 2) := by decide +kernel
theorem dX2_badness_65 : decode cX2_badness 65 = .ok (.iload 5, 2) := by decide +kernel
theorem dX2_badness_67 : decode cX2_badness 67 = .ok (.iconst 1, 1) := by decide +kernel
theorem dX2_badness_68 : decode cX2_badness 68 = .ok (.if_icmp .lt 12, 3) := by decide +kernel
theorem dX2_badness_71 : decode cX2_badness 71 = .ok (.iload 5, 2) := by decide +kernel
theorem dX2_badness_73 : decode cX2_badness 73 = .ok (.iload_n 3, 1) := by decide +kernel
theorem dX2_badness_74 : decode cX2_badness 74 = .ok (.invokestatic 85, 3) := by decide +kernel
theorem dX2_badness_77 : decode cX2_badness 77 = .ok (.if_icmp .ge 5, 3) := by decide +kernel
theorem dX2_badness_80 : decode cX2_badness 80 = .ok (.iconst (-1), 1) := by decide +kernel
theorem dX2_badness_81 : decode cX2_badness 81 = .ok (.ireturn, 1) := by decide +kernel
theorem dX2_badness_82 : decode cX2_badness 82 = .ok (.bipush 100, 2) := by decide +kernel
theorem dX2_badness_84 : decode cX2_badness 84 = .ok (.iload_n 3, 1) := by decide +kernel
theorem dX2_badness_85 : decode cX2_badness 85 = .ok (.imul, 1) := by decide +kernel
theorem dX2_badness_86 : decode cX2_badness 86 = .ok (.iload_n 3, 1) := by decide +kernel
theorem dX2_badness_87 : decode cX2_badness 87 = .ok (.imul, 1) := by decide +kernel
theorem dX2_badness_88 : decode cX2_badness 88 = .ok (.iload 5, 2) := by decide +kernel
theorem dX2_badness_90 : decode cX2_badness 90 = .ok (.iload 5, 2) := by decide +kernel
theorem dX2_badness_92 : decode cX2_badness 92 = .ok (.imul, 1) := by decide +kernel
theorem dX2_badness_93 : decode cX2_badness 93 = .ok (.idiv, 1) := by decide +kernel
theorem dX2_badness_94 : decode cX2_badness 94 = .ok (.ireturn, 1) := by decide +kernel
theorem dX2_demerits_0 : decode cX2_demerits 0 = .ok (.aload_n 0, 1) := by decide +kernel
theorem dX2_demerits_1 : decode cX2_demerits 1 = .ok (.iload_n 1, 1) := by decide +kernel
theorem dX2_demerits_2 : decode cX2_demerits 2 = .ok (.iload_n 2, 1) := by decide +kernel
theorem dX2_demerits_3 : decode cX2_demerits 3 = .ok (.invokevirtual 91, 3) := by decide +kernel
theorem dX2_demerits_6 : decode cX2_demerits 6 = .ok (.istore_n 3, 1) := by decide +kernel
theorem dX2_demerits_7 : decode cX2_demerits 7 = .ok (.iload_n 3, 1) := by decide +kernel
theorem dX2_demerits_8 : decode cX2_demerits 8 = .ok (.iconst (-1), 1) := by decide +kernel
theorem dX2_demerits_9 : decode cX2_demerits 9 = .ok (.if_icmp .ne 5, 3) := by decide +kernel
theorem dX2_demerits_12 : decode cX2_demerits 12 = .ok (.iconst (-1), 1) := by decide +kernel
theorem dX2_demerits_13 : decode cX2_demerits 13 = .ok (.ireturn, 1) := by decide +kernel
theorem dX2_demerits_14 : decode cX2_demerits 14 = .ok (.aload_n 0, 1) := by decide +kernel
theorem dX2_demerits_15 : decode cX2_demerits 15 = .ok (.iload_n 2, 1) := by decide +kernel
theorem dX2_demerits_16 : decode cX2_demerits 16 = .ok (.invokevirtual 81, 3) := by decide +kernel
theorem dX2_demerits_19 : decode cX2_demerits 19 = .ok (.ifCond .ne 22, 3) := by decide +kernel
theorem dX2_demerits_22 : decode cX2_demerits 22 = .ok (.aload_n 0, 1) := by decide +kernel
theorem dX2_demerits_23 : decode cX2_demerits 23 = .ok (.getfield 9, 3) := by decide +kernel
theorem dX2_demerits_26 : decode cX2_demerits 26 = .ok (.getfield 94, 3) := by decide +kernel
theorem dX2_demerits_29 : decode cX2_demerits 29 = .ok (.iload_n 2, 1) := by decide +kernel
theorem dX2_demerits_30 : decode cX2_demerits 30 = .ok (.invokestatic 52, 3) := by decide +kernel
theorem dX2_demerits_33 : decode cX2_demerits 33 = .ok (.iconst 2, 1) := by decide +kernel
theorem dX2_demerits_34 : decode cX2_demerits 34 = .ok (.if_icmp .gt 7, 3) := by decide +kernel
theorem dX2_demerits_37 : decode cX2_demerits 37 = .ok (.iconst 1, 1) := by decide +kernel
theorem dX2_demerits_38 : decode cX2_demerits 38 = .ok (.goto 4, 3) := by decide +kernel
theorem dX2_demerits_41 : decode cX2_demerits 41 = .ok (.iconst 0, 1) := by decide +kernel
theorem dX2_demerits_42 : decode cX2_demerits 42 = .ok (.istore 4, 2) := by decide +kernel
theorem dX2_demerits_44 : decode cX2_demerits 44 = .ok (.bipush 10, 2) := by decide +kernel
theorem dX2_demerits_46 : decode cX2_demerits 46 = .ok (.iload_n 3, 1) := by decide +kernel
theorem dX2_demerits_47 : decode cX2_demerits 47 = .ok (.iadd, 1) := by decide +kernel
theorem dX2_demerits_48 : decode cX2_demerits 48 = .ok (.bipush 10, 2) := by decide +kernel
theorem dX2_demerits_50 : decode cX2_demerits 50 = .ok (.iload_n 3, 1) := by decide +kernel
theorem dX2_demerits_51 : decode cX2_demerits 51 = .ok (.iadd, 1) := by decide +kernel
theorem dX2_demerits_52 : decode cX2_demerits 52 = .ok (.imul, 1) := by decide +kernel
theorem dX2_demerits_53 : decode cX2_demerits 53 = .ok (.iload 4, 2) := by decide +kernel
theorem dX2_demerits_55 : decode cX2_demerits 55 = .ok (.ifCond .eq 8, 3) := by decide +kernel
theorem dX2_demerits_58 : decode cX2_demerits 58 = .ok (.bipush 100, 2) := by decide +kernel
theorem dX2_demerits_60 : decode cX2_demerits 60 = .ok (.goto 4, 3) := by decide +kernel
theorem dX2_demerits_63 : decode cX2_demerits 63 = .ok (.iconst 0, 1) := by decide +kernel
theorem dX2_demerits_64 : decode cX2_demerits 64 = .ok (.iadd, 1) := by decide +kernel
theorem dX2_demerits_65 : decode cX2_demerits 65 = .ok (.ireturn, 1) := by decide +kernel
theorem dX3_init_0 : decode cX3_init 0 = .ok (.aload_n 0, 1) := by decide +kernel
theorem dX3_init_1 : decode cX3_init 1 = .ok (.invokespecial 3, 3) := by decide +kernel
theorem dX3_init_4 : decode cX3_init 4 = .ok (.aload_n 0, 1) := by decide +kernel
theorem dX3_init_5 : decode cX3_init 5 = .ok (.iconst 3, 1) := by decide +kernel
theorem dX3_init_6 : decode cX3_init 6 = .ok (.newarray .int, 2) := by decide +kernel
theorem dX3_init_8 : decode cX3_init 8 = .ok (.putfield 11, 3) := by decide +kernel
theorem dX3_init_11 : decode cX3_init 11 = .ok (.aload_n 0, 1) := by decide +kernel
theorem dX3_init_12 : decode cX3_init 12 = .ok (.iconst (-1), 1) := by decide +kernel
theorem dX3_init_13 : decode cX3_init 13 = .ok (.putfield 15, 3) := by decide +kernel
theorem dX3_init_16 : decode cX3_init 16 = .ok (.aload_n 0, 1) := by decide +kernel
theorem dX3_init_17 : decode cX3_init 17 = .ok (.iconst (-1), 1) := by decide +kernel
theorem dX3_init_18 : decode cX3_init 18 = .ok (.putfield 19, 3) := by decide +kernel
theorem dX3_init_21 : decode cX3_init 21 = .ok (.return_, 1) := by decide +kernel
theorem dX3_parse_0 : decode cX3_parse 0 = .ok (.iconst 0, 1) := by decide +kernel
theorem dX3_parse_1 : decode cX3_parse 1 = .ok (.istore_n 2, 1) := by decide +kernel
theorem dX3_parse_2 : decode cX3_parse 2 = .ok (.iconst 0, 1) := by decide +kernel
theorem dX3_parse_3 : decode cX3_parse 3 = .ok (.istore_n 3, 1) := by decide +kernel
theorem dX3_parse_4 : decode cX3_parse 4 = .ok (.iload_n 3, 1) := by decide +kernel
theorem dX3_parse_5 : decode cX3_parse 5 = .ok (.iconst 5, 1) := by decide +kernel
theorem dX3_parse_6 : decode cX3_parse 6 = .ok (.if_icmp .ge 63, 3) := by decide +kernel
theorem dX3_parse_9 : decode cX3_parse 9 = .ok (.aload_n 1, 1) := by decide +kernel
theorem dX3_parse_10 : decode cX3_parse 10 = .ok (.iload_n 2, 1) := by decide +kernel
theorem dX3_parse_11 : decode cX3_parse 11 = .ok (.invokevirtual 22, 3) := by decide +kernel
theorem dX3_parse_14 : decode cX3_parse 14 = .ok (.istore 4, 2) := by decide +kernel
theorem dX3_parse_16 : decode cX3_parse 16 = .ok (.aload_n 0, 1) := by decide +kernel
theorem dX3_parse_17 : decode cX3_parse 17 = .ok (.aload_n 1, 1) := by decide +kernel
theorem dX3_parse_18 : decode cX3_parse 18 = .ok (.iload_n 3, 1) := by decide +kernel
theorem dX3_parse_19 : decode cX3_parse 19 = .ok (.iload_n 2, 1) := by decide +kernel
theorem dX3_parse_20 : decode cX3_parse 20 = .ok (.iload 4, 2) := by decide +kernel
theorem dX3_parse_22 : decode cX3_parse 22 = .ok (.invokevirtual 28, 3) := by decide +kernel
theorem dX3_parse_25 : decode cX3_parse 25 = .ok (.ifCond .ne 5, 3) := by decide +kernel
theorem dX3_parse_28 : decode cX3_parse 28 = .ok (.iload_n 2, 1) := by decide +kernel
theorem dX3_parse_29 : decode cX3_parse 29 = .ok (.ireturn, 1) := by decide +kernel
theorem dX3_parse_30 : decode cX3_parse 30 = .ok (.iload 4, 2) := by decide +kernel
theorem dX3_parse_32 : decode cX3_parse 32 = .ok (.aload_n 1, 1) := by decide +kernel
theorem dX3_parse_33 : decode cX3_parse 33 = .ok (.getfield 32, 3) := by decide +kernel
theorem dX3_parse_36 : decode cX3_parse 36 = .ok (.if_icmp .lt 22, 3) := by decide +kernel
theorem dX3_parse_39 : decode cX3_parse 39 = .ok (.iload_n 3, 1) := by decide +kernel
theorem dX3_parse_40 : decode cX3_parse 40 = .ok (.iconst 1, 1) := by decide +kernel
theorem dX3_parse_41 : decode cX3_parse 41 = .ok (.iadd, 1) := by decide +kernel
theorem dX3_parse_42 : decode cX3_parse 42 = .ok (.aload_n 0, 1) := by decide +kernel
theorem dX3_parse_43 : decode cX3_parse 43 = .ok (.invokevirtual 35, 3) := by decide +kernel
theorem dX3_parse_46 : decode cX3_parse 46 = .ok (.if_icmp .ge 10, 3) := by decide +kernel
theorem dX3_parse_49 : decode cX3_parse 49 = .ok (.aload_n 1, 1) := by decide +kernel
theorem dX3_parse_50 : decode cX3_parse 50 = .ok (.getfield 32, 3) := by decide +kernel
theorem dX3_parse_53 : decode cX3_parse 53 = .ok (.goto 4, 3) := by decide +kernel
theorem dX3_parse_56 : decode cX3_parse 56 = .ok (.iconst (-1), 1) := by decide +kernel
theorem dX3_parse_57 : decode cX3_parse 57 = .ok (.ireturn, 1) := by decide +kernel
theorem dX3_parse_58 : decode cX3_parse 58 = .ok (.iload 4, 2) := by decide +kernel
theorem dX3_parse_60 : decode cX3_parse 60 = .ok (.iconst 1, 1) := by decide +kernel
theorem dX3_parse_61 : decode cX3_parse 61 = .ok (.iadd, 1) := by decide +kernel
theorem dX3_parse_62 : decode cX3_parse 62 = .ok (.istore_n 2, 1) := by decide +kernel
theorem dX3_parse_63 : decode cX3_parse 63 = .ok (.iinc 3 1, 3) := by decide +kernel
theorem dX3_parse_66 : decode cX3_parse 66 = .ok (.goto (-62), 3) := by decide +kernel
theorem dX3_parse_69 : decode cX3_parse 69 = .ok (.iload_n 2, 1) := by decide +kernel
theorem dX3_parse_70 : decode cX3_parse 70 = .ok (.ireturn, 1) := by decide +kernel
theorem dX3_applyTo_0 : decode cX3_applyTo 0 = .ok (.aload_n 0, 1) := by decide +kernel
theorem dX3_applyTo_1 : decode cX3_applyTo 1 = .ok (.getfield 15, 3) := by decide +kernel
theorem dX3_applyTo_4 : decode cX3_applyTo 4 = .ok (.tableswitch 100 0 3 #[32, 45, 58, 71], 32) := by decide +kernel
theorem dX3_applyTo_36 : decode cX3_applyTo 36 = .ok (.aload_n 1, 1) := by decide +kernel
theorem dX3_applyTo_37 : decode cX3_applyTo 37 = .ok (.aload_n 0, 1) := by decide +kernel
theorem dX3_applyTo_38 : decode cX3_applyTo 38 = .ok (.getfield 11, 3) := by decide +kernel
theorem dX3_applyTo_41 : decode cX3_applyTo 41 = .ok (.iconst 0, 1) := by decide +kernel
theorem dX3_applyTo_42 : decode cX3_applyTo 42 = .ok (.iaload, 1) := by decide +kernel
theorem dX3_applyTo_43 : decode cX3_applyTo 43 = .ok (.putfield 39, 3) := by decide +kernel
theorem dX3_applyTo_46 : decode cX3_applyTo 46 = .ok (.goto 58, 3) := by decide +kernel
theorem dX3_applyTo_49 : decode cX3_applyTo 49 = .ok (.aload_n 1, 1) := by decide +kernel
theorem dX3_applyTo_50 : decode cX3_applyTo 50 = .ok (.aload_n 0, 1) := by decide +kernel
theorem dX3_applyTo_51 : decode cX3_applyTo 51 = .ok (.getfield 11, 3) := by decide +kernel
theorem dX3_applyTo_54 : decode cX3_applyTo 54 = .ok (.iconst 0, 1) := by decide +kernel
theorem dX3_applyTo_55 : decode cX3_applyTo 55 = .ok (.iaload, 1) := by decide +kernel
theorem dX3_applyTo_56 : decode cX3_applyTo 56 = .ok (.putfield 44, 3) := by decide +kernel
theorem dX3_applyTo_59 : decode cX3_applyTo 59 = .ok (.goto 45, 3) := by decide +kernel
theorem dX3_applyTo_62 : decode cX3_applyTo 62 = .ok (.aload_n 1, 1) := by decide +kernel
theorem dX3_applyTo_63 : decode cX3_applyTo 63 = .ok (.aload_n 0, 1) := by decide +kernel
theorem dX3_applyTo_64 : decode cX3_applyTo 64 = .ok (.getfield 11, 3) := by decide +kernel
theorem dX3_applyTo_67 : decode cX3_applyTo 67 = .ok (.iconst 0, 1) := by decide +kernel
theorem dX3_applyTo_68 : decode cX3_applyTo 68 = .ok (.iaload, 1) := by decide +kernel
theorem dX3_applyTo_69 : decode cX3_applyTo 69 = .ok (.putfield 47, 3) := by decide +kernel
theorem dX3_applyTo_72 : decode cX3_applyTo 72 = .ok (.goto 32, 3) := by decide +kernel
theorem dX3_applyTo_75 : decode cX3_applyTo 75 = .ok (.aload_n 1, 1) := by decide +kernel
theorem dX3_applyTo_76 : decode cX3_applyTo 76 = .ok (.aload_n 0, 1) := by decide +kernel
theorem dX3_applyTo_77 : decode cX3_applyTo 77 = .ok (.getfield 19, 3) := by decide +kernel
theorem dX3_applyTo_80 : decode cX3_applyTo 80 = .ok (.aload_n 0, 1) := by decide +kernel
theorem dX3_applyTo_81 : decode cX3_applyTo 81 = .ok (.getfield 11, 3) := by decide +kernel
theorem dX3_applyTo_84 : decode cX3_applyTo 84 = .ok (.iconst 0, 1) := by decide +kernel
theorem dX3_applyTo_85 : decode cX3_applyTo 85 = .ok (.iaload, 1) := by decide +kernel
theorem dX3_applyTo_86 : decode cX3_applyTo 86 = .ok (.aload_n 0, 1) := by decide +kernel
theorem dX3_applyTo_87 : decode cX3_applyTo 87 = .ok (.getfield 11, 3) := by decide +kernel
theorem dX3_applyTo_90 : decode cX3_applyTo 90 = .ok (.iconst 1, 1) := by decide +kernel
theorem dX3_applyTo_91 : decode cX3_applyTo 91 = .ok (.iaload, 1) := by decide +kernel
theorem dX3_applyTo_92 : decode cX3_applyTo 92 = .ok (.aload_n 0, 1) := by decide +kernel
theorem dX3_applyTo_93 : decode cX3_applyTo 93 = .ok (.getfield 11, 3) := by decide +kernel
theorem dX3_applyTo_96 : decode cX3_applyTo 96 = .ok (.iconst 2, 1) := by decide +kernel
theorem dX3_applyTo_97 : decode cX3_applyTo 97 = .ok (.iaload, 1) := by decide +kernel
theorem dX3_applyTo_98 : decode cX3_applyTo 98 = .ok (.invokevirtual 50, 3) := by decide +kernel
theorem dX3_applyTo_101 : decode cX3_applyTo 101 = .ok (.goto 3, 3) := by decide +kernel
theorem dX3_applyTo_104 : decode cX3_applyTo 104 = .ok (.return_, 1) := by decide +kernel
theorem dX3_wantedPieces_0 : decode cX3_wantedPieces 0 = .ok (.aload_n 0, 1) := by decide +kernel
theorem dX3_wantedPieces_1 : decode cX3_wantedPieces 1 = .ok (.getfield 15, 3) := by decide +kernel
theorem dX3_wantedPieces_4 : decode cX3_wantedPieces 4 = .ok (.iconst 3, 1) := by decide +kernel
theorem dX3_wantedPieces_5 : decode cX3_wantedPieces 5 = .ok (.if_icmp .ne 7, 3) := by decide +kernel
theorem dX3_wantedPieces_8 : decode cX3_wantedPieces 8 = .ok (.iconst 5, 1) := by decide +kernel
theorem dX3_wantedPieces_9 : decode cX3_wantedPieces 9 = .ok (.goto 4, 3) := by decide +kernel
theorem dX3_wantedPieces_12 : decode cX3_wantedPieces 12 = .ok (.iconst 2, 1) := by decide +kernel
theorem dX3_wantedPieces_13 : decode cX3_wantedPieces 13 = .ok (.ireturn, 1) := by decide +kernel
theorem dX3_takePiece_0 : decode cX3_takePiece 0 = .ok (.iload_n 2, 1) := by decide +kernel
theorem dX3_takePiece_1 : decode cX3_takePiece 1 = .ok (.ifCond .ne 28, 3) := by decide +kernel
theorem dX3_takePiece_4 : decode cX3_takePiece 4 = .ok (.aload_n 0, 1) := by decide +kernel
theorem dX3_takePiece_5 : decode cX3_takePiece 5 = .ok (.aload_n 1, 1) := by decide +kernel
theorem dX3_takePiece_6 : decode cX3_takePiece 6 = .ok (.iload_n 3, 1) := by decide +kernel
theorem dX3_takePiece_7 : decode cX3_takePiece 7 = .ok (.iload 4, 2) := by decide +kernel
theorem dX3_takePiece_9 : decode cX3_takePiece 9 = .ok (.invokestatic 54, 3) := by decide +kernel
theorem dX3_takePiece_12 : decode cX3_takePiece 12 = .ok (.putfield 15, 3) := by decide +kernel
theorem dX3_takePiece_15 : decode cX3_takePiece 15 = .ok (.aload_n 0, 1) := by decide +kernel
theorem dX3_takePiece_16 : decode cX3_takePiece 16 = .ok (.getfield 15, 3) := by decide +kernel
theorem dX3_takePiece_19 : decode cX3_takePiece 19 = .ok (.iconst (-1), 1) := by decide +kernel
theorem dX3_takePiece_20 : decode cX3_takePiece 20 = .ok (.if_icmp .eq 7, 3) := by decide +kernel
theorem dX3_takePiece_23 : decode cX3_takePiece 23 = .ok (.iconst 1, 1) := by decide +kernel
theorem dX3_takePiece_24 : decode cX3_takePiece 24 = .ok (.goto 4, 3) := by decide +kernel
theorem dX3_takePiece_27 : decode cX3_takePiece 27 = .ok (.iconst 0, 1) := by decide +kernel
theorem dX3_takePiece_28 : decode cX3_takePiece 28 = .ok (.ireturn, 1) := by decide +kernel
theorem dX3_takePiece_29 : decode cX3_takePiece 29 = .ok (.iload_n 2, 1) := by decide +kernel
theorem dX3_takePiece_30 : decode cX3_takePiece 30 = .ok (.aload_n 0, 1) := by decide +kernel
theorem dX3_takePiece_31 : decode cX3_takePiece 31 = .ok (.invokevirtual 35, 3) := by decide +kernel
theorem dX3_takePiece_34 : decode cX3_takePiece 34 = .ok (.if_icmp .lt 5, 3) := by decide +kernel
theorem dX3_takePiece_37 : decode cX3_takePiece 37 = .ok (.iconst 0, 1) := by decide +kernel
theorem dX3_takePiece_38 : decode cX3_takePiece 38 = .ok (.ireturn, 1) := by decide +kernel
theorem dX3_takePiece_39 : decode cX3_takePiece 39 = .ok (.aload_n 0, 1) := by decide +kernel
theorem dX3_takePiece_40 : decode cX3_takePiece 40 = .ok (.getfield 15, 3) := by decide +kernel
theorem dX3_takePiece_43 : decode cX3_takePiece 43 = .ok (.iconst 3, 1) := by decide +kernel
theorem dX3_takePiece_44 : decode cX3_takePiece 44 = .ok (.if_icmp .eq 16, 3) := by decide +kernel
theorem dX3_takePiece_47 : decode cX3_takePiece 47 = .ok (.aload_n 0, 1) := by decide +kernel
theorem dX3_takePiece_48 : decode cX3_takePiece 48 = .ok (.iconst 0, 1) := by decide +kernel
theorem dX3_takePiece_49 : decode cX3_takePiece 49 = .ok (.aload_n 1, 1) := by decide +kernel
theorem dX3_takePiece_50 : decode cX3_takePiece 50 = .ok (.iload_n 3, 1) := by decide +kernel
theorem dX3_takePiece_51 : decode cX3_takePiece 51 = .ok (.iload 4, 2) := by decide +kernel
theorem dX3_takePiece_53 : decode cX3_takePiece 53 = .ok (.invokevirtual 58, 3) := by decide +kernel
theorem dX3_takePiece_56 : decode cX3_takePiece 56 = .ok (.invokevirtual 62, 3) := by decide +kernel
theorem dX3_takePiece_59 : decode cX3_takePiece 59 = .ok (.ireturn, 1) := by decide +kernel
theorem dX3_takePiece_60 : decode cX3_takePiece 60 = .ok (.iload_n 2, 1) := by decide +kernel
theorem dX3_takePiece_61 : decode cX3_takePiece 61 = .ok (.iconst 1, 1) := by decide +kernel
theorem dX3_takePiece_62 : decode cX3_takePiece 62 = .ok (.if_icmp .ne 28, 3) := by decide +kernel
theorem dX3_takePiece_65 : decode cX3_takePiece 65 = .ok (.aload_n 0, 1) := by decide +kernel
theorem dX3_takePiece_66 : decode cX3_takePiece 66 = .ok (.aload_n 1, 1) := by decide +kernel
theorem dX3_takePiece_67 : decode cX3_takePiece 67 = .ok (.iload_n 3, 1) := by decide +kernel
theorem dX3_takePiece_68 : decode cX3_takePiece 68 = .ok (.iload 4, 2) := by decide +kernel
theorem dX3_takePiece_70 : decode cX3_takePiece 70 = .ok (.invokestatic 66, 3) := by decide +kernel
theorem dX3_takePiece_73 : decode cX3_takePiece 73 = .ok (.putfield 19, 3) := by decide +kernel
theorem dX3_takePiece_76 : decode cX3_takePiece 76 = .ok (.aload_n 0, 1) := by decide +kernel
theorem dX3_takePiece_77 : decode cX3_takePiece 77 = .ok (.getfield 19, 3) := by decide +kernel
theorem dX3_takePiece_80 : decode cX3_takePiece 80 = .ok (.iconst (-1), 1) := by decide +kernel
theorem dX3_takePiece_81 : decode cX3_takePiece 81 = .ok (.if_icmp .eq 7, 3) := by decide +kernel
theorem dX3_takePiece_84 : decode cX3_takePiece 84 = .ok (.iconst 1, 1) := by decide +kernel
theorem dX3_takePiece_85 : decode cX3_takePiece 85 = .ok (.goto 4, 3) := by decide +kernel
theorem dX3_takePiece_88 : decode cX3_takePiece 88 = .ok (.iconst 0, 1) := by decide +kernel
theorem dX3_takePiece_89 : decode cX3_takePiece 89 = .ok (.ireturn, 1) := by decide +kernel
theorem dX3_takePiece_90 : decode cX3_takePiece 90 = .ok (.aload_n 0, 1) := by decide +kernel
theorem dX3_takePiece_91 : decode cX3_takePiece 91 = .ok (.iload_n 2, 1) := by decide +kernel
theorem dX3_takePiece_92 : decode cX3_takePiece 92 = .ok (.iconst 2, 1) := by decide +kernel
theorem dX3_takePiece_93 : decode cX3_takePiece 93 = .ok (.isub, 1) := by decide +kernel
theorem dX3_takePiece_94 : decode cX3_takePiece 94 = .ok (.aload_n 1, 1) := by decide +kernel
theorem dX3_takePiece_95 : decode cX3_takePiece 95 = .ok (.iload_n 3, 1) := by decide +kernel
theorem dX3_takePiece_96 : decode cX3_takePiece 96 = .ok (.iload 4, 2) := by decide +kernel
theorem dX3_takePiece_98 : decode cX3_takePiece 98 = .ok (.invokevirtual 58, 3) := by decide +kernel
theorem dX3_takePiece_101 : decode cX3_takePiece 101 = .ok (.invokevirtual 62, 3) := by decide +kernel
theorem dX3_takePiece_104 : decode cX3_takePiece 104 = .ok (.ireturn, 1) := by decide +kernel
theorem dX3_takeNumber_0 : decode cX3_takeNumber 0 = .ok (.iload_n 1, 1) := by decide +kernel
theorem dX3_takeNumber_1 : decode cX3_takeNumber 1 = .ok (.ifCond .lt 8, 3) := by decide +kernel
theorem dX3_takeNumber_4 : decode cX3_takeNumber 4 = .ok (.iload_n 1, 1) := by decide +kernel
theorem dX3_takeNumber_5 : decode cX3_takeNumber 5 = .ok (.iconst 3, 1) := by decide +kernel
theorem dX3_takeNumber_6 : decode cX3_takeNumber 6 = .ok (.if_icmp .lt 5, 3) := by decide +kernel
theorem dX3_takeNumber_9 : decode cX3_takeNumber 9 = .ok (.iconst 0, 1) := by decide +kernel
theorem dX3_takeNumber_10 : decode cX3_takeNumber 10 = .ok (.ireturn, 1) := by decide +kernel
theorem dX3_takeNumber_11 : decode cX3_takeNumber 11 = .ok (.iload_n 2, 1) := by decide +kernel
theorem dX3_takeNumber_12 : decode cX3_takeNumber 12 = .ok (.aload_n 0, 1) := by decide +kernel
theorem dX3_takeNumber_13 : decode cX3_takeNumber 13 = .ok (.iload_n 1, 1) := by decide +kernel
theorem dX3_takeNumber_14 : decode cX3_takeNumber 14 = .ok (.invokevirtual 69, 3) := by decide +kernel
theorem dX3_takeNumber_17 : decode cX3_takeNumber 17 = .ok (.if_icmp .lt 11, 3) := by decide +kernel
theorem dX3_takeNumber_20 : decode cX3_takeNumber 20 = .ok (.iload_n 2, 1) := by decide +kernel
theorem dX3_takeNumber_21 : decode cX3_takeNumber 21 = .ok (.aload_n 0, 1) := by decide +kernel
theorem dX3_takeNumber_22 : decode cX3_takeNumber 22 = .ok (.invokevirtual 72, 3) := by decide +kernel
theorem dX3_takeNumber_25 : decode cX3_takeNumber 25 = .ok (.if_icmp .le 5, 3) := by decide +kernel
theorem dX3_takeNumber_28 : decode cX3_takeNumber 28 = .ok (.iconst 0, 1) := by decide +kernel
theorem dX3_takeNumber_29 : decode cX3_takeNumber 29 = .ok (.ireturn, 1) := by decide +kernel
theorem dX3_takeNumber_30 : decode cX3_takeNumber 30 = .ok (.aload_n 0, 1) := by decide +kernel
theorem dX3_takeNumber_31 : decode cX3_takeNumber 31 = .ok (.getfield 11, 3) := by decide +kernel
theorem dX3_takeNumber_34 : decode cX3_takeNumber 34 = .ok (.iload_n 1, 1) := by decide +kernel
theorem dX3_takeNumber_35 : decode cX3_takeNumber 35 = .ok (.iload_n 2, 1) := by decide +kernel
theorem dX3_takeNumber_36 : decode cX3_takeNumber 36 = .ok (.iastore, 1) := by decide +kernel
theorem dX3_takeNumber_37 : decode cX3_takeNumber 37 = .ok (.iconst 1, 1) := by decide +kernel
theorem dX3_takeNumber_38 : decode cX3_takeNumber 38 = .ok (.ireturn, 1) := by decide +kernel
theorem dX3_leastNumber_0 : decode cX3_leastNumber 0 = .ok (.aload_n 0, 1) := by decide +kernel
theorem dX3_leastNumber_1 : decode cX3_leastNumber 1 = .ok (.getfield 15, 3) := by decide +kernel
theorem dX3_leastNumber_4 : decode cX3_leastNumber 4 = .ok (.iconst 3, 1) := by decide +kernel
theorem dX3_leastNumber_5 : decode cX3_leastNumber 5 = .ok (.if_icmp .ne 22, 3) := by decide +kernel
theorem dX3_leastNumber_8 : decode cX3_leastNumber 8 = .ok (.iload_n 1, 1) := by decide +kernel
theorem dX3_leastNumber_9 : decode cX3_leastNumber 9 = .ok (.ifCond .ne 7, 3) := by decide +kernel
theorem dX3_leastNumber_12 : decode cX3_leastNumber 12 = .ok (.iconst 1, 1) := by decide +kernel
theorem dX3_leastNumber_13 : decode cX3_leastNumber 13 = .ok (.goto 13, 3) := by decide +kernel
theorem dX3_leastNumber_16 : decode cX3_leastNumber 16 = .ok (.aload_n 0, 1) := by decide +kernel
theorem dX3_leastNumber_17 : decode cX3_leastNumber 17 = .ok (.getfield 11, 3) := by decide +kernel
theorem dX3_leastNumber_20 : decode cX3_leastNumber 20 = .ok (.iload_n 1, 1) := by decide +kernel
theorem dX3_leastNumber_21 : decode cX3_leastNumber 21 = .ok (.iconst 1, 1) := by decide +kernel
theorem dX3_leastNumber_22 : decode cX3_leastNumber 22 = .ok (.isub, 1) := by decide +kernel
theorem dX3_leastNumber_23 : decode cX3_leastNumber 23 = .ok (.invokestatic 75, 3) := by decide +kernel
theorem dX3_leastNumber_26 : decode cX3_leastNumber 26 = .ok (.ireturn, 1) := by decide +kernel
theorem dX3_leastNumber_27 : decode cX3_leastNumber 27 = .ok (.aload_n 0, 1) := by decide +kernel
theorem dX3_leastNumber_28 : decode cX3_leastNumber 28 = .ok (.getfield 15, 3) := by decide +kernel
theorem dX3_leastNumber_31 : decode cX3_leastNumber 31 = .ok (.ifCond .ne 8, 3) := by decide +kernel
theorem dX3_leastNumber_34 : decode cX3_leastNumber 34 = .ok (.bipush 10, 2) := by decide +kernel
theorem dX3_leastNumber_36 : decode cX3_leastNumber 36 = .ok (.goto 4, 3) := by decide +kernel
theorem dX3_leastNumber_39 : decode cX3_leastNumber 39 = .ok (.iconst 0, 1) := by decide +kernel
theorem dX3_leastNumber_40 : decode cX3_leastNumber 40 = .ok (.ireturn, 1) := by decide +kernel
theorem dX3_greatestNumber_0 : decode cX3_greatestNumber 0 = .ok (.aload_n 0, 1) := by decide +kernel
theorem dX3_greatestNumber_1 : decode cX3_greatestNumber 1 = .ok (.getfield 15, 3) := by decide +kernel
theorem dX3_greatestNumber_4 : decode cX3_greatestNumber 4 = .ok (.tableswitch 38 0 2 #[28, 32, 35], 28) := by decide +kernel
theorem dX3_greatestNumber_32 : decode cX3_greatestNumber 32 = .ok (.sipush 200, 3) := by decide +kernel
theorem dX3_greatestNumber_35 : decode cX3_greatestNumber 35 = .ok (.ireturn, 1) := by decide +kernel
theorem dX3_greatestNumber_36 : decode cX3_greatestNumber 36 = .ok (.bipush 100, 2) := by decide +kernel
theorem dX3_greatestNumber_38 : decode cX3_greatestNumber 38 = .ok (.ireturn, 1) := by decide +kernel
theorem dX3_greatestNumber_39 : decode cX3_greatestNumber 39 = .ok (.bipush 20, 2) := by decide +kernel
theorem dX3_greatestNumber_41 : decode cX3_greatestNumber 41 = .ok (.ireturn, 1) := by decide +kernel
theorem dX3_greatestNumber_42 : decode cX3_greatestNumber 42 = .ok (.bipush 40, 2) := by decide +kernel
theorem dX3_greatestNumber_44 : decode cX3_greatestNumber 44 = .ok (.ireturn, 1) := by decide +kernel
theorem dX3_subjectAt_0 : decode cX3_subjectAt 0 = .ok (.aload_n 0, 1) := by decide +kernel
theorem dX3_subjectAt_1 : decode cX3_subjectAt 1 = .ok (.iload_n 1, 1) := by decide +kernel
theorem dX3_subjectAt_2 : decode cX3_subjectAt 2 = .ok (.iload_n 2, 1) := by decide +kernel
theorem dX3_subjectAt_3 : decode cX3_subjectAt 3 = .ok (.ldc 79, 2) := by decide +kernel
theorem dX3_subjectAt_5 : decode cX3_subjectAt 5 = .ok (.invokevirtual 80, 3) := by decide +kernel
theorem dX3_subjectAt_8 : decode cX3_subjectAt 8 = .ok (.ifCond .eq 5, 3) := by decide +kernel
theorem dX3_subjectAt_11 : decode cX3_subjectAt 11 = .ok (.iconst 0, 1) := by decide +kernel
theorem dX3_subjectAt_12 : decode cX3_subjectAt 12 = .ok (.ireturn, 1) := by decide +kernel
theorem dX3_subjectAt_13 : decode cX3_subjectAt 13 = .ok (.aload_n 0, 1) := by decide +kernel
theorem dX3_subjectAt_14 : decode cX3_subjectAt 14 = .ok (.iload_n 1, 1) := by decide +kernel
theorem dX3_subjectAt_15 : decode cX3_subjectAt 15 = .ok (.iload_n 2, 1) := by decide +kernel
theorem dX3_subjectAt_16 : decode cX3_subjectAt 16 = .ok (.ldc 84, 2) := by decide +kernel
theorem dX3_subjectAt_18 : decode cX3_subjectAt 18 = .ok (.invokevirtual 80, 3) := by decide +kernel
theorem dX3_subjectAt_21 : decode cX3_subjectAt 21 = .ok (.ifCond .eq 5, 3) := by decide +kernel
theorem dX3_subjectAt_24 : decode cX3_subjectAt 24 = .ok (.iconst 1, 1) := by decide +kernel
theorem dX3_subjectAt_25 : decode cX3_subjectAt 25 = .ok (.ireturn, 1) := by decide +kernel
theorem dX3_subjectAt_26 : decode cX3_subjectAt 26 = .ok (.aload_n 0, 1) := by decide +kernel
theorem dX3_subjectAt_27 : decode cX3_subjectAt 27 = .ok (.iload_n 1, 1) := by decide +kernel
theorem dX3_subjectAt_28 : decode cX3_subjectAt 28 = .ok (.iload_n 2, 1) := by decide +kernel
theorem dX3_subjectAt_29 : decode cX3_subjectAt 29 = .ok (.ldc 85, 2) := by decide +kernel
theorem dX3_subjectAt_31 : decode cX3_subjectAt 31 = .ok (.invokevirtual 80, 3) := by decide +kernel
theorem dX3_subjectAt_34 : decode cX3_subjectAt 34 = .ok (.ifCond .eq 5, 3) := by decide +kernel
theorem dX3_subjectAt_37 : decode cX3_subjectAt 37 = .ok (.iconst 2, 1) := by decide +kernel
theorem dX3_subjectAt_38 : decode cX3_subjectAt 38 = .ok (.ireturn, 1) := by decide +kernel
theorem dX3_subjectAt_39 : decode cX3_subjectAt 39 = .ok (.aload_n 0, 1) := by decide +kernel
theorem dX3_subjectAt_40 : decode cX3_subjectAt 40 = .ok (.iload_n 1, 1) := by decide +kernel
theorem dX3_subjectAt_41 : decode cX3_subjectAt 41 = .ok (.iload_n 2, 1) := by decide +kernel
theorem dX3_subjectAt_42 : decode cX3_subjectAt 42 = .ok (.ldc 87, 2) := by decide +kernel
theorem dX3_subjectAt_44 : decode cX3_subjectAt 44 = .ok (.invokevirtual 80, 3) := by decide +kernel
theorem dX3_subjectAt_47 : decode cX3_subjectAt 47 = .ok (.ifCond .eq 7, 3) := by decide +kernel
theorem dX3_subjectAt_50 : decode cX3_subjectAt 50 = .ok (.iconst 3, 1) := by decide +kernel
theorem dX3_subjectAt_51 : decode cX3_subjectAt 51 = .ok (.goto 4, 3) := by decide +kernel
theorem dX3_subjectAt_54 : decode cX3_subjectAt 54 = .ok (.iconst (-1), 1) := by decide +kernel
theorem dX3_subjectAt_55 : decode cX3_subjectAt 55 = .ok (.ireturn, 1) := by decide +kernel
theorem dX3_kindAt_0 : decode cX3_kindAt 0 = .ok (.aload_n 0, 1) := by decide +kernel
theorem dX3_kindAt_1 : decode cX3_kindAt 1 = .ok (.iload_n 1, 1) := by decide +kernel
theorem dX3_kindAt_2 : decode cX3_kindAt 2 = .ok (.iload_n 2, 1) := by decide +kernel
theorem dX3_kindAt_3 : decode cX3_kindAt 3 = .ok (.ldc 89, 2) := by decide +kernel
theorem dX3_kindAt_5 : decode cX3_kindAt 5 = .ok (.invokevirtual 80, 3) := by decide +kernel
theorem dX3_kindAt_8 : decode cX3_kindAt 8 = .ok (.ifCond .eq 5, 3) := by decide +kernel
theorem dX3_kindAt_11 : decode cX3_kindAt 11 = .ok (.iconst 0, 1) := by decide +kernel
theorem dX3_kindAt_12 : decode cX3_kindAt 12 = .ok (.ireturn, 1) := by decide +kernel
theorem dX3_kindAt_13 : decode cX3_kindAt 13 = .ok (.aload_n 0, 1) := by decide +kernel
theorem dX3_kindAt_14 : decode cX3_kindAt 14 = .ok (.iload_n 1, 1) := by decide +kernel
theorem dX3_kindAt_15 : decode cX3_kindAt 15 = .ok (.iload_n 2, 1) := by decide +kernel
theorem dX3_kindAt_16 : decode cX3_kindAt 16 = .ok (.ldc 91, 2) := by decide +kernel
theorem dX3_kindAt_18 : decode cX3_kindAt 18 = .ok (.invokevirtual 80, 3) := by decide +kernel
theorem dX3_kindAt_21 : decode cX3_kindAt 21 = .ok (.ifCond .eq 5, 3) := by decide +kernel
theorem dX3_kindAt_24 : decode cX3_kindAt 24 = .ok (.iconst 1, 1) := by decide +kernel
theorem dX3_kindAt_25 : decode cX3_kindAt 25 = .ok (.ireturn, 1) := by decide +kernel
theorem dX3_kindAt_26 : decode cX3_kindAt 26 = .ok (.aload_n 0, 1) := by decide +kernel
theorem dX3_kindAt_27 : decode cX3_kindAt 27 = .ok (.iload_n 1, 1) := by decide +kernel
theorem dX3_kindAt_28 : decode cX3_kindAt 28 = .ok (.iload_n 2, 1) := by decide +kernel
theorem dX3_kindAt_29 : decode cX3_kindAt 29 = .ok (.ldc 93, 2) := by decide +kernel
theorem dX3_kindAt_31 : decode cX3_kindAt 31 = .ok (.invokevirtual 80, 3) := by decide +kernel
theorem dX3_kindAt_34 : decode cX3_kindAt 34 = .ok (.ifCond .eq 7, 3) := by decide +kernel
theorem dX3_kindAt_37 : decode cX3_kindAt 37 = .ok (.iconst 2, 1) := by decide +kernel
theorem dX3_kindAt_38 : decode cX3_kindAt 38 = .ok (.goto 4, 3) := by decide +kernel
theorem dX3_kindAt_41 : decode cX3_kindAt 41 = .ok (.iconst (-1), 1) := by decide +kernel
theorem dX3_kindAt_42 : decode cX3_kindAt 42 = .ok (.ireturn, 1) := by decide +kernel
theorem dX4_init_0 : decode cX4_init 0 = .ok (.aload_n 0, 1) := by decide +kernel
theorem dX4_init_1 : decode cX4_init 1 = .ok (.invokespecial 3, 3) := by decide +kernel
theorem dX4_init_4 : decode cX4_init 4 = .ok (.aload_n 0, 1) := by decide +kernel
theorem dX4_init_5 : decode cX4_init 5 = .ok (.iconst 0, 1) := by decide +kernel
theorem dX4_init_6 : decode cX4_init 6 = .ok (.putfield 9, 3) := by decide +kernel
theorem dX4_init_9 : decode cX4_init 9 = .ok (.aload_n 0, 1) := by decide +kernel
theorem dX4_init_10 : decode cX4_init 10 = .ok (.bipush 60, 2) := by decide +kernel
theorem dX4_init_12 : decode cX4_init 12 = .ok (.newarray .int, 2) := by decide +kernel
theorem dX4_init_14 : decode cX4_init 14 = .ok (.putfield 15, 3) := by decide +kernel
theorem dX4_init_17 : decode cX4_init 17 = .ok (.aload_n 0, 1) := by decide +kernel
theorem dX4_init_18 : decode cX4_init 18 = .ok (.bipush 60, 2) := by decide +kernel
theorem dX4_init_20 : decode cX4_init 20 = .ok (.newarray .int, 2) := by decide +kernel
theorem dX4_init_22 : decode cX4_init 22 = .ok (.putfield 19, 3) := by decide +kernel
theorem dX4_init_25 : decode cX4_init 25 = .ok (.aload_n 0, 1) := by decide +kernel
theorem dX4_init_26 : decode cX4_init 26 = .ok (.bipush 60, 2) := by decide +kernel
theorem dX4_init_28 : decode cX4_init 28 = .ok (.newarray .int, 2) := by decide +kernel
theorem dX4_init_30 : decode cX4_init 30 = .ok (.putfield 22, 3) := by decide +kernel
theorem dX4_init_33 : decode cX4_init 33 = .ok (.aload_n 0, 1) := by decide +kernel
theorem dX4_init_34 : decode cX4_init 34 = .ok (.bipush 60, 2) := by decide +kernel
theorem dX4_init_36 : decode cX4_init 36 = .ok (.newarray .int, 2) := by decide +kernel
theorem dX4_init_38 : decode cX4_init 38 = .ok (.putfield 25, 3) := by decide +kernel
theorem dX4_init_41 : decode cX4_init 41 = .ok (.aload_n 0, 1) := by decide +kernel
theorem dX4_init_42 : decode cX4_init 42 = .ok (.bipush 60, 2) := by decide +kernel
theorem dX4_init_44 : decode cX4_init 44 = .ok (.newarray .int, 2) := by decide +kernel
theorem dX4_init_46 : decode cX4_init 46 = .ok (.putfield 28, 3) := by decide +kernel
theorem dX4_init_49 : decode cX4_init 49 = .ok (.return_, 1) := by decide +kernel
theorem dX4_hasWord_0 : decode cX4_hasWord 0 = .ok (.iload_n 1, 1) := by decide +kernel
theorem dX4_hasWord_1 : decode cX4_hasWord 1 = .ok (.ifCond .lt 15, 3) := by decide +kernel
theorem dX4_hasWord_4 : decode cX4_hasWord 4 = .ok (.iload_n 1, 1) := by decide +kernel
theorem dX4_hasWord_5 : decode cX4_hasWord 5 = .ok (.aload_n 0, 1) := by decide +kernel
theorem dX4_hasWord_6 : decode cX4_hasWord 6 = .ok (.getfield 9, 3) := by decide +kernel
theorem dX4_hasWord_9 : decode cX4_hasWord 9 = .ok (.if_icmp .ge 7, 3) := by decide +kernel
theorem dX4_hasWord_12 : decode cX4_hasWord 12 = .ok (.iconst 1, 1) := by decide +kernel
theorem dX4_hasWord_13 : decode cX4_hasWord 13 = .ok (.goto 4, 3) := by decide +kernel
theorem dX4_hasWord_16 : decode cX4_hasWord 16 = .ok (.iconst 0, 1) := by decide +kernel
theorem dX4_hasWord_17 : decode cX4_hasWord 17 = .ok (.ireturn, 1) := by decide +kernel
theorem dX4_take_0 : decode cX4_take 0 = .ok (.aload_n 0, 1) := by decide +kernel
theorem dX4_take_1 : decode cX4_take 1 = .ok (.iconst 0, 1) := by decide +kernel
theorem dX4_take_2 : decode cX4_take 2 = .ok (.putfield 9, 3) := by decide +kernel
theorem dX4_take_5 : decode cX4_take 5 = .ok (.iconst 0, 1) := by decide +kernel
theorem dX4_take_6 : decode cX4_take 6 = .ok (.istore_n 2, 1) := by decide +kernel
theorem dX4_take_7 : decode cX4_take 7 = .ok (.iconst 0, 1) := by decide +kernel
theorem dX4_take_8 : decode cX4_take 8 = .ok (.istore_n 3, 1) := by decide +kernel
theorem dX4_take_9 : decode cX4_take 9 = .ok (.iload_n 3, 1) := by decide +kernel
theorem dX4_take_10 : decode cX4_take 10 = .ok (.aload_n 1, 1) := by decide +kernel
theorem dX4_take_11 : decode cX4_take 11 = .ok (.getfield 31, 3) := by decide +kernel
theorem dX4_take_14 : decode cX4_take 14 = .ok (.if_icmp .ge 68, 3) := by decide +kernel
theorem dX4_take_17 : decode cX4_take 17 = .ok (.aload_n 1, 1) := by decide +kernel
theorem dX4_take_18 : decode cX4_take 18 = .ok (.getfield 36, 3) := by decide +kernel
theorem dX4_take_21 : decode cX4_take 21 = .ok (.iload_n 3, 1) := by decide +kernel
theorem dX4_take_22 : decode cX4_take 22 = .ok (.caload, 1) := by decide +kernel
theorem dX4_take_23 : decode cX4_take 23 = .ok (.istore 4, 2) := by decide +kernel
theorem dX4_take_25 : decode cX4_take 25 = .ok (.iload 4, 2) := by decide +kernel
theorem dX4_take_27 : decode cX4_take 27 = .ok (.bipush 32, 2) := by decide +kernel
theorem dX4_take_29 : decode cX4_take 29 = .ok (.if_icmp .ne 7, 3) := by decide +kernel
theorem dX4_take_32 : decode cX4_take 32 = .ok (.iconst 1, 1) := by decide +kernel
theorem dX4_take_33 : decode cX4_take 33 = .ok (.goto 4, 3) := by decide +kernel
theorem dX4_take_36 : decode cX4_take 36 = .ok (.iconst 0, 1) := by decide +kernel
theorem dX4_take_37 : decode cX4_take 37 = .ok (.istore 5, 2) := by decide +kernel
theorem dX4_take_39 : decode cX4_take 39 = .ok (.iload 5, 2) := by decide +kernel
theorem dX4_take_41 : decode cX4_take 41 = .ok (.ifCond .ne 13, 3) := by decide +kernel
theorem dX4_take_44 : decode cX4_take 44 = .ok (.iload_n 2, 1) := by decide +kernel
theorem dX4_take_45 : decode cX4_take 45 = .ok (.ifCond .ne 9, 3) := by decide +kernel
theorem dX4_take_48 : decode cX4_take 48 = .ok (.aload_n 0, 1) := by decide +kernel
theorem dX4_take_49 : decode cX4_take 49 = .ok (.iload 4, 2) := by decide +kernel
theorem dX4_take_51 : decode cX4_take 51 = .ok (.invokevirtual 40, 3) := by decide +kernel
theorem dX4_take_54 : decode cX4_take 54 = .ok (.iload 5, 2) := by decide +kernel
theorem dX4_take_56 : decode cX4_take 56 = .ok (.ifCond .ne 9, 3) := by decide +kernel
theorem dX4_take_59 : decode cX4_take 59 = .ok (.aload_n 0, 1) := by decide +kernel
theorem dX4_take_60 : decode cX4_take 60 = .ok (.iload 4, 2) := by decide +kernel
theorem dX4_take_62 : decode cX4_take 62 = .ok (.invokevirtual 44, 3) := by decide +kernel
theorem dX4_take_65 : decode cX4_take 65 = .ok (.iload 5, 2) := by decide +kernel
theorem dX4_take_67 : decode cX4_take 67 = .ok (.ifCond .ne 7, 3) := by decide +kernel
theorem dX4_take_70 : decode cX4_take 70 = .ok (.iconst 1, 1) := by decide +kernel
theorem dX4_take_71 : decode cX4_take 71 = .ok (.goto 4, 3) := by decide +kernel
theorem dX4_take_74 : decode cX4_take 74 = .ok (.iconst 0, 1) := by decide +kernel
theorem dX4_take_75 : decode cX4_take 75 = .ok (.istore_n 2, 1) := by decide +kernel
theorem dX4_take_76 : decode cX4_take 76 = .ok (.iinc 3 1, 3) := by decide +kernel
theorem dX4_take_79 : decode cX4_take 79 = .ok (.goto (-70), 3) := by decide +kernel
theorem dX4_take_82 : decode cX4_take 82 = .ok (.return_, 1) := by decide +kernel
theorem dX4_openWord_0 : decode cX4_openWord 0 = .ok (.aload_n 0, 1) := by decide +kernel
theorem dX4_openWord_1 : decode cX4_openWord 1 = .ok (.getfield 9, 3) := by decide +kernel
theorem dX4_openWord_4 : decode cX4_openWord 4 = .ok (.bipush 60, 2) := by decide +kernel
theorem dX4_openWord_6 : decode cX4_openWord 6 = .ok (.if_icmp .lt 4, 3) := by decide +kernel
theorem dX4_openWord_9 : decode cX4_openWord 9 = .ok (.return_, 1) := by decide +kernel
theorem dX4_openWord_10 : decode cX4_openWord 10 = .ok (.aload_n 0, 1) := by decide +kernel
theorem dX4_openWord_11 : decode cX4_openWord 11 = .ok (.getfield 15, 3) := by decide +kernel
theorem dX4_openWord_14 : decode cX4_openWord 14 = .ok (.aload_n 0, 1) := by decide +kernel
theorem dX4_openWord_15 : decode cX4_openWord 15 = .ok (.getfield 9, 3) := by decide +kernel
theorem dX4_openWord_18 : decode cX4_openWord 18 = .ok (.iconst 0, 1) := by decide +kernel
theorem dX4_openWord_19 : decode cX4_openWord 19 = .ok (.iastore, 1) := by decide +kernel
theorem dX4_openWord_20 : decode cX4_openWord 20 = .ok (.aload_n 0, 1) := by decide +kernel
theorem dX4_openWord_21 : decode cX4_openWord 21 = .ok (.getfield 19, 3) := by decide +kernel
theorem dX4_openWord_24 : decode cX4_openWord 24 = .ok (.aload_n 0, 1) := by decide +kernel
theorem dX4_openWord_25 : decode cX4_openWord 25 = .ok (.getfield 9, 3) := by decide +kernel
theorem dX4_openWord_28 : decode cX4_openWord 28 = .ok (.iconst 0, 1) := by decide +kernel
theorem dX4_openWord_29 : decode cX4_openWord 29 = .ok (.iastore, 1) := by decide +kernel
theorem dX4_openWord_30 : decode cX4_openWord 30 = .ok (.aload_n 0, 1) := by decide +kernel
theorem dX4_openWord_31 : decode cX4_openWord 31 = .ok (.getfield 25, 3) := by decide +kernel
theorem dX4_openWord_34 : decode cX4_openWord 34 = .ok (.aload_n 0, 1) := by decide +kernel
theorem dX4_openWord_35 : decode cX4_openWord 35 = .ok (.getfield 9, 3) := by decide +kernel
theorem dX4_openWord_38 : decode cX4_openWord 38 = .ok (.iload_n 1, 1) := by decide +kernel
theorem dX4_openWord_39 : decode cX4_openWord 39 = .ok (.invokestatic 47, 3) := by decide +kernel
theorem dX4_openWord_42 : decode cX4_openWord 42 = .ok (.ifCond .eq 10, 3) := by decide +kernel
theorem dX4_openWord_45 : decode cX4_openWord 45 = .ok (.iload_n 1, 1) := by decide +kernel
theorem dX4_openWord_46 : decode cX4_openWord 46 = .ok (.invokestatic 53, 3) := by decide +kernel
theorem dX4_openWord_49 : decode cX4_openWord 49 = .ok (.goto 4, 3) := by decide +kernel
theorem dX4_openWord_52 : decode cX4_openWord 52 = .ok (.iconst 0, 1) := by decide +kernel
theorem dX4_openWord_53 : decode cX4_openWord 53 = .ok (.iastore, 1) := by decide +kernel
theorem dX4_openWord_54 : decode cX4_openWord 54 = .ok (.aload_n 0, 1) := by decide +kernel
theorem dX4_openWord_55 : decode cX4_openWord 55 = .ok (.dup, 1) := by decide +kernel
theorem dX4_openWord_56 : decode cX4_openWord 56 = .ok (.getfield 9, 3) := by decide +kernel
theorem dX4_openWord_59 : decode cX4_openWord 59 = .ok (.iconst 1, 1) := by decide +kernel
theorem dX4_openWord_60 : decode cX4_openWord 60 = .ok (.iadd, 1) := by decide +kernel
theorem dX4_openWord_61 : decode cX4_openWord 61 = .ok (.putfield 9, 3) := by decide +kernel
theorem dX4_openWord_64 : decode cX4_openWord 64 = .ok (.return_, 1) := by decide +kernel
theorem dX4_lengthenWord_0 : decode cX4_lengthenWord 0 = .ok (.aload_n 0, 1) := by decide +kernel
theorem dX4_lengthenWord_1 : decode cX4_lengthenWord 1 = .ok (.getfield 9, 3) := by decide +kernel
theorem dX4_lengthenWord_4 : decode cX4_lengthenWord 4 = .ok (.iconst 1, 1) := by decide +kernel
theorem dX4_lengthenWord_5 : decode cX4_lengthenWord 5 = .ok (.isub, 1) := by decide +kernel
theorem dX4_lengthenWord_6 : decode cX4_lengthenWord 6 = .ok (.istore_n 2, 1) := by decide +kernel
theorem dX4_lengthenWord_7 : decode cX4_lengthenWord 7 = .ok (.iload_n 2, 1) := by decide +kernel
theorem dX4_lengthenWord_8 : decode cX4_lengthenWord 8 = .ok (.ifCond .ge 4, 3) := by decide +kernel
theorem dX4_lengthenWord_11 : decode cX4_lengthenWord 11 = .ok (.return_, 1) := by decide +kernel
theorem dX4_lengthenWord_12 : decode cX4_lengthenWord 12 = .ok (.iload_n 1, 1) := by decide +kernel
theorem dX4_lengthenWord_13 : decode cX4_lengthenWord 13 = .ok (.invokestatic 53, 3) := by decide +kernel
theorem dX4_lengthenWord_16 : decode cX4_lengthenWord 16 = .ok (.istore_n 3, 1) := by decide +kernel
theorem dX4_lengthenWord_17 : decode cX4_lengthenWord 17 = .ok (.aload_n 0, 1) := by decide +kernel
theorem dX4_lengthenWord_18 : decode cX4_lengthenWord 18 = .ok (.getfield 15, 3) := by decide +kernel
theorem dX4_lengthenWord_21 : decode cX4_lengthenWord 21 = .ok (.iload_n 2, 1) := by decide +kernel
theorem dX4_lengthenWord_22 : decode cX4_lengthenWord 22 = .ok (.dup2, 1) := by decide +kernel
theorem dX4_lengthenWord_23 : decode cX4_lengthenWord 23 = .ok (.iaload, 1) := by decide +kernel
theorem dX4_lengthenWord_24 : decode cX4_lengthenWord 24 = .ok (.iload_n 3, 1) := by decide +kernel
theorem dX4_lengthenWord_25 : decode cX4_lengthenWord 25 = .ok (.iadd, 1) := by decide +kernel
theorem dX4_lengthenWord_26 : decode cX4_lengthenWord 26 = .ok (.iastore, 1) := by decide +kernel
theorem dX4_lengthenWord_27 : decode cX4_lengthenWord 27 = .ok (.aload_n 0, 1) := by decide +kernel
theorem dX4_lengthenWord_28 : decode cX4_lengthenWord 28 = .ok (.getfield 19, 3) := by decide +kernel
theorem dX4_lengthenWord_31 : decode cX4_lengthenWord 31 = .ok (.iload_n 2, 1) := by decide +kernel
theorem dX4_lengthenWord_32 : decode cX4_lengthenWord 32 = .ok (.dup2, 1) := by decide +kernel
theorem dX4_lengthenWord_33 : decode cX4_lengthenWord 33 = .ok (.iaload, 1) := by decide +kernel
theorem dX4_lengthenWord_34 : decode cX4_lengthenWord 34 = .ok (.iconst 1, 1) := by decide +kernel
theorem dX4_lengthenWord_35 : decode cX4_lengthenWord 35 = .ok (.iadd, 1) := by decide +kernel
theorem dX4_lengthenWord_36 : decode cX4_lengthenWord 36 = .ok (.iastore, 1) := by decide +kernel
theorem dX4_lengthenWord_37 : decode cX4_lengthenWord 37 = .ok (.aload_n 0, 1) := by decide +kernel
theorem dX4_lengthenWord_38 : decode cX4_lengthenWord 38 = .ok (.getfield 22, 3) := by decide +kernel
theorem dX4_lengthenWord_41 : decode cX4_lengthenWord 41 = .ok (.iload_n 2, 1) := by decide +kernel
theorem dX4_lengthenWord_42 : decode cX4_lengthenWord 42 = .ok (.iload_n 1, 1) := by decide +kernel
theorem dX4_lengthenWord_43 : decode cX4_lengthenWord 43 = .ok (.invokestatic 57, 3) := by decide +kernel
theorem dX4_lengthenWord_46 : decode cX4_lengthenWord 46 = .ok (.iastore, 1) := by decide +kernel
theorem dX4_lengthenWord_47 : decode cX4_lengthenWord 47 = .ok (.aload_n 0, 1) := by decide +kernel
theorem dX4_lengthenWord_48 : decode cX4_lengthenWord 48 = .ok (.getfield 28, 3) := by decide +kernel
theorem dX4_lengthenWord_51 : decode cX4_lengthenWord 51 = .ok (.iload_n 2, 1) := by decide +kernel
theorem dX4_lengthenWord_52 : decode cX4_lengthenWord 52 = .ok (.iload_n 1, 1) := by decide +kernel
theorem dX4_lengthenWord_53 : decode cX4_lengthenWord 53 = .ok (.invokestatic 60, 3) := by decide +kernel
theorem dX4_lengthenWord_56 : decode cX4_lengthenWord 56 = .ok (.ifCond .eq 7, 3) := by decide +kernel
theorem dX4_lengthenWord_59 : decode cX4_lengthenWord 59 = .ok (.iload_n 3, 1) := by decide +kernel
theorem dX4_lengthenWord_60 : decode cX4_lengthenWord 60 = .ok (.goto 4, 3) := by decide +kernel
theorem dX4_lengthenWord_63 : decode cX4_lengthenWord 63 = .ok (.iconst 0, 1) := by decide +kernel
theorem dX4_lengthenWord_64 : decode cX4_lengthenWord 64 = .ok (.iastore, 1) := by decide +kernel
theorem dX4_lengthenWord_65 : decode cX4_lengthenWord 65 = .ok (.return_, 1) := by decide +kernel
theorem dX5_init_0 : decode cX5_init 0 = .ok (.aload_n 0, 1) := by decide +kernel
theorem dX5_init_1 : decode cX5_init 1 = .ok (.invokespecial 3, 3) := by decide +kernel
theorem dX5_init_4 : decode cX5_init 4 = .ok (.aload_n 0, 1) := by decide +kernel
theorem dX5_init_5 : decode cX5_init 5 = .ok (.iconst 0, 1) := by decide +kernel
theorem dX5_init_6 : decode cX5_init 6 = .ok (.putfield 9, 3) := by decide +kernel
theorem dX5_init_9 : decode cX5_init 9 = .ok (.aload_n 0, 1) := by decide +kernel
theorem dX5_init_10 : decode cX5_init 10 = .ok (.iconst 0, 1) := by decide +kernel
theorem dX5_init_11 : decode cX5_init 11 = .ok (.putfield 15, 3) := by decide +kernel
theorem dX5_init_14 : decode cX5_init 14 = .ok (.aload_n 0, 1) := by decide +kernel
theorem dX5_init_15 : decode cX5_init 15 = .ok (.iconst 0, 1) := by decide +kernel
theorem dX5_init_16 : decode cX5_init 16 = .ok (.putfield 18, 3) := by decide +kernel
theorem dX5_init_19 : decode cX5_init 19 = .ok (.aload_n 0, 1) := by decide +kernel
theorem dX5_init_20 : decode cX5_init 20 = .ok (.bipush 60, 2) := by decide +kernel
theorem dX5_init_22 : decode cX5_init 22 = .ok (.newarray .int, 2) := by decide +kernel
theorem dX5_init_24 : decode cX5_init 24 = .ok (.putfield 21, 3) := by decide +kernel
theorem dX5_init_27 : decode cX5_init 27 = .ok (.aload_n 0, 1) := by decide +kernel
theorem dX5_init_28 : decode cX5_init 28 = .ok (.bipush 60, 2) := by decide +kernel
theorem dX5_init_30 : decode cX5_init 30 = .ok (.newarray .int, 2) := by decide +kernel
theorem dX5_init_32 : decode cX5_init 32 = .ok (.putfield 25, 3) := by decide +kernel
theorem dX5_init_35 : decode cX5_init 35 = .ok (.aload_n 0, 1) := by decide +kernel
theorem dX5_init_36 : decode cX5_init 36 = .ok (.bipush 60, 2) := by decide +kernel
theorem dX5_init_38 : decode cX5_init 38 = .ok (.newarray .int, 2) := by decide +kernel
theorem dX5_init_40 : decode cX5_init 40 = .ok (.putfield 28, 3) := by decide +kernel
theorem dX5_init_43 : decode cX5_init 43 = .ok (.aload_n 0, 1) := by decide +kernel
theorem dX5_init_44 : decode cX5_init 44 = .ok (.bipush 60, 2) := by decide +kernel
theorem dX5_init_46 : decode cX5_init 46 = .ok (.newarray .boolean, 2) := by decide +kernel
theorem dX5_init_48 : decode cX5_init 48 = .ok (.putfield 31, 3) := by decide +kernel
theorem dX5_init_51 : decode cX5_init 51 = .ok (.aload_n 0, 1) := by decide +kernel
theorem dX5_init_52 : decode cX5_init 52 = .ok (.bipush 60, 2) := by decide +kernel
theorem dX5_init_54 : decode cX5_init 54 = .ok (.newarray .int, 2) := by decide +kernel
theorem dX5_init_56 : decode cX5_init 56 = .ok (.putfield 35, 3) := by decide +kernel
theorem dX5_init_59 : decode cX5_init 59 = .ok (.return_, 1) := by decide +kernel
theorem dX5_spaceOf_0 : decode cX5_spaceOf 0 = .ok (.aload_n 0, 1) := by decide +kernel
theorem dX5_spaceOf_1 : decode cX5_spaceOf 1 = .ok (.getfield 35, 3) := by decide +kernel
theorem dX5_spaceOf_4 : decode cX5_spaceOf 4 = .ok (.iload_n 1, 1) := by decide +kernel
theorem dX5_spaceOf_5 : decode cX5_spaceOf 5 = .ok (.invokestatic 38, 3) := by decide +kernel
theorem dX5_spaceOf_8 : decode cX5_spaceOf 8 = .ok (.istore_n 3, 1) := by decide +kernel
theorem dX5_spaceOf_9 : decode cX5_spaceOf 9 = .ok (.iload_n 2, 1) := by decide +kernel
theorem dX5_spaceOf_10 : decode cX5_spaceOf 10 = .ok (.aload_n 0, 1) := by decide +kernel
theorem dX5_spaceOf_11 : decode cX5_spaceOf 11 = .ok (.getfield 21, 3) := by decide +kernel
theorem dX5_spaceOf_14 : decode cX5_spaceOf 14 = .ok (.iload_n 3, 1) := by decide +kernel
theorem dX5_spaceOf_15 : decode cX5_spaceOf 15 = .ok (.invokestatic 38, 3) := by decide +kernel
theorem dX5_spaceOf_18 : decode cX5_spaceOf 18 = .ok (.if_icmp .lt 5, 3) := by decide +kernel
theorem dX5_spaceOf_21 : decode cX5_spaceOf 21 = .ok (.iconst (-1), 1) := by decide +kernel
theorem dX5_spaceOf_22 : decode cX5_spaceOf 22 = .ok (.ireturn, 1) := by decide +kernel
theorem dX5_spaceOf_23 : decode cX5_spaceOf 23 = .ok (.iconst 0, 1) := by decide +kernel
theorem dX5_spaceOf_24 : decode cX5_spaceOf 24 = .ok (.istore 4, 2) := by decide +kernel
theorem dX5_spaceOf_26 : decode cX5_spaceOf 26 = .ok (.iload 4, 2) := by decide +kernel
theorem dX5_spaceOf_28 : decode cX5_spaceOf 28 = .ok (.iload_n 2, 1) := by decide +kernel
theorem dX5_spaceOf_29 : decode cX5_spaceOf 29 = .ok (.if_icmp .ge 23, 3) := by decide +kernel
theorem dX5_spaceOf_32 : decode cX5_spaceOf 32 = .ok (.iload_n 3, 1) := by decide +kernel
theorem dX5_spaceOf_33 : decode cX5_spaceOf 33 = .ok (.iconst (-1), 1) := by decide +kernel
theorem dX5_spaceOf_34 : decode cX5_spaceOf 34 = .ok (.if_icmp .eq 18, 3) := by decide +kernel
theorem dX5_spaceOf_37 : decode cX5_spaceOf 37 = .ok (.aload_n 0, 1) := by decide +kernel
theorem dX5_spaceOf_38 : decode cX5_spaceOf 38 = .ok (.getfield 28, 3) := by decide +kernel
theorem dX5_spaceOf_41 : decode cX5_spaceOf 41 = .ok (.iload_n 3, 1) := by decide +kernel
theorem dX5_spaceOf_42 : decode cX5_spaceOf 42 = .ok (.invokestatic 38, 3) := by decide +kernel
theorem dX5_spaceOf_45 : decode cX5_spaceOf 45 = .ok (.istore_n 3, 1) := by decide +kernel
theorem dX5_spaceOf_46 : decode cX5_spaceOf 46 = .ok (.iinc 4 1, 3) := by decide +kernel
theorem dX5_spaceOf_49 : decode cX5_spaceOf 49 = .ok (.goto (-23), 3) := by decide +kernel
theorem dX5_spaceOf_52 : decode cX5_spaceOf 52 = .ok (.iload_n 3, 1) := by decide +kernel
theorem dX5_spaceOf_53 : decode cX5_spaceOf 53 = .ok (.ireturn, 1) := by decide +kernel
theorem dX5_find_0 : decode cX5_find 0 = .ok (.aload_n 0, 1) := by decide +kernel
theorem dX5_find_1 : decode cX5_find 1 = .ok (.iconst 0, 1) := by decide +kernel
theorem dX5_find_2 : decode cX5_find 2 = .ok (.putfield 9, 3) := by decide +kernel
theorem dX5_find_5 : decode cX5_find 5 = .ok (.aload_n 0, 1) := by decide +kernel
theorem dX5_find_6 : decode cX5_find 6 = .ok (.iconst 0, 1) := by decide +kernel
theorem dX5_find_7 : decode cX5_find 7 = .ok (.putfield 15, 3) := by decide +kernel
theorem dX5_find_10 : decode cX5_find 10 = .ok (.aload_n 0, 1) := by decide +kernel
theorem dX5_find_11 : decode cX5_find 11 = .ok (.iconst 0, 1) := by decide +kernel
theorem dX5_find_12 : decode cX5_find 12 = .ok (.putfield 18, 3) := by decide +kernel
theorem dX5_find_15 : decode cX5_find 15 = .ok (.aload_n 1, 1) := by decide +kernel
theorem dX5_find_16 : decode cX5_find 16 = .ok (.getfield 42, 3) := by decide +kernel
theorem dX5_find_19 : decode cX5_find 19 = .ok (.ifCond .ne 4, 3) := by decide +kernel
theorem dX5_find_22 : decode cX5_find 22 = .ok (.return_, 1) := by decide +kernel
theorem dX5_find_23 : decode cX5_find 23 = .ok (.iconst 0, 1) := by decide +kernel
theorem dX5_find_24 : decode cX5_find 24 = .ok (.istore 4, 2) := by decide +kernel
theorem dX5_find_26 : decode cX5_find 26 = .ok (.iload 4, 2) := by decide +kernel
theorem dX5_find_28 : decode cX5_find 28 = .ok (.iload_n 2, 1) := by decide +kernel
theorem dX5_find_29 : decode cX5_find 29 = .ok (.iconst 1, 1) := by decide +kernel
theorem dX5_find_30 : decode cX5_find 30 = .ok (.isub, 1) := by decide +kernel
theorem dX5_find_31 : decode cX5_find 31 = .ok (.if_icmp .ge 124, 3) := by decide +kernel
theorem dX5_find_34 : decode cX5_find 34 = .ok (.aload_n 0, 1) := by decide +kernel
theorem dX5_find_35 : decode cX5_find 35 = .ok (.getfield 25, 3) := by decide +kernel
theorem dX5_find_38 : decode cX5_find 38 = .ok (.iload 4, 2) := by decide +kernel
theorem dX5_find_40 : decode cX5_find 40 = .ok (.iconst 2, 1) := by decide +kernel
theorem dX5_find_41 : decode cX5_find 41 = .ok (.aload_n 1, 1) := by decide +kernel
theorem dX5_find_42 : decode cX5_find 42 = .ok (.iload 4, 2) := by decide +kernel
theorem dX5_find_44 : decode cX5_find 44 = .ok (.invokevirtual 47, 3) := by decide +kernel
theorem dX5_find_47 : decode cX5_find 47 = .ok (.imul, 1) := by decide +kernel
theorem dX5_find_48 : decode cX5_find 48 = .ok (.aload_n 1, 1) := by decide +kernel
theorem dX5_find_49 : decode cX5_find 49 = .ok (.getfield 51, 3) := by decide +kernel
theorem dX5_find_52 : decode cX5_find 52 = .ok (.iload 4, 2) := by decide +kernel
theorem dX5_find_54 : decode cX5_find 54 = .ok (.iaload, 1) := by decide +kernel
theorem dX5_find_55 : decode cX5_find 55 = .ok (.iadd, 1) := by decide +kernel
theorem dX5_find_56 : decode cX5_find 56 = .ok (.iastore, 1) := by decide +kernel
theorem dX5_find_57 : decode cX5_find 57 = .ok (.aload_n 0, 1) := by decide +kernel
theorem dX5_find_58 : decode cX5_find 58 = .ok (.getfield 31, 3) := by decide +kernel
theorem dX5_find_61 : decode cX5_find 61 = .ok (.iload 4, 2) := by decide +kernel
theorem dX5_find_63 : decode cX5_find 63 = .ok (.iconst 0, 1) := by decide +kernel
theorem dX5_find_64 : decode cX5_find 64 = .ok (.bastore, 1) := by decide +kernel
theorem dX5_find_65 : decode cX5_find 65 = .ok (.aload_n 1, 1) := by decide +kernel
theorem dX5_find_66 : decode cX5_find 66 = .ok (.getfield 54, 3) := by decide +kernel
theorem dX5_find_69 : decode cX5_find 69 = .ok (.iload 4, 2) := by decide +kernel
theorem dX5_find_71 : decode cX5_find 71 = .ok (.iaload, 1) := by decide +kernel
theorem dX5_find_72 : decode cX5_find 72 = .ok (.iconst (-1), 1) := by decide +kernel
theorem dX5_find_73 : decode cX5_find 73 = .ok (.if_icmp .eq 76, 3) := by decide +kernel
theorem dX5_find_76 : decode cX5_find 76 = .ok (.aload_n 0, 1) := by decide +kernel
theorem dX5_find_77 : decode cX5_find 77 = .ok (.getfield 28, 3) := by decide +kernel
theorem dX5_find_80 : decode cX5_find 80 = .ok (.iload 4, 2) := by decide +kernel
theorem dX5_find_82 : decode cX5_find 82 = .ok (.aload_n 0, 1) := by decide +kernel
theorem dX5_find_83 : decode cX5_find 83 = .ok (.aload_n 1, 1) := by decide +kernel
theorem dX5_find_84 : decode cX5_find 84 = .ok (.iload 4, 2) := by decide +kernel
theorem dX5_find_86 : decode cX5_find 86 = .ok (.iconst 2, 1) := by decide +kernel
theorem dX5_find_87 : decode cX5_find 87 = .ok (.iload_n 3, 1) := by decide +kernel
theorem dX5_find_88 : decode cX5_find 88 = .ok (.imul, 1) := by decide +kernel
theorem dX5_find_89 : decode cX5_find 89 = .ok (.invokevirtual 57, 3) := by decide +kernel
theorem dX5_find_92 : decode cX5_find 92 = .ok (.iastore, 1) := by decide +kernel
theorem dX5_find_93 : decode cX5_find 93 = .ok (.aload_n 0, 1) := by decide +kernel
theorem dX5_find_94 : decode cX5_find 94 = .ok (.getfield 21, 3) := by decide +kernel
theorem dX5_find_97 : decode cX5_find 97 = .ok (.iload 4, 2) := by decide +kernel
theorem dX5_find_99 : decode cX5_find 99 = .ok (.aload_n 0, 1) := by decide +kernel
theorem dX5_find_100 : decode cX5_find 100 = .ok (.getfield 28, 3) := by decide +kernel
theorem dX5_find_103 : decode cX5_find 103 = .ok (.iload 4, 2) := by decide +kernel
theorem dX5_find_105 : decode cX5_find 105 = .ok (.iaload, 1) := by decide +kernel
theorem dX5_find_106 : decode cX5_find 106 = .ok (.iconst (-1), 1) := by decide +kernel
theorem dX5_find_107 : decode cX5_find 107 = .ok (.if_icmp .ne 7, 3) := by decide +kernel
theorem dX5_find_110 : decode cX5_find 110 = .ok (.iconst 1, 1) := by decide +kernel
theorem dX5_find_111 : decode cX5_find 111 = .ok (.goto 19, 3) := by decide +kernel
theorem dX5_find_114 : decode cX5_find 114 = .ok (.aload_n 0, 1) := by decide +kernel
theorem dX5_find_115 : decode cX5_find 115 = .ok (.getfield 21, 3) := by decide +kernel
theorem dX5_find_118 : decode cX5_find 118 = .ok (.aload_n 0, 1) := by decide +kernel
theorem dX5_find_119 : decode cX5_find 119 = .ok (.getfield 28, 3) := by decide +kernel
theorem dX5_find_122 : decode cX5_find 122 = .ok (.iload 4, 2) := by decide +kernel
theorem dX5_find_124 : decode cX5_find 124 = .ok (.iaload, 1) := by decide +kernel
theorem dX5_find_125 : decode cX5_find 125 = .ok (.invokestatic 38, 3) := by decide +kernel
theorem dX5_find_128 : decode cX5_find 128 = .ok (.iconst 1, 1) := by decide +kernel
theorem dX5_find_129 : decode cX5_find 129 = .ok (.iadd, 1) := by decide +kernel
theorem dX5_find_130 : decode cX5_find 130 = .ok (.iastore, 1) := by decide +kernel
theorem dX5_find_131 : decode cX5_find 131 = .ok (.aload_n 0, 1) := by decide +kernel
theorem dX5_find_132 : decode cX5_find 132 = .ok (.aload_n 0, 1) := by decide +kernel
theorem dX5_find_133 : decode cX5_find 133 = .ok (.getfield 18, 3) := by decide +kernel
theorem dX5_find_136 : decode cX5_find 136 = .ok (.aload_n 0, 1) := by decide +kernel
theorem dX5_find_137 : decode cX5_find 137 = .ok (.getfield 21, 3) := by decide +kernel
theorem dX5_find_140 : decode cX5_find 140 = .ok (.iload 4, 2) := by decide +kernel
theorem dX5_find_142 : decode cX5_find 142 = .ok (.iaload, 1) := by decide +kernel
theorem dX5_find_143 : decode cX5_find 143 = .ok (.invokestatic 61, 3) := by decide +kernel
theorem dX5_find_146 : decode cX5_find 146 = .ok (.putfield 18, 3) := by decide +kernel
theorem dX5_find_149 : decode cX5_find 149 = .ok (.iinc 4 1, 3) := by decide +kernel
theorem dX5_find_152 : decode cX5_find 152 = .ok (.goto (-126), 3) := by decide +kernel
theorem dX5_find_155 : decode cX5_find 155 = .ok (.aload_n 0, 1) := by decide +kernel
theorem dX5_find_156 : decode cX5_find 156 = .ok (.aload_n 1, 1) := by decide +kernel
theorem dX5_find_157 : decode cX5_find 157 = .ok (.iload_n 2, 1) := by decide +kernel
theorem dX5_find_158 : decode cX5_find 158 = .ok (.invokevirtual 67, 3) := by decide +kernel
theorem dX5_find_161 : decode cX5_find 161 = .ok (.return_, 1) := by decide +kernel
theorem dX5_spaceAbove_0 : decode cX5_spaceAbove 0 = .ok (.aload_n 1, 1) := by decide +kernel
theorem dX5_spaceAbove_1 : decode cX5_spaceAbove 1 = .ok (.getfield 71, 3) := by decide +kernel
theorem dX5_spaceAbove_4 : decode cX5_spaceAbove 4 = .ok (.iload_n 2, 1) := by decide +kernel
theorem dX5_spaceAbove_5 : decode cX5_spaceAbove 5 = .ok (.invokestatic 38, 3) := by decide +kernel
theorem dX5_spaceAbove_8 : decode cX5_spaceAbove 8 = .ok (.iconst 1, 1) := by decide +kernel
theorem dX5_spaceAbove_9 : decode cX5_spaceAbove 9 = .ok (.isub, 1) := by decide +kernel
theorem dX5_spaceAbove_10 : decode cX5_spaceAbove 10 = .ok (.istore 4, 2) := by decide +kernel
theorem dX5_spaceAbove_12 : decode cX5_spaceAbove 12 = .ok (.iload 4, 2) := by decide +kernel
theorem dX5_spaceAbove_14 : decode cX5_spaceAbove 14 = .ok (.ifCond .ge 5, 3) := by decide +kernel
theorem dX5_spaceAbove_17 : decode cX5_spaceAbove 17 = .ok (.iconst (-1), 1) := by decide +kernel
theorem dX5_spaceAbove_18 : decode cX5_spaceAbove 18 = .ok (.ireturn, 1) := by decide +kernel
theorem dX5_spaceAbove_19 : decode cX5_spaceAbove 19 = .ok (.aload_n 0, 1) := by decide +kernel
theorem dX5_spaceAbove_20 : decode cX5_spaceAbove 20 = .ok (.getfield 25, 3) := by decide +kernel
theorem dX5_spaceAbove_23 : decode cX5_spaceAbove 23 = .ok (.iload_n 2, 1) := by decide +kernel
theorem dX5_spaceAbove_24 : decode cX5_spaceAbove 24 = .ok (.invokestatic 38, 3) := by decide +kernel
theorem dX5_spaceAbove_27 : decode cX5_spaceAbove 27 = .ok (.istore 5, 2) := by decide +kernel
theorem dX5_spaceAbove_29 : decode cX5_spaceAbove 29 = .ok (.iconst (-1), 1) := by decide +kernel
theorem dX5_spaceAbove_30 : decode cX5_spaceAbove 30 = .ok (.istore 6, 2) := by decide +kernel
theorem dX5_spaceAbove_32 : decode cX5_spaceAbove 32 = .ok (.iload_n 2, 1) := by decide +kernel
theorem dX5_spaceAbove_33 : decode cX5_spaceAbove 33 = .ok (.bipush 60, 2) := by decide +kernel
theorem dX5_spaceAbove_35 : decode cX5_spaceAbove 35 = .ok (.invokestatic 74, 3) := by decide +kernel
theorem dX5_spaceAbove_38 : decode cX5_spaceAbove 38 = .ok (.iconst 1, 1) := by decide +kernel
theorem dX5_spaceAbove_39 : decode cX5_spaceAbove 39 = .ok (.isub, 1) := by decide +kernel
theorem dX5_spaceAbove_40 : decode cX5_spaceAbove 40 = .ok (.istore 7, 2) := by decide +kernel
theorem dX5_spaceAbove_42 : decode cX5_spaceAbove 42 = .ok (.iload 7, 2) := by decide +kernel
theorem dX5_spaceAbove_44 : decode cX5_spaceAbove 44 = .ok (.ifCond .lt 102, 3) := by decide +kernel
theorem dX5_spaceAbove_47 : decode cX5_spaceAbove 47 = .ok (.aload_n 1, 1) := by decide +kernel
theorem dX5_spaceAbove_48 : decode cX5_spaceAbove 48 = .ok (.getfield 71, 3) := by decide +kernel
theorem dX5_spaceAbove_51 : decode cX5_spaceAbove 51 = .ok (.iload 7, 2) := by decide +kernel
theorem dX5_spaceAbove_53 : decode cX5_spaceAbove 53 = .ok (.iaload, 1) := by decide +kernel
theorem dX5_spaceAbove_54 : decode cX5_spaceAbove 54 = .ok (.iload 4, 2) := by decide +kernel
theorem dX5_spaceAbove_56 : decode cX5_spaceAbove 56 = .ok (.if_icmp .lt 90, 3) := by decide +kernel
theorem dX5_spaceAbove_59 : decode cX5_spaceAbove 59 = .ok (.aload_n 0, 1) := by decide +kernel
theorem dX5_spaceAbove_60 : decode cX5_spaceAbove 60 = .ok (.getfield 25, 3) := by decide +kernel
theorem dX5_spaceAbove_63 : decode cX5_spaceAbove 63 = .ok (.iload 7, 2) := by decide +kernel
theorem dX5_spaceAbove_65 : decode cX5_spaceAbove 65 = .ok (.iaload, 1) := by decide +kernel
theorem dX5_spaceAbove_66 : decode cX5_spaceAbove 66 = .ok (.iload 5, 2) := by decide +kernel
theorem dX5_spaceAbove_68 : decode cX5_spaceAbove 68 = .ok (.isub, 1) := by decide +kernel
theorem dX5_spaceAbove_69 : decode cX5_spaceAbove 69 = .ok (.invokestatic 77, 3) := by decide +kernel
theorem dX5_spaceAbove_72 : decode cX5_spaceAbove 72 = .ok (.iload_n 3, 1) := by decide +kernel
theorem dX5_spaceAbove_73 : decode cX5_spaceAbove 73 = .ok (.if_icmp .gt 7, 3) := by decide +kernel
theorem dX5_spaceAbove_76 : decode cX5_spaceAbove 76 = .ok (.iconst 1, 1) := by decide +kernel
theorem dX5_spaceAbove_77 : decode cX5_spaceAbove 77 = .ok (.goto 4, 3) := by decide +kernel
theorem dX5_spaceAbove_80 : decode cX5_spaceAbove 80 = .ok (.iconst 0, 1) := by decide +kernel
theorem dX5_spaceAbove_81 : decode cX5_spaceAbove 81 = .ok (.istore 8, 2) := by decide +kernel
theorem dX5_spaceAbove_83 : decode cX5_spaceAbove 83 = .ok (.iload 8, 2) := by decide +kernel
theorem dX5_spaceAbove_85 : decode cX5_spaceAbove 85 = .ok (.ifCond .eq 55, 3) := by decide +kernel
theorem dX5_spaceAbove_88 : decode cX5_spaceAbove 88 = .ok (.aload_n 1, 1) := by decide +kernel
theorem dX5_spaceAbove_89 : decode cX5_spaceAbove 89 = .ok (.getfield 54, 3) := by decide +kernel
theorem dX5_spaceAbove_92 : decode cX5_spaceAbove 92 = .ok (.iload 7, 2) := by decide +kernel
theorem dX5_spaceAbove_94 : decode cX5_spaceAbove 94 = .ok (.iaload, 1) := by decide +kernel
theorem dX5_spaceAbove_95 : decode cX5_spaceAbove 95 = .ok (.iload 4, 2) := by decide +kernel
theorem dX5_spaceAbove_97 : decode cX5_spaceAbove 97 = .ok (.if_icmp .eq 6, 3) := by decide +kernel
theorem dX5_spaceAbove_100 : decode cX5_spaceAbove 100 = .ok (.goto 40, 3) := by decide +kernel
theorem dX5_spaceAbove_103 : decode cX5_spaceAbove 103 = .ok (.aload_n 0, 1) := by decide +kernel
theorem dX5_spaceAbove_104 : decode cX5_spaceAbove 104 = .ok (.getfield 31, 3) := by decide +kernel
theorem dX5_spaceAbove_107 : decode cX5_spaceAbove 107 = .ok (.iload 7, 2) := by decide +kernel
theorem dX5_spaceAbove_109 : decode cX5_spaceAbove 109 = .ok (.iconst 1, 1) := by decide +kernel
theorem dX5_spaceAbove_110 : decode cX5_spaceAbove 110 = .ok (.bastore, 1) := by decide +kernel
theorem dX5_spaceAbove_111 : decode cX5_spaceAbove 111 = .ok (.iload 6, 2) := by decide +kernel
theorem dX5_spaceAbove_113 : decode cX5_spaceAbove 113 = .ok (.iconst (-1), 1) := by decide +kernel
theorem dX5_spaceAbove_114 : decode cX5_spaceAbove 114 = .ok (.if_icmp .eq 22, 3) := by decide +kernel
theorem dX5_spaceAbove_117 : decode cX5_spaceAbove 117 = .ok (.aload_n 0, 1) := by decide +kernel
theorem dX5_spaceAbove_118 : decode cX5_spaceAbove 118 = .ok (.getfield 21, 3) := by decide +kernel
theorem dX5_spaceAbove_121 : decode cX5_spaceAbove 121 = .ok (.iload 7, 2) := by decide +kernel
theorem dX5_spaceAbove_123 : decode cX5_spaceAbove 123 = .ok (.iaload, 1) := by decide +kernel
theorem dX5_spaceAbove_124 : decode cX5_spaceAbove 124 = .ok (.aload_n 0, 1) := by decide +kernel
theorem dX5_spaceAbove_125 : decode cX5_spaceAbove 125 = .ok (.getfield 21, 3) := by decide +kernel
theorem dX5_spaceAbove_128 : decode cX5_spaceAbove 128 = .ok (.iload 6, 2) := by decide +kernel
theorem dX5_spaceAbove_130 : decode cX5_spaceAbove 130 = .ok (.invokestatic 38, 3) := by decide +kernel
theorem dX5_spaceAbove_133 : decode cX5_spaceAbove 133 = .ok (.if_icmp .lt 7, 3) := by decide +kernel
theorem dX5_spaceAbove_136 : decode cX5_spaceAbove 136 = .ok (.iload 7, 2) := by decide +kernel
theorem dX5_spaceAbove_138 : decode cX5_spaceAbove 138 = .ok (.istore 6, 2) := by decide +kernel
theorem dX5_spaceAbove_140 : decode cX5_spaceAbove 140 = .ok (.iinc 7 (-1), 3) := by decide +kernel
theorem dX5_spaceAbove_143 : decode cX5_spaceAbove 143 = .ok (.goto (-101), 3) := by decide +kernel
theorem dX5_spaceAbove_146 : decode cX5_spaceAbove 146 = .ok (.iload 6, 2) := by decide +kernel
theorem dX5_spaceAbove_148 : decode cX5_spaceAbove 148 = .ok (.ireturn, 1) := by decide +kernel
theorem dX5_collectEnds_0 : decode cX5_collectEnds 0 = .ok (.iconst 0, 1) := by decide +kernel
theorem dX5_collectEnds_1 : decode cX5_collectEnds 1 = .ok (.istore_n 3, 1) := by decide +kernel
theorem dX5_collectEnds_2 : decode cX5_collectEnds 2 = .ok (.iload_n 3, 1) := by decide +kernel
theorem dX5_collectEnds_3 : decode cX5_collectEnds 3 = .ok (.iload_n 2, 1) := by decide +kernel
theorem dX5_collectEnds_4 : decode cX5_collectEnds 4 = .ok (.iconst 1, 1) := by decide +kernel
theorem dX5_collectEnds_5 : decode cX5_collectEnds 5 = .ok (.isub, 1) := by decide +kernel
theorem dX5_collectEnds_6 : decode cX5_collectEnds 6 = .ok (.if_icmp .ge 87, 3) := by decide +kernel
theorem dX5_collectEnds_9 : decode cX5_collectEnds 9 = .ok (.aload_n 0, 1) := by decide +kernel
theorem dX5_collectEnds_10 : decode cX5_collectEnds 10 = .ok (.getfield 21, 3) := by decide +kernel
theorem dX5_collectEnds_13 : decode cX5_collectEnds 13 = .ok (.iload_n 3, 1) := by decide +kernel
theorem dX5_collectEnds_14 : decode cX5_collectEnds 14 = .ok (.iaload, 1) := by decide +kernel
theorem dX5_collectEnds_15 : decode cX5_collectEnds 15 = .ok (.iconst 3, 1) := by decide +kernel
theorem dX5_collectEnds_16 : decode cX5_collectEnds 16 = .ok (.if_icmp .lt 16, 3) := by decide +kernel
theorem dX5_collectEnds_19 : decode cX5_collectEnds 19 = .ok (.aload_n 0, 1) := by decide +kernel
theorem dX5_collectEnds_20 : decode cX5_collectEnds 20 = .ok (.getfield 31, 3) := by decide +kernel
theorem dX5_collectEnds_23 : decode cX5_collectEnds 23 = .ok (.iload_n 3, 1) := by decide +kernel
theorem dX5_collectEnds_24 : decode cX5_collectEnds 24 = .ok (.baload, 1) := by decide +kernel
theorem dX5_collectEnds_25 : decode cX5_collectEnds 25 = .ok (.ifCond .ne 7, 3) := by decide +kernel
theorem dX5_collectEnds_28 : decode cX5_collectEnds 28 = .ok (.iconst 1, 1) := by decide +kernel
theorem dX5_collectEnds_29 : decode cX5_collectEnds 29 = .ok (.goto 4, 3) := by decide +kernel
theorem dX5_collectEnds_32 : decode cX5_collectEnds 32 = .ok (.iconst 0, 1) := by decide +kernel
theorem dX5_collectEnds_33 : decode cX5_collectEnds 33 = .ok (.istore 4, 2) := by decide +kernel
theorem dX5_collectEnds_35 : decode cX5_collectEnds 35 = .ok (.iload 4, 2) := by decide +kernel
theorem dX5_collectEnds_37 : decode cX5_collectEnds 37 = .ok (.ifCond .eq 50, 3) := by decide +kernel
theorem dX5_collectEnds_40 : decode cX5_collectEnds 40 = .ok (.aload_n 1, 1) := by decide +kernel
theorem dX5_collectEnds_41 : decode cX5_collectEnds 41 = .ok (.getfield 54, 3) := by decide +kernel
theorem dX5_collectEnds_44 : decode cX5_collectEnds 44 = .ok (.iload_n 3, 1) := by decide +kernel
theorem dX5_collectEnds_45 : decode cX5_collectEnds 45 = .ok (.iaload, 1) := by decide +kernel
theorem dX5_collectEnds_46 : decode cX5_collectEnds 46 = .ok (.iconst (-1), 1) := by decide +kernel
theorem dX5_collectEnds_47 : decode cX5_collectEnds 47 = .ok (.if_icmp .eq 40, 3) := by decide +kernel
theorem dX5_collectEnds_50 : decode cX5_collectEnds 50 = .ok (.aload_n 0, 1) := by decide +kernel
theorem dX5_collectEnds_51 : decode cX5_collectEnds 51 = .ok (.getfield 35, 3) := by decide +kernel
theorem dX5_collectEnds_54 : decode cX5_collectEnds 54 = .ok (.aload_n 0, 1) := by decide +kernel
theorem dX5_collectEnds_55 : decode cX5_collectEnds 55 = .ok (.getfield 9, 3) := by decide +kernel
theorem dX5_collectEnds_58 : decode cX5_collectEnds 58 = .ok (.iload_n 3, 1) := by decide +kernel
theorem dX5_collectEnds_59 : decode cX5_collectEnds 59 = .ok (.iastore, 1) := by decide +kernel
theorem dX5_collectEnds_60 : decode cX5_collectEnds 60 = .ok (.aload_n 0, 1) := by decide +kernel
theorem dX5_collectEnds_61 : decode cX5_collectEnds 61 = .ok (.dup, 1) := by decide +kernel
theorem dX5_collectEnds_62 : decode cX5_collectEnds 62 = .ok (.getfield 9, 3) := by decide +kernel
theorem dX5_collectEnds_65 : decode cX5_collectEnds 65 = .ok (.iconst 1, 1) := by decide +kernel
theorem dX5_collectEnds_66 : decode cX5_collectEnds 66 = .ok (.iadd, 1) := by decide +kernel
theorem dX5_collectEnds_67 : decode cX5_collectEnds 67 = .ok (.putfield 9, 3) := by decide +kernel
theorem dX5_collectEnds_70 : decode cX5_collectEnds 70 = .ok (.aload_n 0, 1) := by decide +kernel
theorem dX5_collectEnds_71 : decode cX5_collectEnds 71 = .ok (.dup, 1) := by decide +kernel
theorem dX5_collectEnds_72 : decode cX5_collectEnds 72 = .ok (.getfield 15, 3) := by decide +kernel
theorem dX5_collectEnds_75 : decode cX5_collectEnds 75 = .ok (.aload_n 0, 1) := by decide +kernel
theorem dX5_collectEnds_76 : decode cX5_collectEnds 76 = .ok (.getfield 21, 3) := by decide +kernel
theorem dX5_collectEnds_79 : decode cX5_collectEnds 79 = .ok (.iload_n 3, 1) := by decide +kernel
theorem dX5_collectEnds_80 : decode cX5_collectEnds 80 = .ok (.iaload, 1) := by decide +kernel
theorem dX5_collectEnds_81 : decode cX5_collectEnds 81 = .ok (.iconst 2, 1) := by decide +kernel
theorem dX5_collectEnds_82 : decode cX5_collectEnds 82 = .ok (.isub, 1) := by decide +kernel
theorem dX5_collectEnds_83 : decode cX5_collectEnds 83 = .ok (.iadd, 1) := by decide +kernel
theorem dX5_collectEnds_84 : decode cX5_collectEnds 84 = .ok (.putfield 15, 3) := by decide +kernel
theorem dX5_collectEnds_87 : decode cX5_collectEnds 87 = .ok (.iinc 3 1, 3) := by decide +kernel
theorem dX5_collectEnds_90 : decode cX5_collectEnds 90 = .ok (.goto (-88), 3) := by decide +kernel
theorem dX5_collectEnds_93 : decode cX5_collectEnds 93 = .ok (.return_, 1) := by decide +kernel
theorem dX6_init_0 : decode cX6_init 0 = .ok (.aload_n 0, 1) := by decide +kernel
theorem dX6_init_1 : decode cX6_init 1 = .ok (.invokespecial 1, 3) := by decide +kernel
theorem dX6_init_4 : decode cX6_init 4 = .ok (.aload_n 0, 1) := by decide +kernel
theorem dX6_init_5 : decode cX6_init 5 = .ok (.bipush 60, 2) := by decide +kernel
theorem dX6_init_7 : decode cX6_init 7 = .ok (.putfield 7, 3) := by decide +kernel
theorem dX6_init_10 : decode cX6_init 10 = .ok (.aload_n 0, 1) := by decide +kernel
theorem dX6_init_11 : decode cX6_init 11 = .ok (.bipush 50, 2) := by decide +kernel
theorem dX6_init_13 : decode cX6_init 13 = .ok (.putfield 13, 3) := by decide +kernel
theorem dX6_init_16 : decode cX6_init 16 = .ok (.aload_n 0, 1) := by decide +kernel
theorem dX6_init_17 : decode cX6_init 17 = .ok (.iconst 2, 1) := by decide +kernel
theorem dX6_init_18 : decode cX6_init 18 = .ok (.putfield 16, 3) := by decide +kernel
theorem dX6_init_21 : decode cX6_init 21 = .ok (.aload_n 0, 1) := by decide +kernel
theorem dX6_init_22 : decode cX6_init 22 = .ok (.iconst 3, 1) := by decide +kernel
theorem dX6_init_23 : decode cX6_init 23 = .ok (.newarray .int, 2) := by decide +kernel
theorem dX6_init_25 : decode cX6_init 25 = .ok (.dup, 1) := by decide +kernel
theorem dX6_init_26 : decode cX6_init 26 = .ok (.iconst 0, 1) := by decide +kernel
theorem dX6_init_27 : decode cX6_init 27 = .ok (.iconst 2, 1) := by decide +kernel
theorem dX6_init_28 : decode cX6_init 28 = .ok (.iastore, 1) := by decide +kernel
theorem dX6_init_29 : decode cX6_init 29 = .ok (.dup, 1) := by decide +kernel
theorem dX6_init_30 : decode cX6_init 30 = .ok (.iconst 1, 1) := by decide +kernel
theorem dX6_init_31 : decode cX6_init 31 = .ok (.iconst 2, 1) := by decide +kernel
theorem dX6_init_32 : decode cX6_init 32 = .ok (.iastore, 1) := by decide +kernel
theorem dX6_init_33 : decode cX6_init 33 = .ok (.dup, 1) := by decide +kernel
theorem dX6_init_34 : decode cX6_init 34 = .ok (.iconst 2, 1) := by decide +kernel
theorem dX6_init_35 : decode cX6_init 35 = .ok (.iconst 3, 1) := by decide +kernel
theorem dX6_init_36 : decode cX6_init 36 = .ok (.iastore, 1) := by decide +kernel
theorem dX6_init_37 : decode cX6_init 37 = .ok (.putfield 19, 3) := by decide +kernel
theorem dX6_init_40 : decode cX6_init 40 = .ok (.aload_n 0, 1) := by decide +kernel
theorem dX6_init_41 : decode cX6_init 41 = .ok (.iconst 3, 1) := by decide +kernel
theorem dX6_init_42 : decode cX6_init 42 = .ok (.newarray .int, 2) := by decide +kernel
theorem dX6_init_44 : decode cX6_init 44 = .ok (.dup, 1) := by decide +kernel
theorem dX6_init_45 : decode cX6_init 45 = .ok (.iconst 0, 1) := by decide +kernel
theorem dX6_init_46 : decode cX6_init 46 = .ok (.iconst 3, 1) := by decide +kernel
theorem dX6_init_47 : decode cX6_init 47 = .ok (.iastore, 1) := by decide +kernel
theorem dX6_init_48 : decode cX6_init 48 = .ok (.dup, 1) := by decide +kernel
theorem dX6_init_49 : decode cX6_init 49 = .ok (.iconst 1, 1) := by decide +kernel
theorem dX6_init_50 : decode cX6_init 50 = .ok (.iconst 4, 1) := by decide +kernel
theorem dX6_init_51 : decode cX6_init 51 = .ok (.iastore, 1) := by decide +kernel
theorem dX6_init_52 : decode cX6_init 52 = .ok (.dup, 1) := by decide +kernel
theorem dX6_init_53 : decode cX6_init 53 = .ok (.iconst 2, 1) := by decide +kernel
theorem dX6_init_54 : decode cX6_init 54 = .ok (.iconst 5, 1) := by decide +kernel
theorem dX6_init_55 : decode cX6_init 55 = .ok (.iastore, 1) := by decide +kernel
theorem dX6_init_56 : decode cX6_init 56 = .ok (.putfield 23, 3) := by decide +kernel
theorem dX6_init_59 : decode cX6_init 59 = .ok (.aload_n 0, 1) := by decide +kernel
theorem dX6_init_60 : decode cX6_init 60 = .ok (.iconst 3, 1) := by decide +kernel
theorem dX6_init_61 : decode cX6_init 61 = .ok (.newarray .int, 2) := by decide +kernel
theorem dX6_init_63 : decode cX6_init 63 = .ok (.dup, 1) := by decide +kernel
theorem dX6_init_64 : decode cX6_init 64 = .ok (.iconst 0, 1) := by decide +kernel
theorem dX6_init_65 : decode cX6_init 65 = .ok (.bipush 6, 2) := by decide +kernel
theorem dX6_init_67 : decode cX6_init 67 = .ok (.iastore, 1) := by decide +kernel
theorem dX6_init_68 : decode cX6_init 68 = .ok (.dup, 1) := by decide +kernel
theorem dX6_init_69 : decode cX6_init 69 = .ok (.iconst 1, 1) := by decide +kernel
theorem dX6_init_70 : decode cX6_init 70 = .ok (.bipush 8, 2) := by decide +kernel
theorem dX6_init_72 : decode cX6_init 72 = .ok (.iastore, 1) := by decide +kernel
theorem dX6_init_73 : decode cX6_init 73 = .ok (.dup, 1) := by decide +kernel
theorem dX6_init_74 : decode cX6_init 74 = .ok (.iconst 2, 1) := by decide +kernel
theorem dX6_init_75 : decode cX6_init 75 = .ok (.bipush 10, 2) := by decide +kernel
theorem dX6_init_77 : decode cX6_init 77 = .ok (.iastore, 1) := by decide +kernel
theorem dX6_init_78 : decode cX6_init 78 = .ok (.putfield 26, 3) := by decide +kernel
theorem dX6_init_81 : decode cX6_init 81 = .ok (.return_, 1) := by decide +kernel
theorem dX6_putWidths_0 : decode cX6_putWidths 0 = .ok (.iload_n 1, 1) := by decide +kernel
theorem dX6_putWidths_1 : decode cX6_putWidths 1 = .ok (.invokestatic 29, 3) := by decide +kernel
theorem dX6_putWidths_4 : decode cX6_putWidths 4 = .ok (.ifCond .ne 4, 3) := by decide +kernel
theorem dX6_putWidths_7 : decode cX6_putWidths 7 = .ok (.return_, 1) := by decide +kernel
theorem dX6_putWidths_8 : decode cX6_putWidths 8 = .ok (.aload_n 0, 1) := by decide +kernel
theorem dX6_putWidths_9 : decode cX6_putWidths 9 = .ok (.getfield 19, 3) := by decide +kernel
theorem dX6_putWidths_12 : decode cX6_putWidths 12 = .ok (.iload_n 1, 1) := by decide +kernel
theorem dX6_putWidths_13 : decode cX6_putWidths 13 = .ok (.iload_n 2, 1) := by decide +kernel
theorem dX6_putWidths_14 : decode cX6_putWidths 14 = .ok (.iastore, 1) := by decide +kernel
theorem dX6_putWidths_15 : decode cX6_putWidths 15 = .ok (.aload_n 0, 1) := by decide +kernel
theorem dX6_putWidths_16 : decode cX6_putWidths 16 = .ok (.getfield 23, 3) := by decide +kernel
theorem dX6_putWidths_19 : decode cX6_putWidths 19 = .ok (.iload_n 1, 1) := by decide +kernel
theorem dX6_putWidths_20 : decode cX6_putWidths 20 = .ok (.iload_n 3, 1) := by decide +kernel
theorem dX6_putWidths_21 : decode cX6_putWidths 21 = .ok (.iastore, 1) := by decide +kernel
theorem dX6_putWidths_22 : decode cX6_putWidths 22 = .ok (.aload_n 0, 1) := by decide +kernel
theorem dX6_putWidths_23 : decode cX6_putWidths 23 = .ok (.getfield 26, 3) := by decide +kernel
theorem dX6_putWidths_26 : decode cX6_putWidths 26 = .ok (.iload_n 1, 1) := by decide +kernel
theorem dX6_putWidths_27 : decode cX6_putWidths 27 = .ok (.iload 4, 2) := by decide +kernel
theorem dX6_putWidths_29 : decode cX6_putWidths 29 = .ok (.iastore, 1) := by decide +kernel
theorem dX6_putWidths_30 : decode cX6_putWidths 30 = .ok (.return_, 1) := by decide +kernel
theorem dX7_widthOf_0 : decode cX7_widthOf 0 = .ok (.iload_n 0, 1) := by decide +kernel
theorem dX7_widthOf_1 : decode cX7_widthOf 1 = .ok (.bipush 97, 2) := by decide +kernel
theorem dX7_widthOf_3 : decode cX7_widthOf 3 = .ok (.if_icmp .lt 14, 3) := by decide +kernel
theorem dX7_widthOf_6 : decode cX7_widthOf 6 = .ok (.iload_n 0, 1) := by decide +kernel
theorem dX7_widthOf_7 : decode cX7_widthOf 7 = .ok (.bipush 122, 2) := by decide +kernel
theorem dX7_widthOf_9 : decode cX7_widthOf 9 = .ok (.if_icmp .gt 8, 3) := by decide +kernel
theorem dX7_widthOf_12 : decode cX7_widthOf 12 = .ok (.iload_n 0, 1) := by decide +kernel
theorem dX7_widthOf_13 : decode cX7_widthOf 13 = .ok (.invokestatic 7, 3) := by decide +kernel
theorem dX7_widthOf_16 : decode cX7_widthOf 16 = .ok (.ireturn, 1) := by decide +kernel
theorem dX7_widthOf_17 : decode cX7_widthOf 17 = .ok (.iload_n 0, 1) := by decide +kernel
theorem dX7_widthOf_18 : decode cX7_widthOf 18 = .ok (.bipush 65, 2) := by decide +kernel
theorem dX7_widthOf_20 : decode cX7_widthOf 20 = .ok (.if_icmp .lt 14, 3) := by decide +kernel
theorem dX7_widthOf_23 : decode cX7_widthOf 23 = .ok (.iload_n 0, 1) := by decide +kernel
theorem dX7_widthOf_24 : decode cX7_widthOf 24 = .ok (.bipush 90, 2) := by decide +kernel
theorem dX7_widthOf_26 : decode cX7_widthOf 26 = .ok (.if_icmp .gt 8, 3) := by decide +kernel
theorem dX7_widthOf_29 : decode cX7_widthOf 29 = .ok (.iload_n 0, 1) := by decide +kernel
theorem dX7_widthOf_30 : decode cX7_widthOf 30 = .ok (.invokestatic 13, 3) := by decide +kernel
theorem dX7_widthOf_33 : decode cX7_widthOf 33 = .ok (.ireturn, 1) := by decide +kernel
theorem dX7_widthOf_34 : decode cX7_widthOf 34 = .ok (.iload_n 0, 1) := by decide +kernel
theorem dX7_widthOf_35 : decode cX7_widthOf 35 = .ok (.invokestatic 16, 3) := by decide +kernel
theorem dX7_widthOf_38 : decode cX7_widthOf 38 = .ok (.ifCond .eq 5, 3) := by decide +kernel
theorem dX7_widthOf_41 : decode cX7_widthOf 41 = .ok (.iconst 3, 1) := by decide +kernel
theorem dX7_widthOf_42 : decode cX7_widthOf 42 = .ok (.ireturn, 1) := by decide +kernel
theorem dX7_widthOf_43 : decode cX7_widthOf 43 = .ok (.iload_n 0, 1) := by decide +kernel
theorem dX7_widthOf_44 : decode cX7_widthOf 44 = .ok (.ldc 20, 2) := by decide +kernel
theorem dX7_widthOf_46 : decode cX7_widthOf 46 = .ok (.invokestatic 22, 3) := by decide +kernel
theorem dX7_widthOf_49 : decode cX7_widthOf 49 = .ok (.ifCond .eq 5, 3) := by decide +kernel
theorem dX7_widthOf_52 : decode cX7_widthOf 52 = .ok (.iconst 1, 1) := by decide +kernel
theorem dX7_widthOf_53 : decode cX7_widthOf 53 = .ok (.ireturn, 1) := by decide +kernel
theorem dX7_widthOf_54 : decode cX7_widthOf 54 = .ok (.iload_n 0, 1) := by decide +kernel
theorem dX7_widthOf_55 : decode cX7_widthOf 55 = .ok (.ldc 26, 2) := by decide +kernel
theorem dX7_widthOf_57 : decode cX7_widthOf 57 = .ok (.invokestatic 22, 3) := by decide +kernel
theorem dX7_widthOf_60 : decode cX7_widthOf 60 = .ok (.ifCond .eq 7, 3) := by decide +kernel
theorem dX7_widthOf_63 : decode cX7_widthOf 63 = .ok (.iconst 2, 1) := by decide +kernel
theorem dX7_widthOf_64 : decode cX7_widthOf 64 = .ok (.goto 4, 3) := by decide +kernel
theorem dX7_widthOf_67 : decode cX7_widthOf 67 = .ok (.iconst 0, 1) := by decide +kernel
theorem dX7_widthOf_68 : decode cX7_widthOf 68 = .ok (.ireturn, 1) := by decide +kernel
theorem dX7_smallLetterWidth_0 : decode cX7_smallLetterWidth 0 = .ok (.iload_n 0, 1) := by decide +kernel
theorem dX7_smallLetterWidth_1 : decode cX7_smallLetterWidth 1 = .ok (.ldc 28, 2) := by decide +kernel
theorem dX7_smallLetterWidth_3 : decode cX7_smallLetterWidth 3 = .ok (.invokestatic 22, 3) := by decide +kernel
theorem dX7_smallLetterWidth_6 : decode cX7_smallLetterWidth 6 = .ok (.ifCond .eq 5, 3) := by decide +kernel
theorem dX7_smallLetterWidth_9 : decode cX7_smallLetterWidth 9 = .ok (.iconst 2, 1) := by decide +kernel
theorem dX7_smallLetterWidth_10 : decode cX7_smallLetterWidth 10 = .ok (.ireturn, 1) := by decide +kernel
theorem dX7_smallLetterWidth_11 : decode cX7_smallLetterWidth 11 = .ok (.iload_n 0, 1) := by decide +kernel
theorem dX7_smallLetterWidth_12 : decode cX7_smallLetterWidth 12 = .ok (.ldc 30, 2) := by decide +kernel
theorem dX7_smallLetterWidth_14 : decode cX7_smallLetterWidth 14 = .ok (.invokestatic 22, 3) := by decide +kernel
theorem dX7_smallLetterWidth_17 : decode cX7_smallLetterWidth 17 = .ok (.ifCond .eq 7, 3) := by decide +kernel
theorem dX7_smallLetterWidth_20 : decode cX7_smallLetterWidth 20 = .ok (.iconst 4, 1) := by decide +kernel
theorem dX7_smallLetterWidth_21 : decode cX7_smallLetterWidth 21 = .ok (.goto 4, 3) := by decide +kernel
theorem dX7_smallLetterWidth_24 : decode cX7_smallLetterWidth 24 = .ok (.iconst 3, 1) := by decide +kernel
theorem dX7_smallLetterWidth_25 : decode cX7_smallLetterWidth 25 = .ok (.ireturn, 1) := by decide +kernel
theorem dX7_capitalWidth_0 : decode cX7_capitalWidth 0 = .ok (.iload_n 0, 1) := by decide +kernel
theorem dX7_capitalWidth_1 : decode cX7_capitalWidth 1 = .ok (.bipush 73, 2) := by decide +kernel
theorem dX7_capitalWidth_3 : decode cX7_capitalWidth 3 = .ok (.if_icmp .ne 5, 3) := by decide +kernel
theorem dX7_capitalWidth_6 : decode cX7_capitalWidth 6 = .ok (.iconst 2, 1) := by decide +kernel
theorem dX7_capitalWidth_7 : decode cX7_capitalWidth 7 = .ok (.ireturn, 1) := by decide +kernel
theorem dX7_capitalWidth_8 : decode cX7_capitalWidth 8 = .ok (.iload_n 0, 1) := by decide +kernel
theorem dX7_capitalWidth_9 : decode cX7_capitalWidth 9 = .ok (.ldc 32, 2) := by decide +kernel
theorem dX7_capitalWidth_11 : decode cX7_capitalWidth 11 = .ok (.invokestatic 22, 3) := by decide +kernel
theorem dX7_capitalWidth_14 : decode cX7_capitalWidth 14 = .ok (.ifCond .eq 7, 3) := by decide +kernel
theorem dX7_capitalWidth_17 : decode cX7_capitalWidth 17 = .ok (.iconst 5, 1) := by decide +kernel
theorem dX7_capitalWidth_18 : decode cX7_capitalWidth 18 = .ok (.goto 4, 3) := by decide +kernel
theorem dX7_capitalWidth_21 : decode cX7_capitalWidth 21 = .ok (.iconst 4, 1) := by decide +kernel
theorem dX7_capitalWidth_22 : decode cX7_capitalWidth 22 = .ok (.ireturn, 1) := by decide +kernel
theorem dX7_kindBehind_0 : decode cX7_kindBehind 0 = .ok (.iload_n 0, 1) := by decide +kernel
theorem dX7_kindBehind_1 : decode cX7_kindBehind 1 = .ok (.ldc 34, 2) := by decide +kernel
theorem dX7_kindBehind_3 : decode cX7_kindBehind 3 = .ok (.invokestatic 22, 3) := by decide +kernel
theorem dX7_kindBehind_6 : decode cX7_kindBehind 6 = .ok (.ifCond .eq 5, 3) := by decide +kernel
theorem dX7_kindBehind_9 : decode cX7_kindBehind 9 = .ok (.iconst 2, 1) := by decide +kernel
theorem dX7_kindBehind_10 : decode cX7_kindBehind 10 = .ok (.ireturn, 1) := by decide +kernel
theorem dX7_kindBehind_11 : decode cX7_kindBehind 11 = .ok (.iload_n 0, 1) := by decide +kernel
theorem dX7_kindBehind_12 : decode cX7_kindBehind 12 = .ok (.ldc 36, 2) := by decide +kernel
theorem dX7_kindBehind_14 : decode cX7_kindBehind 14 = .ok (.invokestatic 22, 3) := by decide +kernel
theorem dX7_kindBehind_17 : decode cX7_kindBehind 17 = .ok (.ifCond .eq 7, 3) := by decide +kernel
theorem dX7_kindBehind_20 : decode cX7_kindBehind 20 = .ok (.iconst 1, 1) := by decide +kernel
theorem dX7_kindBehind_21 : decode cX7_kindBehind 21 = .ok (.goto 4, 3) := by decide +kernel
theorem dX7_kindBehind_24 : decode cX7_kindBehind 24 = .ok (.iconst 0, 1) := by decide +kernel
theorem dX7_kindBehind_25 : decode cX7_kindBehind 25 = .ok (.ireturn, 1) := by decide +kernel
theorem dX7_hangsLeft_0 : decode cX7_hangsLeft 0 = .ok (.iload_n 0, 1) := by decide +kernel
theorem dX7_hangsLeft_1 : decode cX7_hangsLeft 1 = .ok (.ldc 38, 2) := by decide +kernel
theorem dX7_hangsLeft_3 : decode cX7_hangsLeft 3 = .ok (.invokestatic 22, 3) := by decide +kernel
theorem dX7_hangsLeft_6 : decode cX7_hangsLeft 6 = .ok (.ireturn, 1) := by decide +kernel
theorem dX7_hangsRight_0 : decode cX7_hangsRight 0 = .ok (.iload_n 0, 1) := by decide +kernel
theorem dX7_hangsRight_1 : decode cX7_hangsRight 1 = .ok (.ldc 40, 2) := by decide +kernel
theorem dX7_hangsRight_3 : decode cX7_hangsRight 3 = .ok (.invokestatic 22, 3) := by decide +kernel
theorem dX7_hangsRight_6 : decode cX7_hangsRight 6 = .ok (.ireturn, 1) := by decide +kernel
theorem dX7_isDigit_0 : decode cX7_isDigit 0 = .ok (.iload_n 0, 1) := by decide +kernel
theorem dX7_isDigit_1 : decode cX7_isDigit 1 = .ok (.bipush 48, 2) := by decide +kernel
theorem dX7_isDigit_3 : decode cX7_isDigit 3 = .ok (.if_icmp .lt 13, 3) := by decide +kernel
theorem dX7_isDigit_6 : decode cX7_isDigit 6 = .ok (.iload_n 0, 1) := by decide +kernel
theorem dX7_isDigit_7 : decode cX7_isDigit 7 = .ok (.bipush 57, 2) := by decide +kernel
theorem dX7_isDigit_9 : decode cX7_isDigit 9 = .ok (.if_icmp .gt 7, 3) := by decide +kernel
theorem dX7_isDigit_12 : decode cX7_isDigit 12 = .ok (.iconst 1, 1) := by decide +kernel
theorem dX7_isDigit_13 : decode cX7_isDigit 13 = .ok (.goto 4, 3) := by decide +kernel
theorem dX7_isDigit_16 : decode cX7_isDigit 16 = .ok (.iconst 0, 1) := by decide +kernel
theorem dX7_isDigit_17 : decode cX7_isDigit 17 = .ok (.ireturn, 1) := by decide +kernel
theorem dX7_isOneOf_0 : decode cX7_isOneOf 0 = .ok (.aload_n 1, 1) := by decide +kernel
theorem dX7_isOneOf_1 : decode cX7_isOneOf 1 = .ok (.iload_n 0, 1) := by decide +kernel
theorem dX7_isOneOf_2 : decode cX7_isOneOf 2 = .ok (.invokevirtual 42, 3) := by decide +kernel
theorem dX7_isOneOf_5 : decode cX7_isOneOf 5 = .ok (.ifCond .lt 7, 3) := by decide +kernel
theorem dX7_isOneOf_8 : decode cX7_isOneOf 8 = .ok (.iconst 1, 1) := by decide +kernel
theorem dX7_isOneOf_9 : decode cX7_isOneOf 9 = .ok (.goto 4, 3) := by decide +kernel
theorem dX7_isOneOf_12 : decode cX7_isOneOf 12 = .ok (.iconst 0, 1) := by decide +kernel
theorem dX7_isOneOf_13 : decode cX7_isOneOf 13 = .ok (.ireturn, 1) := by decide +kernel
theorem dX8_init_0 : decode cX8_init 0 = .ok (.aload_n 0, 1) := by decide +kernel
theorem dX8_init_1 : decode cX8_init 1 = .ok (.invokespecial 3, 3) := by decide +kernel
theorem dX8_init_4 : decode cX8_init 4 = .ok (.aload_n 0, 1) := by decide +kernel
theorem dX8_init_5 : decode cX8_init 5 = .ok (.bipush 120, 2) := by decide +kernel
theorem dX8_init_7 : decode cX8_init 7 = .ok (.newarray .char, 2) := by decide +kernel
theorem dX8_init_9 : decode cX8_init 9 = .ok (.putfield 9, 3) := by decide +kernel
theorem dX8_init_12 : decode cX8_init 12 = .ok (.aload_n 0, 1) := by decide +kernel
theorem dX8_init_13 : decode cX8_init 13 = .ok (.iconst 0, 1) := by decide +kernel
theorem dX8_init_14 : decode cX8_init 14 = .ok (.putfield 15, 3) := by decide +kernel
theorem dX8_init_17 : decode cX8_init 17 = .ok (.return_, 1) := by decide +kernel
theorem dX8_append_0 : decode cX8_append 0 = .ok (.aload_n 0, 1) := by decide +kernel
theorem dX8_append_1 : decode cX8_append 1 = .ok (.getfield 15, 3) := by decide +kernel
theorem dX8_append_4 : decode cX8_append 4 = .ok (.bipush 120, 2) := by decide +kernel
theorem dX8_append_6 : decode cX8_append 6 = .ok (.if_icmp .lt 7, 3) := by decide +kernel
theorem dX8_append_9 : decode cX8_append 9 = .ok (.sipush (-1003), 3) := by decide +kernel
theorem dX8_append_12 : decode cX8_append 12 = .ok (.ireturn, 1) := by decide +kernel
theorem dX8_append_13 : decode cX8_append 13 = .ok (.aload_n 0, 1) := by decide +kernel
theorem dX8_append_14 : decode cX8_append 14 = .ok (.getfield 9, 3) := by decide +kernel
theorem dX8_append_17 : decode cX8_append 17 = .ok (.aload_n 0, 1) := by decide +kernel
theorem dX8_append_18 : decode cX8_append 18 = .ok (.getfield 15, 3) := by decide +kernel
theorem dX8_append_21 : decode cX8_append 21 = .ok (.iload_n 1, 1) := by decide +kernel
theorem dX8_append_22 : decode cX8_append 22 = .ok (.castore, 1) := by decide +kernel
theorem dX8_append_23 : decode cX8_append 23 = .ok (.aload_n 0, 1) := by decide +kernel
theorem dX8_append_24 : decode cX8_append 24 = .ok (.dup, 1) := by decide +kernel
theorem dX8_append_25 : decode cX8_append 25 = .ok (.getfield 15, 3) := by decide +kernel
theorem dX8_append_28 : decode cX8_append 28 = .ok (.iconst 1, 1) := by decide +kernel
theorem dX8_append_29 : decode cX8_append 29 = .ok (.iadd, 1) := by decide +kernel
theorem dX8_append_30 : decode cX8_append 30 = .ok (.putfield 15, 3) := by decide +kernel
theorem dX8_append_33 : decode cX8_append 33 = .ok (.aload_n 0, 1) := by decide +kernel
theorem dX8_append_34 : decode cX8_append 34 = .ok (.getfield 15, 3) := by decide +kernel
theorem dX8_append_37 : decode cX8_append 37 = .ok (.ireturn, 1) := by decide +kernel
theorem dX8_empty_0 : decode cX8_empty 0 = .ok (.aload_n 0, 1) := by decide +kernel
theorem dX8_empty_1 : decode cX8_empty 1 = .ok (.getfield 15, 3) := by decide +kernel
theorem dX8_empty_4 : decode cX8_empty 4 = .ok (.istore_n 1, 1) := by decide +kernel
theorem dX8_empty_5 : decode cX8_empty 5 = .ok (.aload_n 0, 1) := by decide +kernel
theorem dX8_empty_6 : decode cX8_empty 6 = .ok (.iconst 0, 1) := by decide +kernel
theorem dX8_empty_7 : decode cX8_empty 7 = .ok (.putfield 15, 3) := by decide +kernel
theorem dX8_empty_10 : decode cX8_empty 10 = .ok (.iload_n 1, 1) := by decide +kernel
theorem dX8_empty_11 : decode cX8_empty 11 = .ok (.ireturn, 1) := by decide +kernel
theorem dX8_paragraphFault_0 : decode cX8_paragraphFault 0 = .ok (.iconst 0, 1) := by decide +kernel
theorem dX8_paragraphFault_1 : decode cX8_paragraphFault 1 = .ok (.istore_n 1, 1) := by decide +kernel
theorem dX8_paragraphFault_2 : decode cX8_paragraphFault 2 = .ok (.iload_n 1, 1) := by decide +kernel
theorem dX8_paragraphFault_3 : decode cX8_paragraphFault 3 = .ok (.aload_n 0, 1) := by decide +kernel
theorem dX8_paragraphFault_4 : decode cX8_paragraphFault 4 = .ok (.getfield 15, 3) := by decide +kernel
theorem dX8_paragraphFault_7 : decode cX8_paragraphFault 7 = .ok (.if_icmp .ge 34, 3) := by decide +kernel
theorem dX8_paragraphFault_10 : decode cX8_paragraphFault 10 = .ok (.aload_n 0, 1) := by decide +kernel
theorem dX8_paragraphFault_11 : decode cX8_paragraphFault 11 = .ok (.getfield 9, 3) := by decide +kernel
theorem dX8_paragraphFault_14 : decode cX8_paragraphFault 14 = .ok (.iload_n 1, 1) := by decide +kernel
theorem dX8_paragraphFault_15 : decode cX8_paragraphFault 15 = .ok (.caload, 1) := by decide +kernel
theorem dX8_paragraphFault_16 : decode cX8_paragraphFault 16 = .ok (.bipush 32, 2) := by decide +kernel
theorem dX8_paragraphFault_18 : decode cX8_paragraphFault 18 = .ok (.if_icmp .eq 17, 3) := by decide +kernel
theorem dX8_paragraphFault_21 : decode cX8_paragraphFault 21 = .ok (.aload_n 0, 1) := by decide +kernel
theorem dX8_paragraphFault_22 : decode cX8_paragraphFault 22 = .ok (.getfield 9, 3) := by decide +kernel
theorem dX8_paragraphFault_25 : decode cX8_paragraphFault 25 = .ok (.iload_n 1, 1) := by decide +kernel
theorem dX8_paragraphFault_26 : decode cX8_paragraphFault 26 = .ok (.caload, 1) := by decide +kernel
theorem dX8_paragraphFault_27 : decode cX8_paragraphFault 27 = .ok (.invokestatic 19, 3) := by decide +kernel
theorem dX8_paragraphFault_30 : decode cX8_paragraphFault 30 = .ok (.ifCond .ne 5, 3) := by decide +kernel
theorem dX8_paragraphFault_33 : decode cX8_paragraphFault 33 = .ok (.iload_n 1, 1) := by decide +kernel
theorem dX8_paragraphFault_34 : decode cX8_paragraphFault 34 = .ok (.ireturn, 1) := by decide +kernel
theorem dX8_paragraphFault_35 : decode cX8_paragraphFault 35 = .ok (.iinc 1 1, 3) := by decide +kernel
theorem dX8_paragraphFault_38 : decode cX8_paragraphFault 38 = .ok (.goto (-36), 3) := by decide +kernel
theorem dX8_paragraphFault_41 : decode cX8_paragraphFault 41 = .ok (.iconst (-1), 1) := by decide +kernel
theorem dX8_paragraphFault_42 : decode cX8_paragraphFault 42 = .ok (.ireturn, 1) := by decide +kernel
theorem dX8_endOfPiece_0 : decode cX8_endOfPiece 0 = .ok (.iload_n 1, 1) := by decide +kernel
theorem dX8_endOfPiece_1 : decode cX8_endOfPiece 1 = .ok (.istore_n 2, 1) := by decide +kernel
theorem dX8_endOfPiece_2 : decode cX8_endOfPiece 2 = .ok (.iload_n 2, 1) := by decide +kernel
theorem dX8_endOfPiece_3 : decode cX8_endOfPiece 3 = .ok (.aload_n 0, 1) := by decide +kernel
theorem dX8_endOfPiece_4 : decode cX8_endOfPiece 4 = .ok (.getfield 15, 3) := by decide +kernel
theorem dX8_endOfPiece_7 : decode cX8_endOfPiece 7 = .ok (.if_icmp .ge 22, 3) := by decide +kernel
theorem dX8_endOfPiece_10 : decode cX8_endOfPiece 10 = .ok (.aload_n 0, 1) := by decide +kernel
theorem dX8_endOfPiece_11 : decode cX8_endOfPiece 11 = .ok (.getfield 9, 3) := by decide +kernel
theorem dX8_endOfPiece_14 : decode cX8_endOfPiece 14 = .ok (.iload_n 2, 1) := by decide +kernel
theorem dX8_endOfPiece_15 : decode cX8_endOfPiece 15 = .ok (.caload, 1) := by decide +kernel
theorem dX8_endOfPiece_16 : decode cX8_endOfPiece 16 = .ok (.bipush 32, 2) := by decide +kernel
theorem dX8_endOfPiece_18 : decode cX8_endOfPiece 18 = .ok (.if_icmp .ne 5, 3) := by decide +kernel
theorem dX8_endOfPiece_21 : decode cX8_endOfPiece 21 = .ok (.iload_n 2, 1) := by decide +kernel
theorem dX8_endOfPiece_22 : decode cX8_endOfPiece 22 = .ok (.ireturn, 1) := by decide +kernel
theorem dX8_endOfPiece_23 : decode cX8_endOfPiece 23 = .ok (.iinc 2 1, 3) := by decide +kernel
theorem dX8_endOfPiece_26 : decode cX8_endOfPiece 26 = .ok (.goto (-24), 3) := by decide +kernel
theorem dX8_endOfPiece_29 : decode cX8_endOfPiece 29 = .ok (.aload_n 0, 1) := by decide +kernel
theorem dX8_endOfPiece_30 : decode cX8_endOfPiece 30 = .ok (.getfield 15, 3) := by decide +kernel
theorem dX8_endOfPiece_33 : decode cX8_endOfPiece 33 = .ok (.ireturn, 1) := by decide +kernel
theorem dX8_isName_0 : decode cX8_isName 0 = .ok (.iload_n 1, 1) := by decide +kernel
theorem dX8_isName_1 : decode cX8_isName 1 = .ok (.ifCond .lt 21, 3) := by decide +kernel
theorem dX8_isName_4 : decode cX8_isName 4 = .ok (.iload_n 2, 1) := by decide +kernel
theorem dX8_isName_5 : decode cX8_isName 5 = .ok (.aload_n 0, 1) := by decide +kernel
theorem dX8_isName_6 : decode cX8_isName 6 = .ok (.getfield 15, 3) := by decide +kernel
theorem dX8_isName_9 : decode cX8_isName 9 = .ok (.if_icmp .gt 13, 3) := by decide +kernel
theorem dX8_isName_12 : decode cX8_isName 12 = .ok (.iload_n 2, 1) := by decide +kernel
theorem dX8_isName_13 : decode cX8_isName 13 = .ok (.iload_n 1, 1) := by decide +kernel
theorem dX8_isName_14 : decode cX8_isName 14 = .ok (.isub, 1) := by decide +kernel
theorem dX8_isName_15 : decode cX8_isName 15 = .ok (.aload_n 3, 1) := by decide +kernel
theorem dX8_isName_16 : decode cX8_isName 16 = .ok (.invokevirtual 25, 3) := by decide +kernel
theorem dX8_isName_19 : decode cX8_isName 19 = .ok (.if_icmp .eq 5, 3) := by decide +kernel
theorem dX8_isName_22 : decode cX8_isName 22 = .ok (.iconst 0, 1) := by decide +kernel
theorem dX8_isName_23 : decode cX8_isName 23 = .ok (.ireturn, 1) := by decide +kernel
theorem dX8_isName_24 : decode cX8_isName 24 = .ok (.iload_n 1, 1) := by decide +kernel
theorem dX8_isName_25 : decode cX8_isName 25 = .ok (.istore 4, 2) := by decide +kernel
theorem dX8_isName_27 : decode cX8_isName 27 = .ok (.iload 4, 2) := by decide +kernel
theorem dX8_isName_29 : decode cX8_isName 29 = .ok (.iload_n 2, 1) := by decide +kernel
theorem dX8_isName_30 : decode cX8_isName 30 = .ok (.if_icmp .ge 29, 3) := by decide +kernel
theorem dX8_isName_33 : decode cX8_isName 33 = .ok (.aload_n 0, 1) := by decide +kernel
theorem dX8_isName_34 : decode cX8_isName 34 = .ok (.getfield 9, 3) := by decide +kernel
theorem dX8_isName_37 : decode cX8_isName 37 = .ok (.iload 4, 2) := by decide +kernel
theorem dX8_isName_39 : decode cX8_isName 39 = .ok (.caload, 1) := by decide +kernel
theorem dX8_isName_40 : decode cX8_isName 40 = .ok (.aload_n 3, 1) := by decide +kernel
theorem dX8_isName_41 : decode cX8_isName 41 = .ok (.iload 4, 2) := by decide +kernel
theorem dX8_isName_43 : decode cX8_isName 43 = .ok (.iload_n 1, 1) := by decide +kernel
theorem dX8_isName_44 : decode cX8_isName 44 = .ok (.isub, 1) := by decide +kernel
theorem dX8_isName_45 : decode cX8_isName 45 = .ok (.invokevirtual 30, 3) := by decide +kernel
theorem dX8_isName_48 : decode cX8_isName 48 = .ok (.if_icmp .eq 5, 3) := by decide +kernel
theorem dX8_isName_51 : decode cX8_isName 51 = .ok (.iconst 0, 1) := by decide +kernel
theorem dX8_isName_52 : decode cX8_isName 52 = .ok (.ireturn, 1) := by decide +kernel
theorem dX8_isName_53 : decode cX8_isName 53 = .ok (.iinc 4 1, 3) := by decide +kernel
theorem dX8_isName_56 : decode cX8_isName 56 = .ok (.goto (-29), 3) := by decide +kernel
theorem dX8_isName_59 : decode cX8_isName 59 = .ok (.iconst 1, 1) := by decide +kernel
theorem dX8_isName_60 : decode cX8_isName 60 = .ok (.ireturn, 1) := by decide +kernel
theorem dX8_numberAt_0 : decode cX8_numberAt 0 = .ok (.iload_n 1, 1) := by decide +kernel
theorem dX8_numberAt_1 : decode cX8_numberAt 1 = .ok (.ifCond .lt 25, 3) := by decide +kernel
theorem dX8_numberAt_4 : decode cX8_numberAt 4 = .ok (.iload_n 2, 1) := by decide +kernel
theorem dX8_numberAt_5 : decode cX8_numberAt 5 = .ok (.aload_n 0, 1) := by decide +kernel
theorem dX8_numberAt_6 : decode cX8_numberAt 6 = .ok (.getfield 15, 3) := by decide +kernel
theorem dX8_numberAt_9 : decode cX8_numberAt 9 = .ok (.if_icmp .gt 17, 3) := by decide +kernel
theorem dX8_numberAt_12 : decode cX8_numberAt 12 = .ok (.iload_n 2, 1) := by decide +kernel
theorem dX8_numberAt_13 : decode cX8_numberAt 13 = .ok (.iload_n 1, 1) := by decide +kernel
theorem dX8_numberAt_14 : decode cX8_numberAt 14 = .ok (.isub, 1) := by decide +kernel
theorem dX8_numberAt_15 : decode cX8_numberAt 15 = .ok (.iconst 1, 1) := by decide +kernel
theorem dX8_numberAt_16 : decode cX8_numberAt 16 = .ok (.if_icmp .lt 10, 3) := by decide +kernel
theorem dX8_numberAt_19 : decode cX8_numberAt 19 = .ok (.iload_n 2, 1) := by decide +kernel
theorem dX8_numberAt_20 : decode cX8_numberAt 20 = .ok (.iload_n 1, 1) := by decide +kernel
theorem dX8_numberAt_21 : decode cX8_numberAt 21 = .ok (.isub, 1) := by decide +kernel
theorem dX8_numberAt_22 : decode cX8_numberAt 22 = .ok (.iconst 3, 1) := by decide +kernel
theorem dX8_numberAt_23 : decode cX8_numberAt 23 = .ok (.if_icmp .le 5, 3) := by decide +kernel
theorem dX8_numberAt_26 : decode cX8_numberAt 26 = .ok (.iconst (-1), 1) := by decide +kernel
theorem dX8_numberAt_27 : decode cX8_numberAt 27 = .ok (.ireturn, 1) := by decide +kernel
theorem dX8_numberAt_28 : decode cX8_numberAt 28 = .ok (.iconst 0, 1) := by decide +kernel
theorem dX8_numberAt_29 : decode cX8_numberAt 29 = .ok (.istore_n 3, 1) := by decide +kernel
theorem dX8_numberAt_30 : decode cX8_numberAt 30 = .ok (.iload_n 1, 1) := by decide +kernel
theorem dX8_numberAt_31 : decode cX8_numberAt 31 = .ok (.istore 4, 2) := by decide +kernel
theorem dX8_numberAt_33 : decode cX8_numberAt 33 = .ok (.iload 4, 2) := by decide +kernel
theorem dX8_numberAt_35 : decode cX8_numberAt 35 = .ok (.iload_n 2, 1) := by decide +kernel
theorem dX8_numberAt_36 : decode cX8_numberAt 36 = .ok (.if_icmp .ge 40, 3) := by decide +kernel
theorem dX8_numberAt_39 : decode cX8_numberAt 39 = .ok (.aload_n 0, 1) := by decide +kernel
theorem dX8_numberAt_40 : decode cX8_numberAt 40 = .ok (.getfield 9, 3) := by decide +kernel
theorem dX8_numberAt_43 : decode cX8_numberAt 43 = .ok (.iload 4, 2) := by decide +kernel
theorem dX8_numberAt_45 : decode cX8_numberAt 45 = .ok (.caload, 1) := by decide +kernel
theorem dX8_numberAt_46 : decode cX8_numberAt 46 = .ok (.invokestatic 34, 3) := by decide +kernel
theorem dX8_numberAt_49 : decode cX8_numberAt 49 = .ok (.ifCond .ne 5, 3) := by decide +kernel
theorem dX8_numberAt_52 : decode cX8_numberAt 52 = .ok (.iconst (-1), 1) := by decide +kernel
theorem dX8_numberAt_53 : decode cX8_numberAt 53 = .ok (.ireturn, 1) := by decide +kernel
theorem dX8_numberAt_54 : decode cX8_numberAt 54 = .ok (.iload_n 3, 1) := by decide +kernel
theorem dX8_numberAt_55 : decode cX8_numberAt 55 = .ok (.bipush 10, 2) := by decide +kernel
theorem dX8_numberAt_57 : decode cX8_numberAt 57 = .ok (.imul, 1) := by decide +kernel
theorem dX8_numberAt_58 : decode cX8_numberAt 58 = .ok (.aload_n 0, 1) := by decide +kernel
theorem dX8_numberAt_59 : decode cX8_numberAt 59 = .ok (.getfield 9, 3) := by decide +kernel
theorem dX8_numberAt_62 : decode cX8_numberAt 62 = .ok (.iload 4, 2) := by decide +kernel
theorem dX8_numberAt_64 : decode cX8_numberAt 64 = .ok (.caload, 1) := by decide +kernel
theorem dX8_numberAt_65 : decode cX8_numberAt 65 = .ok (.bipush 48, 2) := by decide +kernel
theorem dX8_numberAt_67 : decode cX8_numberAt 67 = .ok (.isub, 1) := by decide +kernel
theorem dX8_numberAt_68 : decode cX8_numberAt 68 = .ok (.iadd, 1) := by decide +kernel
theorem dX8_numberAt_69 : decode cX8_numberAt 69 = .ok (.istore_n 3, 1) := by decide +kernel
theorem dX8_numberAt_70 : decode cX8_numberAt 70 = .ok (.iinc 4 1, 3) := by decide +kernel
theorem dX8_numberAt_73 : decode cX8_numberAt 73 = .ok (.goto (-40), 3) := by decide +kernel
theorem dX8_numberAt_76 : decode cX8_numberAt 76 = .ok (.iload_n 3, 1) := by decide +kernel
theorem dX8_numberAt_77 : decode cX8_numberAt 77 = .ok (.ireturn, 1) := by decide +kernel
theorem dX9_init_0 : decode cX9_init 0 = .ok (.aload_n 0, 1) := by decide +kernel
theorem dX9_init_1 : decode cX9_init 1 = .ok (.invokespecial 1, 3) := by decide +kernel
theorem dX9_init_4 : decode cX9_init 4 = .ok (.new 7, 3) := by decide +kernel
theorem dX9_init_7 : decode cX9_init 7 = .ok (.dup, 1) := by decide +kernel
theorem dX9_init_8 : decode cX9_init 8 = .ok (.invokespecial 9, 3) := by decide +kernel
theorem dX9_init_11 : decode cX9_init 11 = .ok (.astore_n 1, 1) := by decide +kernel
theorem dX9_init_12 : decode cX9_init 12 = .ok (.new 10, 3) := by decide +kernel
theorem dX9_init_15 : decode cX9_init 15 = .ok (.dup, 1) := by decide +kernel
theorem dX9_init_16 : decode cX9_init 16 = .ok (.invokespecial 12, 3) := by decide +kernel
theorem dX9_init_19 : decode cX9_init 19 = .ok (.astore_n 2, 1) := by decide +kernel
theorem dX9_init_20 : decode cX9_init 20 = .ok (.new 13, 3) := by decide +kernel
theorem dX9_init_23 : decode cX9_init 23 = .ok (.dup, 1) := by decide +kernel
theorem dX9_init_24 : decode cX9_init 24 = .ok (.aload_n 2, 1) := by decide +kernel
theorem dX9_init_25 : decode cX9_init 25 = .ok (.aload_n 1, 1) := by decide +kernel
theorem dX9_init_26 : decode cX9_init 26 = .ok (.invokespecial 15, 3) := by decide +kernel
theorem dX9_init_29 : decode cX9_init 29 = .ok (.astore_n 3, 1) := by decide +kernel
theorem dX9_init_30 : decode cX9_init 30 = .ok (.new 18, 3) := by decide +kernel
theorem dX9_init_33 : decode cX9_init 33 = .ok (.dup, 1) := by decide +kernel
theorem dX9_init_34 : decode cX9_init 34 = .ok (.aload_n 2, 1) := by decide +kernel
theorem dX9_init_35 : decode cX9_init 35 = .ok (.aload_n 3, 1) := by decide +kernel
theorem dX9_init_36 : decode cX9_init 36 = .ok (.invokespecial 20, 3) := by decide +kernel
theorem dX9_init_39 : decode cX9_init 39 = .ok (.astore 4, 2) := by decide +kernel
theorem dX9_init_41 : decode cX9_init 41 = .ok (.aload_n 0, 1) := by decide +kernel
theorem dX9_init_42 : decode cX9_init 42 = .ok (.new 23, 3) := by decide +kernel
theorem dX9_init_45 : decode cX9_init 45 = .ok (.dup, 1) := by decide +kernel
theorem dX9_init_46 : decode cX9_init 46 = .ok (.invokespecial 25, 3) := by decide +kernel
theorem dX9_init_49 : decode cX9_init 49 = .ok (.putfield 26, 3) := by decide +kernel
theorem dX9_init_52 : decode cX9_init 52 = .ok (.aload_n 0, 1) := by decide +kernel
theorem dX9_init_53 : decode cX9_init 53 = .ok (.new 32, 3) := by decide +kernel
theorem dX9_init_56 : decode cX9_init 56 = .ok (.dup, 1) := by decide +kernel
theorem dX9_init_57 : decode cX9_init 57 = .ok (.invokespecial 34, 3) := by decide +kernel
theorem dX9_init_60 : decode cX9_init 60 = .ok (.putfield 35, 3) := by decide +kernel
theorem dX9_init_63 : decode cX9_init 63 = .ok (.aload_n 0, 1) := by decide +kernel
theorem dX9_init_64 : decode cX9_init 64 = .ok (.aload_n 1, 1) := by decide +kernel
theorem dX9_init_65 : decode cX9_init 65 = .ok (.putfield 39, 3) := by decide +kernel
theorem dX9_init_68 : decode cX9_init 68 = .ok (.aload_n 0, 1) := by decide +kernel
theorem dX9_init_69 : decode cX9_init 69 = .ok (.aload_n 2, 1) := by decide +kernel
theorem dX9_init_70 : decode cX9_init 70 = .ok (.putfield 43, 3) := by decide +kernel
theorem dX9_init_73 : decode cX9_init 73 = .ok (.aload_n 0, 1) := by decide +kernel
theorem dX9_init_74 : decode cX9_init 74 = .ok (.aload_n 3, 1) := by decide +kernel
theorem dX9_init_75 : decode cX9_init 75 = .ok (.putfield 47, 3) := by decide +kernel
theorem dX9_init_78 : decode cX9_init 78 = .ok (.aload_n 0, 1) := by decide +kernel
theorem dX9_init_79 : decode cX9_init 79 = .ok (.aload 4, 2) := by decide +kernel
theorem dX9_init_81 : decode cX9_init 81 = .ok (.putfield 51, 3) := by decide +kernel
theorem dX9_init_84 : decode cX9_init 84 = .ok (.aload_n 0, 1) := by decide +kernel
theorem dX9_init_85 : decode cX9_init 85 = .ok (.new 55, 3) := by decide +kernel
theorem dX9_init_88 : decode cX9_init 88 = .ok (.dup, 1) := by decide +kernel
theorem dX9_init_89 : decode cX9_init 89 = .ok (.aload_n 2, 1) := by decide +kernel
theorem dX9_init_90 : decode cX9_init 90 = .ok (.aload_n 1, 1) := by decide +kernel
theorem dX9_init_91 : decode cX9_init 91 = .ok (.aload_n 3, 1) := by decide +kernel
theorem dX9_init_92 : decode cX9_init 92 = .ok (.aload 4, 2) := by decide +kernel
theorem dX9_init_94 : decode cX9_init 94 = .ok (.invokespecial 57, 3) := by decide +kernel
theorem dX9_init_97 : decode cX9_init 97 = .ok (.putfield 60, 3) := by decide +kernel
theorem dX9_init_100 : decode cX9_init 100 = .ok (.aload_n 0, 1) := by decide +kernel
theorem dX9_init_101 : decode cX9_init 101 = .ok (.new 55, 3) := by decide +kernel
theorem dX9_init_104 : decode cX9_init 104 = .ok (.dup, 1) := by decide +kernel
theorem dX9_init_105 : decode cX9_init 105 = .ok (.aload_n 2, 1) := by decide +kernel
theorem dX9_init_106 : decode cX9_init 106 = .ok (.aload_n 1, 1) := by decide +kernel
theorem dX9_init_107 : decode cX9_init 107 = .ok (.aload_n 3, 1) := by decide +kernel
theorem dX9_init_108 : decode cX9_init 108 = .ok (.aload 4, 2) := by decide +kernel
theorem dX9_init_110 : decode cX9_init 110 = .ok (.invokespecial 57, 3) := by decide +kernel
theorem dX9_init_113 : decode cX9_init 113 = .ok (.putfield 64, 3) := by decide +kernel
theorem dX9_init_116 : decode cX9_init 116 = .ok (.return_, 1) := by decide +kernel
theorem dX9_type_0 : decode cX9_type 0 = .ok (.aload_n 0, 1) := by decide +kernel
theorem dX9_type_1 : decode cX9_type 1 = .ok (.getfield 26, 3) := by decide +kernel
theorem dX9_type_4 : decode cX9_type 4 = .ok (.iload_n 1, 1) := by decide +kernel
theorem dX9_type_5 : decode cX9_type 5 = .ok (.invokevirtual 67, 3) := by decide +kernel
theorem dX9_type_8 : decode cX9_type 8 = .ok (.ireturn, 1) := by decide +kernel
theorem dX9_clearText_0 : decode cX9_clearText 0 = .ok (.aload_n 0, 1) := by decide +kernel
theorem dX9_clearText_1 : decode cX9_clearText 1 = .ok (.getfield 26, 3) := by decide +kernel
theorem dX9_clearText_4 : decode cX9_clearText 4 = .ok (.invokevirtual 71, 3) := by decide +kernel
theorem dX9_clearText_7 : decode cX9_clearText 7 = .ok (.ireturn, 1) := by decide +kernel
theorem dX9_readParagraph_0 : decode cX9_readParagraph 0 = .ok (.aload_n 0, 1) := by decide +kernel
theorem dX9_readParagraph_1 : decode cX9_readParagraph 1 = .ok (.getfield 26, 3) := by decide +kernel
theorem dX9_readParagraph_4 : decode cX9_readParagraph 4 = .ok (.invokevirtual 75, 3) := by decide +kernel
theorem dX9_readParagraph_7 : decode cX9_readParagraph 7 = .ok (.istore_n 1, 1) := by decide +kernel
theorem dX9_readParagraph_8 : decode cX9_readParagraph 8 = .ok (.iload_n 1, 1) := by decide +kernel
theorem dX9_readParagraph_9 : decode cX9_readParagraph 9 = .ok (.iconst (-1), 1) := by decide +kernel
theorem dX9_readParagraph_10 : decode cX9_readParagraph 10 = .ok (.if_icmp .eq 8, 3) := by decide +kernel
theorem dX9_readParagraph_13 : decode cX9_readParagraph 13 = .ok (.bipush (-100), 2) := by decide +kernel
theorem dX9_readParagraph_15 : decode cX9_readParagraph 15 = .ok (.iload_n 1, 1) := by decide +kernel
theorem dX9_readParagraph_16 : decode cX9_readParagraph 16 = .ok (.isub, 1) := by decide +kernel
theorem dX9_readParagraph_17 : decode cX9_readParagraph 17 = .ok (.ireturn, 1) := by decide +kernel
theorem dX9_readParagraph_18 : decode cX9_readParagraph 18 = .ok (.aload_n 0, 1) := by decide +kernel
theorem dX9_readParagraph_19 : decode cX9_readParagraph 19 = .ok (.getfield 43, 3) := by decide +kernel
theorem dX9_readParagraph_22 : decode cX9_readParagraph 22 = .ok (.aload_n 0, 1) := by decide +kernel
theorem dX9_readParagraph_23 : decode cX9_readParagraph 23 = .ok (.getfield 26, 3) := by decide +kernel
theorem dX9_readParagraph_26 : decode cX9_readParagraph 26 = .ok (.invokevirtual 78, 3) := by decide +kernel
theorem dX9_readParagraph_29 : decode cX9_readParagraph 29 = .ok (.aload_n 0, 1) := by decide +kernel
theorem dX9_readParagraph_30 : decode cX9_readParagraph 30 = .ok (.invokevirtual 82, 3) := by decide +kernel
theorem dX9_readParagraph_33 : decode cX9_readParagraph 33 = .ok (.pop, 1) := by decide +kernel
theorem dX9_readParagraph_34 : decode cX9_readParagraph 34 = .ok (.aload_n 0, 1) := by decide +kernel
theorem dX9_readParagraph_35 : decode cX9_readParagraph 35 = .ok (.getfield 43, 3) := by decide +kernel
theorem dX9_readParagraph_38 : decode cX9_readParagraph 38 = .ok (.getfield 85, 3) := by decide +kernel
theorem dX9_readParagraph_41 : decode cX9_readParagraph 41 = .ok (.ireturn, 1) := by decide +kernel
theorem dX9_command_0 : decode cX9_command 0 = .ok (.aload_n 0, 1) := by decide +kernel
theorem dX9_command_1 : decode cX9_command 1 = .ok (.getfield 35, 3) := by decide +kernel
theorem dX9_command_4 : decode cX9_command 4 = .ok (.aload_n 0, 1) := by decide +kernel
theorem dX9_command_5 : decode cX9_command 5 = .ok (.getfield 26, 3) := by decide +kernel
theorem dX9_command_8 : decode cX9_command 8 = .ok (.invokevirtual 89, 3) := by decide +kernel
theorem dX9_command_11 : decode cX9_command 11 = .ok (.istore_n 1, 1) := by decide +kernel
theorem dX9_command_12 : decode cX9_command 12 = .ok (.iload_n 1, 1) := by decide +kernel
theorem dX9_command_13 : decode cX9_command 13 = .ok (.iconst (-1), 1) := by decide +kernel
theorem dX9_command_14 : decode cX9_command 14 = .ok (.if_icmp .eq 8, 3) := by decide +kernel
theorem dX9_command_17 : decode cX9_command 17 = .ok (.bipush (-100), 2) := by decide +kernel
theorem dX9_command_19 : decode cX9_command 19 = .ok (.iload_n 1, 1) := by decide +kernel
theorem dX9_command_20 : decode cX9_command 20 = .ok (.isub, 1) := by decide +kernel
theorem dX9_command_21 : decode cX9_command 21 = .ok (.ireturn, 1) := by decide +kernel
theorem dX9_command_22 : decode cX9_command 22 = .ok (.aload_n 0, 1) := by decide +kernel
theorem dX9_command_23 : decode cX9_command 23 = .ok (.getfield 35, 3) := by decide +kernel
theorem dX9_command_26 : decode cX9_command 26 = .ok (.aload_n 0, 1) := by decide +kernel
theorem dX9_command_27 : decode cX9_command 27 = .ok (.getfield 39, 3) := by decide +kernel
theorem dX9_command_30 : decode cX9_command 30 = .ok (.invokevirtual 93, 3) := by decide +kernel
theorem dX9_command_33 : decode cX9_command 33 = .ok (.aload_n 0, 1) := by decide +kernel
theorem dX9_command_34 : decode cX9_command 34 = .ok (.invokevirtual 82, 3) := by decide +kernel
theorem dX9_command_37 : decode cX9_command 37 = .ok (.ireturn, 1) := by decide +kernel
theorem dX9_setMeasure_0 : decode cX9_setMeasure 0 = .ok (.iload_n 1, 1) := by decide +kernel
theorem dX9_setMeasure_1 : decode cX9_setMeasure 1 = .ok (.bipush 10, 2) := by decide +kernel
theorem dX9_setMeasure_3 : decode cX9_setMeasure 3 = .ok (.if_icmp .lt 10, 3) := by decide +kernel
theorem dX9_setMeasure_6 : decode cX9_setMeasure 6 = .ok (.iload_n 1, 1) := by decide +kernel
theorem dX9_setMeasure_7 : decode cX9_setMeasure 7 = .ok (.sipush 200, 3) := by decide +kernel
theorem dX9_setMeasure_10 : decode cX9_setMeasure 10 = .ok (.if_icmp .le 7, 3) := by decide +kernel
theorem dX9_setMeasure_13 : decode cX9_setMeasure 13 = .ok (.sipush (-1002), 3) := by decide +kernel
theorem dX9_setMeasure_16 : decode cX9_setMeasure 16 = .ok (.ireturn, 1) := by decide +kernel
theorem dX9_setMeasure_17 : decode cX9_setMeasure 17 = .ok (.aload_n 0, 1) := by decide +kernel
theorem dX9_setMeasure_18 : decode cX9_setMeasure 18 = .ok (.getfield 39, 3) := by decide +kernel
theorem dX9_setMeasure_21 : decode cX9_setMeasure 21 = .ok (.getfield 97, 3) := by decide +kernel
theorem dX9_setMeasure_24 : decode cX9_setMeasure 24 = .ok (.istore_n 2, 1) := by decide +kernel
theorem dX9_setMeasure_25 : decode cX9_setMeasure 25 = .ok (.aload_n 0, 1) := by decide +kernel
theorem dX9_setMeasure_26 : decode cX9_setMeasure 26 = .ok (.getfield 39, 3) := by decide +kernel
theorem dX9_setMeasure_29 : decode cX9_setMeasure 29 = .ok (.iload_n 1, 1) := by decide +kernel
theorem dX9_setMeasure_30 : decode cX9_setMeasure 30 = .ok (.putfield 97, 3) := by decide +kernel
theorem dX9_setMeasure_33 : decode cX9_setMeasure 33 = .ok (.aload_n 0, 1) := by decide +kernel
theorem dX9_setMeasure_34 : decode cX9_setMeasure 34 = .ok (.invokevirtual 82, 3) := by decide +kernel
theorem dX9_setMeasure_37 : decode cX9_setMeasure 37 = .ok (.pop, 1) := by decide +kernel
theorem dX9_setMeasure_38 : decode cX9_setMeasure 38 = .ok (.iload_n 2, 1) := by decide +kernel
theorem dX9_setMeasure_39 : decode cX9_setMeasure 39 = .ok (.ireturn, 1) := by decide +kernel
theorem dX9_setHang_0 : decode cX9_setHang 0 = .ok (.iload_n 1, 1) := by decide +kernel
theorem dX9_setHang_1 : decode cX9_setHang 1 = .ok (.ifCond .lt 9, 3) := by decide +kernel
theorem dX9_setHang_4 : decode cX9_setHang 4 = .ok (.iload_n 1, 1) := by decide +kernel
theorem dX9_setHang_5 : decode cX9_setHang 5 = .ok (.bipush 100, 2) := by decide +kernel
theorem dX9_setHang_7 : decode cX9_setHang 7 = .ok (.if_icmp .le 7, 3) := by decide +kernel
theorem dX9_setHang_10 : decode cX9_setHang 10 = .ok (.sipush (-1002), 3) := by decide +kernel
theorem dX9_setHang_13 : decode cX9_setHang 13 = .ok (.ireturn, 1) := by decide +kernel
theorem dX9_setHang_14 : decode cX9_setHang 14 = .ok (.aload_n 0, 1) := by decide +kernel
theorem dX9_setHang_15 : decode cX9_setHang 15 = .ok (.getfield 39, 3) := by decide +kernel
theorem dX9_setHang_18 : decode cX9_setHang 18 = .ok (.getfield 100, 3) := by decide +kernel
theorem dX9_setHang_21 : decode cX9_setHang 21 = .ok (.istore_n 2, 1) := by decide +kernel
theorem dX9_setHang_22 : decode cX9_setHang 22 = .ok (.aload_n 0, 1) := by decide +kernel
theorem dX9_setHang_23 : decode cX9_setHang 23 = .ok (.getfield 39, 3) := by decide +kernel
theorem dX9_setHang_26 : decode cX9_setHang 26 = .ok (.iload_n 1, 1) := by decide +kernel
theorem dX9_setHang_27 : decode cX9_setHang 27 = .ok (.putfield 100, 3) := by decide +kernel
theorem dX9_setHang_30 : decode cX9_setHang 30 = .ok (.aload_n 0, 1) := by decide +kernel
theorem dX9_setHang_31 : decode cX9_setHang 31 = .ok (.invokevirtual 82, 3) := by decide +kernel
theorem dX9_setHang_34 : decode cX9_setHang 34 = .ok (.pop, 1) := by decide +kernel
theorem dX9_setHang_35 : decode cX9_setHang 35 = .ok (.iload_n 2, 1) := by decide +kernel
theorem dX9_setHang_36 : decode cX9_setHang 36 = .ok (.ireturn, 1) := by decide +kernel
theorem dX9_setTolerance_0 : decode cX9_setTolerance 0 = .ok (.iload_n 1, 1) := by decide +kernel
theorem dX9_setTolerance_1 : decode cX9_setTolerance 1 = .ok (.ifCond .lt 9, 3) := by decide +kernel
theorem dX9_setTolerance_4 : decode cX9_setTolerance 4 = .ok (.iload_n 1, 1) := by decide +kernel
theorem dX9_setTolerance_5 : decode cX9_setTolerance 5 = .ok (.bipush 20, 2) := by decide +kernel
theorem dX9_setTolerance_7 : decode cX9_setTolerance 7 = .ok (.if_icmp .le 7, 3) := by decide +kernel
theorem dX9_setTolerance_10 : decode cX9_setTolerance 10 = .ok (.sipush (-1002), 3) := by decide +kernel
theorem dX9_setTolerance_13 : decode cX9_setTolerance 13 = .ok (.ireturn, 1) := by decide +kernel
theorem dX9_setTolerance_14 : decode cX9_setTolerance 14 = .ok (.aload_n 0, 1) := by decide +kernel
theorem dX9_setTolerance_15 : decode cX9_setTolerance 15 = .ok (.getfield 39, 3) := by decide +kernel
theorem dX9_setTolerance_18 : decode cX9_setTolerance 18 = .ok (.getfield 103, 3) := by decide +kernel
theorem dX9_setTolerance_21 : decode cX9_setTolerance 21 = .ok (.istore_n 2, 1) := by decide +kernel
theorem dX9_setTolerance_22 : decode cX9_setTolerance 22 = .ok (.aload_n 0, 1) := by decide +kernel
theorem dX9_setTolerance_23 : decode cX9_setTolerance 23 = .ok (.getfield 39, 3) := by decide +kernel
theorem dX9_setTolerance_26 : decode cX9_setTolerance 26 = .ok (.iload_n 1, 1) := by decide +kernel
theorem dX9_setTolerance_27 : decode cX9_setTolerance 27 = .ok (.putfield 103, 3) := by decide +kernel
theorem dX9_setTolerance_30 : decode cX9_setTolerance 30 = .ok (.aload_n 0, 1) := by decide +kernel
theorem dX9_setTolerance_31 : decode cX9_setTolerance 31 = .ok (.invokevirtual 82, 3) := by decide +kernel
theorem dX9_setTolerance_34 : decode cX9_setTolerance 34 = .ok (.pop, 1) := by decide +kernel
theorem dX9_setTolerance_35 : decode cX9_setTolerance 35 = .ok (.iload_n 2, 1) := by decide +kernel
theorem dX9_setTolerance_36 : decode cX9_setTolerance 36 = .ok (.ireturn, 1) := by decide +kernel
theorem dX9_setSpace_0 : decode cX9_setSpace 0 = .ok (.iload_n 1, 1) := by decide +kernel
theorem dX9_setSpace_1 : decode cX9_setSpace 1 = .ok (.invokestatic 106, 3) := by decide +kernel
theorem dX9_setSpace_4 : decode cX9_setSpace 4 = .ok (.ifCond .ne 7, 3) := by decide +kernel
theorem dX9_setSpace_7 : decode cX9_setSpace 7 = .ok (.sipush (-1001), 3) := by decide +kernel
theorem dX9_setSpace_10 : decode cX9_setSpace 10 = .ok (.ireturn, 1) := by decide +kernel
theorem dX9_setSpace_11 : decode cX9_setSpace 11 = .ok (.iload_n 2, 1) := by decide +kernel
theorem dX9_setSpace_12 : decode cX9_setSpace 12 = .ok (.iconst 1, 1) := by decide +kernel
theorem dX9_setSpace_13 : decode cX9_setSpace 13 = .ok (.if_icmp .lt 21, 3) := by decide +kernel
theorem dX9_setSpace_16 : decode cX9_setSpace 16 = .ok (.iload_n 3, 1) := by decide +kernel
theorem dX9_setSpace_17 : decode cX9_setSpace 17 = .ok (.iload_n 2, 1) := by decide +kernel
theorem dX9_setSpace_18 : decode cX9_setSpace 18 = .ok (.if_icmp .lt 16, 3) := by decide +kernel
theorem dX9_setSpace_21 : decode cX9_setSpace 21 = .ok (.iload 4, 2) := by decide +kernel
theorem dX9_setSpace_23 : decode cX9_setSpace 23 = .ok (.iload_n 3, 1) := by decide +kernel
theorem dX9_setSpace_24 : decode cX9_setSpace 24 = .ok (.if_icmp .lt 10, 3) := by decide +kernel
theorem dX9_setSpace_27 : decode cX9_setSpace 27 = .ok (.iload 4, 2) := by decide +kernel
theorem dX9_setSpace_29 : decode cX9_setSpace 29 = .ok (.bipush 40, 2) := by decide +kernel
theorem dX9_setSpace_31 : decode cX9_setSpace 31 = .ok (.if_icmp .le 7, 3) := by decide +kernel
theorem dX9_setSpace_34 : decode cX9_setSpace 34 = .ok (.sipush (-1002), 3) := by decide +kernel
theorem dX9_setSpace_37 : decode cX9_setSpace 37 = .ok (.ireturn, 1) := by decide +kernel
theorem dX9_setSpace_38 : decode cX9_setSpace 38 = .ok (.aload_n 0, 1) := by decide +kernel
theorem dX9_setSpace_39 : decode cX9_setSpace 39 = .ok (.getfield 39, 3) := by decide +kernel
theorem dX9_setSpace_42 : decode cX9_setSpace 42 = .ok (.getfield 110, 3) := by decide +kernel
theorem dX9_setSpace_45 : decode cX9_setSpace 45 = .ok (.iload_n 1, 1) := by decide +kernel
theorem dX9_setSpace_46 : decode cX9_setSpace 46 = .ok (.iaload, 1) := by decide +kernel
theorem dX9_setSpace_47 : decode cX9_setSpace 47 = .ok (.istore 5, 2) := by decide +kernel
theorem dX9_setSpace_49 : decode cX9_setSpace 49 = .ok (.aload_n 0, 1) := by decide +kernel
theorem dX9_setSpace_50 : decode cX9_setSpace 50 = .ok (.getfield 39, 3) := by decide +kernel
theorem dX9_setSpace_53 : decode cX9_setSpace 53 = .ok (.iload_n 1, 1) := by decide +kernel
theorem dX9_setSpace_54 : decode cX9_setSpace 54 = .ok (.iload_n 2, 1) := by decide +kernel
theorem dX9_setSpace_55 : decode cX9_setSpace 55 = .ok (.iload_n 3, 1) := by decide +kernel
theorem dX9_setSpace_56 : decode cX9_setSpace 56 = .ok (.iload 4, 2) := by decide +kernel
theorem dX9_setSpace_58 : decode cX9_setSpace 58 = .ok (.invokevirtual 114, 3) := by decide +kernel
theorem dX9_setSpace_61 : decode cX9_setSpace 61 = .ok (.aload_n 0, 1) := by decide +kernel
theorem dX9_setSpace_62 : decode cX9_setSpace 62 = .ok (.invokevirtual 82, 3) := by decide +kernel
theorem dX9_setSpace_65 : decode cX9_setSpace 65 = .ok (.pop, 1) := by decide +kernel
theorem dX9_setSpace_66 : decode cX9_setSpace 66 = .ok (.iload 5, 2) := by decide +kernel
theorem dX9_setSpace_68 : decode cX9_setSpace 68 = .ok (.ireturn, 1) := by decide +kernel
theorem dX9_layBest_0 : decode cX9_layBest 0 = .ok (.aload_n 0, 1) := by decide +kernel
theorem dX9_layBest_1 : decode cX9_layBest 1 = .ok (.getfield 60, 3) := by decide +kernel
theorem dX9_layBest_4 : decode cX9_layBest 4 = .ok (.invokevirtual 118, 3) := by decide +kernel
theorem dX9_layBest_7 : decode cX9_layBest 7 = .ok (.aload_n 0, 1) := by decide +kernel
theorem dX9_layBest_8 : decode cX9_layBest 8 = .ok (.getfield 60, 3) := by decide +kernel
theorem dX9_layBest_11 : decode cX9_layBest 11 = .ok (.getfield 121, 3) := by decide +kernel
theorem dX9_layBest_14 : decode cX9_layBest 14 = .ok (.ifCond .ne 9, 3) := by decide +kernel
theorem dX9_layBest_17 : decode cX9_layBest 17 = .ok (.sipush (-1004), 3) := by decide +kernel
theorem dX9_layBest_20 : decode cX9_layBest 20 = .ok (.goto 10, 3) := by decide +kernel
theorem dX9_layBest_23 : decode cX9_layBest 23 = .ok (.aload_n 0, 1) := by decide +kernel
theorem dX9_layBest_24 : decode cX9_layBest 24 = .ok (.getfield 60, 3) := by decide +kernel
theorem dX9_layBest_27 : decode cX9_layBest 27 = .ok (.getfield 121, 3) := by decide +kernel
theorem dX9_layBest_30 : decode cX9_layBest 30 = .ok (.ireturn, 1) := by decide +kernel
theorem dX9_takeSecond_0 : decode cX9_takeSecond 0 = .ok (.aload_n 0, 1) := by decide +kernel
theorem dX9_takeSecond_1 : decode cX9_takeSecond 1 = .ok (.getfield 60, 3) := by decide +kernel
theorem dX9_takeSecond_4 : decode cX9_takeSecond 4 = .ok (.iload_n 1, 1) := by decide +kernel
theorem dX9_takeSecond_5 : decode cX9_takeSecond 5 = .ok (.invokevirtual 124, 3) := by decide +kernel
theorem dX9_takeSecond_8 : decode cX9_takeSecond 8 = .ok (.ifCond .ne 7, 3) := by decide +kernel
theorem dX9_takeSecond_11 : decode cX9_takeSecond 11 = .ok (.sipush (-1001), 3) := by decide +kernel
theorem dX9_takeSecond_14 : decode cX9_takeSecond 14 = .ok (.ireturn, 1) := by decide +kernel
theorem dX9_takeSecond_15 : decode cX9_takeSecond 15 = .ok (.aload_n 0, 1) := by decide +kernel
theorem dX9_takeSecond_16 : decode cX9_takeSecond 16 = .ok (.getfield 60, 3) := by decide +kernel
theorem dX9_takeSecond_19 : decode cX9_takeSecond 19 = .ok (.iload_n 1, 1) := by decide +kernel
theorem dX9_takeSecond_20 : decode cX9_takeSecond 20 = .ok (.invokevirtual 127, 3) := by decide +kernel
theorem dX9_takeSecond_23 : decode cX9_takeSecond 23 = .ok (.istore_n 2, 1) := by decide +kernel
theorem dX9_takeSecond_24 : decode cX9_takeSecond 24 = .ok (.iload_n 2, 1) := by decide +kernel
theorem dX9_takeSecond_25 : decode cX9_takeSecond 25 = .ok (.iconst (-1), 1) := by decide +kernel
theorem dX9_takeSecond_26 : decode cX9_takeSecond 26 = .ok (.if_icmp .ne 7, 3) := by decide +kernel
theorem dX9_takeSecond_29 : decode cX9_takeSecond 29 = .ok (.sipush (-1004), 3) := by decide +kernel
theorem dX9_takeSecond_32 : decode cX9_takeSecond 32 = .ok (.ireturn, 1) := by decide +kernel
theorem dX9_takeSecond_33 : decode cX9_takeSecond 33 = .ok (.aload_n 0, 1) := by decide +kernel
theorem dX9_takeSecond_34 : decode cX9_takeSecond 34 = .ok (.getfield 60, 3) := by decide +kernel
theorem dX9_takeSecond_37 : decode cX9_takeSecond 37 = .ok (.iload_n 1, 1) := by decide +kernel
theorem dX9_takeSecond_38 : decode cX9_takeSecond 38 = .ok (.iload_n 2, 1) := by decide +kernel
theorem dX9_takeSecond_39 : decode cX9_takeSecond 39 = .ok (.invokevirtual 131, 3) := by decide +kernel
theorem dX9_takeSecond_42 : decode cX9_takeSecond 42 = .ok (.aload_n 0, 1) := by decide +kernel
theorem dX9_takeSecond_43 : decode cX9_takeSecond 43 = .ok (.getfield 60, 3) := by decide +kernel
theorem dX9_takeSecond_46 : decode cX9_takeSecond 46 = .ok (.getfield 121, 3) := by decide +kernel
theorem dX9_takeSecond_49 : decode cX9_takeSecond 49 = .ok (.ireturn, 1) := by decide +kernel
theorem dX9_breakRivers_0 : decode cX9_breakRivers 0 = .ok (.iconst 0, 1) := by decide +kernel
theorem dX9_breakRivers_1 : decode cX9_breakRivers 1 = .ok (.istore_n 1, 1) := by decide +kernel
theorem dX9_breakRivers_2 : decode cX9_breakRivers 2 = .ok (.iload_n 1, 1) := by decide +kernel
theorem dX9_breakRivers_3 : decode cX9_breakRivers 3 = .ok (.bipush 10, 2) := by decide +kernel
theorem dX9_breakRivers_5 : decode cX9_breakRivers 5 = .ok (.if_icmp .ge 38, 3) := by decide +kernel
theorem dX9_breakRivers_8 : decode cX9_breakRivers 8 = .ok (.aload_n 0, 1) := by decide +kernel
theorem dX9_breakRivers_9 : decode cX9_breakRivers 9 = .ok (.invokevirtual 135, 3) := by decide +kernel
theorem dX9_breakRivers_12 : decode cX9_breakRivers 12 = .ok (.istore_n 2, 1) := by decide +kernel
theorem dX9_breakRivers_13 : decode cX9_breakRivers 13 = .ok (.iload_n 2, 1) := by decide +kernel
theorem dX9_breakRivers_14 : decode cX9_breakRivers 14 = .ok (.iconst (-1), 1) := by decide +kernel
theorem dX9_breakRivers_15 : decode cX9_breakRivers 15 = .ok (.if_icmp .ne 6, 3) := by decide +kernel
theorem dX9_breakRivers_18 : decode cX9_breakRivers 18 = .ok (.goto 25, 3) := by decide +kernel
theorem dX9_breakRivers_21 : decode cX9_breakRivers 21 = .ok (.aload_n 0, 1) := by decide +kernel
theorem dX9_breakRivers_22 : decode cX9_breakRivers 22 = .ok (.getfield 60, 3) := by decide +kernel
theorem dX9_breakRivers_25 : decode cX9_breakRivers 25 = .ok (.iload_n 2, 1) := by decide +kernel
theorem dX9_breakRivers_26 : decode cX9_breakRivers 26 = .ok (.aload_n 0, 1) := by decide +kernel
theorem dX9_breakRivers_27 : decode cX9_breakRivers 27 = .ok (.getfield 60, 3) := by decide +kernel
theorem dX9_breakRivers_30 : decode cX9_breakRivers 30 = .ok (.iload_n 2, 1) := by decide +kernel
theorem dX9_breakRivers_31 : decode cX9_breakRivers 31 = .ok (.invokevirtual 127, 3) := by decide +kernel
theorem dX9_breakRivers_34 : decode cX9_breakRivers 34 = .ok (.invokevirtual 131, 3) := by decide +kernel
theorem dX9_breakRivers_37 : decode cX9_breakRivers 37 = .ok (.iinc 1 1, 3) := by decide +kernel
theorem dX9_breakRivers_40 : decode cX9_breakRivers 40 = .ok (.goto (-38), 3) := by decide +kernel
theorem dX9_breakRivers_43 : decode cX9_breakRivers 43 = .ok (.iload_n 1, 1) := by decide +kernel
theorem dX9_breakRivers_44 : decode cX9_breakRivers 44 = .ok (.ireturn, 1) := by decide +kernel
theorem dX9_count_0 : decode cX9_count 0 = .ok (.iload_n 1, 1) := by decide +kernel
theorem dX9_count_1 : decode cX9_count 1 = .ok (.tableswitch 160 0 9 #[55, 63, 71, 79, 103, 114, 125, 136, 144, 152], 55) := by decide +kernel
theorem dX9_count_56 : decode cX9_count 56 = .ok (.aload_n 0, 1) := by decide +kernel
theorem dX9_count_57 : decode cX9_count 57 = .ok (.getfield 43, 3) := by decide +kernel
theorem dX9_count_60 : decode cX9_count 60 = .ok (.getfield 85, 3) := by decide +kernel
theorem dX9_count_63 : decode cX9_count 63 = .ok (.ireturn, 1) := by decide +kernel
theorem dX9_count_64 : decode cX9_count 64 = .ok (.aload_n 0, 1) := by decide +kernel
theorem dX9_count_65 : decode cX9_count 65 = .ok (.getfield 60, 3) := by decide +kernel
theorem dX9_count_68 : decode cX9_count 68 = .ok (.getfield 121, 3) := by decide +kernel
theorem dX9_count_71 : decode cX9_count 71 = .ok (.ireturn, 1) := by decide +kernel
theorem dX9_count_72 : decode cX9_count 72 = .ok (.aload_n 0, 1) := by decide +kernel
theorem dX9_count_73 : decode cX9_count 73 = .ok (.getfield 60, 3) := by decide +kernel
theorem dX9_count_76 : decode cX9_count 76 = .ok (.getfield 138, 3) := by decide +kernel
theorem dX9_count_79 : decode cX9_count 79 = .ok (.ireturn, 1) := by decide +kernel
theorem dX9_count_80 : decode cX9_count 80 = .ok (.aload_n 0, 1) := by decide +kernel
theorem dX9_count_81 : decode cX9_count 81 = .ok (.getfield 51, 3) := by decide +kernel
theorem dX9_count_84 : decode cX9_count 84 = .ok (.invokevirtual 141, 3) := by decide +kernel
theorem dX9_count_87 : decode cX9_count 87 = .ok (.ifCond .eq 15, 3) := by decide +kernel
theorem dX9_count_90 : decode cX9_count 90 = .ok (.aload_n 0, 1) := by decide +kernel
theorem dX9_count_91 : decode cX9_count 91 = .ok (.getfield 51, 3) := by decide +kernel
theorem dX9_count_94 : decode cX9_count 94 = .ok (.getfield 145, 3) := by decide +kernel
theorem dX9_count_97 : decode cX9_count 97 = .ok (.iconst 0, 1) := by decide +kernel
theorem dX9_count_98 : decode cX9_count 98 = .ok (.iaload, 1) := by decide +kernel
theorem dX9_count_99 : decode cX9_count 99 = .ok (.goto 4, 3) := by decide +kernel
theorem dX9_count_102 : decode cX9_count 102 = .ok (.iconst 0, 1) := by decide +kernel
theorem dX9_count_103 : decode cX9_count 103 = .ok (.ireturn, 1) := by decide +kernel
theorem dX9_count_104 : decode cX9_count 104 = .ok (.aload_n 0, 1) := by decide +kernel
theorem dX9_count_105 : decode cX9_count 105 = .ok (.getfield 60, 3) := by decide +kernel
theorem dX9_count_108 : decode cX9_count 108 = .ok (.getfield 148, 3) := by decide +kernel
theorem dX9_count_111 : decode cX9_count 111 = .ok (.getfield 152, 3) := by decide +kernel
theorem dX9_count_114 : decode cX9_count 114 = .ok (.ireturn, 1) := by decide +kernel
theorem dX9_count_115 : decode cX9_count 115 = .ok (.aload_n 0, 1) := by decide +kernel
theorem dX9_count_116 : decode cX9_count 116 = .ok (.getfield 60, 3) := by decide +kernel
theorem dX9_count_119 : decode cX9_count 119 = .ok (.getfield 148, 3) := by decide +kernel
theorem dX9_count_122 : decode cX9_count 122 = .ok (.getfield 157, 3) := by decide +kernel
theorem dX9_count_125 : decode cX9_count 125 = .ok (.ireturn, 1) := by decide +kernel
theorem dX9_count_126 : decode cX9_count 126 = .ok (.aload_n 0, 1) := by decide +kernel
theorem dX9_count_127 : decode cX9_count 127 = .ok (.getfield 60, 3) := by decide +kernel
theorem dX9_count_130 : decode cX9_count 130 = .ok (.getfield 148, 3) := by decide +kernel
theorem dX9_count_133 : decode cX9_count 133 = .ok (.getfield 160, 3) := by decide +kernel
theorem dX9_count_136 : decode cX9_count 136 = .ok (.ireturn, 1) := by decide +kernel
theorem dX9_count_137 : decode cX9_count 137 = .ok (.aload_n 0, 1) := by decide +kernel
theorem dX9_count_138 : decode cX9_count 138 = .ok (.getfield 39, 3) := by decide +kernel
theorem dX9_count_141 : decode cX9_count 141 = .ok (.getfield 97, 3) := by decide +kernel
theorem dX9_count_144 : decode cX9_count 144 = .ok (.ireturn, 1) := by decide +kernel
theorem dX9_count_145 : decode cX9_count 145 = .ok (.aload_n 0, 1) := by decide +kernel
theorem dX9_count_146 : decode cX9_count 146 = .ok (.getfield 39, 3) := by decide +kernel
theorem dX9_count_149 : decode cX9_count 149 = .ok (.getfield 100, 3) := by decide +kernel
theorem dX9_count_152 : decode cX9_count 152 = .ok (.ireturn, 1) := by decide +kernel
theorem dX9_count_153 : decode cX9_count 153 = .ok (.aload_n 0, 1) := by decide +kernel
theorem dX9_count_154 : decode cX9_count 154 = .ok (.getfield 39, 3) := by decide +kernel
theorem dX9_count_157 : decode cX9_count 157 = .ok (.getfield 103, 3) := by decide +kernel
theorem dX9_count_160 : decode cX9_count 160 = .ok (.ireturn, 1) := by decide +kernel
theorem dX9_count_161 : decode cX9_count 161 = .ok (.sipush (-1002), 3) := by decide +kernel
theorem dX9_count_164 : decode cX9_count 164 = .ok (.ireturn, 1) := by decide +kernel
theorem dX9_spaceWidth_0 : decode cX9_spaceWidth 0 = .ok (.iload_n 1, 1) := by decide +kernel
theorem dX9_spaceWidth_1 : decode cX9_spaceWidth 1 = .ok (.invokestatic 106, 3) := by decide +kernel
theorem dX9_spaceWidth_4 : decode cX9_spaceWidth 4 = .ok (.ifCond .ne 7, 3) := by decide +kernel
theorem dX9_spaceWidth_7 : decode cX9_spaceWidth 7 = .ok (.sipush (-1001), 3) := by decide +kernel
theorem dX9_spaceWidth_10 : decode cX9_spaceWidth 10 = .ok (.ireturn, 1) := by decide +kernel
theorem dX9_spaceWidth_11 : decode cX9_spaceWidth 11 = .ok (.iload_n 2, 1) := by decide +kernel
theorem dX9_spaceWidth_12 : decode cX9_spaceWidth 12 = .ok (.tableswitch 58 0 2 #[28, 38, 48], 28) := by decide +kernel
theorem dX9_spaceWidth_40 : decode cX9_spaceWidth 40 = .ok (.aload_n 0, 1) := by decide +kernel
theorem dX9_spaceWidth_41 : decode cX9_spaceWidth 41 = .ok (.getfield 39, 3) := by decide +kernel
theorem dX9_spaceWidth_44 : decode cX9_spaceWidth 44 = .ok (.getfield 163, 3) := by decide +kernel
theorem dX9_spaceWidth_47 : decode cX9_spaceWidth 47 = .ok (.iload_n 1, 1) := by decide +kernel
theorem dX9_spaceWidth_48 : decode cX9_spaceWidth 48 = .ok (.iaload, 1) := by decide +kernel
theorem dX9_spaceWidth_49 : decode cX9_spaceWidth 49 = .ok (.ireturn, 1) := by decide +kernel
theorem dX9_spaceWidth_50 : decode cX9_spaceWidth 50 = .ok (.aload_n 0, 1) := by decide +kernel
theorem dX9_spaceWidth_51 : decode cX9_spaceWidth 51 = .ok (.getfield 39, 3) := by decide +kernel
theorem dX9_spaceWidth_54 : decode cX9_spaceWidth 54 = .ok (.getfield 110, 3) := by decide +kernel
theorem dX9_spaceWidth_57 : decode cX9_spaceWidth 57 = .ok (.iload_n 1, 1) := by decide +kernel
theorem dX9_spaceWidth_58 : decode cX9_spaceWidth 58 = .ok (.iaload, 1) := by decide +kernel
theorem dX9_spaceWidth_59 : decode cX9_spaceWidth 59 = .ok (.ireturn, 1) := by decide +kernel
theorem dX9_spaceWidth_60 : decode cX9_spaceWidth 60 = .ok (.aload_n 0, 1) := by decide +kernel
theorem dX9_spaceWidth_61 : decode cX9_spaceWidth 61 = .ok (.getfield 39, 3) := by decide +kernel
theorem dX9_spaceWidth_64 : decode cX9_spaceWidth 64 = .ok (.getfield 166, 3) := by decide +kernel
theorem dX9_spaceWidth_67 : decode cX9_spaceWidth 67 = .ok (.iload_n 1, 1) := by decide +kernel
theorem dX9_spaceWidth_68 : decode cX9_spaceWidth 68 = .ok (.iaload, 1) := by decide +kernel
theorem dX9_spaceWidth_69 : decode cX9_spaceWidth 69 = .ok (.ireturn, 1) := by decide +kernel
theorem dX9_spaceWidth_70 : decode cX9_spaceWidth 70 = .ok (.sipush (-1002), 3) := by decide +kernel
theorem dX9_spaceWidth_73 : decode cX9_spaceWidth 73 = .ok (.ireturn, 1) := by decide +kernel
theorem dX9_word_0 : decode cX9_word 0 = .ok (.aload_n 0, 1) := by decide +kernel
theorem dX9_word_1 : decode cX9_word 1 = .ok (.getfield 43, 3) := by decide +kernel
theorem dX9_word_4 : decode cX9_word 4 = .ok (.iload_n 1, 1) := by decide +kernel
theorem dX9_word_5 : decode cX9_word 5 = .ok (.invokevirtual 169, 3) := by decide +kernel
theorem dX9_word_8 : decode cX9_word 8 = .ok (.ifCond .ne 7, 3) := by decide +kernel
theorem dX9_word_11 : decode cX9_word 11 = .ok (.sipush (-1001), 3) := by decide +kernel
theorem dX9_word_14 : decode cX9_word 14 = .ok (.ireturn, 1) := by decide +kernel
theorem dX9_word_15 : decode cX9_word 15 = .ok (.iload_n 2, 1) := by decide +kernel
theorem dX9_word_16 : decode cX9_word 16 = .ok (.tableswitch 88 0 3 #[32, 42, 52, 62], 32) := by decide +kernel
theorem dX9_word_48 : decode cX9_word 48 = .ok (.aload_n 0, 1) := by decide +kernel
theorem dX9_word_49 : decode cX9_word 49 = .ok (.getfield 43, 3) := by decide +kernel
theorem dX9_word_52 : decode cX9_word 52 = .ok (.getfield 172, 3) := by decide +kernel
theorem dX9_word_55 : decode cX9_word 55 = .ok (.iload_n 1, 1) := by decide +kernel
theorem dX9_word_56 : decode cX9_word 56 = .ok (.iaload, 1) := by decide +kernel
theorem dX9_word_57 : decode cX9_word 57 = .ok (.ireturn, 1) := by decide +kernel
theorem dX9_word_58 : decode cX9_word 58 = .ok (.aload_n 0, 1) := by decide +kernel
theorem dX9_word_59 : decode cX9_word 59 = .ok (.getfield 43, 3) := by decide +kernel
theorem dX9_word_62 : decode cX9_word 62 = .ok (.getfield 175, 3) := by decide +kernel
theorem dX9_word_65 : decode cX9_word 65 = .ok (.iload_n 1, 1) := by decide +kernel
theorem dX9_word_66 : decode cX9_word 66 = .ok (.iaload, 1) := by decide +kernel
theorem dX9_word_67 : decode cX9_word 67 = .ok (.ireturn, 1) := by decide +kernel
theorem dX9_word_68 : decode cX9_word 68 = .ok (.aload_n 0, 1) := by decide +kernel
theorem dX9_word_69 : decode cX9_word 69 = .ok (.getfield 43, 3) := by decide +kernel
theorem dX9_word_72 : decode cX9_word 72 = .ok (.getfield 178, 3) := by decide +kernel
theorem dX9_word_75 : decode cX9_word 75 = .ok (.iload_n 1, 1) := by decide +kernel
theorem dX9_word_76 : decode cX9_word 76 = .ok (.iaload, 1) := by decide +kernel
theorem dX9_word_77 : decode cX9_word 77 = .ok (.ireturn, 1) := by decide +kernel
theorem dX9_word_78 : decode cX9_word 78 = .ok (.aload_n 0, 1) := by decide +kernel
theorem dX9_word_79 : decode cX9_word 79 = .ok (.getfield 60, 3) := by decide +kernel
theorem dX9_word_82 : decode cX9_word 82 = .ok (.getfield 121, 3) := by decide +kernel
theorem dX9_word_85 : decode cX9_word 85 = .ok (.ifCond .ne 9, 3) := by decide +kernel
theorem dX9_word_88 : decode cX9_word 88 = .ok (.sipush (-1004), 3) := by decide +kernel
theorem dX9_word_91 : decode cX9_word 91 = .ok (.goto 12, 3) := by decide +kernel
theorem dX9_word_94 : decode cX9_word 94 = .ok (.aload_n 0, 1) := by decide +kernel
theorem dX9_word_95 : decode cX9_word 95 = .ok (.getfield 60, 3) := by decide +kernel
theorem dX9_word_98 : decode cX9_word 98 = .ok (.getfield 181, 3) := by decide +kernel
theorem dX9_word_101 : decode cX9_word 101 = .ok (.iload_n 1, 1) := by decide +kernel
theorem dX9_word_102 : decode cX9_word 102 = .ok (.iaload, 1) := by decide +kernel
theorem dX9_word_103 : decode cX9_word 103 = .ok (.ireturn, 1) := by decide +kernel
theorem dX9_word_104 : decode cX9_word 104 = .ok (.sipush (-1002), 3) := by decide +kernel
theorem dX9_word_107 : decode cX9_word 107 = .ok (.ireturn, 1) := by decide +kernel
theorem dX9_line_0 : decode cX9_line 0 = .ok (.aload_n 0, 1) := by decide +kernel
theorem dX9_line_1 : decode cX9_line 1 = .ok (.getfield 60, 3) := by decide +kernel
theorem dX9_line_4 : decode cX9_line 4 = .ok (.iload_n 1, 1) := by decide +kernel
theorem dX9_line_5 : decode cX9_line 5 = .ok (.invokevirtual 124, 3) := by decide +kernel
theorem dX9_line_8 : decode cX9_line 8 = .ok (.ifCond .ne 7, 3) := by decide +kernel
theorem dX9_line_11 : decode cX9_line 11 = .ok (.sipush (-1001), 3) := by decide +kernel
theorem dX9_line_14 : decode cX9_line 14 = .ok (.ireturn, 1) := by decide +kernel
theorem dX9_line_15 : decode cX9_line 15 = .ok (.aload_n 0, 1) := by decide +kernel
theorem dX9_line_16 : decode cX9_line 16 = .ok (.getfield 60, 3) := by decide +kernel
theorem dX9_line_19 : decode cX9_line 19 = .ok (.iload_n 1, 1) := by decide +kernel
theorem dX9_line_20 : decode cX9_line 20 = .ok (.invokevirtual 184, 3) := by decide +kernel
theorem dX9_line_23 : decode cX9_line 23 = .ok (.istore_n 3, 1) := by decide +kernel
theorem dX9_line_24 : decode cX9_line 24 = .ok (.aload_n 0, 1) := by decide +kernel
theorem dX9_line_25 : decode cX9_line 25 = .ok (.getfield 60, 3) := by decide +kernel
theorem dX9_line_28 : decode cX9_line 28 = .ok (.iload_n 1, 1) := by decide +kernel
theorem dX9_line_29 : decode cX9_line 29 = .ok (.invokevirtual 187, 3) := by decide +kernel
theorem dX9_line_32 : decode cX9_line 32 = .ok (.istore 4, 2) := by decide +kernel
theorem dX9_line_34 : decode cX9_line 34 = .ok (.iload_n 2, 1) := by decide +kernel
theorem dX9_line_35 : decode cX9_line 35 = .ok (.tableswitch 178 0 8 #[49, 51, 54, 65, 84, 95, 106, 118, 131], 49) := by decide +kernel
theorem dX9_line_84 : decode cX9_line 84 = .ok (.iload_n 3, 1) := by decide +kernel
theorem dX9_line_85 : decode cX9_line 85 = .ok (.ireturn, 1) := by decide +kernel
theorem dX9_line_86 : decode cX9_line 86 = .ok (.iload 4, 2) := by decide +kernel
theorem dX9_line_88 : decode cX9_line 88 = .ok (.ireturn, 1) := by decide +kernel
theorem dX9_line_89 : decode cX9_line 89 = .ok (.aload_n 0, 1) := by decide +kernel
theorem dX9_line_90 : decode cX9_line 90 = .ok (.getfield 47, 3) := by decide +kernel
theorem dX9_line_93 : decode cX9_line 93 = .ok (.iload_n 3, 1) := by decide +kernel
theorem dX9_line_94 : decode cX9_line 94 = .ok (.iload 4, 2) := by decide +kernel
theorem dX9_line_96 : decode cX9_line 96 = .ok (.invokevirtual 190, 3) := by decide +kernel
theorem dX9_line_99 : decode cX9_line 99 = .ok (.ireturn, 1) := by decide +kernel
theorem dX9_line_100 : decode cX9_line 100 = .ok (.aload_n 0, 1) := by decide +kernel
theorem dX9_line_101 : decode cX9_line 101 = .ok (.getfield 39, 3) := by decide +kernel
theorem dX9_line_104 : decode cX9_line 104 = .ok (.getfield 97, 3) := by decide +kernel
theorem dX9_line_107 : decode cX9_line 107 = .ok (.aload_n 0, 1) := by decide +kernel
theorem dX9_line_108 : decode cX9_line 108 = .ok (.getfield 47, 3) := by decide +kernel
theorem dX9_line_111 : decode cX9_line 111 = .ok (.iload_n 3, 1) := by decide +kernel
theorem dX9_line_112 : decode cX9_line 112 = .ok (.iload 4, 2) := by decide +kernel
theorem dX9_line_114 : decode cX9_line 114 = .ok (.invokevirtual 190, 3) := by decide +kernel
theorem dX9_line_117 : decode cX9_line 117 = .ok (.isub, 1) := by decide +kernel
theorem dX9_line_118 : decode cX9_line 118 = .ok (.ireturn, 1) := by decide +kernel
theorem dX9_line_119 : decode cX9_line 119 = .ok (.aload_n 0, 1) := by decide +kernel
theorem dX9_line_120 : decode cX9_line 120 = .ok (.getfield 47, 3) := by decide +kernel
theorem dX9_line_123 : decode cX9_line 123 = .ok (.iload_n 3, 1) := by decide +kernel
theorem dX9_line_124 : decode cX9_line 124 = .ok (.iload 4, 2) := by decide +kernel
theorem dX9_line_126 : decode cX9_line 126 = .ok (.invokevirtual 194, 3) := by decide +kernel
theorem dX9_line_129 : decode cX9_line 129 = .ok (.ireturn, 1) := by decide +kernel
theorem dX9_line_130 : decode cX9_line 130 = .ok (.aload_n 0, 1) := by decide +kernel
theorem dX9_line_131 : decode cX9_line 131 = .ok (.getfield 47, 3) := by decide +kernel
theorem dX9_line_134 : decode cX9_line 134 = .ok (.iload_n 3, 1) := by decide +kernel
theorem dX9_line_135 : decode cX9_line 135 = .ok (.iload 4, 2) := by decide +kernel
theorem dX9_line_137 : decode cX9_line 137 = .ok (.invokevirtual 197, 3) := by decide +kernel
theorem dX9_line_140 : decode cX9_line 140 = .ok (.ireturn, 1) := by decide +kernel
theorem dX9_line_141 : decode cX9_line 141 = .ok (.aload_n 0, 1) := by decide +kernel
theorem dX9_line_142 : decode cX9_line 142 = .ok (.getfield 47, 3) := by decide +kernel
theorem dX9_line_145 : decode cX9_line 145 = .ok (.getfield 199, 3) := by decide +kernel
theorem dX9_line_148 : decode cX9_line 148 = .ok (.iload_n 3, 1) := by decide +kernel
theorem dX9_line_149 : decode cX9_line 149 = .ok (.invokestatic 202, 3) := by decide +kernel
theorem dX9_line_152 : decode cX9_line 152 = .ok (.ireturn, 1) := by decide +kernel
theorem dX9_line_153 : decode cX9_line 153 = .ok (.aload_n 0, 1) := by decide +kernel
theorem dX9_line_154 : decode cX9_line 154 = .ok (.getfield 47, 3) := by decide +kernel
theorem dX9_line_157 : decode cX9_line 157 = .ok (.getfield 206, 3) := by decide +kernel
theorem dX9_line_160 : decode cX9_line 160 = .ok (.iload 4, 2) := by decide +kernel
theorem dX9_line_162 : decode cX9_line 162 = .ok (.invokestatic 202, 3) := by decide +kernel
theorem dX9_line_165 : decode cX9_line 165 = .ok (.ireturn, 1) := by decide +kernel
theorem dX9_line_166 : decode cX9_line 166 = .ok (.aload_n 0, 1) := by decide +kernel
theorem dX9_line_167 : decode cX9_line 167 = .ok (.getfield 60, 3) := by decide +kernel
theorem dX9_line_170 : decode cX9_line 170 = .ok (.iload 4, 2) := by decide +kernel
theorem dX9_line_172 : decode cX9_line 172 = .ok (.invokevirtual 209, 3) := by decide +kernel
theorem dX9_line_175 : decode cX9_line 175 = .ok (.aload_n 0, 1) := by decide +kernel
theorem dX9_line_176 : decode cX9_line 176 = .ok (.getfield 60, 3) := by decide +kernel
theorem dX9_line_179 : decode cX9_line 179 = .ok (.getfield 212, 3) := by decide +kernel
theorem dX9_line_182 : decode cX9_line 182 = .ok (.iload_n 3, 1) := by decide +kernel
theorem dX9_line_183 : decode cX9_line 183 = .ok (.invokestatic 202, 3) := by decide +kernel
theorem dX9_line_186 : decode cX9_line 186 = .ok (.isub, 1) := by decide +kernel
theorem dX9_line_187 : decode cX9_line 187 = .ok (.aload_n 0, 1) := by decide +kernel
theorem dX9_line_188 : decode cX9_line 188 = .ok (.getfield 47, 3) := by decide +kernel
theorem dX9_line_191 : decode cX9_line 191 = .ok (.getfield 199, 3) := by decide +kernel
theorem dX9_line_194 : decode cX9_line 194 = .ok (.iload_n 3, 1) := by decide +kernel
theorem dX9_line_195 : decode cX9_line 195 = .ok (.invokestatic 202, 3) := by decide +kernel
theorem dX9_line_198 : decode cX9_line 198 = .ok (.isub, 1) := by decide +kernel
theorem dX9_line_199 : decode cX9_line 199 = .ok (.aload_n 0, 1) := by decide +kernel
theorem dX9_line_200 : decode cX9_line 200 = .ok (.getfield 47, 3) := by decide +kernel
theorem dX9_line_203 : decode cX9_line 203 = .ok (.getfield 206, 3) := by decide +kernel
theorem dX9_line_206 : decode cX9_line 206 = .ok (.iload 4, 2) := by decide +kernel
theorem dX9_line_208 : decode cX9_line 208 = .ok (.invokestatic 202, 3) := by decide +kernel
theorem dX9_line_211 : decode cX9_line 211 = .ok (.isub, 1) := by decide +kernel
theorem dX9_line_212 : decode cX9_line 212 = .ok (.ireturn, 1) := by decide +kernel
theorem dX9_line_213 : decode cX9_line 213 = .ok (.sipush (-1002), 3) := by decide +kernel
theorem dX9_line_216 : decode cX9_line 216 = .ok (.ireturn, 1) := by decide +kernel
theorem dX9_space_0 : decode cX9_space 0 = .ok (.aload_n 0, 1) := by decide +kernel
theorem dX9_space_1 : decode cX9_space 1 = .ok (.getfield 60, 3) := by decide +kernel
theorem dX9_space_4 : decode cX9_space 4 = .ok (.iload_n 1, 1) := by decide +kernel
theorem dX9_space_5 : decode cX9_space 5 = .ok (.invokevirtual 124, 3) := by decide +kernel
theorem dX9_space_8 : decode cX9_space 8 = .ok (.ifCond .ne 7, 3) := by decide +kernel
theorem dX9_space_11 : decode cX9_space 11 = .ok (.sipush (-1001), 3) := by decide +kernel
theorem dX9_space_14 : decode cX9_space 14 = .ok (.ireturn, 1) := by decide +kernel
theorem dX9_space_15 : decode cX9_space 15 = .ok (.aload_n 0, 1) := by decide +kernel
theorem dX9_space_16 : decode cX9_space 16 = .ok (.getfield 60, 3) := by decide +kernel
theorem dX9_space_19 : decode cX9_space 19 = .ok (.iload_n 1, 1) := by decide +kernel
theorem dX9_space_20 : decode cX9_space 20 = .ok (.invokevirtual 184, 3) := by decide +kernel
theorem dX9_space_23 : decode cX9_space 23 = .ok (.istore 4, 2) := by decide +kernel
theorem dX9_space_25 : decode cX9_space 25 = .ok (.iload_n 2, 1) := by decide +kernel
theorem dX9_space_26 : decode cX9_space 26 = .ok (.ifCond .lt 18, 3) := by decide +kernel
theorem dX9_space_29 : decode cX9_space 29 = .ok (.iload_n 2, 1) := by decide +kernel
theorem dX9_space_30 : decode cX9_space 30 = .ok (.aload_n 0, 1) := by decide +kernel
theorem dX9_space_31 : decode cX9_space 31 = .ok (.getfield 60, 3) := by decide +kernel
theorem dX9_space_34 : decode cX9_space 34 = .ok (.iload_n 1, 1) := by decide +kernel
theorem dX9_space_35 : decode cX9_space 35 = .ok (.invokevirtual 187, 3) := by decide +kernel
theorem dX9_space_38 : decode cX9_space 38 = .ok (.iload 4, 2) := by decide +kernel
theorem dX9_space_40 : decode cX9_space 40 = .ok (.isub, 1) := by decide +kernel
theorem dX9_space_41 : decode cX9_space 41 = .ok (.if_icmp .lt 7, 3) := by decide +kernel
theorem dX9_space_44 : decode cX9_space 44 = .ok (.sipush (-1001), 3) := by decide +kernel
theorem dX9_space_47 : decode cX9_space 47 = .ok (.ireturn, 1) := by decide +kernel
theorem dX9_space_48 : decode cX9_space 48 = .ok (.iload 4, 2) := by decide +kernel
theorem dX9_space_50 : decode cX9_space 50 = .ok (.iload_n 2, 1) := by decide +kernel
theorem dX9_space_51 : decode cX9_space 51 = .ok (.iadd, 1) := by decide +kernel
theorem dX9_space_52 : decode cX9_space 52 = .ok (.istore 5, 2) := by decide +kernel
theorem dX9_space_54 : decode cX9_space 54 = .ok (.iload_n 3, 1) := by decide +kernel
theorem dX9_space_55 : decode cX9_space 55 = .ok (.tableswitch 81 0 3 #[29, 42, 52, 65], 29) := by decide +kernel
theorem dX9_space_84 : decode cX9_space 84 = .ok (.aload_n 0, 1) := by decide +kernel
theorem dX9_space_85 : decode cX9_space 85 = .ok (.getfield 60, 3) := by decide +kernel
theorem dX9_space_88 : decode cX9_space 88 = .ok (.getfield 215, 3) := by decide +kernel
theorem dX9_space_91 : decode cX9_space 91 = .ok (.iload 5, 2) := by decide +kernel
theorem dX9_space_93 : decode cX9_space 93 = .ok (.invokestatic 202, 3) := by decide +kernel
theorem dX9_space_96 : decode cX9_space 96 = .ok (.ireturn, 1) := by decide +kernel
theorem dX9_space_97 : decode cX9_space 97 = .ok (.aload_n 0, 1) := by decide +kernel
theorem dX9_space_98 : decode cX9_space 98 = .ok (.getfield 60, 3) := by decide +kernel
theorem dX9_space_101 : decode cX9_space 101 = .ok (.iload 5, 2) := by decide +kernel
theorem dX9_space_103 : decode cX9_space 103 = .ok (.invokevirtual 209, 3) := by decide +kernel
theorem dX9_space_106 : decode cX9_space 106 = .ok (.ireturn, 1) := by decide +kernel
theorem dX9_space_107 : decode cX9_space 107 = .ok (.aload_n 0, 1) := by decide +kernel
theorem dX9_space_108 : decode cX9_space 108 = .ok (.getfield 43, 3) := by decide +kernel
theorem dX9_space_111 : decode cX9_space 111 = .ok (.getfield 178, 3) := by decide +kernel
theorem dX9_space_114 : decode cX9_space 114 = .ok (.iload 5, 2) := by decide +kernel
theorem dX9_space_116 : decode cX9_space 116 = .ok (.invokestatic 202, 3) := by decide +kernel
theorem dX9_space_119 : decode cX9_space 119 = .ok (.ireturn, 1) := by decide +kernel
theorem dX9_space_120 : decode cX9_space 120 = .ok (.aload_n 0, 1) := by decide +kernel
theorem dX9_space_121 : decode cX9_space 121 = .ok (.getfield 60, 3) := by decide +kernel
theorem dX9_space_124 : decode cX9_space 124 = .ok (.getfield 148, 3) := by decide +kernel
theorem dX9_space_127 : decode cX9_space 127 = .ok (.getfield 218, 3) := by decide +kernel
theorem dX9_space_130 : decode cX9_space 130 = .ok (.iload 5, 2) := by decide +kernel
theorem dX9_space_132 : decode cX9_space 132 = .ok (.invokestatic 202, 3) := by decide +kernel
theorem dX9_space_135 : decode cX9_space 135 = .ok (.ireturn, 1) := by decide +kernel
theorem dX9_space_136 : decode cX9_space 136 = .ok (.sipush (-1002), 3) := by decide +kernel
theorem dX9_space_139 : decode cX9_space 139 = .ok (.ireturn, 1) := by decide +kernel
theorem dX9_begin_0 : decode cX9_begin 0 = .ok (.aload_n 0, 1) := by decide +kernel
theorem dX9_begin_1 : decode cX9_begin 1 = .ok (.getfield 43, 3) := by decide +kernel
theorem dX9_begin_4 : decode cX9_begin 4 = .ok (.iload_n 1, 1) := by decide +kernel
theorem dX9_begin_5 : decode cX9_begin 5 = .ok (.invokevirtual 169, 3) := by decide +kernel
theorem dX9_begin_8 : decode cX9_begin 8 = .ok (.ifCond .ne 7, 3) := by decide +kernel
theorem dX9_begin_11 : decode cX9_begin 11 = .ok (.sipush (-1001), 3) := by decide +kernel
theorem dX9_begin_14 : decode cX9_begin 14 = .ok (.ireturn, 1) := by decide +kernel
theorem dX9_begin_15 : decode cX9_begin 15 = .ok (.aload_n 0, 1) := by decide +kernel
theorem dX9_begin_16 : decode cX9_begin 16 = .ok (.getfield 60, 3) := by decide +kernel
theorem dX9_begin_19 : decode cX9_begin 19 = .ok (.getfield 121, 3) := by decide +kernel
theorem dX9_begin_22 : decode cX9_begin 22 = .ok (.ifCond .ne 9, 3) := by decide +kernel
theorem dX9_begin_25 : decode cX9_begin 25 = .ok (.sipush (-1004), 3) := by decide +kernel
theorem dX9_begin_28 : decode cX9_begin 28 = .ok (.goto 12, 3) := by decide +kernel
theorem dX9_begin_31 : decode cX9_begin 31 = .ok (.aload_n 0, 1) := by decide +kernel
theorem dX9_begin_32 : decode cX9_begin 32 = .ok (.getfield 60, 3) := by decide +kernel
theorem dX9_begin_35 : decode cX9_begin 35 = .ok (.getfield 212, 3) := by decide +kernel
theorem dX9_begin_38 : decode cX9_begin 38 = .ok (.iload_n 1, 1) := by decide +kernel
theorem dX9_begin_39 : decode cX9_begin 39 = .ok (.iaload, 1) := by decide +kernel
theorem dX9_begin_40 : decode cX9_begin 40 = .ok (.ireturn, 1) := by decide +kernel
theorem dX9_second_0 : decode cX9_second 0 = .ok (.aload_n 0, 1) := by decide +kernel
theorem dX9_second_1 : decode cX9_second 1 = .ok (.getfield 60, 3) := by decide +kernel
theorem dX9_second_4 : decode cX9_second 4 = .ok (.iload_n 1, 1) := by decide +kernel
theorem dX9_second_5 : decode cX9_second 5 = .ok (.invokevirtual 124, 3) := by decide +kernel
theorem dX9_second_8 : decode cX9_second 8 = .ok (.ifCond .ne 7, 3) := by decide +kernel
theorem dX9_second_11 : decode cX9_second 11 = .ok (.sipush (-1001), 3) := by decide +kernel
theorem dX9_second_14 : decode cX9_second 14 = .ok (.ireturn, 1) := by decide +kernel
theorem dX9_second_15 : decode cX9_second 15 = .ok (.iload_n 2, 1) := by decide +kernel
theorem dX9_second_16 : decode cX9_second 16 = .ok (.ifCond .lt 8, 3) := by decide +kernel
theorem dX9_second_19 : decode cX9_second 19 = .ok (.iload_n 2, 1) := by decide +kernel
theorem dX9_second_20 : decode cX9_second 20 = .ok (.iconst 1, 1) := by decide +kernel
theorem dX9_second_21 : decode cX9_second 21 = .ok (.if_icmp .le 7, 3) := by decide +kernel
theorem dX9_second_24 : decode cX9_second 24 = .ok (.sipush (-1002), 3) := by decide +kernel
theorem dX9_second_27 : decode cX9_second 27 = .ok (.ireturn, 1) := by decide +kernel
theorem dX9_second_28 : decode cX9_second 28 = .ok (.aload_n 0, 1) := by decide +kernel
theorem dX9_second_29 : decode cX9_second 29 = .ok (.getfield 60, 3) := by decide +kernel
theorem dX9_second_32 : decode cX9_second 32 = .ok (.iload_n 1, 1) := by decide +kernel
theorem dX9_second_33 : decode cX9_second 33 = .ok (.invokevirtual 127, 3) := by decide +kernel
theorem dX9_second_36 : decode cX9_second 36 = .ok (.istore_n 3, 1) := by decide +kernel
theorem dX9_second_37 : decode cX9_second 37 = .ok (.iload_n 3, 1) := by decide +kernel
theorem dX9_second_38 : decode cX9_second 38 = .ok (.iconst (-1), 1) := by decide +kernel
theorem dX9_second_39 : decode cX9_second 39 = .ok (.if_icmp .ne 7, 3) := by decide +kernel
theorem dX9_second_42 : decode cX9_second 42 = .ok (.sipush (-1004), 3) := by decide +kernel
theorem dX9_second_45 : decode cX9_second 45 = .ok (.ireturn, 1) := by decide +kernel
theorem dX9_second_46 : decode cX9_second 46 = .ok (.iload_n 2, 1) := by decide +kernel
theorem dX9_second_47 : decode cX9_second 47 = .ok (.ifCond .ne 5, 3) := by decide +kernel
theorem dX9_second_50 : decode cX9_second 50 = .ok (.iload_n 3, 1) := by decide +kernel
theorem dX9_second_51 : decode cX9_second 51 = .ok (.ireturn, 1) := by decide +kernel
theorem dX9_second_52 : decode cX9_second 52 = .ok (.aload_n 0, 1) := by decide +kernel
theorem dX9_second_53 : decode cX9_second 53 = .ok (.getfield 60, 3) := by decide +kernel
theorem dX9_second_56 : decode cX9_second 56 = .ok (.iload_n 1, 1) := by decide +kernel
theorem dX9_second_57 : decode cX9_second 57 = .ok (.invokevirtual 221, 3) := by decide +kernel
theorem dX9_second_60 : decode cX9_second 60 = .ok (.aload_n 0, 1) := by decide +kernel
theorem dX9_second_61 : decode cX9_second 61 = .ok (.getfield 51, 3) := by decide +kernel
theorem dX9_second_64 : decode cX9_second 64 = .ok (.aload_n 0, 1) := by decide +kernel
theorem dX9_second_65 : decode cX9_second 65 = .ok (.getfield 60, 3) := by decide +kernel
theorem dX9_second_68 : decode cX9_second 68 = .ok (.iload_n 1, 1) := by decide +kernel
theorem dX9_second_69 : decode cX9_second 69 = .ok (.invokevirtual 184, 3) := by decide +kernel
theorem dX9_second_72 : decode cX9_second 72 = .ok (.iload_n 3, 1) := by decide +kernel
theorem dX9_second_73 : decode cX9_second 73 = .ok (.invokevirtual 224, 3) := by decide +kernel
theorem dX9_second_76 : decode cX9_second 76 = .ok (.iadd, 1) := by decide +kernel
theorem dX9_second_77 : decode cX9_second 77 = .ok (.ireturn, 1) := by decide +kernel
theorem dX9_worst_0 : decode cX9_worst 0 = .ok (.iload_n 1, 1) := by decide +kernel
theorem dX9_worst_1 : decode cX9_worst 1 = .ok (.ifCond .ge 7, 3) := by decide +kernel
theorem dX9_worst_4 : decode cX9_worst 4 = .ok (.sipush (-1002), 3) := by decide +kernel
theorem dX9_worst_7 : decode cX9_worst 7 = .ok (.ireturn, 1) := by decide +kernel
theorem dX9_worst_8 : decode cX9_worst 8 = .ok (.iconst 0, 1) := by decide +kernel
theorem dX9_worst_9 : decode cX9_worst 9 = .ok (.istore_n 2, 1) := by decide +kernel
theorem dX9_worst_10 : decode cX9_worst 10 = .ok (.iload_n 2, 1) := by decide +kernel
theorem dX9_worst_11 : decode cX9_worst 11 = .ok (.aload_n 0, 1) := by decide +kernel
theorem dX9_worst_12 : decode cX9_worst 12 = .ok (.getfield 60, 3) := by decide +kernel
theorem dX9_worst_15 : decode cX9_worst 15 = .ok (.getfield 121, 3) := by decide +kernel
theorem dX9_worst_18 : decode cX9_worst 18 = .ok (.if_icmp .ge 23, 3) := by decide +kernel
theorem dX9_worst_21 : decode cX9_worst 21 = .ok (.aload_n 0, 1) := by decide +kernel
theorem dX9_worst_22 : decode cX9_worst 22 = .ok (.getfield 60, 3) := by decide +kernel
theorem dX9_worst_25 : decode cX9_worst 25 = .ok (.iload_n 2, 1) := by decide +kernel
theorem dX9_worst_26 : decode cX9_worst 26 = .ok (.invokevirtual 227, 3) := by decide +kernel
theorem dX9_worst_29 : decode cX9_worst 29 = .ok (.iload_n 1, 1) := by decide +kernel
theorem dX9_worst_30 : decode cX9_worst 30 = .ok (.if_icmp .ne 5, 3) := by decide +kernel
theorem dX9_worst_33 : decode cX9_worst 33 = .ok (.iload_n 2, 1) := by decide +kernel
theorem dX9_worst_34 : decode cX9_worst 34 = .ok (.ireturn, 1) := by decide +kernel
theorem dX9_worst_35 : decode cX9_worst 35 = .ok (.iinc 2 1, 3) := by decide +kernel
theorem dX9_worst_38 : decode cX9_worst 38 = .ok (.goto (-28), 3) := by decide +kernel
theorem dX9_worst_41 : decode cX9_worst 41 = .ok (.sipush (-1004), 3) := by decide +kernel
theorem dX9_worst_44 : decode cX9_worst 44 = .ok (.ireturn, 1) := by decide +kernel
theorem dX9_river_0 : decode cX9_river 0 = .ok (.iload_n 1, 1) := by decide +kernel
theorem dX9_river_1 : decode cX9_river 1 = .ok (.ifCond .lt 17, 3) := by decide +kernel
theorem dX9_river_4 : decode cX9_river 4 = .ok (.iload_n 1, 1) := by decide +kernel
theorem dX9_river_5 : decode cX9_river 5 = .ok (.aload_n 0, 1) := by decide +kernel
theorem dX9_river_6 : decode cX9_river 6 = .ok (.getfield 60, 3) := by decide +kernel
theorem dX9_river_9 : decode cX9_river 9 = .ok (.getfield 148, 3) := by decide +kernel
theorem dX9_river_12 : decode cX9_river 12 = .ok (.getfield 152, 3) := by decide +kernel
theorem dX9_river_15 : decode cX9_river 15 = .ok (.if_icmp .lt 7, 3) := by decide +kernel
theorem dX9_river_18 : decode cX9_river 18 = .ok (.sipush (-1001), 3) := by decide +kernel
theorem dX9_river_21 : decode cX9_river 21 = .ok (.ireturn, 1) := by decide +kernel
theorem dX9_river_22 : decode cX9_river 22 = .ok (.iload_n 2, 1) := by decide +kernel
theorem dX9_river_23 : decode cX9_river 23 = .ok (.ifCond .ge 7, 3) := by decide +kernel
theorem dX9_river_26 : decode cX9_river 26 = .ok (.sipush (-1002), 3) := by decide +kernel
theorem dX9_river_29 : decode cX9_river 29 = .ok (.ireturn, 1) := by decide +kernel
theorem dX9_river_30 : decode cX9_river 30 = .ok (.aload_n 0, 1) := by decide +kernel
theorem dX9_river_31 : decode cX9_river 31 = .ok (.getfield 60, 3) := by decide +kernel
theorem dX9_river_34 : decode cX9_river 34 = .ok (.getfield 148, 3) := by decide +kernel
theorem dX9_river_37 : decode cX9_river 37 = .ok (.iload_n 1, 1) := by decide +kernel
theorem dX9_river_38 : decode cX9_river 38 = .ok (.iload_n 2, 1) := by decide +kernel
theorem dX9_river_39 : decode cX9_river 39 = .ok (.invokevirtual 230, 3) := by decide +kernel
theorem dX9_river_42 : decode cX9_river 42 = .ok (.istore_n 3, 1) := by decide +kernel
theorem dX9_river_43 : decode cX9_river 43 = .ok (.iload_n 3, 1) := by decide +kernel
theorem dX9_river_44 : decode cX9_river 44 = .ok (.iconst (-1), 1) := by decide +kernel
theorem dX9_river_45 : decode cX9_river 45 = .ok (.if_icmp .ne 7, 3) := by decide +kernel
theorem dX9_river_48 : decode cX9_river 48 = .ok (.sipush (-1004), 3) := by decide +kernel
theorem dX9_river_51 : decode cX9_river 51 = .ok (.ireturn, 1) := by decide +kernel
theorem dX9_river_52 : decode cX9_river 52 = .ok (.aload_n 0, 1) := by decide +kernel
theorem dX9_river_53 : decode cX9_river 53 = .ok (.getfield 60, 3) := by decide +kernel
theorem dX9_river_56 : decode cX9_river 56 = .ok (.getfield 181, 3) := by decide +kernel
theorem dX9_river_59 : decode cX9_river 59 = .ok (.iload_n 3, 1) := by decide +kernel
theorem dX9_river_60 : decode cX9_river 60 = .ok (.invokestatic 202, 3) := by decide +kernel
theorem dX9_river_63 : decode cX9_river 63 = .ok (.istore 4, 2) := by decide +kernel
theorem dX9_river_65 : decode cX9_river 65 = .ok (.iload 4, 2) := by decide +kernel
theorem dX9_river_67 : decode cX9_river 67 = .ok (.bipush 100, 2) := by decide +kernel
theorem dX9_river_69 : decode cX9_river 69 = .ok (.imul, 1) := by decide +kernel
theorem dX9_river_70 : decode cX9_river 70 = .ok (.iload_n 3, 1) := by decide +kernel
theorem dX9_river_71 : decode cX9_river 71 = .ok (.iadd, 1) := by decide +kernel
theorem dX9_river_72 : decode cX9_river 72 = .ok (.aload_n 0, 1) := by decide +kernel
theorem dX9_river_73 : decode cX9_river 73 = .ok (.getfield 60, 3) := by decide +kernel
theorem dX9_river_76 : decode cX9_river 76 = .ok (.iload 4, 2) := by decide +kernel
theorem dX9_river_78 : decode cX9_river 78 = .ok (.invokevirtual 184, 3) := by decide +kernel
theorem dX9_river_81 : decode cX9_river 81 = .ok (.isub, 1) := by decide +kernel
theorem dX9_river_82 : decode cX9_river 82 = .ok (.ireturn, 1) := by decide +kernel
theorem dX9_at_0 : decode cX9_at 0 = .ok (.iload_n 1, 1) := by decide +kernel
theorem dX9_at_1 : decode cX9_at 1 = .ok (.ifCond .lt 15, 3) := by decide +kernel
theorem dX9_at_4 : decode cX9_at 4 = .ok (.iload_n 1, 1) := by decide +kernel
theorem dX9_at_5 : decode cX9_at 5 = .ok (.aload_n 0, 1) := by decide +kernel
theorem dX9_at_6 : decode cX9_at 6 = .ok (.arraylength, 1) := by decide +kernel
theorem dX9_at_7 : decode cX9_at 7 = .ok (.if_icmp .ge 9, 3) := by decide +kernel
theorem dX9_at_10 : decode cX9_at 10 = .ok (.aload_n 0, 1) := by decide +kernel
theorem dX9_at_11 : decode cX9_at 11 = .ok (.iload_n 1, 1) := by decide +kernel
theorem dX9_at_12 : decode cX9_at 12 = .ok (.iaload, 1) := by decide +kernel
theorem dX9_at_13 : decode cX9_at 13 = .ok (.goto 4, 3) := by decide +kernel
theorem dX9_at_16 : decode cX9_at 16 = .ok (.iconst 0, 1) := by decide +kernel
theorem dX9_at_17 : decode cX9_at 17 = .ok (.ireturn, 1) := by decide +kernel
theorem dX9_isKind_0 : decode cX9_isKind 0 = .ok (.iload_n 0, 1) := by decide +kernel
theorem dX9_isKind_1 : decode cX9_isKind 1 = .ok (.ifCond .lt 12, 3) := by decide +kernel
theorem dX9_isKind_4 : decode cX9_isKind 4 = .ok (.iload_n 0, 1) := by decide +kernel
theorem dX9_isKind_5 : decode cX9_isKind 5 = .ok (.iconst 3, 1) := by decide +kernel
theorem dX9_isKind_6 : decode cX9_isKind 6 = .ok (.if_icmp .ge 7, 3) := by decide +kernel
theorem dX9_isKind_9 : decode cX9_isKind 9 = .ok (.iconst 1, 1) := by decide +kernel
theorem dX9_isKind_10 : decode cX9_isKind 10 = .ok (.goto 4, 3) := by decide +kernel
theorem dX9_isKind_13 : decode cX9_isKind 13 = .ok (.iconst 0, 1) := by decide +kernel
theorem dX9_isKind_14 : decode cX9_isKind 14 = .ok (.ireturn, 1) := by decide +kernel
theorem dX9_restoreBest_0 : decode cX9_restoreBest 0 = .ok (.aload_n 0, 1) := by decide +kernel
theorem dX9_restoreBest_1 : decode cX9_restoreBest 1 = .ok (.getfield 47, 3) := by decide +kernel
theorem dX9_restoreBest_4 : decode cX9_restoreBest 4 = .ok (.invokevirtual 233, 3) := by decide +kernel
theorem dX9_restoreBest_7 : decode cX9_restoreBest 7 = .ok (.aload_n 0, 1) := by decide +kernel
theorem dX9_restoreBest_8 : decode cX9_restoreBest 8 = .ok (.getfield 51, 3) := by decide +kernel
theorem dX9_restoreBest_11 : decode cX9_restoreBest 11 = .ok (.invokevirtual 236, 3) := by decide +kernel
theorem dX9_restoreBest_14 : decode cX9_restoreBest 14 = .ok (.aload_n 0, 1) := by decide +kernel
theorem dX9_restoreBest_15 : decode cX9_restoreBest 15 = .ok (.getfield 60, 3) := by decide +kernel
theorem dX9_restoreBest_18 : decode cX9_restoreBest 18 = .ok (.invokevirtual 118, 3) := by decide +kernel
theorem dX9_restoreBest_21 : decode cX9_restoreBest 21 = .ok (.aload_n 0, 1) := by decide +kernel
theorem dX9_restoreBest_22 : decode cX9_restoreBest 22 = .ok (.getfield 60, 3) := by decide +kernel
theorem dX9_restoreBest_25 : decode cX9_restoreBest 25 = .ok (.getfield 121, 3) := by decide +kernel
theorem dX9_restoreBest_28 : decode cX9_restoreBest 28 = .ok (.ireturn, 1) := by decide +kernel
theorem dX9_calmingLine_0 : decode cX9_calmingLine 0 = .ok (.iconst (-1), 1) := by decide +kernel
theorem dX9_calmingLine_1 : decode cX9_calmingLine 1 = .ok (.istore_n 1, 1) := by decide +kernel
theorem dX9_calmingLine_2 : decode cX9_calmingLine 2 = .ok (.aload_n 0, 1) := by decide +kernel
theorem dX9_calmingLine_3 : decode cX9_calmingLine 3 = .ok (.getfield 60, 3) := by decide +kernel
theorem dX9_calmingLine_6 : decode cX9_calmingLine 6 = .ok (.getfield 148, 3) := by decide +kernel
theorem dX9_calmingLine_9 : decode cX9_calmingLine 9 = .ok (.getfield 160, 3) := by decide +kernel
theorem dX9_calmingLine_12 : decode cX9_calmingLine 12 = .ok (.istore_n 2, 1) := by decide +kernel
theorem dX9_calmingLine_13 : decode cX9_calmingLine 13 = .ok (.iconst 0, 1) := by decide +kernel
theorem dX9_calmingLine_14 : decode cX9_calmingLine 14 = .ok (.istore_n 3, 1) := by decide +kernel
theorem dX9_calmingLine_15 : decode cX9_calmingLine 15 = .ok (.iconst 0, 1) := by decide +kernel
theorem dX9_calmingLine_16 : decode cX9_calmingLine 16 = .ok (.istore 4, 2) := by decide +kernel
theorem dX9_calmingLine_18 : decode cX9_calmingLine 18 = .ok (.iload 4, 2) := by decide +kernel
theorem dX9_calmingLine_20 : decode cX9_calmingLine 20 = .ok (.aload_n 0, 1) := by decide +kernel
theorem dX9_calmingLine_21 : decode cX9_calmingLine 21 = .ok (.getfield 60, 3) := by decide +kernel
theorem dX9_calmingLine_24 : decode cX9_calmingLine 24 = .ok (.getfield 121, 3) := by decide +kernel
theorem dX9_calmingLine_27 : decode cX9_calmingLine 27 = .ok (.if_icmp .ge 117, 3) := by decide +kernel
theorem dX9_calmingLine_30 : decode cX9_calmingLine 30 = .ok (.aload_n 0, 1) := by decide +kernel
theorem dX9_calmingLine_31 : decode cX9_calmingLine 31 = .ok (.getfield 60, 3) := by decide +kernel
theorem dX9_calmingLine_34 : decode cX9_calmingLine 34 = .ok (.iload 4, 2) := by decide +kernel
theorem dX9_calmingLine_36 : decode cX9_calmingLine 36 = .ok (.invokevirtual 127, 3) := by decide +kernel
theorem dX9_calmingLine_39 : decode cX9_calmingLine 39 = .ok (.istore 5, 2) := by decide +kernel
theorem dX9_calmingLine_41 : decode cX9_calmingLine 41 = .ok (.iload 5, 2) := by decide +kernel
theorem dX9_calmingLine_43 : decode cX9_calmingLine 43 = .ok (.iconst (-1), 1) := by decide +kernel
theorem dX9_calmingLine_44 : decode cX9_calmingLine 44 = .ok (.if_icmp .ne 6, 3) := by decide +kernel
theorem dX9_calmingLine_47 : decode cX9_calmingLine 47 = .ok (.goto 91, 3) := by decide +kernel
theorem dX9_calmingLine_50 : decode cX9_calmingLine 50 = .ok (.aload_n 0, 1) := by decide +kernel
theorem dX9_calmingLine_51 : decode cX9_calmingLine 51 = .ok (.getfield 64, 3) := by decide +kernel
theorem dX9_calmingLine_54 : decode cX9_calmingLine 54 = .ok (.aload_n 0, 1) := by decide +kernel
theorem dX9_calmingLine_55 : decode cX9_calmingLine 55 = .ok (.getfield 60, 3) := by decide +kernel
theorem dX9_calmingLine_58 : decode cX9_calmingLine 58 = .ok (.invokevirtual 239, 3) := by decide +kernel
theorem dX9_calmingLine_61 : decode cX9_calmingLine 61 = .ok (.aload_n 0, 1) := by decide +kernel
theorem dX9_calmingLine_62 : decode cX9_calmingLine 62 = .ok (.getfield 64, 3) := by decide +kernel
theorem dX9_calmingLine_65 : decode cX9_calmingLine 65 = .ok (.iload 4, 2) := by decide +kernel
theorem dX9_calmingLine_67 : decode cX9_calmingLine 67 = .ok (.iload 5, 2) := by decide +kernel
theorem dX9_calmingLine_69 : decode cX9_calmingLine 69 = .ok (.invokevirtual 131, 3) := by decide +kernel
theorem dX9_calmingLine_72 : decode cX9_calmingLine 72 = .ok (.aload_n 0, 1) := by decide +kernel
theorem dX9_calmingLine_73 : decode cX9_calmingLine 73 = .ok (.getfield 64, 3) := by decide +kernel
theorem dX9_calmingLine_76 : decode cX9_calmingLine 76 = .ok (.getfield 148, 3) := by decide +kernel
theorem dX9_calmingLine_79 : decode cX9_calmingLine 79 = .ok (.getfield 160, 3) := by decide +kernel
theorem dX9_calmingLine_82 : decode cX9_calmingLine 82 = .ok (.istore 6, 2) := by decide +kernel
theorem dX9_calmingLine_84 : decode cX9_calmingLine 84 = .ok (.iload_n 1, 1) := by decide +kernel
theorem dX9_calmingLine_85 : decode cX9_calmingLine 85 = .ok (.iconst (-1), 1) := by decide +kernel
theorem dX9_calmingLine_86 : decode cX9_calmingLine 86 = .ok (.if_icmp .eq 24, 3) := by decide +kernel
theorem dX9_calmingLine_89 : decode cX9_calmingLine 89 = .ok (.iload 6, 2) := by decide +kernel
theorem dX9_calmingLine_91 : decode cX9_calmingLine 91 = .ok (.iload_n 2, 1) := by decide +kernel
theorem dX9_calmingLine_92 : decode cX9_calmingLine 92 = .ok (.if_icmp .ne 18, 3) := by decide +kernel
theorem dX9_calmingLine_95 : decode cX9_calmingLine 95 = .ok (.aload_n 0, 1) := by decide +kernel
theorem dX9_calmingLine_96 : decode cX9_calmingLine 96 = .ok (.getfield 64, 3) := by decide +kernel
theorem dX9_calmingLine_99 : decode cX9_calmingLine 99 = .ok (.getfield 138, 3) := by decide +kernel
theorem dX9_calmingLine_102 : decode cX9_calmingLine 102 = .ok (.iload_n 3, 1) := by decide +kernel
theorem dX9_calmingLine_103 : decode cX9_calmingLine 103 = .ok (.if_icmp .ge 7, 3) := by decide +kernel
theorem dX9_calmingLine_106 : decode cX9_calmingLine 106 = .ok (.iconst 1, 1) := by decide +kernel
theorem dX9_calmingLine_107 : decode cX9_calmingLine 107 = .ok (.goto 4, 3) := by decide +kernel
theorem dX9_calmingLine_110 : decode cX9_calmingLine 110 = .ok (.iconst 0, 1) := by decide +kernel
theorem dX9_calmingLine_111 : decode cX9_calmingLine 111 = .ok (.istore 7, 2) := by decide +kernel
theorem dX9_calmingLine_113 : decode cX9_calmingLine 113 = .ok (.iload 6, 2) := by decide +kernel
theorem dX9_calmingLine_115 : decode cX9_calmingLine 115 = .ok (.iload_n 2, 1) := by decide +kernel
theorem dX9_calmingLine_116 : decode cX9_calmingLine 116 = .ok (.if_icmp .lt 8, 3) := by decide +kernel
theorem dX9_calmingLine_119 : decode cX9_calmingLine 119 = .ok (.iload 7, 2) := by decide +kernel
theorem dX9_calmingLine_121 : decode cX9_calmingLine 121 = .ok (.ifCond .eq 17, 3) := by decide +kernel
theorem dX9_calmingLine_124 : decode cX9_calmingLine 124 = .ok (.iload 4, 2) := by decide +kernel
theorem dX9_calmingLine_126 : decode cX9_calmingLine 126 = .ok (.istore_n 1, 1) := by decide +kernel
theorem dX9_calmingLine_127 : decode cX9_calmingLine 127 = .ok (.iload 6, 2) := by decide +kernel
theorem dX9_calmingLine_129 : decode cX9_calmingLine 129 = .ok (.istore_n 2, 1) := by decide +kernel
theorem dX9_calmingLine_130 : decode cX9_calmingLine 130 = .ok (.aload_n 0, 1) := by decide +kernel
theorem dX9_calmingLine_131 : decode cX9_calmingLine 131 = .ok (.getfield 64, 3) := by decide +kernel
theorem dX9_calmingLine_134 : decode cX9_calmingLine 134 = .ok (.getfield 138, 3) := by decide +kernel
theorem dX9_calmingLine_137 : decode cX9_calmingLine 137 = .ok (.istore_n 3, 1) := by decide +kernel
theorem dX9_calmingLine_138 : decode cX9_calmingLine 138 = .ok (.iinc 4 1, 3) := by decide +kernel
theorem dX9_calmingLine_141 : decode cX9_calmingLine 141 = .ok (.goto (-123), 3) := by decide +kernel
theorem dX9_calmingLine_144 : decode cX9_calmingLine 144 = .ok (.iload_n 1, 1) := by decide +kernel
theorem dX9_calmingLine_145 : decode cX9_calmingLine 145 = .ok (.ireturn, 1) := by decide +kernel
