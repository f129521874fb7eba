theorem dX0_init_0 : decode cX0_init 0 = .ok (.aload_n 0, 1) := by decide +kernel
theorem dX0_init_1 : decode cX0_init 1 = .ok (.invokespecial 1, 3) := by decide +kernel
theorem dX0_init_4 : decode cX0_init 4 = .ok (.aload_n 0, 1) := by decide +kernel
theorem dX0_init_5 : decode cX0_init 5 = .ok (.iload_n 1, 1) := by decide +kernel
theorem dX0_init_6 : decode cX0_init 6 = .ok (.putfield 7, 3) := by decide +kernel
theorem dX0_init_9 : decode cX0_init 9 = .ok (.aload_n 0, 1) := by decide +kernel
theorem dX0_init_10 : decode cX0_init 10 = .ok (.iload_n 2, 1) := by decide +kernel
theorem dX0_init_11 : decode cX0_init 11 = .ok (.putfield 13, 3) := by decide +kernel
theorem dX0_init_14 : decode cX0_init 14 = .ok (.aload_n 0, 1) := by decide +kernel
theorem dX0_init_15 : decode cX0_init 15 = .ok (.iload_n 3, 1) := by decide +kernel
theorem dX0_init_16 : decode cX0_init 16 = .ok (.putfield 16, 3) := by decide +kernel
theorem dX0_init_19 : decode cX0_init 19 = .ok (.aload_n 0, 1) := by decide +kernel
theorem dX0_init_20 : decode cX0_init 20 = .ok (.aload 4, 2) := by decide +kernel
theorem dX0_init_22 : decode cX0_init 22 = .ok (.putfield 19, 3) := by decide +kernel
theorem dX0_init_25 : decode cX0_init 25 = .ok (.return_, 1) := by decide +kernel
theorem dX1_init_0 : decode cX1_init 0 = .ok (.aload_n 0, 1) := by decide +kernel
theorem dX1_init_1 : decode cX1_init 1 = .ok (.invokespecial 3, 3) := by decide +kernel
theorem dX1_init_4 : decode cX1_init 4 = .ok (.aload_n 0, 1) := by decide +kernel
theorem dX1_init_5 : decode cX1_init 5 = .ok (.sipush 160, 3) := by decide +kernel
theorem dX1_init_8 : decode cX1_init 8 = .ok (.newarray .byte, 2) := by decide +kernel
theorem dX1_init_10 : decode cX1_init 10 = .ok (.putfield 9, 3) := by decide +kernel
theorem dX1_init_13 : decode cX1_init 13 = .ok (.aload_n 0, 1) := by decide +kernel
theorem dX1_init_14 : decode cX1_init 14 = .ok (.bipush 20, 2) := by decide +kernel
theorem dX1_init_16 : decode cX1_init 16 = .ok (.anewarray 15, 3) := by decide +kernel
theorem dX1_init_19 : decode cX1_init 19 = .ok (.putfield 17, 3) := by decide +kernel
theorem dX1_init_22 : decode cX1_init 22 = .ok (.aload_n 0, 1) := by decide +kernel
theorem dX1_init_23 : decode cX1_init 23 = .ok (.new 21, 3) := by decide +kernel
theorem dX1_init_26 : decode cX1_init 26 = .ok (.dup, 1) := by decide +kernel
theorem dX1_init_27 : decode cX1_init 27 = .ok (.invokespecial 23, 3) := by decide +kernel
theorem dX1_init_30 : decode cX1_init 30 = .ok (.putfield 24, 3) := by decide +kernel
theorem dX1_init_33 : decode cX1_init 33 = .ok (.return_, 1) := by decide +kernel
theorem dX1_writeTape_0 : decode cX1_writeTape 0 = .ok (.aload_n 0, 1) := by decide +kernel
theorem dX1_writeTape_1 : decode cX1_writeTape 1 = .ok (.getfield 28, 3) := by decide +kernel
theorem dX1_writeTape_4 : decode cX1_writeTape 4 = .ok (.iload_n 1, 1) := by decide +kernel
theorem dX1_writeTape_5 : decode cX1_writeTape 5 = .ok (.iadd, 1) := by decide +kernel
theorem dX1_writeTape_6 : decode cX1_writeTape 6 = .ok (.sipush 160, 3) := by decide +kernel
theorem dX1_writeTape_9 : decode cX1_writeTape 9 = .ok (.if_icmp .le 6, 3) := by decide +kernel
theorem dX1_writeTape_12 : decode cX1_writeTape 12 = .ok (.bipush (-3), 2) := by decide +kernel
theorem dX1_writeTape_14 : decode cX1_writeTape 14 = .ok (.ireturn, 1) := by decide +kernel
theorem dX1_writeTape_15 : decode cX1_writeTape 15 = .ok (.iconst 0, 1) := by decide +kernel
theorem dX1_writeTape_16 : decode cX1_writeTape 16 = .ok (.istore_n 3, 1) := by decide +kernel
theorem dX1_writeTape_17 : decode cX1_writeTape 17 = .ok (.iload_n 3, 1) := by decide +kernel
theorem dX1_writeTape_18 : decode cX1_writeTape 18 = .ok (.iload_n 1, 1) := by decide +kernel
theorem dX1_writeTape_19 : decode cX1_writeTape 19 = .ok (.if_icmp .ge 35, 3) := by decide +kernel
theorem dX1_writeTape_22 : decode cX1_writeTape 22 = .ok (.aload_n 0, 1) := by decide +kernel
theorem dX1_writeTape_23 : decode cX1_writeTape 23 = .ok (.getfield 9, 3) := by decide +kernel
theorem dX1_writeTape_26 : decode cX1_writeTape 26 = .ok (.aload_n 0, 1) := by decide +kernel
theorem dX1_writeTape_27 : decode cX1_writeTape 27 = .ok (.getfield 28, 3) := by decide +kernel
theorem dX1_writeTape_30 : decode cX1_writeTape 30 = .ok (.iload_n 2, 1) := by decide +kernel
theorem dX1_writeTape_31 : decode cX1_writeTape 31 = .ok (.bipush 8, 2) := by decide +kernel
theorem dX1_writeTape_33 : decode cX1_writeTape 33 = .ok (.iload_n 3, 1) := by decide +kernel
theorem dX1_writeTape_34 : decode cX1_writeTape 34 = .ok (.imul, 1) := by decide +kernel
theorem dX1_writeTape_35 : decode cX1_writeTape 35 = .ok (.iushr, 1) := by decide +kernel
theorem dX1_writeTape_36 : decode cX1_writeTape 36 = .ok (.i2b, 1) := by decide +kernel
theorem dX1_writeTape_37 : decode cX1_writeTape 37 = .ok (.bastore, 1) := by decide +kernel
theorem dX1_writeTape_38 : decode cX1_writeTape 38 = .ok (.aload_n 0, 1) := by decide +kernel
theorem dX1_writeTape_39 : decode cX1_writeTape 39 = .ok (.dup, 1) := by decide +kernel
theorem dX1_writeTape_40 : decode cX1_writeTape 40 = .ok (.getfield 28, 3) := by decide +kernel
theorem dX1_writeTape_43 : decode cX1_writeTape 43 = .ok (.iconst 1, 1) := by decide +kernel
theorem dX1_writeTape_44 : decode cX1_writeTape 44 = .ok (.iadd, 1) := by decide +kernel
theorem dX1_writeTape_45 : decode cX1_writeTape 45 = .ok (.putfield 28, 3) := by decide +kernel
theorem dX1_writeTape_48 : decode cX1_writeTape 48 = .ok (.iinc 3 1, 3) := by decide +kernel
theorem dX1_writeTape_51 : decode cX1_writeTape 51 = .ok (.goto (-34), 3) := by decide +kernel
theorem dX1_writeTape_54 : decode cX1_writeTape 54 = .ok (.aload_n 0, 1) := by decide +kernel
theorem dX1_writeTape_55 : decode cX1_writeTape 55 = .ok (.getfield 28, 3) := by decide +kernel
theorem dX1_writeTape_58 : decode cX1_writeTape 58 = .ok (.ireturn, 1) := by decide +kernel
theorem dX1_pass_0 : decode cX1_pass 0 = .ok (.aload_n 0, 1) := by decide +kernel
theorem dX1_pass_1 : decode cX1_pass 1 = .ok (.getfield 32, 3) := by decide +kernel
theorem dX1_pass_4 : decode cX1_pass 4 = .ok (.bipush 20, 2) := by decide +kernel
theorem dX1_pass_6 : decode cX1_pass 6 = .ok (.if_icmp .lt 6, 3) := by decide +kernel
theorem dX1_pass_9 : decode cX1_pass 9 = .ok (.bipush (-3), 2) := by decide +kernel
theorem dX1_pass_11 : decode cX1_pass 11 = .ok (.ireturn, 1) := by decide +kernel
theorem dX1_pass_12 : decode cX1_pass 12 = .ok (.aload_n 0, 1) := by decide +kernel
theorem dX1_pass_13 : decode cX1_pass 13 = .ok (.getfield 28, 3) := by decide +kernel
theorem dX1_pass_16 : decode cX1_pass 16 = .ok (.istore 4, 2) := by decide +kernel
theorem dX1_pass_18 : decode cX1_pass 18 = .ok (.aload_n 0, 1) := by decide +kernel
theorem dX1_pass_19 : decode cX1_pass 19 = .ok (.iconst 0, 1) := by decide +kernel
theorem dX1_pass_20 : decode cX1_pass 20 = .ok (.putfield 28, 3) := by decide +kernel
theorem dX1_pass_23 : decode cX1_pass 23 = .ok (.aload_n 0, 1) := by decide +kernel
theorem dX1_pass_24 : decode cX1_pass 24 = .ok (.getfield 24, 3) := by decide +kernel
theorem dX1_pass_27 : decode cX1_pass 27 = .ok (.aload_n 0, 1) := by decide +kernel
theorem dX1_pass_28 : decode cX1_pass 28 = .ok (.getfield 9, 3) := by decide +kernel
theorem dX1_pass_31 : decode cX1_pass 31 = .ok (.iload 4, 2) := by decide +kernel
theorem dX1_pass_33 : decode cX1_pass 33 = .ok (.iload_n 1, 1) := by decide +kernel
theorem dX1_pass_34 : decode cX1_pass 34 = .ok (.invokevirtual 35, 3) := by decide +kernel
theorem dX1_pass_37 : decode cX1_pass 37 = .ok (.pop, 1) := by decide +kernel
theorem dX1_pass_38 : decode cX1_pass 38 = .ok (.aload_n 0, 1) := by decide +kernel
theorem dX1_pass_39 : decode cX1_pass 39 = .ok (.getfield 24, 3) := by decide +kernel
theorem dX1_pass_42 : decode cX1_pass 42 = .ok (.getfield 39, 3) := by decide +kernel
theorem dX1_pass_45 : decode cX1_pass 45 = .ok (.iconst (-1), 1) := by decide +kernel
theorem dX1_pass_46 : decode cX1_pass 46 = .ok (.if_icmp .eq 14, 3) := by decide +kernel
theorem dX1_pass_49 : decode cX1_pass 49 = .ok (.bipush (-100), 2) := by decide +kernel
theorem dX1_pass_51 : decode cX1_pass 51 = .ok (.aload_n 0, 1) := by decide +kernel
theorem dX1_pass_52 : decode cX1_pass 52 = .ok (.getfield 24, 3) := by decide +kernel
theorem dX1_pass_55 : decode cX1_pass 55 = .ok (.getfield 39, 3) := by decide +kernel
theorem dX1_pass_58 : decode cX1_pass 58 = .ok (.isub, 1) := by decide +kernel
theorem dX1_pass_59 : decode cX1_pass 59 = .ok (.ireturn, 1) := by decide +kernel
theorem dX1_pass_60 : decode cX1_pass 60 = .ok (.aload_n 0, 1) := by decide +kernel
theorem dX1_pass_61 : decode cX1_pass 61 = .ok (.getfield 17, 3) := by decide +kernel
theorem dX1_pass_64 : decode cX1_pass 64 = .ok (.aload_n 0, 1) := by decide +kernel
theorem dX1_pass_65 : decode cX1_pass 65 = .ok (.getfield 32, 3) := by decide +kernel
theorem dX1_pass_68 : decode cX1_pass 68 = .ok (.new 15, 3) := by decide +kernel
theorem dX1_pass_71 : decode cX1_pass 71 = .ok (.dup, 1) := by decide +kernel
theorem dX1_pass_72 : decode cX1_pass 72 = .ok (.iload_n 1, 1) := by decide +kernel
theorem dX1_pass_73 : decode cX1_pass 73 = .ok (.iload_n 3, 1) := by decide +kernel
theorem dX1_pass_74 : decode cX1_pass 74 = .ok (.iload_n 2, 1) := by decide +kernel
theorem dX1_pass_75 : decode cX1_pass 75 = .ok (.aload_n 0, 1) := by decide +kernel
theorem dX1_pass_76 : decode cX1_pass 76 = .ok (.getfield 9, 3) := by decide +kernel
theorem dX1_pass_79 : decode cX1_pass 79 = .ok (.iload 4, 2) := by decide +kernel
theorem dX1_pass_81 : decode cX1_pass 81 = .ok (.invokestatic 42, 3) := by decide +kernel
theorem dX1_pass_84 : decode cX1_pass 84 = .ok (.invokespecial 48, 3) := by decide +kernel
theorem dX1_pass_87 : decode cX1_pass 87 = .ok (.aastore, 1) := by decide +kernel
theorem dX1_pass_88 : decode cX1_pass 88 = .ok (.aload_n 0, 1) := by decide +kernel
theorem dX1_pass_89 : decode cX1_pass 89 = .ok (.dup, 1) := by decide +kernel
theorem dX1_pass_90 : decode cX1_pass 90 = .ok (.getfield 32, 3) := by decide +kernel
theorem dX1_pass_93 : decode cX1_pass 93 = .ok (.iconst 1, 1) := by decide +kernel
theorem dX1_pass_94 : decode cX1_pass 94 = .ok (.iadd, 1) := by decide +kernel
theorem dX1_pass_95 : decode cX1_pass 95 = .ok (.putfield 32, 3) := by decide +kernel
theorem dX1_pass_98 : decode cX1_pass 98 = .ok (.aload_n 0, 1) := by decide +kernel
theorem dX1_pass_99 : decode cX1_pass 99 = .ok (.getfield 32, 3) := by decide +kernel
theorem dX1_pass_102 : decode cX1_pass 102 = .ok (.iconst 1, 1) := by decide +kernel
theorem dX1_pass_103 : decode cX1_pass 103 = .ok (.isub, 1) := by decide +kernel
theorem dX1_pass_104 : decode cX1_pass 104 = .ok (.ireturn, 1) := by decide +kernel
theorem dX1_numberInForce_0 : decode cX1_numberInForce 0 = .ok (.aload_n 0, 1) := by decide +kernel
theorem dX1_numberInForce_1 : decode cX1_numberInForce 1 = .ok (.getfield 32, 3) := by decide +kernel
theorem dX1_numberInForce_4 : decode cX1_numberInForce 4 = .ok (.iconst 1, 1) := by decide +kernel
theorem dX1_numberInForce_5 : decode cX1_numberInForce 5 = .ok (.isub, 1) := by decide +kernel
theorem dX1_numberInForce_6 : decode cX1_numberInForce 6 = .ok (.istore 4, 2) := by decide +kernel
theorem dX1_numberInForce_8 : decode cX1_numberInForce 8 = .ok (.iload 4, 2) := by decide +kernel
theorem dX1_numberInForce_10 : decode cX1_numberInForce 10 = .ok (.ifCond .lt 53, 3) := by decide +kernel
theorem dX1_numberInForce_13 : decode cX1_numberInForce 13 = .ok (.aload_n 0, 1) := by decide +kernel
theorem dX1_numberInForce_14 : decode cX1_numberInForce 14 = .ok (.getfield 17, 3) := by decide +kernel
theorem dX1_numberInForce_17 : decode cX1_numberInForce 17 = .ok (.iload 4, 2) := by decide +kernel
theorem dX1_numberInForce_19 : decode cX1_numberInForce 19 = .ok (.aaload, 1) := by decide +kernel
theorem dX1_numberInForce_20 : decode cX1_numberInForce 20 = .ok (.astore 5, 2) := by decide +kernel
theorem dX1_numberInForce_22 : decode cX1_numberInForce 22 = .ok (.aload 5, 2) := by decide +kernel
theorem dX1_numberInForce_24 : decode cX1_numberInForce 24 = .ok (.ifnull 33, 3) := by decide +kernel
theorem dX1_numberInForce_27 : decode cX1_numberInForce 27 = .ok (.aload 5, 2) := by decide +kernel
theorem dX1_numberInForce_29 : decode cX1_numberInForce 29 = .ok (.getfield 51, 3) := by decide +kernel
theorem dX1_numberInForce_32 : decode cX1_numberInForce 32 = .ok (.iload_n 1, 1) := by decide +kernel
theorem dX1_numberInForce_33 : decode cX1_numberInForce 33 = .ok (.if_icmp .ne 24, 3) := by decide +kernel
theorem dX1_numberInForce_36 : decode cX1_numberInForce 36 = .ok (.aload 5, 2) := by decide +kernel
theorem dX1_numberInForce_38 : decode cX1_numberInForce 38 = .ok (.getfield 54, 3) := by decide +kernel
theorem dX1_numberInForce_41 : decode cX1_numberInForce 41 = .ok (.iload_n 3, 1) := by decide +kernel
theorem dX1_numberInForce_42 : decode cX1_numberInForce 42 = .ok (.if_icmp .gt 15, 3) := by decide +kernel
theorem dX1_numberInForce_45 : decode cX1_numberInForce 45 = .ok (.aload 5, 2) := by decide +kernel
theorem dX1_numberInForce_47 : decode cX1_numberInForce 47 = .ok (.getfield 57, 3) := by decide +kernel
theorem dX1_numberInForce_50 : decode cX1_numberInForce 50 = .ok (.iload_n 2, 1) := by decide +kernel
theorem dX1_numberInForce_51 : decode cX1_numberInForce 51 = .ok (.if_icmp .gt 6, 3) := by decide +kernel
theorem dX1_numberInForce_54 : decode cX1_numberInForce 54 = .ok (.iload 4, 2) := by decide +kernel
theorem dX1_numberInForce_56 : decode cX1_numberInForce 56 = .ok (.ireturn, 1) := by decide +kernel
theorem dX1_numberInForce_57 : decode cX1_numberInForce 57 = .ok (.iinc 4 (-1), 3) := by decide +kernel
theorem dX1_numberInForce_60 : decode cX1_numberInForce 60 = .ok (.goto (-52), 3) := by decide +kernel
theorem dX1_numberInForce_63 : decode cX1_numberInForce 63 = .ok (.iconst (-1), 1) := by decide +kernel
theorem dX1_numberInForce_64 : decode cX1_numberInForce 64 = .ok (.ireturn, 1) := by decide +kernel
theorem dX1_findInForce_0 : decode cX1_findInForce 0 = .ok (.aload_n 0, 1) := by decide +kernel
theorem dX1_findInForce_1 : decode cX1_findInForce 1 = .ok (.iload_n 1, 1) := by decide +kernel
theorem dX1_findInForce_2 : decode cX1_findInForce 2 = .ok (.iload_n 2, 1) := by decide +kernel
theorem dX1_findInForce_3 : decode cX1_findInForce 3 = .ok (.iload_n 3, 1) := by decide +kernel
theorem dX1_findInForce_4 : decode cX1_findInForce 4 = .ok (.invokevirtual 60, 3) := by decide +kernel
theorem dX1_findInForce_7 : decode cX1_findInForce 7 = .ok (.istore 4, 2) := by decide +kernel
theorem dX1_findInForce_9 : decode cX1_findInForce 9 = .ok (.iload 4, 2) := by decide +kernel
theorem dX1_findInForce_11 : decode cX1_findInForce 11 = .ok (.iconst (-1), 1) := by decide +kernel
theorem dX1_findInForce_12 : decode cX1_findInForce 12 = .ok (.if_icmp .ne 7, 3) := by decide +kernel
theorem dX1_findInForce_15 : decode cX1_findInForce 15 = .ok (.aconst_null, 1) := by decide +kernel
theorem dX1_findInForce_16 : decode cX1_findInForce 16 = .ok (.goto 10, 3) := by decide +kernel
theorem dX1_findInForce_19 : decode cX1_findInForce 19 = .ok (.aload_n 0, 1) := by decide +kernel
theorem dX1_findInForce_20 : decode cX1_findInForce 20 = .ok (.getfield 17, 3) := by decide +kernel
theorem dX1_findInForce_23 : decode cX1_findInForce 23 = .ok (.iload 4, 2) := by decide +kernel
theorem dX1_findInForce_25 : decode cX1_findInForce 25 = .ok (.aaload, 1) := by decide +kernel
theorem dX1_findInForce_26 : decode cX1_findInForce 26 = .ok (.areturn, 1) := by decide +kernel
theorem dX1_givePart_0 : decode cX1_givePart 0 = .ok (.aload_n 1, 1) := by decide +kernel
theorem dX1_givePart_1 : decode cX1_givePart 1 = .ok (.ifnonnull 5, 3) := by decide +kernel
theorem dX1_givePart_4 : decode cX1_givePart 4 = .ok (.iconst 0, 1) := by decide +kernel
theorem dX1_givePart_5 : decode cX1_givePart 5 = .ok (.ireturn, 1) := by decide +kernel
theorem dX1_givePart_6 : decode cX1_givePart 6 = .ok (.aload_n 0, 1) := by decide +kernel
theorem dX1_givePart_7 : decode cX1_givePart 7 = .ok (.getfield 24, 3) := by decide +kernel
theorem dX1_givePart_10 : decode cX1_givePart 10 = .ok (.getfield 64, 3) := by decide +kernel
theorem dX1_givePart_13 : decode cX1_givePart 13 = .ok (.astore 5, 2) := by decide +kernel
theorem dX1_givePart_15 : decode cX1_givePart 15 = .ok (.aload 5, 2) := by decide +kernel
theorem dX1_givePart_17 : decode cX1_givePart 17 = .ok (.iconst 0, 1) := by decide +kernel
theorem dX1_givePart_18 : decode cX1_givePart 18 = .ok (.iload_n 3, 1) := by decide +kernel
theorem dX1_givePart_19 : decode cX1_givePart 19 = .ok (.ifCond .eq 10, 3) := by decide +kernel
theorem dX1_givePart_22 : decode cX1_givePart 22 = .ok (.aload_n 2, 1) := by decide +kernel
theorem dX1_givePart_23 : decode cX1_givePart 23 = .ok (.getfield 68, 3) := by decide +kernel
theorem dX1_givePart_26 : decode cX1_givePart 26 = .ok (.goto 7, 3) := by decide +kernel
theorem dX1_givePart_29 : decode cX1_givePart 29 = .ok (.aload_n 2, 1) := by decide +kernel
theorem dX1_givePart_30 : decode cX1_givePart 30 = .ok (.getfield 73, 3) := by decide +kernel
theorem dX1_givePart_33 : decode cX1_givePart 33 = .ok (.iastore, 1) := by decide +kernel
theorem dX1_givePart_34 : decode cX1_givePart 34 = .ok (.aload 5, 2) := by decide +kernel
theorem dX1_givePart_36 : decode cX1_givePart 36 = .ok (.iconst 1, 1) := by decide +kernel
theorem dX1_givePart_37 : decode cX1_givePart 37 = .ok (.iload_n 3, 1) := by decide +kernel
theorem dX1_givePart_38 : decode cX1_givePart 38 = .ok (.ifCond .eq 10, 3) := by decide +kernel
theorem dX1_givePart_41 : decode cX1_givePart 41 = .ok (.aload_n 2, 1) := by decide +kernel
theorem dX1_givePart_42 : decode cX1_givePart 42 = .ok (.getfield 73, 3) := by decide +kernel
theorem dX1_givePart_45 : decode cX1_givePart 45 = .ok (.goto 7, 3) := by decide +kernel
theorem dX1_givePart_48 : decode cX1_givePart 48 = .ok (.aload_n 2, 1) := by decide +kernel
theorem dX1_givePart_49 : decode cX1_givePart 49 = .ok (.getfield 68, 3) := by decide +kernel
theorem dX1_givePart_52 : decode cX1_givePart 52 = .ok (.iastore, 1) := by decide +kernel
theorem dX1_givePart_53 : decode cX1_givePart 53 = .ok (.aload 5, 2) := by decide +kernel
theorem dX1_givePart_55 : decode cX1_givePart 55 = .ok (.iconst 2, 1) := by decide +kernel
theorem dX1_givePart_56 : decode cX1_givePart 56 = .ok (.aload_n 2, 1) := by decide +kernel
theorem dX1_givePart_57 : decode cX1_givePart 57 = .ok (.getfield 76, 3) := by decide +kernel
theorem dX1_givePart_60 : decode cX1_givePart 60 = .ok (.iastore, 1) := by decide +kernel
theorem dX1_givePart_61 : decode cX1_givePart 61 = .ok (.aload 5, 2) := by decide +kernel
theorem dX1_givePart_63 : decode cX1_givePart 63 = .ok (.iconst 3, 1) := by decide +kernel
theorem dX1_givePart_64 : decode cX1_givePart 64 = .ok (.iload_n 3, 1) := by decide +kernel
theorem dX1_givePart_65 : decode cX1_givePart 65 = .ok (.ifCond .eq 10, 3) := by decide +kernel
theorem dX1_givePart_68 : decode cX1_givePart 68 = .ok (.aload_n 2, 1) := by decide +kernel
theorem dX1_givePart_69 : decode cX1_givePart 69 = .ok (.getfield 79, 3) := by decide +kernel
theorem dX1_givePart_72 : decode cX1_givePart 72 = .ok (.goto 7, 3) := by decide +kernel
theorem dX1_givePart_75 : decode cX1_givePart 75 = .ok (.aload_n 2, 1) := by decide +kernel
theorem dX1_givePart_76 : decode cX1_givePart 76 = .ok (.getfield 82, 3) := by decide +kernel
theorem dX1_givePart_79 : decode cX1_givePart 79 = .ok (.iastore, 1) := by decide +kernel
theorem dX1_givePart_80 : decode cX1_givePart 80 = .ok (.aload 5, 2) := by decide +kernel
theorem dX1_givePart_82 : decode cX1_givePart 82 = .ok (.iconst 4, 1) := by decide +kernel
theorem dX1_givePart_83 : decode cX1_givePart 83 = .ok (.aload_n 2, 1) := by decide +kernel
theorem dX1_givePart_84 : decode cX1_givePart 84 = .ok (.invokevirtual 85, 3) := by decide +kernel
theorem dX1_givePart_87 : decode cX1_givePart 87 = .ok (.ifCond .eq 7, 3) := by decide +kernel
theorem dX1_givePart_90 : decode cX1_givePart 90 = .ok (.iconst 1, 1) := by decide +kernel
theorem dX1_givePart_91 : decode cX1_givePart 91 = .ok (.goto 4, 3) := by decide +kernel
theorem dX1_givePart_94 : decode cX1_givePart 94 = .ok (.iconst 0, 1) := by decide +kernel
theorem dX1_givePart_95 : decode cX1_givePart 95 = .ok (.iastore, 1) := by decide +kernel
theorem dX1_givePart_96 : decode cX1_givePart 96 = .ok (.aload 5, 2) := by decide +kernel
theorem dX1_givePart_98 : decode cX1_givePart 98 = .ok (.iconst 5, 1) := by decide +kernel
theorem dX1_givePart_99 : decode cX1_givePart 99 = .ok (.iload 4, 2) := by decide +kernel
theorem dX1_givePart_101 : decode cX1_givePart 101 = .ok (.sipush 365, 3) := by decide +kernel
theorem dX1_givePart_104 : decode cX1_givePart 104 = .ok (.idiv, 1) := by decide +kernel
theorem dX1_givePart_105 : decode cX1_givePart 105 = .ok (.iastore, 1) := by decide +kernel
theorem dX1_givePart_106 : decode cX1_givePart 106 = .ok (.aload_n 0, 1) := by decide +kernel
theorem dX1_givePart_107 : decode cX1_givePart 107 = .ok (.getfield 24, 3) := by decide +kernel
theorem dX1_givePart_110 : decode cX1_givePart 110 = .ok (.aload_n 1, 1) := by decide +kernel
theorem dX1_givePart_111 : decode cX1_givePart 111 = .ok (.getfield 89, 3) := by decide +kernel
theorem dX1_givePart_114 : decode cX1_givePart 114 = .ok (.aload_n 1, 1) := by decide +kernel
theorem dX1_givePart_115 : decode cX1_givePart 115 = .ok (.getfield 89, 3) := by decide +kernel
theorem dX1_givePart_118 : decode cX1_givePart 118 = .ok (.arraylength, 1) := by decide +kernel
theorem dX1_givePart_119 : decode cX1_givePart 119 = .ok (.iconst 0, 1) := by decide +kernel
theorem dX1_givePart_120 : decode cX1_givePart 120 = .ok (.invokevirtual 35, 3) := by decide +kernel
theorem dX1_givePart_123 : decode cX1_givePart 123 = .ok (.invokestatic 92, 3) := by decide +kernel
theorem dX1_givePart_126 : decode cX1_givePart 126 = .ok (.ireturn, 1) := by decide +kernel
theorem dX1_givePenalty_0 : decode cX1_givePenalty 0 = .ok (.aload_n 1, 1) := by decide +kernel
theorem dX1_givePenalty_1 : decode cX1_givePenalty 1 = .ok (.ifnonnull 5, 3) := by decide +kernel
theorem dX1_givePenalty_4 : decode cX1_givePenalty 4 = .ok (.iconst 0, 1) := by decide +kernel
theorem dX1_givePenalty_5 : decode cX1_givePenalty 5 = .ok (.ireturn, 1) := by decide +kernel
theorem dX1_givePenalty_6 : decode cX1_givePenalty 6 = .ok (.aload_n 2, 1) := by decide +kernel
theorem dX1_givePenalty_7 : decode cX1_givePenalty 7 = .ok (.iload_n 3, 1) := by decide +kernel
theorem dX1_givePenalty_8 : decode cX1_givePenalty 8 = .ok (.invokevirtual 96, 3) := by decide +kernel
theorem dX1_givePenalty_11 : decode cX1_givePenalty 11 = .ok (.istore 5, 2) := by decide +kernel
theorem dX1_givePenalty_13 : decode cX1_givePenalty 13 = .ok (.aload_n 0, 1) := by decide +kernel
theorem dX1_givePenalty_14 : decode cX1_givePenalty 14 = .ok (.getfield 24, 3) := by decide +kernel
theorem dX1_givePenalty_17 : decode cX1_givePenalty 17 = .ok (.getfield 64, 3) := by decide +kernel
theorem dX1_givePenalty_20 : decode cX1_givePenalty 20 = .ok (.astore 6, 2) := by decide +kernel
theorem dX1_givePenalty_22 : decode cX1_givePenalty 22 = .ok (.aload 6, 2) := by decide +kernel
theorem dX1_givePenalty_24 : decode cX1_givePenalty 24 = .ok (.iconst 0, 1) := by decide +kernel
theorem dX1_givePenalty_25 : decode cX1_givePenalty 25 = .ok (.iload 5, 2) := by decide +kernel
theorem dX1_givePenalty_27 : decode cX1_givePenalty 27 = .ok (.iastore, 1) := by decide +kernel
theorem dX1_givePenalty_28 : decode cX1_givePenalty 28 = .ok (.aload 6, 2) := by decide +kernel
theorem dX1_givePenalty_30 : decode cX1_givePenalty 30 = .ok (.iconst 1, 1) := by decide +kernel
theorem dX1_givePenalty_31 : decode cX1_givePenalty 31 = .ok (.iconst 0, 1) := by decide +kernel
theorem dX1_givePenalty_32 : decode cX1_givePenalty 32 = .ok (.iload 5, 2) := by decide +kernel
theorem dX1_givePenalty_34 : decode cX1_givePenalty 34 = .ok (.aload_n 2, 1) := by decide +kernel
theorem dX1_givePenalty_35 : decode cX1_givePenalty 35 = .ok (.getfield 101, 3) := by decide +kernel
theorem dX1_givePenalty_38 : decode cX1_givePenalty 38 = .ok (.isub, 1) := by decide +kernel
theorem dX1_givePenalty_39 : decode cX1_givePenalty 39 = .ok (.invokestatic 104, 3) := by decide +kernel
theorem dX1_givePenalty_42 : decode cX1_givePenalty 42 = .ok (.iastore, 1) := by decide +kernel
theorem dX1_givePenalty_43 : decode cX1_givePenalty 43 = .ok (.aload 6, 2) := by decide +kernel
theorem dX1_givePenalty_45 : decode cX1_givePenalty 45 = .ok (.iconst 2, 1) := by decide +kernel
theorem dX1_givePenalty_46 : decode cX1_givePenalty 46 = .ok (.aload_n 2, 1) := by decide +kernel
theorem dX1_givePenalty_47 : decode cX1_givePenalty 47 = .ok (.getfield 110, 3) := by decide +kernel
theorem dX1_givePenalty_50 : decode cX1_givePenalty 50 = .ok (.iastore, 1) := by decide +kernel
theorem dX1_givePenalty_51 : decode cX1_givePenalty 51 = .ok (.aload 6, 2) := by decide +kernel
theorem dX1_givePenalty_53 : decode cX1_givePenalty 53 = .ok (.iconst 3, 1) := by decide +kernel
theorem dX1_givePenalty_54 : decode cX1_givePenalty 54 = .ok (.aload_n 2, 1) := by decide +kernel
theorem dX1_givePenalty_55 : decode cX1_givePenalty 55 = .ok (.getfield 113, 3) := by decide +kernel
theorem dX1_givePenalty_58 : decode cX1_givePenalty 58 = .ok (.iastore, 1) := by decide +kernel
theorem dX1_givePenalty_59 : decode cX1_givePenalty 59 = .ok (.aload 6, 2) := by decide +kernel
theorem dX1_givePenalty_61 : decode cX1_givePenalty 61 = .ok (.iconst 4, 1) := by decide +kernel
theorem dX1_givePenalty_62 : decode cX1_givePenalty 62 = .ok (.iload 4, 2) := by decide +kernel
theorem dX1_givePenalty_64 : decode cX1_givePenalty 64 = .ok (.iastore, 1) := by decide +kernel
theorem dX1_givePenalty_65 : decode cX1_givePenalty 65 = .ok (.aload_n 0, 1) := by decide +kernel
theorem dX1_givePenalty_66 : decode cX1_givePenalty 66 = .ok (.getfield 24, 3) := by decide +kernel
theorem dX1_givePenalty_69 : decode cX1_givePenalty 69 = .ok (.aload_n 1, 1) := by decide +kernel
theorem dX1_givePenalty_70 : decode cX1_givePenalty 70 = .ok (.getfield 89, 3) := by decide +kernel
theorem dX1_givePenalty_73 : decode cX1_givePenalty 73 = .ok (.aload_n 1, 1) := by decide +kernel
theorem dX1_givePenalty_74 : decode cX1_givePenalty 74 = .ok (.getfield 89, 3) := by decide +kernel
theorem dX1_givePenalty_77 : decode cX1_givePenalty 77 = .ok (.arraylength, 1) := by decide +kernel
theorem dX1_givePenalty_78 : decode cX1_givePenalty 78 = .ok (.iconst 1, 1) := by decide +kernel
theorem dX1_givePenalty_79 : decode cX1_givePenalty 79 = .ok (.invokevirtual 35, 3) := by decide +kernel
theorem dX1_givePenalty_82 : decode cX1_givePenalty 82 = .ok (.invokestatic 92, 3) := by decide +kernel
theorem dX1_givePenalty_85 : decode cX1_givePenalty 85 = .ok (.ireturn, 1) := by decide +kernel
theorem dX1_keepWithin_0 : decode cX1_keepWithin 0 = .ok (.iconst 0, 1) := by decide +kernel
theorem dX1_keepWithin_1 : decode cX1_keepWithin 1 = .ok (.ldc 116, 2) := by decide +kernel
theorem dX1_keepWithin_3 : decode cX1_keepWithin 3 = .ok (.iload_n 0, 1) := by decide +kernel
theorem dX1_keepWithin_4 : decode cX1_keepWithin 4 = .ok (.invokestatic 117, 3) := by decide +kernel
theorem dX1_keepWithin_7 : decode cX1_keepWithin 7 = .ok (.invokestatic 104, 3) := by decide +kernel
theorem dX1_keepWithin_10 : decode cX1_keepWithin 10 = .ok (.ireturn, 1) := by decide +kernel
theorem dX2_init_0 : decode cX2_init 0 = .ok (.aload_n 0, 1) := by decide +kernel
theorem dX2_init_1 : decode cX2_init 1 = .ok (.invokespecial 3, 3) := by decide +kernel
theorem dX2_init_4 : decode cX2_init 4 = .ok (.aload_n 0, 1) := by decide +kernel
theorem dX2_init_5 : decode cX2_init 5 = .ok (.sipush 144, 3) := by decide +kernel
theorem dX2_init_8 : decode cX2_init 8 = .ok (.newarray .int, 2) := by decide +kernel
theorem dX2_init_10 : decode cX2_init 10 = .ok (.putfield 9, 3) := by decide +kernel
theorem dX2_init_13 : decode cX2_init 13 = .ok (.aload_n 0, 1) := by decide +kernel
theorem dX2_init_14 : decode cX2_init 14 = .ok (.sipush 144, 3) := by decide +kernel
theorem dX2_init_17 : decode cX2_init 17 = .ok (.newarray .int, 2) := by decide +kernel
theorem dX2_init_19 : decode cX2_init 19 = .ok (.putfield 15, 3) := by decide +kernel
theorem dX2_init_22 : decode cX2_init 22 = .ok (.return_, 1) := by decide +kernel
theorem dX2_countStanding_0 : decode cX2_countStanding 0 = .ok (.aload_n 0, 1) := by decide +kernel
theorem dX2_countStanding_1 : decode cX2_countStanding 1 = .ok (.aload_n 1, 1) := by decide +kernel
theorem dX2_countStanding_2 : decode cX2_countStanding 2 = .ok (.invokevirtual 18, 3) := by decide +kernel
theorem dX2_countStanding_5 : decode cX2_countStanding 5 = .ok (.iconst 0, 1) := by decide +kernel
theorem dX2_countStanding_6 : decode cX2_countStanding 6 = .ok (.istore_n 2, 1) := by decide +kernel
theorem dX2_countStanding_7 : decode cX2_countStanding 7 = .ok (.iconst 0, 1) := by decide +kernel
theorem dX2_countStanding_8 : decode cX2_countStanding 8 = .ok (.istore_n 3, 1) := by decide +kernel
theorem dX2_countStanding_9 : decode cX2_countStanding 9 = .ok (.iload_n 3, 1) := by decide +kernel
theorem dX2_countStanding_10 : decode cX2_countStanding 10 = .ok (.aload_n 1, 1) := by decide +kernel
theorem dX2_countStanding_11 : decode cX2_countStanding 11 = .ok (.getfield 22, 3) := by decide +kernel
theorem dX2_countStanding_14 : decode cX2_countStanding 14 = .ok (.arraylength, 1) := by decide +kernel
theorem dX2_countStanding_15 : decode cX2_countStanding 15 = .ok (.if_icmp .ge 26, 3) := by decide +kernel
theorem dX2_countStanding_18 : decode cX2_countStanding 18 = .ok (.aload_n 1, 1) := by decide +kernel
theorem dX2_countStanding_19 : decode cX2_countStanding 19 = .ok (.getfield 27, 3) := by decide +kernel
theorem dX2_countStanding_22 : decode cX2_countStanding 22 = .ok (.aload_n 0, 1) := by decide +kernel
theorem dX2_countStanding_23 : decode cX2_countStanding 23 = .ok (.getfield 9, 3) := by decide +kernel
theorem dX2_countStanding_26 : decode cX2_countStanding 26 = .ok (.iload_n 3, 1) := by decide +kernel
theorem dX2_countStanding_27 : decode cX2_countStanding 27 = .ok (.iaload, 1) := by decide +kernel
theorem dX2_countStanding_28 : decode cX2_countStanding 28 = .ok (.iaload, 1) := by decide +kernel
theorem dX2_countStanding_29 : decode cX2_countStanding 29 = .ok (.ifCond .ne 6, 3) := by decide +kernel
theorem dX2_countStanding_32 : decode cX2_countStanding 32 = .ok (.iinc 2 1, 3) := by decide +kernel
theorem dX2_countStanding_35 : decode cX2_countStanding 35 = .ok (.iinc 3 1, 3) := by decide +kernel
theorem dX2_countStanding_38 : decode cX2_countStanding 38 = .ok (.goto (-29), 3) := by decide +kernel
theorem dX2_countStanding_41 : decode cX2_countStanding 41 = .ok (.iload_n 2, 1) := by decide +kernel
theorem dX2_countStanding_42 : decode cX2_countStanding 42 = .ok (.ireturn, 1) := by decide +kernel
theorem dX2_countMost_0 : decode cX2_countMost 0 = .ok (.aload_n 0, 1) := by decide +kernel
theorem dX2_countMost_1 : decode cX2_countMost 1 = .ok (.aload_n 1, 1) := by decide +kernel
theorem dX2_countMost_2 : decode cX2_countMost 2 = .ok (.invokevirtual 18, 3) := by decide +kernel
theorem dX2_countMost_5 : decode cX2_countMost 5 = .ok (.aload_n 0, 1) := by decide +kernel
theorem dX2_countMost_6 : decode cX2_countMost 6 = .ok (.getfield 15, 3) := by decide +kernel
theorem dX2_countMost_9 : decode cX2_countMost 9 = .ok (.iconst 0, 1) := by decide +kernel
theorem dX2_countMost_10 : decode cX2_countMost 10 = .ok (.invokestatic 30, 3) := by decide +kernel
theorem dX2_countMost_13 : decode cX2_countMost 13 = .ok (.iconst 0, 1) := by decide +kernel
theorem dX2_countMost_14 : decode cX2_countMost 14 = .ok (.istore_n 2, 1) := by decide +kernel
theorem dX2_countMost_15 : decode cX2_countMost 15 = .ok (.iconst 0, 1) := by decide +kernel
theorem dX2_countMost_16 : decode cX2_countMost 16 = .ok (.istore_n 3, 1) := by decide +kernel
theorem dX2_countMost_17 : decode cX2_countMost 17 = .ok (.iload_n 3, 1) := by decide +kernel
theorem dX2_countMost_18 : decode cX2_countMost 18 = .ok (.aload_n 1, 1) := by decide +kernel
theorem dX2_countMost_19 : decode cX2_countMost 19 = .ok (.getfield 22, 3) := by decide +kernel
theorem dX2_countMost_22 : decode cX2_countMost 22 = .ok (.arraylength, 1) := by decide +kernel
theorem dX2_countMost_23 : decode cX2_countMost 23 = .ok (.if_icmp .ge 40, 3) := by decide +kernel
theorem dX2_countMost_26 : decode cX2_countMost 26 = .ok (.aload_n 0, 1) := by decide +kernel
theorem dX2_countMost_27 : decode cX2_countMost 27 = .ok (.getfield 15, 3) := by decide +kernel
theorem dX2_countMost_30 : decode cX2_countMost 30 = .ok (.aload_n 0, 1) := by decide +kernel
theorem dX2_countMost_31 : decode cX2_countMost 31 = .ok (.getfield 9, 3) := by decide +kernel
theorem dX2_countMost_34 : decode cX2_countMost 34 = .ok (.iload_n 3, 1) := by decide +kernel
theorem dX2_countMost_35 : decode cX2_countMost 35 = .ok (.iaload, 1) := by decide +kernel
theorem dX2_countMost_36 : decode cX2_countMost 36 = .ok (.dup2, 1) := by decide +kernel
theorem dX2_countMost_37 : decode cX2_countMost 37 = .ok (.iaload, 1) := by decide +kernel
theorem dX2_countMost_38 : decode cX2_countMost 38 = .ok (.iconst 1, 1) := by decide +kernel
theorem dX2_countMost_39 : decode cX2_countMost 39 = .ok (.iadd, 1) := by decide +kernel
theorem dX2_countMost_40 : decode cX2_countMost 40 = .ok (.iastore, 1) := by decide +kernel
theorem dX2_countMost_41 : decode cX2_countMost 41 = .ok (.iload_n 2, 1) := by decide +kernel
theorem dX2_countMost_42 : decode cX2_countMost 42 = .ok (.aload_n 0, 1) := by decide +kernel
theorem dX2_countMost_43 : decode cX2_countMost 43 = .ok (.getfield 15, 3) := by decide +kernel
theorem dX2_countMost_46 : decode cX2_countMost 46 = .ok (.aload_n 0, 1) := by decide +kernel
theorem dX2_countMost_47 : decode cX2_countMost 47 = .ok (.getfield 9, 3) := by decide +kernel
theorem dX2_countMost_50 : decode cX2_countMost 50 = .ok (.iload_n 3, 1) := by decide +kernel
theorem dX2_countMost_51 : decode cX2_countMost 51 = .ok (.iaload, 1) := by decide +kernel
theorem dX2_countMost_52 : decode cX2_countMost 52 = .ok (.iaload, 1) := by decide +kernel
theorem dX2_countMost_53 : decode cX2_countMost 53 = .ok (.invokestatic 36, 3) := by decide +kernel
theorem dX2_countMost_56 : decode cX2_countMost 56 = .ok (.istore_n 2, 1) := by decide +kernel
theorem dX2_countMost_57 : decode cX2_countMost 57 = .ok (.iinc 3 1, 3) := by decide +kernel
theorem dX2_countMost_60 : decode cX2_countMost 60 = .ok (.goto (-43), 3) := by decide +kernel
theorem dX2_countMost_63 : decode cX2_countMost 63 = .ok (.iload_n 2, 1) := by decide +kernel
theorem dX2_countMost_64 : decode cX2_countMost 64 = .ok (.ireturn, 1) := by decide +kernel
theorem dX2_findEnds_0 : decode cX2_findEnds 0 = .ok (.iconst 0, 1) := by decide +kernel
theorem dX2_findEnds_1 : decode cX2_findEnds 1 = .ok (.istore_n 2, 1) := by decide +kernel
theorem dX2_findEnds_2 : decode cX2_findEnds 2 = .ok (.iload_n 2, 1) := by decide +kernel
theorem dX2_findEnds_3 : decode cX2_findEnds 3 = .ok (.aload_n 1, 1) := by decide +kernel
theorem dX2_findEnds_4 : decode cX2_findEnds 4 = .ok (.getfield 22, 3) := by decide +kernel
theorem dX2_findEnds_7 : decode cX2_findEnds 7 = .ok (.arraylength, 1) := by decide +kernel
theorem dX2_findEnds_8 : decode cX2_findEnds 8 = .ok (.if_icmp .ge 20, 3) := by decide +kernel
theorem dX2_findEnds_11 : decode cX2_findEnds 11 = .ok (.aload_n 0, 1) := by decide +kernel
theorem dX2_findEnds_12 : decode cX2_findEnds 12 = .ok (.getfield 9, 3) := by decide +kernel
theorem dX2_findEnds_15 : decode cX2_findEnds 15 = .ok (.iload_n 2, 1) := by decide +kernel
theorem dX2_findEnds_16 : decode cX2_findEnds 16 = .ok (.aload_n 1, 1) := by decide +kernel
theorem dX2_findEnds_17 : decode cX2_findEnds 17 = .ok (.iload_n 2, 1) := by decide +kernel
theorem dX2_findEnds_18 : decode cX2_findEnds 18 = .ok (.invokevirtual 42, 3) := by decide +kernel
theorem dX2_findEnds_21 : decode cX2_findEnds 21 = .ok (.iastore, 1) := by decide +kernel
theorem dX2_findEnds_22 : decode cX2_findEnds 22 = .ok (.iinc 2 1, 3) := by decide +kernel
theorem dX2_findEnds_25 : decode cX2_findEnds 25 = .ok (.goto (-23), 3) := by decide +kernel
theorem dX2_findEnds_28 : decode cX2_findEnds 28 = .ok (.iconst 1, 1) := by decide +kernel
theorem dX2_findEnds_29 : decode cX2_findEnds 29 = .ok (.istore_n 2, 1) := by decide +kernel
theorem dX2_findEnds_30 : decode cX2_findEnds 30 = .ok (.iload_n 2, 1) := by decide +kernel
theorem dX2_findEnds_31 : decode cX2_findEnds 31 = .ok (.sipush 144, 3) := by decide +kernel
theorem dX2_findEnds_34 : decode cX2_findEnds 34 = .ok (.if_icmp .ge 44, 3) := by decide +kernel
theorem dX2_findEnds_37 : decode cX2_findEnds 37 = .ok (.iconst 0, 1) := by decide +kernel
theorem dX2_findEnds_38 : decode cX2_findEnds 38 = .ok (.istore_n 3, 1) := by decide +kernel
theorem dX2_findEnds_39 : decode cX2_findEnds 39 = .ok (.iload_n 3, 1) := by decide +kernel
theorem dX2_findEnds_40 : decode cX2_findEnds 40 = .ok (.aload_n 1, 1) := by decide +kernel
theorem dX2_findEnds_41 : decode cX2_findEnds 41 = .ok (.getfield 22, 3) := by decide +kernel
theorem dX2_findEnds_44 : decode cX2_findEnds 44 = .ok (.arraylength, 1) := by decide +kernel
theorem dX2_findEnds_45 : decode cX2_findEnds 45 = .ok (.if_icmp .ge 26, 3) := by decide +kernel
theorem dX2_findEnds_48 : decode cX2_findEnds 48 = .ok (.aload_n 0, 1) := by decide +kernel
theorem dX2_findEnds_49 : decode cX2_findEnds 49 = .ok (.getfield 9, 3) := by decide +kernel
theorem dX2_findEnds_52 : decode cX2_findEnds 52 = .ok (.iload_n 3, 1) := by decide +kernel
theorem dX2_findEnds_53 : decode cX2_findEnds 53 = .ok (.aload_n 0, 1) := by decide +kernel
theorem dX2_findEnds_54 : decode cX2_findEnds 54 = .ok (.getfield 9, 3) := by decide +kernel
theorem dX2_findEnds_57 : decode cX2_findEnds 57 = .ok (.aload_n 0, 1) := by decide +kernel
theorem dX2_findEnds_58 : decode cX2_findEnds 58 = .ok (.getfield 9, 3) := by decide +kernel
theorem dX2_findEnds_61 : decode cX2_findEnds 61 = .ok (.iload_n 3, 1) := by decide +kernel
theorem dX2_findEnds_62 : decode cX2_findEnds 62 = .ok (.iaload, 1) := by decide +kernel
theorem dX2_findEnds_63 : decode cX2_findEnds 63 = .ok (.iaload, 1) := by decide +kernel
theorem dX2_findEnds_64 : decode cX2_findEnds 64 = .ok (.iastore, 1) := by decide +kernel
theorem dX2_findEnds_65 : decode cX2_findEnds 65 = .ok (.iinc 3 1, 3) := by decide +kernel
theorem dX2_findEnds_68 : decode cX2_findEnds 68 = .ok (.goto (-29), 3) := by decide +kernel
theorem dX2_findEnds_71 : decode cX2_findEnds 71 = .ok (.iload_n 2, 1) := by decide +kernel
theorem dX2_findEnds_72 : decode cX2_findEnds 72 = .ok (.iconst 2, 1) := by decide +kernel
theorem dX2_findEnds_73 : decode cX2_findEnds 73 = .ok (.imul, 1) := by decide +kernel
theorem dX2_findEnds_74 : decode cX2_findEnds 74 = .ok (.istore_n 2, 1) := by decide +kernel
theorem dX2_findEnds_75 : decode cX2_findEnds 75 = .ok (.goto (-45), 3) := by decide +kernel
theorem dX2_findEnds_78 : decode cX2_findEnds 78 = .ok (.return_, 1) := by decide +kernel
theorem dX3_init_0 : decode cX3_init 0 = .ok (.aload_n 0, 1) := by decide +kernel
theorem dX3_init_1 : decode cX3_init 1 = .ok (.invokespecial 3, 3) := by decide +kernel
theorem dX3_init_4 : decode cX3_init 4 = .ok (.aload_n 0, 1) := by decide +kernel
theorem dX3_init_5 : decode cX3_init 5 = .ok (.iload_n 1, 1) := by decide +kernel
theorem dX3_init_6 : decode cX3_init 6 = .ok (.bipush 100, 2) := by decide +kernel
theorem dX3_init_8 : decode cX3_init 8 = .ok (.idiv, 1) := by decide +kernel
theorem dX3_init_9 : decode cX3_init 9 = .ok (.putfield 9, 3) := by decide +kernel
theorem dX3_init_12 : decode cX3_init 12 = .ok (.aload_n 0, 1) := by decide +kernel
theorem dX3_init_13 : decode cX3_init 13 = .ok (.iload_n 1, 1) := by decide +kernel
theorem dX3_init_14 : decode cX3_init 14 = .ok (.bipush 100, 2) := by decide +kernel
theorem dX3_init_16 : decode cX3_init 16 = .ok (.irem, 1) := by decide +kernel
theorem dX3_init_17 : decode cX3_init 17 = .ok (.putfield 15, 3) := by decide +kernel
theorem dX3_init_20 : decode cX3_init 20 = .ok (.aload_n 0, 1) := by decide +kernel
theorem dX3_init_21 : decode cX3_init 21 = .ok (.iload_n 2, 1) := by decide +kernel
theorem dX3_init_22 : decode cX3_init 22 = .ok (.iconst (-1), 1) := by decide +kernel
theorem dX3_init_23 : decode cX3_init 23 = .ok (.if_icmp .ne 7, 3) := by decide +kernel
theorem dX3_init_26 : decode cX3_init 26 = .ok (.iconst (-1), 1) := by decide +kernel
theorem dX3_init_27 : decode cX3_init 27 = .ok (.goto 7, 3) := by decide +kernel
theorem dX3_init_30 : decode cX3_init 30 = .ok (.iload_n 2, 1) := by decide +kernel
theorem dX3_init_31 : decode cX3_init 31 = .ok (.bipush 100, 2) := by decide +kernel
theorem dX3_init_33 : decode cX3_init 33 = .ok (.idiv, 1) := by decide +kernel
theorem dX3_init_34 : decode cX3_init 34 = .ok (.putfield 18, 3) := by decide +kernel
theorem dX3_init_37 : decode cX3_init 37 = .ok (.aload_n 0, 1) := by decide +kernel
theorem dX3_init_38 : decode cX3_init 38 = .ok (.iload_n 2, 1) := by decide +kernel
theorem dX3_init_39 : decode cX3_init 39 = .ok (.iconst (-1), 1) := by decide +kernel
theorem dX3_init_40 : decode cX3_init 40 = .ok (.if_icmp .ne 7, 3) := by decide +kernel
theorem dX3_init_43 : decode cX3_init 43 = .ok (.iconst 0, 1) := by decide +kernel
theorem dX3_init_44 : decode cX3_init 44 = .ok (.goto 7, 3) := by decide +kernel
theorem dX3_init_47 : decode cX3_init 47 = .ok (.iload_n 2, 1) := by decide +kernel
theorem dX3_init_48 : decode cX3_init 48 = .ok (.bipush 100, 2) := by decide +kernel
theorem dX3_init_50 : decode cX3_init 50 = .ok (.irem, 1) := by decide +kernel
theorem dX3_init_51 : decode cX3_init 51 = .ok (.putfield 21, 3) := by decide +kernel
theorem dX3_init_54 : decode cX3_init 54 = .ok (.aload_n 0, 1) := by decide +kernel
theorem dX3_init_55 : decode cX3_init 55 = .ok (.iload_n 3, 1) := by decide +kernel
theorem dX3_init_56 : decode cX3_init 56 = .ok (.putfield 24, 3) := by decide +kernel
theorem dX3_init_59 : decode cX3_init 59 = .ok (.return_, 1) := by decide +kernel
theorem dX3_isCorner_0 : decode cX3_isCorner 0 = .ok (.aload_n 0, 1) := by decide +kernel
theorem dX3_isCorner_1 : decode cX3_isCorner 1 = .ok (.getfield 18, 3) := by decide +kernel
theorem dX3_isCorner_4 : decode cX3_isCorner 4 = .ok (.iconst (-1), 1) := by decide +kernel
theorem dX3_isCorner_5 : decode cX3_isCorner 5 = .ok (.if_icmp .eq 7, 3) := by decide +kernel
theorem dX3_isCorner_8 : decode cX3_isCorner 8 = .ok (.iconst 1, 1) := by decide +kernel
theorem dX3_isCorner_9 : decode cX3_isCorner 9 = .ok (.goto 4, 3) := by decide +kernel
theorem dX3_isCorner_12 : decode cX3_isCorner 12 = .ok (.iconst 0, 1) := by decide +kernel
theorem dX3_isCorner_13 : decode cX3_isCorner 13 = .ok (.ireturn, 1) := by decide +kernel
theorem dX3_hasPartIn_0 : decode cX3_hasPartIn 0 = .ok (.aload_n 0, 1) := by decide +kernel
theorem dX3_hasPartIn_1 : decode cX3_hasPartIn 1 = .ok (.getfield 9, 3) := by decide +kernel
theorem dX3_hasPartIn_4 : decode cX3_hasPartIn 4 = .ok (.iload_n 1, 1) := by decide +kernel
theorem dX3_hasPartIn_5 : decode cX3_hasPartIn 5 = .ok (.if_icmp .eq 11, 3) := by decide +kernel
theorem dX3_hasPartIn_8 : decode cX3_hasPartIn 8 = .ok (.aload_n 0, 1) := by decide +kernel
theorem dX3_hasPartIn_9 : decode cX3_hasPartIn 9 = .ok (.getfield 18, 3) := by decide +kernel
theorem dX3_hasPartIn_12 : decode cX3_hasPartIn 12 = .ok (.iload_n 1, 1) := by decide +kernel
theorem dX3_hasPartIn_13 : decode cX3_hasPartIn 13 = .ok (.if_icmp .ne 7, 3) := by decide +kernel
theorem dX3_hasPartIn_16 : decode cX3_hasPartIn 16 = .ok (.iconst 1, 1) := by decide +kernel
theorem dX3_hasPartIn_17 : decode cX3_hasPartIn 17 = .ok (.goto 4, 3) := by decide +kernel
theorem dX3_hasPartIn_20 : decode cX3_hasPartIn 20 = .ok (.iconst 0, 1) := by decide +kernel
theorem dX3_hasPartIn_21 : decode cX3_hasPartIn 21 = .ok (.ireturn, 1) := by decide +kernel
theorem dX4_init_0 : decode cX4_init 0 = .ok (.aload_n 0, 1) := by decide +kernel
theorem dX4_init_1 : decode cX4_init 1 = .ok (.invokespecial 3, 3) := by decide +kernel
theorem dX4_init_4 : decode cX4_init 4 = .ok (.aload_n 0, 1) := by decide +kernel
theorem dX4_init_5 : decode cX4_init 5 = .ok (.sipush 900, 3) := by decide +kernel
theorem dX4_init_8 : decode cX4_init 8 = .ok (.newarray .int, 2) := by decide +kernel
theorem dX4_init_10 : decode cX4_init 10 = .ok (.putfield 11, 3) := by decide +kernel
theorem dX4_init_13 : decode cX4_init 13 = .ok (.aload_n 0, 1) := by decide +kernel
theorem dX4_init_14 : decode cX4_init 14 = .ok (.bipush 9, 2) := by decide +kernel
theorem dX4_init_16 : decode cX4_init 16 = .ok (.newarray .int, 2) := by decide +kernel
theorem dX4_init_18 : decode cX4_init 18 = .ok (.putfield 15, 3) := by decide +kernel
theorem dX4_init_21 : decode cX4_init 21 = .ok (.aload_n 0, 1) := by decide +kernel
theorem dX4_init_22 : decode cX4_init 22 = .ok (.bipush 9, 2) := by decide +kernel
theorem dX4_init_24 : decode cX4_init 24 = .ok (.newarray .int, 2) := by decide +kernel
theorem dX4_init_26 : decode cX4_init 26 = .ok (.putfield 18, 3) := by decide +kernel
theorem dX4_init_29 : decode cX4_init 29 = .ok (.return_, 1) := by decide +kernel
theorem dX4_levelRow_0 : decode cX4_levelRow 0 = .ok (.aload_n 0, 1) := by decide +kernel
theorem dX4_levelRow_1 : decode cX4_levelRow 1 = .ok (.iload_n 3, 1) := by decide +kernel
theorem dX4_levelRow_2 : decode cX4_levelRow 2 = .ok (.putfield 21, 3) := by decide +kernel
theorem dX4_levelRow_5 : decode cX4_levelRow 5 = .ok (.aload_n 0, 1) := by decide +kernel
theorem dX4_levelRow_6 : decode cX4_levelRow 6 = .ok (.iload 4, 2) := by decide +kernel
theorem dX4_levelRow_8 : decode cX4_levelRow 8 = .ok (.putfield 25, 3) := by decide +kernel
theorem dX4_levelRow_11 : decode cX4_levelRow 11 = .ok (.aload_n 0, 1) := by decide +kernel
theorem dX4_levelRow_12 : decode cX4_levelRow 12 = .ok (.iload 5, 2) := by decide +kernel
theorem dX4_levelRow_14 : decode cX4_levelRow 14 = .ok (.putfield 28, 3) := by decide +kernel
theorem dX4_levelRow_17 : decode cX4_levelRow 17 = .ok (.aload_n 1, 1) := by decide +kernel
theorem dX4_levelRow_18 : decode cX4_levelRow 18 = .ok (.getfield 31, 3) := by decide +kernel
theorem dX4_levelRow_21 : decode cX4_levelRow 21 = .ok (.iconst 1, 1) := by decide +kernel
theorem dX4_levelRow_22 : decode cX4_levelRow 22 = .ok (.isub, 1) := by decide +kernel
theorem dX4_levelRow_23 : decode cX4_levelRow 23 = .ok (.istore 6, 2) := by decide +kernel
theorem dX4_levelRow_25 : decode cX4_levelRow 25 = .ok (.iload 6, 2) := by decide +kernel
theorem dX4_levelRow_27 : decode cX4_levelRow 27 = .ok (.ifCond .lt 28, 3) := by decide +kernel
theorem dX4_levelRow_30 : decode cX4_levelRow 30 = .ok (.aload_n 0, 1) := by decide +kernel
theorem dX4_levelRow_31 : decode cX4_levelRow 31 = .ok (.aload_n 1, 1) := by decide +kernel
theorem dX4_levelRow_32 : decode cX4_levelRow 32 = .ok (.iload 6, 2) := by decide +kernel
theorem dX4_levelRow_34 : decode cX4_levelRow 34 = .ok (.aload_n 1, 1) := by decide +kernel
theorem dX4_levelRow_35 : decode cX4_levelRow 35 = .ok (.getfield 36, 3) := by decide +kernel
theorem dX4_levelRow_38 : decode cX4_levelRow 38 = .ok (.aload_n 1, 1) := by decide +kernel
theorem dX4_levelRow_39 : decode cX4_levelRow 39 = .ok (.iload_n 2, 1) := by decide +kernel
theorem dX4_levelRow_40 : decode cX4_levelRow 40 = .ok (.iload 6, 2) := by decide +kernel
theorem dX4_levelRow_42 : decode cX4_levelRow 42 = .ok (.invokevirtual 39, 3) := by decide +kernel
theorem dX4_levelRow_45 : decode cX4_levelRow 45 = .ok (.iaload, 1) := by decide +kernel
theorem dX4_levelRow_46 : decode cX4_levelRow 46 = .ok (.invokevirtual 43, 3) := by decide +kernel
theorem dX4_levelRow_49 : decode cX4_levelRow 49 = .ok (.iinc 6 (-1), 3) := by decide +kernel
theorem dX4_levelRow_52 : decode cX4_levelRow 52 = .ok (.goto (-27), 3) := by decide +kernel
theorem dX4_levelRow_55 : decode cX4_levelRow 55 = .ok (.aload_n 0, 1) := by decide +kernel
theorem dX4_levelRow_56 : decode cX4_levelRow 56 = .ok (.iconst 0, 1) := by decide +kernel
theorem dX4_levelRow_57 : decode cX4_levelRow 57 = .ok (.iconst 0, 1) := by decide +kernel
theorem dX4_levelRow_58 : decode cX4_levelRow 58 = .ok (.bipush 99, 2) := by decide +kernel
theorem dX4_levelRow_60 : decode cX4_levelRow 60 = .ok (.invokevirtual 47, 3) := by decide +kernel
theorem dX4_levelRow_63 : decode cX4_levelRow 63 = .ok (.istore 6, 2) := by decide +kernel
theorem dX4_levelRow_65 : decode cX4_levelRow 65 = .ok (.iload 6, 2) := by decide +kernel
theorem dX4_levelRow_67 : decode cX4_levelRow 67 = .ok (.iconst (-1), 1) := by decide +kernel
theorem dX4_levelRow_68 : decode cX4_levelRow 68 = .ok (.if_icmp .ne 6, 3) := by decide +kernel
theorem dX4_levelRow_71 : decode cX4_levelRow 71 = .ok (.bipush (-2), 2) := by decide +kernel
theorem dX4_levelRow_73 : decode cX4_levelRow 73 = .ok (.ireturn, 1) := by decide +kernel
theorem dX4_levelRow_74 : decode cX4_levelRow 74 = .ok (.aload_n 0, 1) := by decide +kernel
theorem dX4_levelRow_75 : decode cX4_levelRow 75 = .ok (.aload_n 1, 1) := by decide +kernel
theorem dX4_levelRow_76 : decode cX4_levelRow 76 = .ok (.putfield 51, 3) := by decide +kernel
theorem dX4_levelRow_79 : decode cX4_levelRow 79 = .ok (.aload_n 0, 1) := by decide +kernel
theorem dX4_levelRow_80 : decode cX4_levelRow 80 = .ok (.iload_n 2, 1) := by decide +kernel
theorem dX4_levelRow_81 : decode cX4_levelRow 81 = .ok (.putfield 55, 3) := by decide +kernel
theorem dX4_levelRow_84 : decode cX4_levelRow 84 = .ok (.aload_n 0, 1) := by decide +kernel
theorem dX4_levelRow_85 : decode cX4_levelRow 85 = .ok (.aload_n 0, 1) := by decide +kernel
theorem dX4_levelRow_86 : decode cX4_levelRow 86 = .ok (.getfield 11, 3) := by decide +kernel
theorem dX4_levelRow_89 : decode cX4_levelRow 89 = .ok (.iload 6, 2) := by decide +kernel
theorem dX4_levelRow_91 : decode cX4_levelRow 91 = .ok (.iaload, 1) := by decide +kernel
theorem dX4_levelRow_92 : decode cX4_levelRow 92 = .ok (.putfield 58, 3) := by decide +kernel
theorem dX4_levelRow_95 : decode cX4_levelRow 95 = .ok (.aload_n 0, 1) := by decide +kernel
theorem dX4_levelRow_96 : decode cX4_levelRow 96 = .ok (.aload_n 1, 1) := by decide +kernel
theorem dX4_levelRow_97 : decode cX4_levelRow 97 = .ok (.iload 6, 2) := by decide +kernel
theorem dX4_levelRow_99 : decode cX4_levelRow 99 = .ok (.invokevirtual 61, 3) := by decide +kernel
theorem dX4_levelRow_102 : decode cX4_levelRow 102 = .ok (.aload_n 0, 1) := by decide +kernel
theorem dX4_levelRow_103 : decode cX4_levelRow 103 = .ok (.getfield 58, 3) := by decide +kernel
theorem dX4_levelRow_106 : decode cX4_levelRow 106 = .ok (.ireturn, 1) := by decide +kernel
theorem dX4_weighColumn_0 : decode cX4_weighColumn 0 = .ok (.iconst 0, 1) := by decide +kernel
theorem dX4_weighColumn_1 : decode cX4_weighColumn 1 = .ok (.istore 4, 2) := by decide +kernel
theorem dX4_weighColumn_3 : decode cX4_weighColumn 3 = .ok (.iload 4, 2) := by decide +kernel
theorem dX4_weighColumn_5 : decode cX4_weighColumn 5 = .ok (.bipush 100, 2) := by decide +kernel
theorem dX4_weighColumn_7 : decode cX4_weighColumn 7 = .ok (.if_icmp .ge 95, 3) := by decide +kernel
theorem dX4_weighColumn_10 : decode cX4_weighColumn 10 = .ok (.iload 4, 2) := by decide +kernel
theorem dX4_weighColumn_12 : decode cX4_weighColumn 12 = .ok (.iload_n 3, 1) := by decide +kernel
theorem dX4_weighColumn_13 : decode cX4_weighColumn 13 = .ok (.isub, 1) := by decide +kernel
theorem dX4_weighColumn_14 : decode cX4_weighColumn 14 = .ok (.invokestatic 65, 3) := by decide +kernel
theorem dX4_weighColumn_17 : decode cX4_weighColumn 17 = .ok (.istore 5, 2) := by decide +kernel
theorem dX4_weighColumn_19 : decode cX4_weighColumn 19 = .ok (.iload_n 2, 1) := by decide +kernel
theorem dX4_weighColumn_20 : decode cX4_weighColumn 20 = .ok (.iconst 1, 1) := by decide +kernel
theorem dX4_weighColumn_21 : decode cX4_weighColumn 21 = .ok (.iadd, 1) := by decide +kernel
theorem dX4_weighColumn_22 : decode cX4_weighColumn 22 = .ok (.aload_n 1, 1) := by decide +kernel
theorem dX4_weighColumn_23 : decode cX4_weighColumn 23 = .ok (.getfield 31, 3) := by decide +kernel
theorem dX4_weighColumn_26 : decode cX4_weighColumn 26 = .ok (.if_icmp .ge 56, 3) := by decide +kernel
theorem dX4_weighColumn_29 : decode cX4_weighColumn 29 = .ok (.aload_n 0, 1) := by decide +kernel
theorem dX4_weighColumn_30 : decode cX4_weighColumn 30 = .ok (.iload_n 2, 1) := by decide +kernel
theorem dX4_weighColumn_31 : decode cX4_weighColumn 31 = .ok (.iconst 1, 1) := by decide +kernel
theorem dX4_weighColumn_32 : decode cX4_weighColumn 32 = .ok (.iadd, 1) := by decide +kernel
theorem dX4_weighColumn_33 : decode cX4_weighColumn 33 = .ok (.aload_n 0, 1) := by decide +kernel
theorem dX4_weighColumn_34 : decode cX4_weighColumn 34 = .ok (.iload_n 2, 1) := by decide +kernel
theorem dX4_weighColumn_35 : decode cX4_weighColumn 35 = .ok (.iload 4, 2) := by decide +kernel
theorem dX4_weighColumn_37 : decode cX4_weighColumn 37 = .ok (.invokevirtual 71, 3) := by decide +kernel
theorem dX4_weighColumn_40 : decode cX4_weighColumn 40 = .ok (.aload_n 0, 1) := by decide +kernel
theorem dX4_weighColumn_41 : decode cX4_weighColumn 41 = .ok (.iload_n 2, 1) := by decide +kernel
theorem dX4_weighColumn_42 : decode cX4_weighColumn 42 = .ok (.iload 4, 2) := by decide +kernel
theorem dX4_weighColumn_44 : decode cX4_weighColumn 44 = .ok (.invokevirtual 74, 3) := by decide +kernel
theorem dX4_weighColumn_47 : decode cX4_weighColumn 47 = .ok (.invokevirtual 47, 3) := by decide +kernel
theorem dX4_weighColumn_50 : decode cX4_weighColumn 50 = .ok (.istore 6, 2) := by decide +kernel
theorem dX4_weighColumn_52 : decode cX4_weighColumn 52 = .ok (.iload 6, 2) := by decide +kernel
theorem dX4_weighColumn_54 : decode cX4_weighColumn 54 = .ok (.iconst (-1), 1) := by decide +kernel
theorem dX4_weighColumn_55 : decode cX4_weighColumn 55 = .ok (.if_icmp .ne 8, 3) := by decide +kernel
theorem dX4_weighColumn_58 : decode cX4_weighColumn 58 = .ok (.ldc 77, 2) := by decide +kernel
theorem dX4_weighColumn_60 : decode cX4_weighColumn 60 = .ok (.goto 20, 3) := by decide +kernel
theorem dX4_weighColumn_63 : decode cX4_weighColumn 63 = .ok (.iload 5, 2) := by decide +kernel
theorem dX4_weighColumn_65 : decode cX4_weighColumn 65 = .ok (.aload_n 0, 1) := by decide +kernel
theorem dX4_weighColumn_66 : decode cX4_weighColumn 66 = .ok (.getfield 11, 3) := by decide +kernel
theorem dX4_weighColumn_69 : decode cX4_weighColumn 69 = .ok (.iload_n 2, 1) := by decide +kernel
theorem dX4_weighColumn_70 : decode cX4_weighColumn 70 = .ok (.iconst 1, 1) := by decide +kernel
theorem dX4_weighColumn_71 : decode cX4_weighColumn 71 = .ok (.iadd, 1) := by decide +kernel
theorem dX4_weighColumn_72 : decode cX4_weighColumn 72 = .ok (.bipush 100, 2) := by decide +kernel
theorem dX4_weighColumn_74 : decode cX4_weighColumn 74 = .ok (.imul, 1) := by decide +kernel
theorem dX4_weighColumn_75 : decode cX4_weighColumn 75 = .ok (.iload 6, 2) := by decide +kernel
theorem dX4_weighColumn_77 : decode cX4_weighColumn 77 = .ok (.iadd, 1) := by decide +kernel
theorem dX4_weighColumn_78 : decode cX4_weighColumn 78 = .ok (.iaload, 1) := by decide +kernel
theorem dX4_weighColumn_79 : decode cX4_weighColumn 79 = .ok (.iadd, 1) := by decide +kernel
theorem dX4_weighColumn_80 : decode cX4_weighColumn 80 = .ok (.istore 5, 2) := by decide +kernel
theorem dX4_weighColumn_82 : decode cX4_weighColumn 82 = .ok (.aload_n 0, 1) := by decide +kernel
theorem dX4_weighColumn_83 : decode cX4_weighColumn 83 = .ok (.getfield 11, 3) := by decide +kernel
theorem dX4_weighColumn_86 : decode cX4_weighColumn 86 = .ok (.iload_n 2, 1) := by decide +kernel
theorem dX4_weighColumn_87 : decode cX4_weighColumn 87 = .ok (.bipush 100, 2) := by decide +kernel
theorem dX4_weighColumn_89 : decode cX4_weighColumn 89 = .ok (.imul, 1) := by decide +kernel
theorem dX4_weighColumn_90 : decode cX4_weighColumn 90 = .ok (.iload 4, 2) := by decide +kernel
theorem dX4_weighColumn_92 : decode cX4_weighColumn 92 = .ok (.iadd, 1) := by decide +kernel
theorem dX4_weighColumn_93 : decode cX4_weighColumn 93 = .ok (.iload 5, 2) := by decide +kernel
theorem dX4_weighColumn_95 : decode cX4_weighColumn 95 = .ok (.iastore, 1) := by decide +kernel
theorem dX4_weighColumn_96 : decode cX4_weighColumn 96 = .ok (.iinc 4 1, 3) := by decide +kernel
theorem dX4_weighColumn_99 : decode cX4_weighColumn 99 = .ok (.goto (-96), 3) := by decide +kernel
theorem dX4_weighColumn_102 : decode cX4_weighColumn 102 = .ok (.return_, 1) := by decide +kernel
theorem dX4_lowestBehind_0 : decode cX4_lowestBehind 0 = .ok (.iload_n 1, 1) := by decide +kernel
theorem dX4_lowestBehind_1 : decode cX4_lowestBehind 1 = .ok (.aload_n 0, 1) := by decide +kernel
theorem dX4_lowestBehind_2 : decode cX4_lowestBehind 2 = .ok (.getfield 21, 3) := by decide +kernel
theorem dX4_lowestBehind_5 : decode cX4_lowestBehind 5 = .ok (.if_icmp .ge 12, 3) := by decide +kernel
theorem dX4_lowestBehind_8 : decode cX4_lowestBehind 8 = .ok (.iload_n 2, 1) := by decide +kernel
theorem dX4_lowestBehind_9 : decode cX4_lowestBehind 9 = .ok (.aload_n 0, 1) := by decide +kernel
theorem dX4_lowestBehind_10 : decode cX4_lowestBehind 10 = .ok (.getfield 28, 3) := by decide +kernel
theorem dX4_lowestBehind_13 : decode cX4_lowestBehind 13 = .ok (.isub, 1) := by decide +kernel
theorem dX4_lowestBehind_14 : decode cX4_lowestBehind 14 = .ok (.goto 9, 3) := by decide +kernel
theorem dX4_lowestBehind_17 : decode cX4_lowestBehind 17 = .ok (.iload_n 2, 1) := by decide +kernel
theorem dX4_lowestBehind_18 : decode cX4_lowestBehind 18 = .ok (.aload_n 0, 1) := by decide +kernel
theorem dX4_lowestBehind_19 : decode cX4_lowestBehind 19 = .ok (.getfield 25, 3) := by decide +kernel
theorem dX4_lowestBehind_22 : decode cX4_lowestBehind 22 = .ok (.iadd, 1) := by decide +kernel
theorem dX4_lowestBehind_23 : decode cX4_lowestBehind 23 = .ok (.ireturn, 1) := by decide +kernel
theorem dX4_highestBehind_0 : decode cX4_highestBehind 0 = .ok (.iload_n 1, 1) := by decide +kernel
theorem dX4_highestBehind_1 : decode cX4_highestBehind 1 = .ok (.aload_n 0, 1) := by decide +kernel
theorem dX4_highestBehind_2 : decode cX4_highestBehind 2 = .ok (.getfield 21, 3) := by decide +kernel
theorem dX4_highestBehind_5 : decode cX4_highestBehind 5 = .ok (.if_icmp .ge 12, 3) := by decide +kernel
theorem dX4_highestBehind_8 : decode cX4_highestBehind 8 = .ok (.iload_n 2, 1) := by decide +kernel
theorem dX4_highestBehind_9 : decode cX4_highestBehind 9 = .ok (.aload_n 0, 1) := by decide +kernel
theorem dX4_highestBehind_10 : decode cX4_highestBehind 10 = .ok (.getfield 25, 3) := by decide +kernel
theorem dX4_highestBehind_13 : decode cX4_highestBehind 13 = .ok (.isub, 1) := by decide +kernel
theorem dX4_highestBehind_14 : decode cX4_highestBehind 14 = .ok (.goto 9, 3) := by decide +kernel
theorem dX4_highestBehind_17 : decode cX4_highestBehind 17 = .ok (.iload_n 2, 1) := by decide +kernel
theorem dX4_highestBehind_18 : decode cX4_highestBehind 18 = .ok (.aload_n 0, 1) := by decide +kernel
theorem dX4_highestBehind_19 : decode cX4_highestBehind 19 = .ok (.getfield 28, 3) := by decide +kernel
theorem dX4_highestBehind_22 : decode cX4_highestBehind 22 = .ok (.iadd, 1) := by decide +kernel
theorem dX4_highestBehind_23 : decode cX4_highestBehind 23 = .ok (.ireturn, 1) := by decide +kernel
theorem dX4_bestHeight_0 : decode cX4_bestHeight 0 = .ok (.iconst (-1), 1) := by decide +kernel
theorem dX4_bestHeight_1 : decode cX4_bestHeight 1 = .ok (.istore 4, 2) := by decide +kernel
theorem dX4_bestHeight_3 : decode cX4_bestHeight 3 = .ok (.ldc 77, 2) := by decide +kernel
theorem dX4_bestHeight_5 : decode cX4_bestHeight 5 = .ok (.istore 5, 2) := by decide +kernel
theorem dX4_bestHeight_7 : decode cX4_bestHeight 7 = .ok (.iload_n 3, 1) := by decide +kernel
theorem dX4_bestHeight_8 : decode cX4_bestHeight 8 = .ok (.bipush 99, 2) := by decide +kernel
theorem dX4_bestHeight_10 : decode cX4_bestHeight 10 = .ok (.invokestatic 78, 3) := by decide +kernel
theorem dX4_bestHeight_13 : decode cX4_bestHeight 13 = .ok (.istore 6, 2) := by decide +kernel
theorem dX4_bestHeight_15 : decode cX4_bestHeight 15 = .ok (.iload_n 2, 1) := by decide +kernel
theorem dX4_bestHeight_16 : decode cX4_bestHeight 16 = .ok (.iconst 0, 1) := by decide +kernel
theorem dX4_bestHeight_17 : decode cX4_bestHeight 17 = .ok (.invokestatic 81, 3) := by decide +kernel
theorem dX4_bestHeight_20 : decode cX4_bestHeight 20 = .ok (.istore 7, 2) := by decide +kernel
theorem dX4_bestHeight_22 : decode cX4_bestHeight 22 = .ok (.iload 7, 2) := by decide +kernel
theorem dX4_bestHeight_24 : decode cX4_bestHeight 24 = .ok (.iload 6, 2) := by decide +kernel
theorem dX4_bestHeight_26 : decode cX4_bestHeight 26 = .ok (.if_icmp .gt 38, 3) := by decide +kernel
theorem dX4_bestHeight_29 : decode cX4_bestHeight 29 = .ok (.aload_n 0, 1) := by decide +kernel
theorem dX4_bestHeight_30 : decode cX4_bestHeight 30 = .ok (.getfield 11, 3) := by decide +kernel
theorem dX4_bestHeight_33 : decode cX4_bestHeight 33 = .ok (.iload_n 1, 1) := by decide +kernel
theorem dX4_bestHeight_34 : decode cX4_bestHeight 34 = .ok (.bipush 100, 2) := by decide +kernel
theorem dX4_bestHeight_36 : decode cX4_bestHeight 36 = .ok (.imul, 1) := by decide +kernel
theorem dX4_bestHeight_37 : decode cX4_bestHeight 37 = .ok (.iload 7, 2) := by decide +kernel
theorem dX4_bestHeight_39 : decode cX4_bestHeight 39 = .ok (.iadd, 1) := by decide +kernel
theorem dX4_bestHeight_40 : decode cX4_bestHeight 40 = .ok (.iaload, 1) := by decide +kernel
theorem dX4_bestHeight_41 : decode cX4_bestHeight 41 = .ok (.istore 8, 2) := by decide +kernel
theorem dX4_bestHeight_43 : decode cX4_bestHeight 43 = .ok (.iload 8, 2) := by decide +kernel
theorem dX4_bestHeight_45 : decode cX4_bestHeight 45 = .ok (.iload 5, 2) := by decide +kernel
theorem dX4_bestHeight_47 : decode cX4_bestHeight 47 = .ok (.if_icmp .ge 11, 3) := by decide +kernel
theorem dX4_bestHeight_50 : decode cX4_bestHeight 50 = .ok (.iload 7, 2) := by decide +kernel
theorem dX4_bestHeight_52 : decode cX4_bestHeight 52 = .ok (.istore 4, 2) := by decide +kernel
theorem dX4_bestHeight_54 : decode cX4_bestHeight 54 = .ok (.iload 8, 2) := by decide +kernel
theorem dX4_bestHeight_56 : decode cX4_bestHeight 56 = .ok (.istore 5, 2) := by decide +kernel
theorem dX4_bestHeight_58 : decode cX4_bestHeight 58 = .ok (.iinc 7 1, 3) := by decide +kernel
theorem dX4_bestHeight_61 : decode cX4_bestHeight 61 = .ok (.goto (-39), 3) := by decide +kernel
theorem dX4_bestHeight_64 : decode cX4_bestHeight 64 = .ok (.iload 4, 2) := by decide +kernel
theorem dX4_bestHeight_66 : decode cX4_bestHeight 66 = .ok (.ireturn, 1) := by decide +kernel
theorem dX4_keepHeights_0 : decode cX4_keepHeights 0 = .ok (.iload_n 2, 1) := by decide +kernel
theorem dX4_keepHeights_1 : decode cX4_keepHeights 1 = .ok (.istore_n 3, 1) := by decide +kernel
theorem dX4_keepHeights_2 : decode cX4_keepHeights 2 = .ok (.iconst 0, 1) := by decide +kernel
theorem dX4_keepHeights_3 : decode cX4_keepHeights 3 = .ok (.istore 4, 2) := by decide +kernel
theorem dX4_keepHeights_5 : decode cX4_keepHeights 5 = .ok (.iload 4, 2) := by decide +kernel
theorem dX4_keepHeights_7 : decode cX4_keepHeights 7 = .ok (.aload_n 1, 1) := by decide +kernel
theorem dX4_keepHeights_8 : decode cX4_keepHeights 8 = .ok (.getfield 31, 3) := by decide +kernel
theorem dX4_keepHeights_11 : decode cX4_keepHeights 11 = .ok (.if_icmp .ge 69, 3) := by decide +kernel
theorem dX4_keepHeights_14 : decode cX4_keepHeights 14 = .ok (.iload 4, 2) := by decide +kernel
theorem dX4_keepHeights_16 : decode cX4_keepHeights 16 = .ok (.ifCond .le 28, 3) := by decide +kernel
theorem dX4_keepHeights_19 : decode cX4_keepHeights 19 = .ok (.aload_n 0, 1) := by decide +kernel
theorem dX4_keepHeights_20 : decode cX4_keepHeights 20 = .ok (.iload 4, 2) := by decide +kernel
theorem dX4_keepHeights_22 : decode cX4_keepHeights 22 = .ok (.aload_n 0, 1) := by decide +kernel
theorem dX4_keepHeights_23 : decode cX4_keepHeights 23 = .ok (.iload 4, 2) := by decide +kernel
theorem dX4_keepHeights_25 : decode cX4_keepHeights 25 = .ok (.iconst 1, 1) := by decide +kernel
theorem dX4_keepHeights_26 : decode cX4_keepHeights 26 = .ok (.isub, 1) := by decide +kernel
theorem dX4_keepHeights_27 : decode cX4_keepHeights 27 = .ok (.iload_n 3, 1) := by decide +kernel
theorem dX4_keepHeights_28 : decode cX4_keepHeights 28 = .ok (.invokevirtual 71, 3) := by decide +kernel
theorem dX4_keepHeights_31 : decode cX4_keepHeights 31 = .ok (.aload_n 0, 1) := by decide +kernel
theorem dX4_keepHeights_32 : decode cX4_keepHeights 32 = .ok (.iload 4, 2) := by decide +kernel
theorem dX4_keepHeights_34 : decode cX4_keepHeights 34 = .ok (.iconst 1, 1) := by decide +kernel
theorem dX4_keepHeights_35 : decode cX4_keepHeights 35 = .ok (.isub, 1) := by decide +kernel
theorem dX4_keepHeights_36 : decode cX4_keepHeights 36 = .ok (.iload_n 3, 1) := by decide +kernel
theorem dX4_keepHeights_37 : decode cX4_keepHeights 37 = .ok (.invokevirtual 74, 3) := by decide +kernel
theorem dX4_keepHeights_40 : decode cX4_keepHeights 40 = .ok (.invokevirtual 47, 3) := by decide +kernel
theorem dX4_keepHeights_43 : decode cX4_keepHeights 43 = .ok (.istore_n 3, 1) := by decide +kernel
theorem dX4_keepHeights_44 : decode cX4_keepHeights 44 = .ok (.aload_n 0, 1) := by decide +kernel
theorem dX4_keepHeights_45 : decode cX4_keepHeights 45 = .ok (.getfield 15, 3) := by decide +kernel
theorem dX4_keepHeights_48 : decode cX4_keepHeights 48 = .ok (.iload 4, 2) := by decide +kernel
theorem dX4_keepHeights_50 : decode cX4_keepHeights 50 = .ok (.aload_n 1, 1) := by decide +kernel
theorem dX4_keepHeights_51 : decode cX4_keepHeights 51 = .ok (.getfield 36, 3) := by decide +kernel
theorem dX4_keepHeights_54 : decode cX4_keepHeights 54 = .ok (.aload_n 1, 1) := by decide +kernel
theorem dX4_keepHeights_55 : decode cX4_keepHeights 55 = .ok (.aload_n 0, 1) := by decide +kernel
theorem dX4_keepHeights_56 : decode cX4_keepHeights 56 = .ok (.getfield 55, 3) := by decide +kernel
theorem dX4_keepHeights_59 : decode cX4_keepHeights 59 = .ok (.iload 4, 2) := by decide +kernel
theorem dX4_keepHeights_61 : decode cX4_keepHeights 61 = .ok (.invokevirtual 39, 3) := by decide +kernel
theorem dX4_keepHeights_64 : decode cX4_keepHeights 64 = .ok (.iaload, 1) := by decide +kernel
theorem dX4_keepHeights_65 : decode cX4_keepHeights 65 = .ok (.iastore, 1) := by decide +kernel
theorem dX4_keepHeights_66 : decode cX4_keepHeights 66 = .ok (.aload_n 0, 1) := by decide +kernel
theorem dX4_keepHeights_67 : decode cX4_keepHeights 67 = .ok (.getfield 18, 3) := by decide +kernel
theorem dX4_keepHeights_70 : decode cX4_keepHeights 70 = .ok (.iload 4, 2) := by decide +kernel
theorem dX4_keepHeights_72 : decode cX4_keepHeights 72 = .ok (.iload_n 3, 1) := by decide +kernel
theorem dX4_keepHeights_73 : decode cX4_keepHeights 73 = .ok (.iastore, 1) := by decide +kernel
theorem dX4_keepHeights_74 : decode cX4_keepHeights 74 = .ok (.iinc 4 1, 3) := by decide +kernel
theorem dX4_keepHeights_77 : decode cX4_keepHeights 77 = .ok (.goto (-72), 3) := by decide +kernel
theorem dX4_keepHeights_80 : decode cX4_keepHeights 80 = .ok (.return_, 1) := by decide +kernel
theorem dX4_newHeight_0 : decode cX4_newHeight 0 = .ok (.aload_n 0, 1) := by decide +kernel
theorem dX4_newHeight_1 : decode cX4_newHeight 1 = .ok (.getfield 51, 3) := by decide +kernel
theorem dX4_newHeight_4 : decode cX4_newHeight 4 = .ok (.astore_n 2, 1) := by decide +kernel
theorem dX4_newHeight_5 : decode cX4_newHeight 5 = .ok (.aload_n 2, 1) := by decide +kernel
theorem dX4_newHeight_6 : decode cX4_newHeight 6 = .ok (.ifnull 15, 3) := by decide +kernel
theorem dX4_newHeight_9 : decode cX4_newHeight 9 = .ok (.iload_n 1, 1) := by decide +kernel
theorem dX4_newHeight_10 : decode cX4_newHeight 10 = .ok (.ifCond .lt 11, 3) := by decide +kernel
theorem dX4_newHeight_13 : decode cX4_newHeight 13 = .ok (.iload_n 1, 1) := by decide +kernel
theorem dX4_newHeight_14 : decode cX4_newHeight 14 = .ok (.aload_n 2, 1) := by decide +kernel
theorem dX4_newHeight_15 : decode cX4_newHeight 15 = .ok (.getfield 31, 3) := by decide +kernel
theorem dX4_newHeight_18 : decode cX4_newHeight 18 = .ok (.if_icmp .lt 5, 3) := by decide +kernel
theorem dX4_newHeight_21 : decode cX4_newHeight 21 = .ok (.iconst (-1), 1) := by decide +kernel
theorem dX4_newHeight_22 : decode cX4_newHeight 22 = .ok (.ireturn, 1) := by decide +kernel
theorem dX4_newHeight_23 : decode cX4_newHeight 23 = .ok (.aload_n 0, 1) := by decide +kernel
theorem dX4_newHeight_24 : decode cX4_newHeight 24 = .ok (.getfield 18, 3) := by decide +kernel
theorem dX4_newHeight_27 : decode cX4_newHeight 27 = .ok (.iload_n 1, 1) := by decide +kernel
theorem dX4_newHeight_28 : decode cX4_newHeight 28 = .ok (.iaload, 1) := by decide +kernel
theorem dX4_newHeight_29 : decode cX4_newHeight 29 = .ok (.ireturn, 1) := by decide +kernel
theorem dX4_carryOut_0 : decode cX4_carryOut 0 = .ok (.aload_n 0, 1) := by decide +kernel
theorem dX4_carryOut_1 : decode cX4_carryOut 1 = .ok (.getfield 51, 3) := by decide +kernel
theorem dX4_carryOut_4 : decode cX4_carryOut 4 = .ok (.astore_n 1, 1) := by decide +kernel
theorem dX4_carryOut_5 : decode cX4_carryOut 5 = .ok (.aload_n 1, 1) := by decide +kernel
theorem dX4_carryOut_6 : decode cX4_carryOut 6 = .ok (.ifnull 11, 3) := by decide +kernel
theorem dX4_carryOut_9 : decode cX4_carryOut 9 = .ok (.aload_n 0, 1) := by decide +kernel
theorem dX4_carryOut_10 : decode cX4_carryOut 10 = .ok (.aload_n 1, 1) := by decide +kernel
theorem dX4_carryOut_11 : decode cX4_carryOut 11 = .ok (.invokevirtual 84, 3) := by decide +kernel
theorem dX4_carryOut_14 : decode cX4_carryOut 14 = .ok (.ifCond .ne 6, 3) := by decide +kernel
theorem dX4_carryOut_17 : decode cX4_carryOut 17 = .ok (.bipush (-2), 2) := by decide +kernel
theorem dX4_carryOut_19 : decode cX4_carryOut 19 = .ok (.ireturn, 1) := by decide +kernel
theorem dX4_carryOut_20 : decode cX4_carryOut 20 = .ok (.iconst 0, 1) := by decide +kernel
theorem dX4_carryOut_21 : decode cX4_carryOut 21 = .ok (.istore_n 2, 1) := by decide +kernel
theorem dX4_carryOut_22 : decode cX4_carryOut 22 = .ok (.iload_n 2, 1) := by decide +kernel
theorem dX4_carryOut_23 : decode cX4_carryOut 23 = .ok (.aload_n 1, 1) := by decide +kernel
theorem dX4_carryOut_24 : decode cX4_carryOut 24 = .ok (.getfield 31, 3) := by decide +kernel
theorem dX4_carryOut_27 : decode cX4_carryOut 27 = .ok (.if_icmp .ge 29, 3) := by decide +kernel
theorem dX4_carryOut_30 : decode cX4_carryOut 30 = .ok (.aload_n 1, 1) := by decide +kernel
theorem dX4_carryOut_31 : decode cX4_carryOut 31 = .ok (.getfield 36, 3) := by decide +kernel
theorem dX4_carryOut_34 : decode cX4_carryOut 34 = .ok (.aload_n 1, 1) := by decide +kernel
theorem dX4_carryOut_35 : decode cX4_carryOut 35 = .ok (.aload_n 0, 1) := by decide +kernel
theorem dX4_carryOut_36 : decode cX4_carryOut 36 = .ok (.getfield 55, 3) := by decide +kernel
theorem dX4_carryOut_39 : decode cX4_carryOut 39 = .ok (.iload_n 2, 1) := by decide +kernel
theorem dX4_carryOut_40 : decode cX4_carryOut 40 = .ok (.invokevirtual 39, 3) := by decide +kernel
theorem dX4_carryOut_43 : decode cX4_carryOut 43 = .ok (.aload_n 0, 1) := by decide +kernel
theorem dX4_carryOut_44 : decode cX4_carryOut 44 = .ok (.getfield 18, 3) := by decide +kernel
theorem dX4_carryOut_47 : decode cX4_carryOut 47 = .ok (.iload_n 2, 1) := by decide +kernel
theorem dX4_carryOut_48 : decode cX4_carryOut 48 = .ok (.iaload, 1) := by decide +kernel
theorem dX4_carryOut_49 : decode cX4_carryOut 49 = .ok (.iastore, 1) := by decide +kernel
theorem dX4_carryOut_50 : decode cX4_carryOut 50 = .ok (.iinc 2 1, 3) := by decide +kernel
theorem dX4_carryOut_53 : decode cX4_carryOut 53 = .ok (.goto (-31), 3) := by decide +kernel
theorem dX4_carryOut_56 : decode cX4_carryOut 56 = .ok (.aload_n 0, 1) := by decide +kernel
theorem dX4_carryOut_57 : decode cX4_carryOut 57 = .ok (.aconst_null, 1) := by decide +kernel
theorem dX4_carryOut_58 : decode cX4_carryOut 58 = .ok (.putfield 51, 3) := by decide +kernel
theorem dX4_carryOut_61 : decode cX4_carryOut 61 = .ok (.aload_n 0, 1) := by decide +kernel
theorem dX4_carryOut_62 : decode cX4_carryOut 62 = .ok (.getfield 58, 3) := by decide +kernel
theorem dX4_carryOut_65 : decode cX4_carryOut 65 = .ok (.ireturn, 1) := by decide +kernel
theorem dX4_isRowAsBefore_0 : decode cX4_isRowAsBefore 0 = .ok (.iconst 0, 1) := by decide +kernel
theorem dX4_isRowAsBefore_1 : decode cX4_isRowAsBefore 1 = .ok (.istore_n 2, 1) := by decide +kernel
theorem dX4_isRowAsBefore_2 : decode cX4_isRowAsBefore 2 = .ok (.iload_n 2, 1) := by decide +kernel
theorem dX4_isRowAsBefore_3 : decode cX4_isRowAsBefore 3 = .ok (.aload_n 1, 1) := by decide +kernel
theorem dX4_isRowAsBefore_4 : decode cX4_isRowAsBefore 4 = .ok (.getfield 31, 3) := by decide +kernel
theorem dX4_isRowAsBefore_7 : decode cX4_isRowAsBefore 7 = .ok (.if_icmp .ge 34, 3) := by decide +kernel
theorem dX4_isRowAsBefore_10 : decode cX4_isRowAsBefore 10 = .ok (.aload_n 1, 1) := by decide +kernel
theorem dX4_isRowAsBefore_11 : decode cX4_isRowAsBefore 11 = .ok (.getfield 36, 3) := by decide +kernel
theorem dX4_isRowAsBefore_14 : decode cX4_isRowAsBefore 14 = .ok (.aload_n 1, 1) := by decide +kernel
theorem dX4_isRowAsBefore_15 : decode cX4_isRowAsBefore 15 = .ok (.aload_n 0, 1) := by decide +kernel
theorem dX4_isRowAsBefore_16 : decode cX4_isRowAsBefore 16 = .ok (.getfield 55, 3) := by decide +kernel
theorem dX4_isRowAsBefore_19 : decode cX4_isRowAsBefore 19 = .ok (.iload_n 2, 1) := by decide +kernel
theorem dX4_isRowAsBefore_20 : decode cX4_isRowAsBefore 20 = .ok (.invokevirtual 39, 3) := by decide +kernel
theorem dX4_isRowAsBefore_23 : decode cX4_isRowAsBefore 23 = .ok (.iaload, 1) := by decide +kernel
theorem dX4_isRowAsBefore_24 : decode cX4_isRowAsBefore 24 = .ok (.aload_n 0, 1) := by decide +kernel
theorem dX4_isRowAsBefore_25 : decode cX4_isRowAsBefore 25 = .ok (.getfield 15, 3) := by decide +kernel
theorem dX4_isRowAsBefore_28 : decode cX4_isRowAsBefore 28 = .ok (.iload_n 2, 1) := by decide +kernel
theorem dX4_isRowAsBefore_29 : decode cX4_isRowAsBefore 29 = .ok (.iaload, 1) := by decide +kernel
theorem dX4_isRowAsBefore_30 : decode cX4_isRowAsBefore 30 = .ok (.if_icmp .eq 5, 3) := by decide +kernel
theorem dX4_isRowAsBefore_33 : decode cX4_isRowAsBefore 33 = .ok (.iconst 0, 1) := by decide +kernel
theorem dX4_isRowAsBefore_34 : decode cX4_isRowAsBefore 34 = .ok (.ireturn, 1) := by decide +kernel
theorem dX4_isRowAsBefore_35 : decode cX4_isRowAsBefore 35 = .ok (.iinc 2 1, 3) := by decide +kernel
theorem dX4_isRowAsBefore_38 : decode cX4_isRowAsBefore 38 = .ok (.goto (-36), 3) := by decide +kernel
theorem dX4_isRowAsBefore_41 : decode cX4_isRowAsBefore 41 = .ok (.iconst 1, 1) := by decide +kernel
theorem dX4_isRowAsBefore_42 : decode cX4_isRowAsBefore 42 = .ok (.ireturn, 1) := by decide +kernel
theorem dX5_init_0 : decode cX5_init 0 = .ok (.aload_n 0, 1) := by decide +kernel
theorem dX5_init_1 : decode cX5_init 1 = .ok (.invokespecial 3, 3) := by decide +kernel
theorem dX5_init_4 : decode cX5_init 4 = .ok (.aload_n 0, 1) := by decide +kernel
theorem dX5_init_5 : decode cX5_init 5 = .ok (.bipush 40, 2) := by decide +kernel
theorem dX5_init_7 : decode cX5_init 7 = .ok (.newarray .int, 2) := by decide +kernel
theorem dX5_init_9 : decode cX5_init 9 = .ok (.putfield 9, 3) := by decide +kernel
theorem dX5_init_12 : decode cX5_init 12 = .ok (.aload_n 0, 1) := by decide +kernel
theorem dX5_init_13 : decode cX5_init 13 = .ok (.bipush 40, 2) := by decide +kernel
theorem dX5_init_15 : decode cX5_init 15 = .ok (.newarray .int, 2) := by decide +kernel
theorem dX5_init_17 : decode cX5_init 17 = .ok (.putfield 15, 3) := by decide +kernel
theorem dX5_init_20 : decode cX5_init 20 = .ok (.aload_n 0, 1) := by decide +kernel
theorem dX5_init_21 : decode cX5_init 21 = .ok (.sipush 1681, 3) := by decide +kernel
theorem dX5_init_24 : decode cX5_init 24 = .ok (.newarray .long, 2) := by decide +kernel
theorem dX5_init_26 : decode cX5_init 26 = .ok (.putfield 18, 3) := by decide +kernel
theorem dX5_init_29 : decode cX5_init 29 = .ok (.aload_n 0, 1) := by decide +kernel
theorem dX5_init_30 : decode cX5_init 30 = .ok (.getfield 18, 3) := by decide +kernel
theorem dX5_init_33 : decode cX5_init 33 = .ok (.iconst 0, 1) := by decide +kernel
theorem dX5_init_34 : decode cX5_init 34 = .ok (.lconst 1, 1) := by decide +kernel
theorem dX5_init_35 : decode cX5_init 35 = .ok (.lastore, 1) := by decide +kernel
theorem dX5_init_36 : decode cX5_init 36 = .ok (.iconst 1, 1) := by decide +kernel
theorem dX5_init_37 : decode cX5_init 37 = .ok (.istore_n 1, 1) := by decide +kernel
theorem dX5_init_38 : decode cX5_init 38 = .ok (.iload_n 1, 1) := by decide +kernel
theorem dX5_init_39 : decode cX5_init 39 = .ok (.bipush 41, 2) := by decide +kernel
theorem dX5_init_41 : decode cX5_init 41 = .ok (.if_icmp .ge 72, 3) := by decide +kernel
theorem dX5_init_44 : decode cX5_init 44 = .ok (.aload_n 0, 1) := by decide +kernel
theorem dX5_init_45 : decode cX5_init 45 = .ok (.getfield 18, 3) := by decide +kernel
theorem dX5_init_48 : decode cX5_init 48 = .ok (.iload_n 1, 1) := by decide +kernel
theorem dX5_init_49 : decode cX5_init 49 = .ok (.bipush 41, 2) := by decide +kernel
theorem dX5_init_51 : decode cX5_init 51 = .ok (.imul, 1) := by decide +kernel
theorem dX5_init_52 : decode cX5_init 52 = .ok (.lconst 1, 1) := by decide +kernel
theorem dX5_init_53 : decode cX5_init 53 = .ok (.lastore, 1) := by decide +kernel
theorem dX5_init_54 : decode cX5_init 54 = .ok (.iconst 1, 1) := by decide +kernel
theorem dX5_init_55 : decode cX5_init 55 = .ok (.istore_n 2, 1) := by decide +kernel
theorem dX5_init_56 : decode cX5_init 56 = .ok (.iload_n 2, 1) := by decide +kernel
theorem dX5_init_57 : decode cX5_init 57 = .ok (.iload_n 1, 1) := by decide +kernel
theorem dX5_init_58 : decode cX5_init 58 = .ok (.if_icmp .gt 49, 3) := by decide +kernel
theorem dX5_init_61 : decode cX5_init 61 = .ok (.aload_n 0, 1) := by decide +kernel
theorem dX5_init_62 : decode cX5_init 62 = .ok (.getfield 18, 3) := by decide +kernel
theorem dX5_init_65 : decode cX5_init 65 = .ok (.iload_n 1, 1) := by decide +kernel
theorem dX5_init_66 : decode cX5_init 66 = .ok (.bipush 41, 2) := by decide +kernel
theorem dX5_init_68 : decode cX5_init 68 = .ok (.imul, 1) := by decide +kernel
theorem dX5_init_69 : decode cX5_init 69 = .ok (.iload_n 2, 1) := by decide +kernel
theorem dX5_init_70 : decode cX5_init 70 = .ok (.iadd, 1) := by decide +kernel
theorem dX5_init_71 : decode cX5_init 71 = .ok (.aload_n 0, 1) := by decide +kernel
theorem dX5_init_72 : decode cX5_init 72 = .ok (.getfield 18, 3) := by decide +kernel
theorem dX5_init_75 : decode cX5_init 75 = .ok (.iload_n 1, 1) := by decide +kernel
theorem dX5_init_76 : decode cX5_init 76 = .ok (.iconst 1, 1) := by decide +kernel
theorem dX5_init_77 : decode cX5_init 77 = .ok (.isub, 1) := by decide +kernel
theorem dX5_init_78 : decode cX5_init 78 = .ok (.bipush 41, 2) := by decide +kernel
theorem dX5_init_80 : decode cX5_init 80 = .ok (.imul, 1) := by decide +kernel
theorem dX5_init_81 : decode cX5_init 81 = .ok (.iload_n 2, 1) := by decide +kernel
theorem dX5_init_82 : decode cX5_init 82 = .ok (.iadd, 1) := by decide +kernel
theorem dX5_init_83 : decode cX5_init 83 = .ok (.iconst 1, 1) := by decide +kernel
theorem dX5_init_84 : decode cX5_init 84 = .ok (.isub, 1) := by decide +kernel
theorem dX5_init_85 : decode cX5_init 85 = .ok (.laload, 1) := by decide +kernel
theorem dX5_init_86 : decode cX5_init 86 = .ok (.aload_n 0, 1) := by decide +kernel
theorem dX5_init_87 : decode cX5_init 87 = .ok (.getfield 18, 3) := by decide +kernel
theorem dX5_init_90 : decode cX5_init 90 = .ok (.iload_n 1, 1) := by decide +kernel
theorem dX5_init_91 : decode cX5_init 91 = .ok (.iconst 1, 1) := by decide +kernel
theorem dX5_init_92 : decode cX5_init 92 = .ok (.isub, 1) := by decide +kernel
theorem dX5_init_93 : decode cX5_init 93 = .ok (.bipush 41, 2) := by decide +kernel
theorem dX5_init_95 : decode cX5_init 95 = .ok (.imul, 1) := by decide +kernel
theorem dX5_init_96 : decode cX5_init 96 = .ok (.iload_n 2, 1) := by decide +kernel
theorem dX5_init_97 : decode cX5_init 97 = .ok (.iadd, 1) := by decide +kernel
theorem dX5_init_98 : decode cX5_init 98 = .ok (.laload, 1) := by decide +kernel
theorem dX5_init_99 : decode cX5_init 99 = .ok (.ladd, 1) := by decide +kernel
theorem dX5_init_100 : decode cX5_init 100 = .ok (.lastore, 1) := by decide +kernel
theorem dX5_init_101 : decode cX5_init 101 = .ok (.iinc 2 1, 3) := by decide +kernel
theorem dX5_init_104 : decode cX5_init 104 = .ok (.goto (-48), 3) := by decide +kernel
theorem dX5_init_107 : decode cX5_init 107 = .ok (.iinc 1 1, 3) := by decide +kernel
theorem dX5_init_110 : decode cX5_init 110 = .ok (.goto (-72), 3) := by decide +kernel
theorem dX5_init_113 : decode cX5_init 113 = .ok (.return_, 1) := by decide +kernel
theorem dX5_drawLots_0 : decode cX5_drawLots 0 = .ok (.iconst 0, 1) := by decide +kernel
theorem dX5_drawLots_1 : decode cX5_drawLots 1 = .ok (.istore 4, 2) := by decide +kernel
theorem dX5_drawLots_3 : decode cX5_drawLots 3 = .ok (.iload 4, 2) := by decide +kernel
theorem dX5_drawLots_5 : decode cX5_drawLots 5 = .ok (.iload_n 1, 1) := by decide +kernel
theorem dX5_drawLots_6 : decode cX5_drawLots 6 = .ok (.if_icmp .ge 18, 3) := by decide +kernel
theorem dX5_drawLots_9 : decode cX5_drawLots 9 = .ok (.aload_n 0, 1) := by decide +kernel
theorem dX5_drawLots_10 : decode cX5_drawLots 10 = .ok (.getfield 9, 3) := by decide +kernel
theorem dX5_drawLots_13 : decode cX5_drawLots 13 = .ok (.iload 4, 2) := by decide +kernel
theorem dX5_drawLots_15 : decode cX5_drawLots 15 = .ok (.iload 4, 2) := by decide +kernel
theorem dX5_drawLots_17 : decode cX5_drawLots 17 = .ok (.iastore, 1) := by decide +kernel
theorem dX5_drawLots_18 : decode cX5_drawLots 18 = .ok (.iinc 4 1, 3) := by decide +kernel
theorem dX5_drawLots_21 : decode cX5_drawLots 21 = .ok (.goto (-18), 3) := by decide +kernel
theorem dX5_drawLots_24 : decode cX5_drawLots 24 = .ok (.iload_n 3, 1) := by decide +kernel
theorem dX5_drawLots_25 : decode cX5_drawLots 25 = .ok (.istore 4, 2) := by decide +kernel
theorem dX5_drawLots_27 : decode cX5_drawLots 27 = .ok (.iconst 0, 1) := by decide +kernel
theorem dX5_drawLots_28 : decode cX5_drawLots 28 = .ok (.istore 5, 2) := by decide +kernel
theorem dX5_drawLots_30 : decode cX5_drawLots 30 = .ok (.iload 5, 2) := by decide +kernel
theorem dX5_drawLots_32 : decode cX5_drawLots 32 = .ok (.iload_n 2, 1) := by decide +kernel
theorem dX5_drawLots_33 : decode cX5_drawLots 33 = .ok (.if_icmp .ge 78, 3) := by decide +kernel
theorem dX5_drawLots_36 : decode cX5_drawLots 36 = .ok (.iload 5, 2) := by decide +kernel
theorem dX5_drawLots_38 : decode cX5_drawLots 38 = .ok (.iload_n 1, 1) := by decide +kernel
theorem dX5_drawLots_39 : decode cX5_drawLots 39 = .ok (.if_icmp .ge 72, 3) := by decide +kernel
theorem dX5_drawLots_42 : decode cX5_drawLots 42 = .ok (.iload 4, 2) := by decide +kernel
theorem dX5_drawLots_44 : decode cX5_drawLots 44 = .ok (.ldc 22, 2) := by decide +kernel
theorem dX5_drawLots_46 : decode cX5_drawLots 46 = .ok (.imul, 1) := by decide +kernel
theorem dX5_drawLots_47 : decode cX5_drawLots 47 = .ok (.sipush 12345, 3) := by decide +kernel
theorem dX5_drawLots_50 : decode cX5_drawLots 50 = .ok (.iadd, 1) := by decide +kernel
theorem dX5_drawLots_51 : decode cX5_drawLots 51 = .ok (.istore 4, 2) := by decide +kernel
theorem dX5_drawLots_53 : decode cX5_drawLots 53 = .ok (.iload 4, 2) := by decide +kernel
theorem dX5_drawLots_55 : decode cX5_drawLots 55 = .ok (.bipush 8, 2) := by decide +kernel
theorem dX5_drawLots_57 : decode cX5_drawLots 57 = .ok (.iushr, 1) := by decide +kernel
theorem dX5_drawLots_58 : decode cX5_drawLots 58 = .ok (.iload_n 1, 1) := by decide +kernel
theorem dX5_drawLots_59 : decode cX5_drawLots 59 = .ok (.iload 5, 2) := by decide +kernel
theorem dX5_drawLots_61 : decode cX5_drawLots 61 = .ok (.isub, 1) := by decide +kernel
theorem dX5_drawLots_62 : decode cX5_drawLots 62 = .ok (.irem, 1) := by decide +kernel
theorem dX5_drawLots_63 : decode cX5_drawLots 63 = .ok (.istore 6, 2) := by decide +kernel
theorem dX5_drawLots_65 : decode cX5_drawLots 65 = .ok (.aload_n 0, 1) := by decide +kernel
theorem dX5_drawLots_66 : decode cX5_drawLots 66 = .ok (.getfield 15, 3) := by decide +kernel
theorem dX5_drawLots_69 : decode cX5_drawLots 69 = .ok (.iload 5, 2) := by decide +kernel
theorem dX5_drawLots_71 : decode cX5_drawLots 71 = .ok (.aload_n 0, 1) := by decide +kernel
theorem dX5_drawLots_72 : decode cX5_drawLots 72 = .ok (.getfield 9, 3) := by decide +kernel
theorem dX5_drawLots_75 : decode cX5_drawLots 75 = .ok (.iload 6, 2) := by decide +kernel
theorem dX5_drawLots_77 : decode cX5_drawLots 77 = .ok (.iaload, 1) := by decide +kernel
theorem dX5_drawLots_78 : decode cX5_drawLots 78 = .ok (.iastore, 1) := by decide +kernel
theorem dX5_drawLots_79 : decode cX5_drawLots 79 = .ok (.aload_n 0, 1) := by decide +kernel
theorem dX5_drawLots_80 : decode cX5_drawLots 80 = .ok (.getfield 9, 3) := by decide +kernel
theorem dX5_drawLots_83 : decode cX5_drawLots 83 = .ok (.iload 6, 2) := by decide +kernel
theorem dX5_drawLots_85 : decode cX5_drawLots 85 = .ok (.iconst 1, 1) := by decide +kernel
theorem dX5_drawLots_86 : decode cX5_drawLots 86 = .ok (.iadd, 1) := by decide +kernel
theorem dX5_drawLots_87 : decode cX5_drawLots 87 = .ok (.aload_n 0, 1) := by decide +kernel
theorem dX5_drawLots_88 : decode cX5_drawLots 88 = .ok (.getfield 9, 3) := by decide +kernel
theorem dX5_drawLots_91 : decode cX5_drawLots 91 = .ok (.iload 6, 2) := by decide +kernel
theorem dX5_drawLots_93 : decode cX5_drawLots 93 = .ok (.iload_n 1, 1) := by decide +kernel
theorem dX5_drawLots_94 : decode cX5_drawLots 94 = .ok (.iload 5, 2) := by decide +kernel
theorem dX5_drawLots_96 : decode cX5_drawLots 96 = .ok (.isub, 1) := by decide +kernel
theorem dX5_drawLots_97 : decode cX5_drawLots 97 = .ok (.iconst 1, 1) := by decide +kernel
theorem dX5_drawLots_98 : decode cX5_drawLots 98 = .ok (.isub, 1) := by decide +kernel
theorem dX5_drawLots_99 : decode cX5_drawLots 99 = .ok (.iload 6, 2) := by decide +kernel
theorem dX5_drawLots_101 : decode cX5_drawLots 101 = .ok (.isub, 1) := by decide +kernel
theorem dX5_drawLots_102 : decode cX5_drawLots 102 = .ok (.invokestatic 23, 3) := by decide +kernel
theorem dX5_drawLots_105 : decode cX5_drawLots 105 = .ok (.iinc 5 1, 3) := by decide +kernel
theorem dX5_drawLots_108 : decode cX5_drawLots 108 = .ok (.goto (-78), 3) := by decide +kernel
theorem dX5_drawLots_111 : decode cX5_drawLots 111 = .ok (.aload_n 0, 1) := by decide +kernel
theorem dX5_drawLots_112 : decode cX5_drawLots 112 = .ok (.iload_n 2, 1) := by decide +kernel
theorem dX5_drawLots_113 : decode cX5_drawLots 113 = .ok (.putfield 29, 3) := by decide +kernel
theorem dX5_drawLots_116 : decode cX5_drawLots 116 = .ok (.iload_n 2, 1) := by decide +kernel
theorem dX5_drawLots_117 : decode cX5_drawLots 117 = .ok (.ireturn, 1) := by decide +kernel
theorem dX5_lotAt_0 : decode cX5_lotAt 0 = .ok (.iload_n 1, 1) := by decide +kernel
theorem dX5_lotAt_1 : decode cX5_lotAt 1 = .ok (.ifCond .lt 20, 3) := by decide +kernel
theorem dX5_lotAt_4 : decode cX5_lotAt 4 = .ok (.iload_n 1, 1) := by decide +kernel
theorem dX5_lotAt_5 : decode cX5_lotAt 5 = .ok (.aload_n 0, 1) := by decide +kernel
theorem dX5_lotAt_6 : decode cX5_lotAt 6 = .ok (.getfield 29, 3) := by decide +kernel
theorem dX5_lotAt_9 : decode cX5_lotAt 9 = .ok (.if_icmp .ge 12, 3) := by decide +kernel
theorem dX5_lotAt_12 : decode cX5_lotAt 12 = .ok (.aload_n 0, 1) := by decide +kernel
theorem dX5_lotAt_13 : decode cX5_lotAt 13 = .ok (.getfield 15, 3) := by decide +kernel
theorem dX5_lotAt_16 : decode cX5_lotAt 16 = .ok (.iload_n 1, 1) := by decide +kernel
theorem dX5_lotAt_17 : decode cX5_lotAt 17 = .ok (.iaload, 1) := by decide +kernel
theorem dX5_lotAt_18 : decode cX5_lotAt 18 = .ok (.goto 4, 3) := by decide +kernel
theorem dX5_lotAt_21 : decode cX5_lotAt 21 = .ok (.iconst (-1), 1) := by decide +kernel
theorem dX5_lotAt_22 : decode cX5_lotAt 22 = .ok (.ireturn, 1) := by decide +kernel
theorem dX5_mostBad_0 : decode cX5_mostBad 0 = .ok (.iload_n 1, 1) := by decide +kernel
theorem dX5_mostBad_1 : decode cX5_mostBad 1 = .ok (.iload_n 2, 1) := by decide +kernel
theorem dX5_mostBad_2 : decode cX5_mostBad 2 = .ok (.isub, 1) := by decide +kernel
theorem dX5_mostBad_3 : decode cX5_mostBad 3 = .ok (.iload_n 3, 1) := by decide +kernel
theorem dX5_mostBad_4 : decode cX5_mostBad 4 = .ok (.iadd, 1) := by decide +kernel
theorem dX5_mostBad_5 : decode cX5_mostBad 5 = .ok (.istore 5, 2) := by decide +kernel
theorem dX5_mostBad_7 : decode cX5_mostBad 7 = .ok (.iload 5, 2) := by decide +kernel
theorem dX5_mostBad_9 : decode cX5_mostBad 9 = .ok (.iload_n 3, 1) := by decide +kernel
theorem dX5_mostBad_10 : decode cX5_mostBad 10 = .ok (.if_icmp .le 44, 3) := by decide +kernel
theorem dX5_mostBad_13 : decode cX5_mostBad 13 = .ok (.ldc2_w 33, 3) := by decide +kernel
theorem dX5_mostBad_16 : decode cX5_mostBad 16 = .ok (.aload_n 0, 1) := by decide +kernel
theorem dX5_mostBad_17 : decode cX5_mostBad 17 = .ok (.iload_n 1, 1) := by decide +kernel
theorem dX5_mostBad_18 : decode cX5_mostBad 18 = .ok (.iload_n 2, 1) := by decide +kernel
theorem dX5_mostBad_19 : decode cX5_mostBad 19 = .ok (.iload_n 3, 1) := by decide +kernel
theorem dX5_mostBad_20 : decode cX5_mostBad 20 = .ok (.iload 5, 2) := by decide +kernel
theorem dX5_mostBad_22 : decode cX5_mostBad 22 = .ok (.invokevirtual 35, 3) := by decide +kernel
theorem dX5_mostBad_25 : decode cX5_mostBad 25 = .ok (.lmul, 1) := by decide +kernel
theorem dX5_mostBad_26 : decode cX5_mostBad 26 = .ok (.iload 4, 2) := by decide +kernel
theorem dX5_mostBad_28 : decode cX5_mostBad 28 = .ok (.i2l, 1) := by decide +kernel
theorem dX5_mostBad_29 : decode cX5_mostBad 29 = .ok (.aload_n 0, 1) := by decide +kernel
theorem dX5_mostBad_30 : decode cX5_mostBad 30 = .ok (.getfield 18, 3) := by decide +kernel
theorem dX5_mostBad_33 : decode cX5_mostBad 33 = .ok (.iload_n 1, 1) := by decide +kernel
theorem dX5_mostBad_34 : decode cX5_mostBad 34 = .ok (.bipush 41, 2) := by decide +kernel
theorem dX5_mostBad_36 : decode cX5_mostBad 36 = .ok (.imul, 1) := by decide +kernel
theorem dX5_mostBad_37 : decode cX5_mostBad 37 = .ok (.iload_n 2, 1) := by decide +kernel
theorem dX5_mostBad_38 : decode cX5_mostBad 38 = .ok (.iadd, 1) := by decide +kernel
theorem dX5_mostBad_39 : decode cX5_mostBad 39 = .ok (.laload, 1) := by decide +kernel
theorem dX5_mostBad_40 : decode cX5_mostBad 40 = .ok (.lmul, 1) := by decide +kernel
theorem dX5_mostBad_41 : decode cX5_mostBad 41 = .ok (.lcmp, 1) := by decide +kernel
theorem dX5_mostBad_42 : decode cX5_mostBad 42 = .ok (.ifCond .lt 6, 3) := by decide +kernel
theorem dX5_mostBad_45 : decode cX5_mostBad 45 = .ok (.iload 5, 2) := by decide +kernel
theorem dX5_mostBad_47 : decode cX5_mostBad 47 = .ok (.ireturn, 1) := by decide +kernel
theorem dX5_mostBad_48 : decode cX5_mostBad 48 = .ok (.iinc 5 (-1), 3) := by decide +kernel
theorem dX5_mostBad_51 : decode cX5_mostBad 51 = .ok (.goto (-44), 3) := by decide +kernel
theorem dX5_mostBad_54 : decode cX5_mostBad 54 = .ok (.iload_n 3, 1) := by decide +kernel
theorem dX5_mostBad_55 : decode cX5_mostBad 55 = .ok (.ireturn, 1) := by decide +kernel
theorem dX5_waysWithFew_0 : decode cX5_waysWithFew 0 = .ok (.lconst 0, 1) := by decide +kernel
theorem dX5_waysWithFew_1 : decode cX5_waysWithFew 1 = .ok (.lstore 5, 2) := by decide +kernel
theorem dX5_waysWithFew_3 : decode cX5_waysWithFew 3 = .ok (.iconst 0, 1) := by decide +kernel
theorem dX5_waysWithFew_4 : decode cX5_waysWithFew 4 = .ok (.istore 7, 2) := by decide +kernel
theorem dX5_waysWithFew_6 : decode cX5_waysWithFew 6 = .ok (.iload 7, 2) := by decide +kernel
theorem dX5_waysWithFew_8 : decode cX5_waysWithFew 8 = .ok (.iload_n 3, 1) := by decide +kernel
theorem dX5_waysWithFew_9 : decode cX5_waysWithFew 9 = .ok (.if_icmp .gt 45, 3) := by decide +kernel
theorem dX5_waysWithFew_12 : decode cX5_waysWithFew 12 = .ok (.lload 5, 2) := by decide +kernel
theorem dX5_waysWithFew_14 : decode cX5_waysWithFew 14 = .ok (.aload_n 0, 1) := by decide +kernel
theorem dX5_waysWithFew_15 : decode cX5_waysWithFew 15 = .ok (.getfield 18, 3) := by decide +kernel
theorem dX5_waysWithFew_18 : decode cX5_waysWithFew 18 = .ok (.iload 4, 2) := by decide +kernel
theorem dX5_waysWithFew_20 : decode cX5_waysWithFew 20 = .ok (.bipush 41, 2) := by decide +kernel
theorem dX5_waysWithFew_22 : decode cX5_waysWithFew 22 = .ok (.imul, 1) := by decide +kernel
theorem dX5_waysWithFew_23 : decode cX5_waysWithFew 23 = .ok (.iload 7, 2) := by decide +kernel
theorem dX5_waysWithFew_25 : decode cX5_waysWithFew 25 = .ok (.iadd, 1) := by decide +kernel
theorem dX5_waysWithFew_26 : decode cX5_waysWithFew 26 = .ok (.laload, 1) := by decide +kernel
theorem dX5_waysWithFew_27 : decode cX5_waysWithFew 27 = .ok (.aload_n 0, 1) := by decide +kernel
theorem dX5_waysWithFew_28 : decode cX5_waysWithFew 28 = .ok (.getfield 18, 3) := by decide +kernel
theorem dX5_waysWithFew_31 : decode cX5_waysWithFew 31 = .ok (.iload_n 1, 1) := by decide +kernel
theorem dX5_waysWithFew_32 : decode cX5_waysWithFew 32 = .ok (.iload 4, 2) := by decide +kernel
theorem dX5_waysWithFew_34 : decode cX5_waysWithFew 34 = .ok (.isub, 1) := by decide +kernel
theorem dX5_waysWithFew_35 : decode cX5_waysWithFew 35 = .ok (.bipush 41, 2) := by decide +kernel
theorem dX5_waysWithFew_37 : decode cX5_waysWithFew 37 = .ok (.imul, 1) := by decide +kernel
theorem dX5_waysWithFew_38 : decode cX5_waysWithFew 38 = .ok (.iload_n 2, 1) := by decide +kernel
theorem dX5_waysWithFew_39 : decode cX5_waysWithFew 39 = .ok (.iadd, 1) := by decide +kernel
theorem dX5_waysWithFew_40 : decode cX5_waysWithFew 40 = .ok (.iload 7, 2) := by decide +kernel
theorem dX5_waysWithFew_42 : decode cX5_waysWithFew 42 = .ok (.isub, 1) := by decide +kernel
theorem dX5_waysWithFew_43 : decode cX5_waysWithFew 43 = .ok (.laload, 1) := by decide +kernel
theorem dX5_waysWithFew_44 : decode cX5_waysWithFew 44 = .ok (.lmul, 1) := by decide +kernel
theorem dX5_waysWithFew_45 : decode cX5_waysWithFew 45 = .ok (.ladd, 1) := by decide +kernel
theorem dX5_waysWithFew_46 : decode cX5_waysWithFew 46 = .ok (.lstore 5, 2) := by decide +kernel
theorem dX5_waysWithFew_48 : decode cX5_waysWithFew 48 = .ok (.iinc 7 1, 3) := by decide +kernel
theorem dX5_waysWithFew_51 : decode cX5_waysWithFew 51 = .ok (.goto (-45), 3) := by decide +kernel
theorem dX5_waysWithFew_54 : decode cX5_waysWithFew 54 = .ok (.lload 5, 2) := by decide +kernel
theorem dX5_waysWithFew_56 : decode cX5_waysWithFew 56 = .ok (.lreturn, 1) := by decide +kernel
theorem dX6_init_0 : decode cX6_init 0 = .ok (.aload_n 0, 1) := by decide +kernel
theorem dX6_init_1 : decode cX6_init 1 = .ok (.invokespecial 3, 3) := by decide +kernel
theorem dX6_init_4 : decode cX6_init 4 = .ok (.aload_n 0, 1) := by decide +kernel
theorem dX6_init_5 : decode cX6_init 5 = .ok (.iload_n 1, 1) := by decide +kernel
theorem dX6_init_6 : decode cX6_init 6 = .ok (.putfield 9, 3) := by decide +kernel
theorem dX6_init_9 : decode cX6_init 9 = .ok (.aload_n 0, 1) := by decide +kernel
theorem dX6_init_10 : decode cX6_init 10 = .ok (.iload_n 2, 1) := by decide +kernel
theorem dX6_init_11 : decode cX6_init 11 = .ok (.putfield 15, 3) := by decide +kernel
theorem dX6_init_14 : decode cX6_init 14 = .ok (.aload_n 0, 1) := by decide +kernel
theorem dX6_init_15 : decode cX6_init 15 = .ok (.iload_n 3, 1) := by decide +kernel
theorem dX6_init_16 : decode cX6_init 16 = .ok (.putfield 18, 3) := by decide +kernel
theorem dX6_init_19 : decode cX6_init 19 = .ok (.aload_n 0, 1) := by decide +kernel
theorem dX6_init_20 : decode cX6_init 20 = .ok (.iload 4, 2) := by decide +kernel
theorem dX6_init_22 : decode cX6_init 22 = .ok (.putfield 21, 3) := by decide +kernel
theorem dX6_init_25 : decode cX6_init 25 = .ok (.aload_n 0, 1) := by decide +kernel
theorem dX6_init_26 : decode cX6_init 26 = .ok (.iload 5, 2) := by decide +kernel
theorem dX6_init_28 : decode cX6_init 28 = .ok (.putfield 24, 3) := by decide +kernel
theorem dX6_init_31 : decode cX6_init 31 = .ok (.aload_n 0, 1) := by decide +kernel
theorem dX6_init_32 : decode cX6_init 32 = .ok (.iconst (-1), 1) := by decide +kernel
theorem dX6_init_33 : decode cX6_init 33 = .ok (.putfield 27, 3) := by decide +kernel
theorem dX6_init_36 : decode cX6_init 36 = .ok (.return_, 1) := by decide +kernel
theorem dX6_isOpen_0 : decode cX6_isOpen 0 = .ok (.aload_n 0, 1) := by decide +kernel
theorem dX6_isOpen_1 : decode cX6_isOpen 1 = .ok (.getfield 27, 3) := by decide +kernel
theorem dX6_isOpen_4 : decode cX6_isOpen 4 = .ok (.iconst (-1), 1) := by decide +kernel
theorem dX6_isOpen_5 : decode cX6_isOpen 5 = .ok (.if_icmp .ne 7, 3) := by decide +kernel
theorem dX6_isOpen_8 : decode cX6_isOpen 8 = .ok (.iconst 1, 1) := by decide +kernel
theorem dX6_isOpen_9 : decode cX6_isOpen 9 = .ok (.goto 4, 3) := by decide +kernel
theorem dX6_isOpen_12 : decode cX6_isOpen 12 = .ok (.iconst 0, 1) := by decide +kernel
theorem dX6_isOpen_13 : decode cX6_isOpen 13 = .ok (.ireturn, 1) := by decide +kernel
theorem dX6_isAt_0 : decode cX6_isAt 0 = .ok (.aload_n 0, 1) := by decide +kernel
theorem dX6_isAt_1 : decode cX6_isAt 1 = .ok (.getfield 15, 3) := by decide +kernel
theorem dX6_isAt_4 : decode cX6_isAt 4 = .ok (.iload_n 1, 1) := by decide +kernel
theorem dX6_isAt_5 : decode cX6_isAt 5 = .ok (.if_icmp .ne 15, 3) := by decide +kernel
theorem dX6_isAt_8 : decode cX6_isAt 8 = .ok (.aload_n 0, 1) := by decide +kernel
theorem dX6_isAt_9 : decode cX6_isAt 9 = .ok (.getfield 18, 3) := by decide +kernel
theorem dX6_isAt_12 : decode cX6_isAt 12 = .ok (.iload_n 2, 1) := by decide +kernel
theorem dX6_isAt_13 : decode cX6_isAt 13 = .ok (.if_icmp .ne 7, 3) := by decide +kernel
theorem dX6_isAt_16 : decode cX6_isAt 16 = .ok (.iconst 1, 1) := by decide +kernel
theorem dX6_isAt_17 : decode cX6_isAt 17 = .ok (.goto 4, 3) := by decide +kernel
theorem dX6_isAt_20 : decode cX6_isAt 20 = .ok (.iconst 0, 1) := by decide +kernel
theorem dX6_isAt_21 : decode cX6_isAt 21 = .ok (.ireturn, 1) := by decide +kernel
theorem dX6_daysOpenOn_0 : decode cX6_daysOpenOn 0 = .ok (.aload_n 0, 1) := by decide +kernel
theorem dX6_daysOpenOn_1 : decode cX6_daysOpenOn 1 = .ok (.invokevirtual 30, 3) := by decide +kernel
theorem dX6_daysOpenOn_4 : decode cX6_daysOpenOn 4 = .ok (.ifCond .eq 7, 3) := by decide +kernel
theorem dX6_daysOpenOn_7 : decode cX6_daysOpenOn 7 = .ok (.iload_n 1, 1) := by decide +kernel
theorem dX6_daysOpenOn_8 : decode cX6_daysOpenOn 8 = .ok (.goto 11, 3) := by decide +kernel
theorem dX6_daysOpenOn_11 : decode cX6_daysOpenOn 11 = .ok (.iload_n 1, 1) := by decide +kernel
theorem dX6_daysOpenOn_12 : decode cX6_daysOpenOn 12 = .ok (.aload_n 0, 1) := by decide +kernel
theorem dX6_daysOpenOn_13 : decode cX6_daysOpenOn 13 = .ok (.getfield 27, 3) := by decide +kernel
theorem dX6_daysOpenOn_16 : decode cX6_daysOpenOn 16 = .ok (.invokestatic 34, 3) := by decide +kernel
theorem dX6_daysOpenOn_19 : decode cX6_daysOpenOn 19 = .ok (.istore_n 2, 1) := by decide +kernel
theorem dX6_daysOpenOn_20 : decode cX6_daysOpenOn 20 = .ok (.iload_n 2, 1) := by decide +kernel
theorem dX6_daysOpenOn_21 : decode cX6_daysOpenOn 21 = .ok (.aload_n 0, 1) := by decide +kernel
theorem dX6_daysOpenOn_22 : decode cX6_daysOpenOn 22 = .ok (.getfield 21, 3) := by decide +kernel
theorem dX6_daysOpenOn_25 : decode cX6_daysOpenOn 25 = .ok (.isub, 1) := by decide +kernel
theorem dX6_daysOpenOn_26 : decode cX6_daysOpenOn 26 = .ok (.ireturn, 1) := by decide +kernel
theorem dX7_init_0 : decode cX7_init 0 = .ok (.aload_n 0, 1) := by decide +kernel
theorem dX7_init_1 : decode cX7_init 1 = .ok (.invokespecial 3, 3) := by decide +kernel
theorem dX7_init_4 : decode cX7_init 4 = .ok (.aload_n 0, 1) := by decide +kernel
theorem dX7_init_5 : decode cX7_init 5 = .ok (.bipush 6, 2) := by decide +kernel
theorem dX7_init_7 : decode cX7_init 7 = .ok (.newarray .int, 2) := by decide +kernel
theorem dX7_init_9 : decode cX7_init 9 = .ok (.putfield 9, 3) := by decide +kernel
theorem dX7_init_12 : decode cX7_init 12 = .ok (.aload_n 0, 1) := by decide +kernel
theorem dX7_init_13 : decode cX7_init 13 = .ok (.bipush 18, 2) := by decide +kernel
theorem dX7_init_15 : decode cX7_init 15 = .ok (.newarray .int, 2) := by decide +kernel
theorem dX7_init_17 : decode cX7_init 17 = .ok (.putfield 15, 3) := by decide +kernel
theorem dX7_init_20 : decode cX7_init 20 = .ok (.aload_n 0, 1) := by decide +kernel
theorem dX7_init_21 : decode cX7_init 21 = .ok (.bipush 18, 2) := by decide +kernel
theorem dX7_init_23 : decode cX7_init 23 = .ok (.newarray .int, 2) := by decide +kernel
theorem dX7_init_25 : decode cX7_init 25 = .ok (.putfield 18, 3) := by decide +kernel
theorem dX7_init_28 : decode cX7_init 28 = .ok (.aload_n 0, 1) := by decide +kernel
theorem dX7_init_29 : decode cX7_init 29 = .ok (.iconst 3, 1) := by decide +kernel
theorem dX7_init_30 : decode cX7_init 30 = .ok (.newarray .int, 2) := by decide +kernel
theorem dX7_init_32 : decode cX7_init 32 = .ok (.putfield 21, 3) := by decide +kernel
theorem dX7_init_35 : decode cX7_init 35 = .ok (.aload_n 0, 1) := by decide +kernel
theorem dX7_init_36 : decode cX7_init 36 = .ok (.bipush 6, 2) := by decide +kernel
theorem dX7_init_38 : decode cX7_init 38 = .ok (.newarray .int, 2) := by decide +kernel
theorem dX7_init_40 : decode cX7_init 40 = .ok (.putfield 24, 3) := by decide +kernel
theorem dX7_init_43 : decode cX7_init 43 = .ok (.aload_n 0, 1) := by decide +kernel
theorem dX7_init_44 : decode cX7_init 44 = .ok (.bipush 6, 2) := by decide +kernel
theorem dX7_init_46 : decode cX7_init 46 = .ok (.newarray .int, 2) := by decide +kernel
theorem dX7_init_48 : decode cX7_init 48 = .ok (.putfield 27, 3) := by decide +kernel
theorem dX7_init_51 : decode cX7_init 51 = .ok (.aload_n 0, 1) := by decide +kernel
theorem dX7_init_52 : decode cX7_init 52 = .ok (.bipush 8, 2) := by decide +kernel
theorem dX7_init_54 : decode cX7_init 54 = .ok (.newarray .int, 2) := by decide +kernel
theorem dX7_init_56 : decode cX7_init 56 = .ok (.putfield 30, 3) := by decide +kernel
theorem dX7_init_59 : decode cX7_init 59 = .ok (.aload_n 0, 1) := by decide +kernel
theorem dX7_init_60 : decode cX7_init 60 = .ok (.getfield 30, 3) := by decide +kernel
theorem dX7_init_63 : decode cX7_init 63 = .ok (.iconst (-1), 1) := by decide +kernel
theorem dX7_init_64 : decode cX7_init 64 = .ok (.invokestatic 33, 3) := by decide +kernel
theorem dX7_init_67 : decode cX7_init 67 = .ok (.return_, 1) := by decide +kernel
theorem dX7_begin_0 : decode cX7_begin 0 = .ok (.aload_n 0, 1) := by decide +kernel
theorem dX7_begin_1 : decode cX7_begin 1 = .ok (.iload_n 1, 1) := by decide +kernel
theorem dX7_begin_2 : decode cX7_begin 2 = .ok (.putfield 39, 3) := by decide +kernel
theorem dX7_begin_5 : decode cX7_begin 5 = .ok (.aload_n 0, 1) := by decide +kernel
theorem dX7_begin_6 : decode cX7_begin 6 = .ok (.getfield 21, 3) := by decide +kernel
theorem dX7_begin_9 : decode cX7_begin 9 = .ok (.iconst 0, 1) := by decide +kernel
theorem dX7_begin_10 : decode cX7_begin 10 = .ok (.iload_n 2, 1) := by decide +kernel
theorem dX7_begin_11 : decode cX7_begin 11 = .ok (.iastore, 1) := by decide +kernel
theorem dX7_begin_12 : decode cX7_begin 12 = .ok (.aload_n 0, 1) := by decide +kernel
theorem dX7_begin_13 : decode cX7_begin 13 = .ok (.getfield 21, 3) := by decide +kernel
theorem dX7_begin_16 : decode cX7_begin 16 = .ok (.iconst 1, 1) := by decide +kernel
theorem dX7_begin_17 : decode cX7_begin 17 = .ok (.iload_n 3, 1) := by decide +kernel
theorem dX7_begin_18 : decode cX7_begin 18 = .ok (.iastore, 1) := by decide +kernel
theorem dX7_begin_19 : decode cX7_begin 19 = .ok (.aload_n 0, 1) := by decide +kernel
theorem dX7_begin_20 : decode cX7_begin 20 = .ok (.getfield 21, 3) := by decide +kernel
theorem dX7_begin_23 : decode cX7_begin 23 = .ok (.iconst 2, 1) := by decide +kernel
theorem dX7_begin_24 : decode cX7_begin 24 = .ok (.iload 4, 2) := by decide +kernel
theorem dX7_begin_26 : decode cX7_begin 26 = .ok (.iastore, 1) := by decide +kernel
theorem dX7_begin_27 : decode cX7_begin 27 = .ok (.aload_n 0, 1) := by decide +kernel
theorem dX7_begin_28 : decode cX7_begin 28 = .ok (.iconst 0, 1) := by decide +kernel
theorem dX7_begin_29 : decode cX7_begin 29 = .ok (.putfield 43, 3) := by decide +kernel
theorem dX7_begin_32 : decode cX7_begin 32 = .ok (.aload_n 0, 1) := by decide +kernel
theorem dX7_begin_33 : decode cX7_begin 33 = .ok (.iconst (-1), 1) := by decide +kernel
theorem dX7_begin_34 : decode cX7_begin 34 = .ok (.putfield 46, 3) := by decide +kernel
theorem dX7_begin_37 : decode cX7_begin 37 = .ok (.aload_n 0, 1) := by decide +kernel
theorem dX7_begin_38 : decode cX7_begin 38 = .ok (.iconst 0, 1) := by decide +kernel
theorem dX7_begin_39 : decode cX7_begin 39 = .ok (.putfield 49, 3) := by decide +kernel
theorem dX7_begin_42 : decode cX7_begin 42 = .ok (.return_, 1) := by decide +kernel
theorem dX7_join_0 : decode cX7_join 0 = .ok (.aload_n 0, 1) := by decide +kernel
theorem dX7_join_1 : decode cX7_join 1 = .ok (.getfield 43, 3) := by decide +kernel
theorem dX7_join_4 : decode cX7_join 4 = .ok (.bipush 6, 2) := by decide +kernel
theorem dX7_join_6 : decode cX7_join 6 = .ok (.if_icmp .lt 4, 3) := by decide +kernel
theorem dX7_join_9 : decode cX7_join 9 = .ok (.return_, 1) := by decide +kernel
theorem dX7_join_10 : decode cX7_join 10 = .ok (.aload_n 0, 1) := by decide +kernel
theorem dX7_join_11 : decode cX7_join 11 = .ok (.getfield 9, 3) := by decide +kernel
theorem dX7_join_14 : decode cX7_join 14 = .ok (.aload_n 0, 1) := by decide +kernel
theorem dX7_join_15 : decode cX7_join 15 = .ok (.getfield 43, 3) := by decide +kernel
theorem dX7_join_18 : decode cX7_join 18 = .ok (.iload_n 1, 1) := by decide +kernel
theorem dX7_join_19 : decode cX7_join 19 = .ok (.iastore, 1) := by decide +kernel
theorem dX7_join_20 : decode cX7_join 20 = .ok (.iconst 0, 1) := by decide +kernel
theorem dX7_join_21 : decode cX7_join 21 = .ok (.istore 4, 2) := by decide +kernel
theorem dX7_join_23 : decode cX7_join 23 = .ok (.iload 4, 2) := by decide +kernel
theorem dX7_join_25 : decode cX7_join 25 = .ok (.aload_n 0, 1) := by decide +kernel
theorem dX7_join_26 : decode cX7_join 26 = .ok (.getfield 39, 3) := by decide +kernel
theorem dX7_join_29 : decode cX7_join 29 = .ok (.if_icmp .ge 54, 3) := by decide +kernel
theorem dX7_join_32 : decode cX7_join 32 = .ok (.aload_n 0, 1) := by decide +kernel
theorem dX7_join_33 : decode cX7_join 33 = .ok (.getfield 15, 3) := by decide +kernel
theorem dX7_join_36 : decode cX7_join 36 = .ok (.aload_n 0, 1) := by decide +kernel
theorem dX7_join_37 : decode cX7_join 37 = .ok (.getfield 43, 3) := by decide +kernel
theorem dX7_join_40 : decode cX7_join 40 = .ok (.iconst 3, 1) := by decide +kernel
theorem dX7_join_41 : decode cX7_join 41 = .ok (.imul, 1) := by decide +kernel
theorem dX7_join_42 : decode cX7_join 42 = .ok (.iload 4, 2) := by decide +kernel
theorem dX7_join_44 : decode cX7_join 44 = .ok (.iadd, 1) := by decide +kernel
theorem dX7_join_45 : decode cX7_join 45 = .ok (.aload_n 2, 1) := by decide +kernel
theorem dX7_join_46 : decode cX7_join 46 = .ok (.iload_n 3, 1) := by decide +kernel
theorem dX7_join_47 : decode cX7_join 47 = .ok (.iload 4, 2) := by decide +kernel
theorem dX7_join_49 : decode cX7_join 49 = .ok (.iadd, 1) := by decide +kernel
theorem dX7_join_50 : decode cX7_join 50 = .ok (.iload_n 3, 1) := by decide +kernel
theorem dX7_join_51 : decode cX7_join 51 = .ok (.invokevirtual 52, 3) := by decide +kernel
theorem dX7_join_54 : decode cX7_join 54 = .ok (.iastore, 1) := by decide +kernel
theorem dX7_join_55 : decode cX7_join 55 = .ok (.aload_n 0, 1) := by decide +kernel
theorem dX7_join_56 : decode cX7_join 56 = .ok (.getfield 18, 3) := by decide +kernel
theorem dX7_join_59 : decode cX7_join 59 = .ok (.aload_n 0, 1) := by decide +kernel
theorem dX7_join_60 : decode cX7_join 60 = .ok (.getfield 43, 3) := by decide +kernel
theorem dX7_join_63 : decode cX7_join 63 = .ok (.iconst 3, 1) := by decide +kernel
theorem dX7_join_64 : decode cX7_join 64 = .ok (.imul, 1) := by decide +kernel
theorem dX7_join_65 : decode cX7_join 65 = .ok (.iload 4, 2) := by decide +kernel
theorem dX7_join_67 : decode cX7_join 67 = .ok (.iadd, 1) := by decide +kernel
theorem dX7_join_68 : decode cX7_join 68 = .ok (.aload_n 2, 1) := by decide +kernel
theorem dX7_join_69 : decode cX7_join 69 = .ok (.iload_n 3, 1) := by decide +kernel
theorem dX7_join_70 : decode cX7_join 70 = .ok (.iload 4, 2) := by decide +kernel
theorem dX7_join_72 : decode cX7_join 72 = .ok (.iadd, 1) := by decide +kernel
theorem dX7_join_73 : decode cX7_join 73 = .ok (.invokevirtual 58, 3) := by decide +kernel
theorem dX7_join_76 : decode cX7_join 76 = .ok (.iastore, 1) := by decide +kernel
theorem dX7_join_77 : decode cX7_join 77 = .ok (.iinc 4 1, 3) := by decide +kernel
theorem dX7_join_80 : decode cX7_join 80 = .ok (.goto (-57), 3) := by decide +kernel
theorem dX7_join_83 : decode cX7_join 83 = .ok (.aload_n 0, 1) := by decide +kernel
theorem dX7_join_84 : decode cX7_join 84 = .ok (.dup, 1) := by decide +kernel
theorem dX7_join_85 : decode cX7_join 85 = .ok (.getfield 43, 3) := by decide +kernel
theorem dX7_join_88 : decode cX7_join 88 = .ok (.iconst 1, 1) := by decide +kernel
theorem dX7_join_89 : decode cX7_join 89 = .ok (.iadd, 1) := by decide +kernel
theorem dX7_join_90 : decode cX7_join 90 = .ok (.putfield 43, 3) := by decide +kernel
theorem dX7_join_93 : decode cX7_join 93 = .ok (.return_, 1) := by decide +kernel
theorem dX7_findBest_0 : decode cX7_findBest 0 = .ok (.aload_n 0, 1) := by decide +kernel
theorem dX7_findBest_1 : decode cX7_findBest 1 = .ok (.iconst 0, 1) := by decide +kernel
theorem dX7_findBest_2 : decode cX7_findBest 2 = .ok (.iconst 0, 1) := by decide +kernel
theorem dX7_findBest_3 : decode cX7_findBest 3 = .ok (.iconst 0, 1) := by decide +kernel
theorem dX7_findBest_4 : decode cX7_findBest 4 = .ok (.invokevirtual 62, 3) := by decide +kernel
theorem dX7_findBest_7 : decode cX7_findBest 7 = .ok (.aload_n 0, 1) := by decide +kernel
theorem dX7_findBest_8 : decode cX7_findBest 8 = .ok (.getfield 30, 3) := by decide +kernel
theorem dX7_findBest_11 : decode cX7_findBest 11 = .ok (.iconst (-1), 1) := by decide +kernel
theorem dX7_findBest_12 : decode cX7_findBest 12 = .ok (.invokestatic 33, 3) := by decide +kernel
theorem dX7_findBest_15 : decode cX7_findBest 15 = .ok (.iconst 0, 1) := by decide +kernel
theorem dX7_findBest_16 : decode cX7_findBest 16 = .ok (.istore_n 2, 1) := by decide +kernel
theorem dX7_findBest_17 : decode cX7_findBest 17 = .ok (.iload_n 2, 1) := by decide +kernel
theorem dX7_findBest_18 : decode cX7_findBest 18 = .ok (.aload_n 0, 1) := by decide +kernel
theorem dX7_findBest_19 : decode cX7_findBest 19 = .ok (.getfield 43, 3) := by decide +kernel
theorem dX7_findBest_22 : decode cX7_findBest 22 = .ok (.if_icmp .ge 46, 3) := by decide +kernel
theorem dX7_findBest_25 : decode cX7_findBest 25 = .ok (.aload_n 0, 1) := by decide +kernel
theorem dX7_findBest_26 : decode cX7_findBest 26 = .ok (.getfield 30, 3) := by decide +kernel
theorem dX7_findBest_29 : decode cX7_findBest 29 = .ok (.aload_n 0, 1) := by decide +kernel
theorem dX7_findBest_30 : decode cX7_findBest 30 = .ok (.getfield 9, 3) := by decide +kernel
theorem dX7_findBest_33 : decode cX7_findBest 33 = .ok (.iload_n 2, 1) := by decide +kernel
theorem dX7_findBest_34 : decode cX7_findBest 34 = .ok (.iaload, 1) := by decide +kernel
theorem dX7_findBest_35 : decode cX7_findBest 35 = .ok (.aload_n 0, 1) := by decide +kernel
theorem dX7_findBest_36 : decode cX7_findBest 36 = .ok (.getfield 27, 3) := by decide +kernel
theorem dX7_findBest_39 : decode cX7_findBest 39 = .ok (.iload_n 2, 1) := by decide +kernel
theorem dX7_findBest_40 : decode cX7_findBest 40 = .ok (.iaload, 1) := by decide +kernel
theorem dX7_findBest_41 : decode cX7_findBest 41 = .ok (.aload_n 0, 1) := by decide +kernel
theorem dX7_findBest_42 : decode cX7_findBest 42 = .ok (.getfield 39, 3) := by decide +kernel
theorem dX7_findBest_45 : decode cX7_findBest 45 = .ok (.if_icmp .ne 8, 3) := by decide +kernel
theorem dX7_findBest_48 : decode cX7_findBest 48 = .ok (.bipush (-2), 2) := by decide +kernel
theorem dX7_findBest_50 : decode cX7_findBest 50 = .ok (.goto 11, 3) := by decide +kernel
theorem dX7_findBest_53 : decode cX7_findBest 53 = .ok (.iload_n 1, 1) := by decide +kernel
theorem dX7_findBest_54 : decode cX7_findBest 54 = .ok (.aload_n 0, 1) := by decide +kernel
theorem dX7_findBest_55 : decode cX7_findBest 55 = .ok (.getfield 27, 3) := by decide +kernel
theorem dX7_findBest_58 : decode cX7_findBest 58 = .ok (.iload_n 2, 1) := by decide +kernel
theorem dX7_findBest_59 : decode cX7_findBest 59 = .ok (.iaload, 1) := by decide +kernel
theorem dX7_findBest_60 : decode cX7_findBest 60 = .ok (.iadd, 1) := by decide +kernel
theorem dX7_findBest_61 : decode cX7_findBest 61 = .ok (.iastore, 1) := by decide +kernel
theorem dX7_findBest_62 : decode cX7_findBest 62 = .ok (.iinc 2 1, 3) := by decide +kernel
theorem dX7_findBest_65 : decode cX7_findBest 65 = .ok (.goto (-48), 3) := by decide +kernel
theorem dX7_findBest_68 : decode cX7_findBest 68 = .ok (.aload_n 0, 1) := by decide +kernel
theorem dX7_findBest_69 : decode cX7_findBest 69 = .ok (.getfield 46, 3) := by decide +kernel
theorem dX7_findBest_72 : decode cX7_findBest 72 = .ok (.ireturn, 1) := by decide +kernel
theorem dX7_tryFrom_0 : decode cX7_tryFrom 0 = .ok (.iload_n 1, 1) := by decide +kernel
theorem dX7_tryFrom_1 : decode cX7_tryFrom 1 = .ok (.aload_n 0, 1) := by decide +kernel
theorem dX7_tryFrom_2 : decode cX7_tryFrom 2 = .ok (.getfield 43, 3) := by decide +kernel
theorem dX7_tryFrom_5 : decode cX7_tryFrom 5 = .ok (.if_icmp .ge 9, 3) := by decide +kernel
theorem dX7_tryFrom_8 : decode cX7_tryFrom 8 = .ok (.iload_n 1, 1) := by decide +kernel
theorem dX7_tryFrom_9 : decode cX7_tryFrom 9 = .ok (.bipush 6, 2) := by decide +kernel
theorem dX7_tryFrom_11 : decode cX7_tryFrom 11 = .ok (.if_icmp .lt 10, 3) := by decide +kernel
theorem dX7_tryFrom_14 : decode cX7_tryFrom 14 = .ok (.aload_n 0, 1) := by decide +kernel
theorem dX7_tryFrom_15 : decode cX7_tryFrom 15 = .ok (.iload_n 2, 1) := by decide +kernel
theorem dX7_tryFrom_16 : decode cX7_tryFrom 16 = .ok (.iload_n 3, 1) := by decide +kernel
theorem dX7_tryFrom_17 : decode cX7_tryFrom 17 = .ok (.invokevirtual 66, 3) := by decide +kernel
theorem dX7_tryFrom_20 : decode cX7_tryFrom 20 = .ok (.return_, 1) := by decide +kernel
theorem dX7_tryFrom_21 : decode cX7_tryFrom 21 = .ok (.iconst 0, 1) := by decide +kernel
theorem dX7_tryFrom_22 : decode cX7_tryFrom 22 = .ok (.istore 4, 2) := by decide +kernel
theorem dX7_tryFrom_24 : decode cX7_tryFrom 24 = .ok (.iload 4, 2) := by decide +kernel
theorem dX7_tryFrom_26 : decode cX7_tryFrom 26 = .ok (.aload_n 0, 1) := by decide +kernel
theorem dX7_tryFrom_27 : decode cX7_tryFrom 27 = .ok (.getfield 39, 3) := by decide +kernel
theorem dX7_tryFrom_30 : decode cX7_tryFrom 30 = .ok (.if_icmp .ge 90, 3) := by decide +kernel
theorem dX7_tryFrom_33 : decode cX7_tryFrom 33 = .ok (.aload_n 0, 1) := by decide +kernel
theorem dX7_tryFrom_34 : decode cX7_tryFrom 34 = .ok (.getfield 18, 3) := by decide +kernel
theorem dX7_tryFrom_37 : decode cX7_tryFrom 37 = .ok (.iload_n 1, 1) := by decide +kernel
theorem dX7_tryFrom_38 : decode cX7_tryFrom 38 = .ok (.iconst 3, 1) := by decide +kernel
theorem dX7_tryFrom_39 : decode cX7_tryFrom 39 = .ok (.imul, 1) := by decide +kernel
theorem dX7_tryFrom_40 : decode cX7_tryFrom 40 = .ok (.iload 4, 2) := by decide +kernel
theorem dX7_tryFrom_42 : decode cX7_tryFrom 42 = .ok (.iadd, 1) := by decide +kernel
theorem dX7_tryFrom_43 : decode cX7_tryFrom 43 = .ok (.iaload, 1) := by decide +kernel
theorem dX7_tryFrom_44 : decode cX7_tryFrom 44 = .ok (.istore 5, 2) := by decide +kernel
theorem dX7_tryFrom_46 : decode cX7_tryFrom 46 = .ok (.iload 5, 2) := by decide +kernel
theorem dX7_tryFrom_48 : decode cX7_tryFrom 48 = .ok (.aload_n 0, 1) := by decide +kernel
theorem dX7_tryFrom_49 : decode cX7_tryFrom 49 = .ok (.getfield 21, 3) := by decide +kernel
theorem dX7_tryFrom_52 : decode cX7_tryFrom 52 = .ok (.iload 4, 2) := by decide +kernel
theorem dX7_tryFrom_54 : decode cX7_tryFrom 54 = .ok (.iaload, 1) := by decide +kernel
theorem dX7_tryFrom_55 : decode cX7_tryFrom 55 = .ok (.if_icmp .gt 59, 3) := by decide +kernel
theorem dX7_tryFrom_58 : decode cX7_tryFrom 58 = .ok (.aload_n 0, 1) := by decide +kernel
theorem dX7_tryFrom_59 : decode cX7_tryFrom 59 = .ok (.getfield 21, 3) := by decide +kernel
theorem dX7_tryFrom_62 : decode cX7_tryFrom 62 = .ok (.iload 4, 2) := by decide +kernel
theorem dX7_tryFrom_64 : decode cX7_tryFrom 64 = .ok (.dup2, 1) := by decide +kernel
theorem dX7_tryFrom_65 : decode cX7_tryFrom 65 = .ok (.iaload, 1) := by decide +kernel
theorem dX7_tryFrom_66 : decode cX7_tryFrom 66 = .ok (.iload 5, 2) := by decide +kernel
theorem dX7_tryFrom_68 : decode cX7_tryFrom 68 = .ok (.isub, 1) := by decide +kernel
theorem dX7_tryFrom_69 : decode cX7_tryFrom 69 = .ok (.iastore, 1) := by decide +kernel
theorem dX7_tryFrom_70 : decode cX7_tryFrom 70 = .ok (.aload_n 0, 1) := by decide +kernel
theorem dX7_tryFrom_71 : decode cX7_tryFrom 71 = .ok (.getfield 24, 3) := by decide +kernel
theorem dX7_tryFrom_74 : decode cX7_tryFrom 74 = .ok (.iload_n 1, 1) := by decide +kernel
theorem dX7_tryFrom_75 : decode cX7_tryFrom 75 = .ok (.iload 4, 2) := by decide +kernel
theorem dX7_tryFrom_77 : decode cX7_tryFrom 77 = .ok (.iastore, 1) := by decide +kernel
theorem dX7_tryFrom_78 : decode cX7_tryFrom 78 = .ok (.aload_n 0, 1) := by decide +kernel
theorem dX7_tryFrom_79 : decode cX7_tryFrom 79 = .ok (.iload_n 1, 1) := by decide +kernel
theorem dX7_tryFrom_80 : decode cX7_tryFrom 80 = .ok (.iconst 1, 1) := by decide +kernel
theorem dX7_tryFrom_81 : decode cX7_tryFrom 81 = .ok (.iadd, 1) := by decide +kernel
theorem dX7_tryFrom_82 : decode cX7_tryFrom 82 = .ok (.iload_n 2, 1) := by decide +kernel
theorem dX7_tryFrom_83 : decode cX7_tryFrom 83 = .ok (.aload_n 0, 1) := by decide +kernel
theorem dX7_tryFrom_84 : decode cX7_tryFrom 84 = .ok (.getfield 15, 3) := by decide +kernel
theorem dX7_tryFrom_87 : decode cX7_tryFrom 87 = .ok (.iload_n 1, 1) := by decide +kernel
theorem dX7_tryFrom_88 : decode cX7_tryFrom 88 = .ok (.iconst 3, 1) := by decide +kernel
theorem dX7_tryFrom_89 : decode cX7_tryFrom 89 = .ok (.imul, 1) := by decide +kernel
theorem dX7_tryFrom_90 : decode cX7_tryFrom 90 = .ok (.iload 4, 2) := by decide +kernel
theorem dX7_tryFrom_92 : decode cX7_tryFrom 92 = .ok (.iadd, 1) := by decide +kernel
theorem dX7_tryFrom_93 : decode cX7_tryFrom 93 = .ok (.iaload, 1) := by decide +kernel
theorem dX7_tryFrom_94 : decode cX7_tryFrom 94 = .ok (.iadd, 1) := by decide +kernel
theorem dX7_tryFrom_95 : decode cX7_tryFrom 95 = .ok (.iload_n 3, 1) := by decide +kernel
theorem dX7_tryFrom_96 : decode cX7_tryFrom 96 = .ok (.iload 5, 2) := by decide +kernel
theorem dX7_tryFrom_98 : decode cX7_tryFrom 98 = .ok (.iadd, 1) := by decide +kernel
theorem dX7_tryFrom_99 : decode cX7_tryFrom 99 = .ok (.invokevirtual 62, 3) := by decide +kernel
theorem dX7_tryFrom_102 : decode cX7_tryFrom 102 = .ok (.aload_n 0, 1) := by decide +kernel
theorem dX7_tryFrom_103 : decode cX7_tryFrom 103 = .ok (.getfield 21, 3) := by decide +kernel
theorem dX7_tryFrom_106 : decode cX7_tryFrom 106 = .ok (.iload 4, 2) := by decide +kernel
theorem dX7_tryFrom_108 : decode cX7_tryFrom 108 = .ok (.dup2, 1) := by decide +kernel
theorem dX7_tryFrom_109 : decode cX7_tryFrom 109 = .ok (.iaload, 1) := by decide +kernel
theorem dX7_tryFrom_110 : decode cX7_tryFrom 110 = .ok (.iload 5, 2) := by decide +kernel
theorem dX7_tryFrom_112 : decode cX7_tryFrom 112 = .ok (.iadd, 1) := by decide +kernel
theorem dX7_tryFrom_113 : decode cX7_tryFrom 113 = .ok (.iastore, 1) := by decide +kernel
theorem dX7_tryFrom_114 : decode cX7_tryFrom 114 = .ok (.iinc 4 1, 3) := by decide +kernel
theorem dX7_tryFrom_117 : decode cX7_tryFrom 117 = .ok (.goto (-93), 3) := by decide +kernel
theorem dX7_tryFrom_120 : decode cX7_tryFrom 120 = .ok (.aload_n 0, 1) := by decide +kernel
theorem dX7_tryFrom_121 : decode cX7_tryFrom 121 = .ok (.getfield 24, 3) := by decide +kernel
theorem dX7_tryFrom_124 : decode cX7_tryFrom 124 = .ok (.iload_n 1, 1) := by decide +kernel
theorem dX7_tryFrom_125 : decode cX7_tryFrom 125 = .ok (.aload_n 0, 1) := by decide +kernel
theorem dX7_tryFrom_126 : decode cX7_tryFrom 126 = .ok (.getfield 39, 3) := by decide +kernel
theorem dX7_tryFrom_129 : decode cX7_tryFrom 129 = .ok (.iastore, 1) := by decide +kernel
theorem dX7_tryFrom_130 : decode cX7_tryFrom 130 = .ok (.aload_n 0, 1) := by decide +kernel
theorem dX7_tryFrom_131 : decode cX7_tryFrom 131 = .ok (.iload_n 1, 1) := by decide +kernel
theorem dX7_tryFrom_132 : decode cX7_tryFrom 132 = .ok (.iconst 1, 1) := by decide +kernel
theorem dX7_tryFrom_133 : decode cX7_tryFrom 133 = .ok (.iadd, 1) := by decide +kernel
theorem dX7_tryFrom_134 : decode cX7_tryFrom 134 = .ok (.iload_n 2, 1) := by decide +kernel
theorem dX7_tryFrom_135 : decode cX7_tryFrom 135 = .ok (.iload_n 3, 1) := by decide +kernel
theorem dX7_tryFrom_136 : decode cX7_tryFrom 136 = .ok (.invokevirtual 62, 3) := by decide +kernel
theorem dX7_tryFrom_139 : decode cX7_tryFrom 139 = .ok (.return_, 1) := by decide +kernel
theorem dX7_keepIfBetter_0 : decode cX7_keepIfBetter 0 = .ok (.iload_n 1, 1) := by decide +kernel
theorem dX7_keepIfBetter_1 : decode cX7_keepIfBetter 1 = .ok (.aload_n 0, 1) := by decide +kernel
theorem dX7_keepIfBetter_2 : decode cX7_keepIfBetter 2 = .ok (.getfield 46, 3) := by decide +kernel
theorem dX7_keepIfBetter_5 : decode cX7_keepIfBetter 5 = .ok (.if_icmp .gt 19, 3) := by decide +kernel
theorem dX7_keepIfBetter_8 : decode cX7_keepIfBetter 8 = .ok (.iload_n 1, 1) := by decide +kernel
theorem dX7_keepIfBetter_9 : decode cX7_keepIfBetter 9 = .ok (.aload_n 0, 1) := by decide +kernel
theorem dX7_keepIfBetter_10 : decode cX7_keepIfBetter 10 = .ok (.getfield 46, 3) := by decide +kernel
theorem dX7_keepIfBetter_13 : decode cX7_keepIfBetter 13 = .ok (.if_icmp .ne 36, 3) := by decide +kernel
theorem dX7_keepIfBetter_16 : decode cX7_keepIfBetter 16 = .ok (.iload_n 2, 1) := by decide +kernel
theorem dX7_keepIfBetter_17 : decode cX7_keepIfBetter 17 = .ok (.aload_n 0, 1) := by decide +kernel
theorem dX7_keepIfBetter_18 : decode cX7_keepIfBetter 18 = .ok (.getfield 49, 3) := by decide +kernel
theorem dX7_keepIfBetter_21 : decode cX7_keepIfBetter 21 = .ok (.if_icmp .ge 28, 3) := by decide +kernel
theorem dX7_keepIfBetter_24 : decode cX7_keepIfBetter 24 = .ok (.aload_n 0, 1) := by decide +kernel
theorem dX7_keepIfBetter_25 : decode cX7_keepIfBetter 25 = .ok (.iload_n 1, 1) := by decide +kernel
theorem dX7_keepIfBetter_26 : decode cX7_keepIfBetter 26 = .ok (.putfield 46, 3) := by decide +kernel
theorem dX7_keepIfBetter_29 : decode cX7_keepIfBetter 29 = .ok (.aload_n 0, 1) := by decide +kernel
theorem dX7_keepIfBetter_30 : decode cX7_keepIfBetter 30 = .ok (.iload_n 2, 1) := by decide +kernel
theorem dX7_keepIfBetter_31 : decode cX7_keepIfBetter 31 = .ok (.putfield 49, 3) := by decide +kernel
theorem dX7_keepIfBetter_34 : decode cX7_keepIfBetter 34 = .ok (.aload_n 0, 1) := by decide +kernel
theorem dX7_keepIfBetter_35 : decode cX7_keepIfBetter 35 = .ok (.getfield 24, 3) := by decide +kernel
theorem dX7_keepIfBetter_38 : decode cX7_keepIfBetter 38 = .ok (.iconst 0, 1) := by decide +kernel
theorem dX7_keepIfBetter_39 : decode cX7_keepIfBetter 39 = .ok (.aload_n 0, 1) := by decide +kernel
theorem dX7_keepIfBetter_40 : decode cX7_keepIfBetter 40 = .ok (.getfield 27, 3) := by decide +kernel
theorem dX7_keepIfBetter_43 : decode cX7_keepIfBetter 43 = .ok (.iconst 0, 1) := by decide +kernel
theorem dX7_keepIfBetter_44 : decode cX7_keepIfBetter 44 = .ok (.bipush 6, 2) := by decide +kernel
theorem dX7_keepIfBetter_46 : decode cX7_keepIfBetter 46 = .ok (.invokestatic 70, 3) := by decide +kernel
theorem dX7_keepIfBetter_49 : decode cX7_keepIfBetter 49 = .ok (.return_, 1) := by decide +kernel
theorem dX7_yearOf_0 : decode cX7_yearOf 0 = .ok (.iload_n 1, 1) := by decide +kernel
theorem dX7_yearOf_1 : decode cX7_yearOf 1 = .ok (.ifCond .lt 21, 3) := by decide +kernel
theorem dX7_yearOf_4 : decode cX7_yearOf 4 = .ok (.iload_n 1, 1) := by decide +kernel
theorem dX7_yearOf_5 : decode cX7_yearOf 5 = .ok (.aload_n 0, 1) := by decide +kernel
theorem dX7_yearOf_6 : decode cX7_yearOf 6 = .ok (.getfield 30, 3) := by decide +kernel
theorem dX7_yearOf_9 : decode cX7_yearOf 9 = .ok (.arraylength, 1) := by decide +kernel
theorem dX7_yearOf_10 : decode cX7_yearOf 10 = .ok (.if_icmp .ge 12, 3) := by decide +kernel
theorem dX7_yearOf_13 : decode cX7_yearOf 13 = .ok (.aload_n 0, 1) := by decide +kernel
theorem dX7_yearOf_14 : decode cX7_yearOf 14 = .ok (.getfield 30, 3) := by decide +kernel
theorem dX7_yearOf_17 : decode cX7_yearOf 17 = .ok (.iload_n 1, 1) := by decide +kernel
theorem dX7_yearOf_18 : decode cX7_yearOf 18 = .ok (.iaload, 1) := by decide +kernel
theorem dX7_yearOf_19 : decode cX7_yearOf 19 = .ok (.goto 4, 3) := by decide +kernel
theorem dX7_yearOf_22 : decode cX7_yearOf 22 = .ok (.iconst (-1), 1) := by decide +kernel
theorem dX7_yearOf_23 : decode cX7_yearOf 23 = .ok (.ireturn, 1) := by decide +kernel
theorem dX8_init_0 : decode cX8_init 0 = .ok (.aload_n 0, 1) := by decide +kernel
theorem dX8_init_1 : decode cX8_init 1 = .ok (.invokespecial 3, 3) := by decide +kernel
theorem dX8_init_4 : decode cX8_init 4 = .ok (.aload_n 0, 1) := by decide +kernel
theorem dX8_init_5 : decode cX8_init 5 = .ok (.iload_n 1, 1) := by decide +kernel
theorem dX8_init_6 : decode cX8_init 6 = .ok (.putfield 9, 3) := by decide +kernel
theorem dX8_init_9 : decode cX8_init 9 = .ok (.aload_n 0, 1) := by decide +kernel
theorem dX8_init_10 : decode cX8_init 10 = .ok (.iload_n 2, 1) := by decide +kernel
theorem dX8_init_11 : decode cX8_init 11 = .ok (.putfield 15, 3) := by decide +kernel
theorem dX8_init_14 : decode cX8_init 14 = .ok (.aload_n 0, 1) := by decide +kernel
theorem dX8_init_15 : decode cX8_init 15 = .ok (.iload_n 1, 1) := by decide +kernel
theorem dX8_init_16 : decode cX8_init 16 = .ok (.iload_n 2, 1) := by decide +kernel
theorem dX8_init_17 : decode cX8_init 17 = .ok (.imul, 1) := by decide +kernel
theorem dX8_init_18 : decode cX8_init 18 = .ok (.newarray .int, 2) := by decide +kernel
theorem dX8_init_20 : decode cX8_init 20 = .ok (.putfield 18, 3) := by decide +kernel
theorem dX8_init_23 : decode cX8_init 23 = .ok (.aload_n 0, 1) := by decide +kernel
theorem dX8_init_24 : decode cX8_init 24 = .ok (.getfield 18, 3) := by decide +kernel
theorem dX8_init_27 : decode cX8_init 27 = .ok (.iload_n 3, 1) := by decide +kernel
theorem dX8_init_28 : decode cX8_init 28 = .ok (.invokestatic 22, 3) := by decide +kernel
theorem dX8_init_31 : decode cX8_init 31 = .ok (.aload_n 0, 1) := by decide +kernel
theorem dX8_init_32 : decode cX8_init 32 = .ok (.iload_n 1, 1) := by decide +kernel
theorem dX8_init_33 : decode cX8_init 33 = .ok (.iload_n 2, 1) := by decide +kernel
theorem dX8_init_34 : decode cX8_init 34 = .ok (.imul, 1) := by decide +kernel
theorem dX8_init_35 : decode cX8_init 35 = .ok (.newarray .int, 2) := by decide +kernel
theorem dX8_init_37 : decode cX8_init 37 = .ok (.putfield 28, 3) := by decide +kernel
theorem dX8_init_40 : decode cX8_init 40 = .ok (.aload_n 0, 1) := by decide +kernel
theorem dX8_init_41 : decode cX8_init 41 = .ok (.bipush 31, 2) := by decide +kernel
theorem dX8_init_43 : decode cX8_init 43 = .ok (.newarray .int, 2) := by decide +kernel
theorem dX8_init_45 : decode cX8_init 45 = .ok (.putfield 31, 3) := by decide +kernel
theorem dX8_init_48 : decode cX8_init 48 = .ok (.aload_n 0, 1) := by decide +kernel
theorem dX8_init_49 : decode cX8_init 49 = .ok (.getfield 31, 3) := by decide +kernel
theorem dX8_init_52 : decode cX8_init 52 = .ok (.iconst (-1), 1) := by decide +kernel
theorem dX8_init_53 : decode cX8_init 53 = .ok (.invokestatic 22, 3) := by decide +kernel
theorem dX8_init_56 : decode cX8_init 56 = .ok (.return_, 1) := by decide +kernel
theorem dX8_has_0 : decode cX8_has 0 = .ok (.iload_n 1, 1) := by decide +kernel
theorem dX8_has_1 : decode cX8_has 1 = .ok (.ifCond .lt 27, 3) := by decide +kernel
theorem dX8_has_4 : decode cX8_has 4 = .ok (.iload_n 1, 1) := by decide +kernel
theorem dX8_has_5 : decode cX8_has 5 = .ok (.aload_n 0, 1) := by decide +kernel
theorem dX8_has_6 : decode cX8_has 6 = .ok (.getfield 9, 3) := by decide +kernel
theorem dX8_has_9 : decode cX8_has 9 = .ok (.if_icmp .ge 19, 3) := by decide +kernel
theorem dX8_has_12 : decode cX8_has 12 = .ok (.iload_n 2, 1) := by decide +kernel
theorem dX8_has_13 : decode cX8_has 13 = .ok (.ifCond .lt 15, 3) := by decide +kernel
theorem dX8_has_16 : decode cX8_has 16 = .ok (.iload_n 2, 1) := by decide +kernel
theorem dX8_has_17 : decode cX8_has 17 = .ok (.aload_n 0, 1) := by decide +kernel
theorem dX8_has_18 : decode cX8_has 18 = .ok (.getfield 15, 3) := by decide +kernel
theorem dX8_has_21 : decode cX8_has 21 = .ok (.if_icmp .ge 7, 3) := by decide +kernel
theorem dX8_has_24 : decode cX8_has 24 = .ok (.iconst 1, 1) := by decide +kernel
theorem dX8_has_25 : decode cX8_has 25 = .ok (.goto 4, 3) := by decide +kernel
theorem dX8_has_28 : decode cX8_has 28 = .ok (.iconst 0, 1) := by decide +kernel
theorem dX8_has_29 : decode cX8_has 29 = .ok (.ireturn, 1) := by decide +kernel
theorem dX8_placeOf_0 : decode cX8_placeOf 0 = .ok (.iload_n 1, 1) := by decide +kernel
theorem dX8_placeOf_1 : decode cX8_placeOf 1 = .ok (.aload_n 0, 1) := by decide +kernel
theorem dX8_placeOf_2 : decode cX8_placeOf 2 = .ok (.getfield 15, 3) := by decide +kernel
theorem dX8_placeOf_5 : decode cX8_placeOf 5 = .ok (.imul, 1) := by decide +kernel
theorem dX8_placeOf_6 : decode cX8_placeOf 6 = .ok (.iload_n 2, 1) := by decide +kernel
theorem dX8_placeOf_7 : decode cX8_placeOf 7 = .ok (.iadd, 1) := by decide +kernel
theorem dX8_placeOf_8 : decode cX8_placeOf 8 = .ok (.ireturn, 1) := by decide +kernel
theorem dX8_rowOf_0 : decode cX8_rowOf 0 = .ok (.aload_n 0, 1) := by decide +kernel
theorem dX8_rowOf_1 : decode cX8_rowOf 1 = .ok (.getfield 15, 3) := by decide +kernel
theorem dX8_rowOf_4 : decode cX8_rowOf 4 = .ok (.ifCond .ne 7, 3) := by decide +kernel
theorem dX8_rowOf_7 : decode cX8_rowOf 7 = .ok (.iconst 0, 1) := by decide +kernel
theorem dX8_rowOf_8 : decode cX8_rowOf 8 = .ok (.goto 9, 3) := by decide +kernel
theorem dX8_rowOf_11 : decode cX8_rowOf 11 = .ok (.iload_n 1, 1) := by decide +kernel
theorem dX8_rowOf_12 : decode cX8_rowOf 12 = .ok (.aload_n 0, 1) := by decide +kernel
theorem dX8_rowOf_13 : decode cX8_rowOf 13 = .ok (.getfield 15, 3) := by decide +kernel
theorem dX8_rowOf_16 : decode cX8_rowOf 16 = .ok (.idiv, 1) := by decide +kernel
theorem dX8_rowOf_17 : decode cX8_rowOf 17 = .ok (.ireturn, 1) := by decide +kernel
theorem dX8_columnOf_0 : decode cX8_columnOf 0 = .ok (.aload_n 0, 1) := by decide +kernel
theorem dX8_columnOf_1 : decode cX8_columnOf 1 = .ok (.getfield 15, 3) := by decide +kernel
theorem dX8_columnOf_4 : decode cX8_columnOf 4 = .ok (.ifCond .ne 7, 3) := by decide +kernel
theorem dX8_columnOf_7 : decode cX8_columnOf 7 = .ok (.iconst 0, 1) := by decide +kernel
theorem dX8_columnOf_8 : decode cX8_columnOf 8 = .ok (.goto 9, 3) := by decide +kernel
theorem dX8_columnOf_11 : decode cX8_columnOf 11 = .ok (.iload_n 1, 1) := by decide +kernel
theorem dX8_columnOf_12 : decode cX8_columnOf 12 = .ok (.aload_n 0, 1) := by decide +kernel
theorem dX8_columnOf_13 : decode cX8_columnOf 13 = .ok (.getfield 15, 3) := by decide +kernel
theorem dX8_columnOf_16 : decode cX8_columnOf 16 = .ok (.irem, 1) := by decide +kernel
theorem dX8_columnOf_17 : decode cX8_columnOf 17 = .ok (.ireturn, 1) := by decide +kernel
theorem dX8_nextOfWater_0 : decode cX8_nextOfWater 0 = .ok (.aload_n 0, 1) := by decide +kernel
theorem dX8_nextOfWater_1 : decode cX8_nextOfWater 1 = .ok (.getfield 28, 3) := by decide +kernel
theorem dX8_nextOfWater_4 : decode cX8_nextOfWater 4 = .ok (.iload_n 1, 1) := by decide +kernel
theorem dX8_nextOfWater_5 : decode cX8_nextOfWater 5 = .ok (.iaload, 1) := by decide +kernel
theorem dX8_nextOfWater_6 : decode cX8_nextOfWater 6 = .ok (.iconst 1, 1) := by decide +kernel
theorem dX8_nextOfWater_7 : decode cX8_nextOfWater 7 = .ok (.if_icmp .ne 5, 3) := by decide +kernel
theorem dX8_nextOfWater_10 : decode cX8_nextOfWater 10 = .ok (.iload_n 1, 1) := by decide +kernel
theorem dX8_nextOfWater_11 : decode cX8_nextOfWater 11 = .ok (.ireturn, 1) := by decide +kernel
theorem dX8_nextOfWater_12 : decode cX8_nextOfWater 12 = .ok (.aload_n 0, 1) := by decide +kernel
theorem dX8_nextOfWater_13 : decode cX8_nextOfWater 13 = .ok (.iload_n 1, 1) := by decide +kernel
theorem dX8_nextOfWater_14 : decode cX8_nextOfWater 14 = .ok (.invokevirtual 34, 3) := by decide +kernel
theorem dX8_nextOfWater_17 : decode cX8_nextOfWater 17 = .ok (.istore_n 2, 1) := by decide +kernel
theorem dX8_nextOfWater_18 : decode cX8_nextOfWater 18 = .ok (.aload_n 0, 1) := by decide +kernel
theorem dX8_nextOfWater_19 : decode cX8_nextOfWater 19 = .ok (.iload_n 1, 1) := by decide +kernel
theorem dX8_nextOfWater_20 : decode cX8_nextOfWater 20 = .ok (.invokevirtual 38, 3) := by decide +kernel
theorem dX8_nextOfWater_23 : decode cX8_nextOfWater 23 = .ok (.istore_n 3, 1) := by decide +kernel
theorem dX8_nextOfWater_24 : decode cX8_nextOfWater 24 = .ok (.aload_n 0, 1) := by decide +kernel
theorem dX8_nextOfWater_25 : decode cX8_nextOfWater 25 = .ok (.iload_n 1, 1) := by decide +kernel
theorem dX8_nextOfWater_26 : decode cX8_nextOfWater 26 = .ok (.iload_n 2, 1) := by decide +kernel
theorem dX8_nextOfWater_27 : decode cX8_nextOfWater 27 = .ok (.iconst 1, 1) := by decide +kernel
theorem dX8_nextOfWater_28 : decode cX8_nextOfWater 28 = .ok (.isub, 1) := by decide +kernel
theorem dX8_nextOfWater_29 : decode cX8_nextOfWater 29 = .ok (.iload_n 3, 1) := by decide +kernel
theorem dX8_nextOfWater_30 : decode cX8_nextOfWater 30 = .ok (.invokevirtual 41, 3) := by decide +kernel
theorem dX8_nextOfWater_33 : decode cX8_nextOfWater 33 = .ok (.istore 4, 2) := by decide +kernel
theorem dX8_nextOfWater_35 : decode cX8_nextOfWater 35 = .ok (.aload_n 0, 1) := by decide +kernel
theorem dX8_nextOfWater_36 : decode cX8_nextOfWater 36 = .ok (.iload 4, 2) := by decide +kernel
theorem dX8_nextOfWater_38 : decode cX8_nextOfWater 38 = .ok (.iload_n 2, 1) := by decide +kernel
theorem dX8_nextOfWater_39 : decode cX8_nextOfWater 39 = .ok (.iload_n 3, 1) := by decide +kernel
theorem dX8_nextOfWater_40 : decode cX8_nextOfWater 40 = .ok (.iconst 1, 1) := by decide +kernel
theorem dX8_nextOfWater_41 : decode cX8_nextOfWater 41 = .ok (.isub, 1) := by decide +kernel
theorem dX8_nextOfWater_42 : decode cX8_nextOfWater 42 = .ok (.invokevirtual 41, 3) := by decide +kernel
theorem dX8_nextOfWater_45 : decode cX8_nextOfWater 45 = .ok (.istore 4, 2) := by decide +kernel
theorem dX8_nextOfWater_47 : decode cX8_nextOfWater 47 = .ok (.aload_n 0, 1) := by decide +kernel
theorem dX8_nextOfWater_48 : decode cX8_nextOfWater 48 = .ok (.iload 4, 2) := by decide +kernel
theorem dX8_nextOfWater_50 : decode cX8_nextOfWater 50 = .ok (.iload_n 2, 1) := by decide +kernel
theorem dX8_nextOfWater_51 : decode cX8_nextOfWater 51 = .ok (.iload_n 3, 1) := by decide +kernel
theorem dX8_nextOfWater_52 : decode cX8_nextOfWater 52 = .ok (.iconst 1, 1) := by decide +kernel
theorem dX8_nextOfWater_53 : decode cX8_nextOfWater 53 = .ok (.iadd, 1) := by decide +kernel
theorem dX8_nextOfWater_54 : decode cX8_nextOfWater 54 = .ok (.invokevirtual 41, 3) := by decide +kernel
theorem dX8_nextOfWater_57 : decode cX8_nextOfWater 57 = .ok (.istore 4, 2) := by decide +kernel
theorem dX8_nextOfWater_59 : decode cX8_nextOfWater 59 = .ok (.aload_n 0, 1) := by decide +kernel
theorem dX8_nextOfWater_60 : decode cX8_nextOfWater 60 = .ok (.iload 4, 2) := by decide +kernel
theorem dX8_nextOfWater_62 : decode cX8_nextOfWater 62 = .ok (.iload_n 2, 1) := by decide +kernel
theorem dX8_nextOfWater_63 : decode cX8_nextOfWater 63 = .ok (.iconst 1, 1) := by decide +kernel
theorem dX8_nextOfWater_64 : decode cX8_nextOfWater 64 = .ok (.iadd, 1) := by decide +kernel
theorem dX8_nextOfWater_65 : decode cX8_nextOfWater 65 = .ok (.iload_n 3, 1) := by decide +kernel
theorem dX8_nextOfWater_66 : decode cX8_nextOfWater 66 = .ok (.invokevirtual 41, 3) := by decide +kernel
theorem dX8_nextOfWater_69 : decode cX8_nextOfWater 69 = .ok (.ireturn, 1) := by decide +kernel
theorem dX8_lowerOf_0 : decode cX8_lowerOf 0 = .ok (.aload_n 0, 1) := by decide +kernel
theorem dX8_lowerOf_1 : decode cX8_lowerOf 1 = .ok (.iload_n 2, 1) := by decide +kernel
theorem dX8_lowerOf_2 : decode cX8_lowerOf 2 = .ok (.iload_n 3, 1) := by decide +kernel
theorem dX8_lowerOf_3 : decode cX8_lowerOf 3 = .ok (.invokevirtual 45, 3) := by decide +kernel
theorem dX8_lowerOf_6 : decode cX8_lowerOf 6 = .ok (.ifCond .ne 5, 3) := by decide +kernel
theorem dX8_lowerOf_9 : decode cX8_lowerOf 9 = .ok (.iload_n 1, 1) := by decide +kernel
theorem dX8_lowerOf_10 : decode cX8_lowerOf 10 = .ok (.ireturn, 1) := by decide +kernel
theorem dX8_lowerOf_11 : decode cX8_lowerOf 11 = .ok (.aload_n 0, 1) := by decide +kernel
theorem dX8_lowerOf_12 : decode cX8_lowerOf 12 = .ok (.iload_n 2, 1) := by decide +kernel
