theorem dX8_lowerOf_13 : decode cX8_lowerOf 13 = .ok (.iload_n 3, 1) := by decide +kernel
theorem dX8_lowerOf_14 : decode cX8_lowerOf 14 = .ok (.invokevirtual 49, 3) := by decide +kernel
theorem dX8_lowerOf_17 : decode cX8_lowerOf 17 = .ok (.istore 4, 2) := by decide +kernel
theorem dX8_lowerOf_19 : decode cX8_lowerOf 19 = .ok (.aload_n 0, 1) := by decide +kernel
theorem dX8_lowerOf_20 : decode cX8_lowerOf 20 = .ok (.getfield 18, 3) := by decide +kernel
theorem dX8_lowerOf_23 : decode cX8_lowerOf 23 = .ok (.iload 4, 2) := by decide +kernel
theorem dX8_lowerOf_25 : decode cX8_lowerOf 25 = .ok (.iaload, 1) := by decide +kernel
theorem dX8_lowerOf_26 : decode cX8_lowerOf 26 = .ok (.aload_n 0, 1) := by decide +kernel
theorem dX8_lowerOf_27 : decode cX8_lowerOf 27 = .ok (.getfield 18, 3) := by decide +kernel
theorem dX8_lowerOf_30 : decode cX8_lowerOf 30 = .ok (.iload_n 1, 1) := by decide +kernel
theorem dX8_lowerOf_31 : decode cX8_lowerOf 31 = .ok (.iaload, 1) := by decide +kernel
theorem dX8_lowerOf_32 : decode cX8_lowerOf 32 = .ok (.if_icmp .ge 8, 3) := by decide +kernel
theorem dX8_lowerOf_35 : decode cX8_lowerOf 35 = .ok (.iload 4, 2) := by decide +kernel
theorem dX8_lowerOf_37 : decode cX8_lowerOf 37 = .ok (.goto 4, 3) := by decide +kernel
theorem dX8_lowerOf_40 : decode cX8_lowerOf 40 = .ok (.iload_n 1, 1) := by decide +kernel
theorem dX8_lowerOf_41 : decode cX8_lowerOf 41 = .ok (.ireturn, 1) := by decide +kernel
theorem dX8_endOfWater_0 : decode cX8_endOfWater 0 = .ok (.iload_n 1, 1) := by decide +kernel
theorem dX8_endOfWater_1 : decode cX8_endOfWater 1 = .ok (.istore_n 2, 1) := by decide +kernel
theorem dX8_endOfWater_2 : decode cX8_endOfWater 2 = .ok (.iconst 0, 1) := by decide +kernel
theorem dX8_endOfWater_3 : decode cX8_endOfWater 3 = .ok (.istore_n 3, 1) := by decide +kernel
theorem dX8_endOfWater_4 : decode cX8_endOfWater 4 = .ok (.iload_n 3, 1) := by decide +kernel
theorem dX8_endOfWater_5 : decode cX8_endOfWater 5 = .ok (.sipush 144, 3) := by decide +kernel
theorem dX8_endOfWater_8 : decode cX8_endOfWater 8 = .ok (.if_icmp .ge 27, 3) := by decide +kernel
theorem dX8_endOfWater_11 : decode cX8_endOfWater 11 = .ok (.aload_n 0, 1) := by decide +kernel
theorem dX8_endOfWater_12 : decode cX8_endOfWater 12 = .ok (.iload_n 2, 1) := by decide +kernel
theorem dX8_endOfWater_13 : decode cX8_endOfWater 13 = .ok (.invokevirtual 53, 3) := by decide +kernel
theorem dX8_endOfWater_16 : decode cX8_endOfWater 16 = .ok (.istore 4, 2) := by decide +kernel
theorem dX8_endOfWater_18 : decode cX8_endOfWater 18 = .ok (.iload 4, 2) := by decide +kernel
theorem dX8_endOfWater_20 : decode cX8_endOfWater 20 = .ok (.iload_n 2, 1) := by decide +kernel
theorem dX8_endOfWater_21 : decode cX8_endOfWater 21 = .ok (.if_icmp .ne 5, 3) := by decide +kernel
theorem dX8_endOfWater_24 : decode cX8_endOfWater 24 = .ok (.iload_n 2, 1) := by decide +kernel
theorem dX8_endOfWater_25 : decode cX8_endOfWater 25 = .ok (.ireturn, 1) := by decide +kernel
theorem dX8_endOfWater_26 : decode cX8_endOfWater 26 = .ok (.iload 4, 2) := by decide +kernel
theorem dX8_endOfWater_28 : decode cX8_endOfWater 28 = .ok (.istore_n 2, 1) := by decide +kernel
theorem dX8_endOfWater_29 : decode cX8_endOfWater 29 = .ok (.iinc 3 1, 3) := by decide +kernel
theorem dX8_endOfWater_32 : decode cX8_endOfWater 32 = .ok (.goto (-28), 3) := by decide +kernel
theorem dX8_endOfWater_35 : decode cX8_endOfWater 35 = .ok (.iload_n 2, 1) := by decide +kernel
theorem dX8_endOfWater_36 : decode cX8_endOfWater 36 = .ok (.ireturn, 1) := by decide +kernel
theorem dX8_wearAt_0 : decode cX8_wearAt 0 = .ok (.aload_n 0, 1) := by decide +kernel
theorem dX8_wearAt_1 : decode cX8_wearAt 1 = .ok (.iload_n 2, 1) := by decide +kernel
theorem dX8_wearAt_2 : decode cX8_wearAt 2 = .ok (.invokevirtual 56, 3) := by decide +kernel
theorem dX8_wearAt_5 : decode cX8_wearAt 5 = .ok (.istore_n 3, 1) := by decide +kernel
theorem dX8_wearAt_6 : decode cX8_wearAt 6 = .ok (.iconst 0, 1) := by decide +kernel
theorem dX8_wearAt_7 : decode cX8_wearAt 7 = .ok (.istore 4, 2) := by decide +kernel
theorem dX8_wearAt_9 : decode cX8_wearAt 9 = .ok (.aload_n 0, 1) := by decide +kernel
theorem dX8_wearAt_10 : decode cX8_wearAt 10 = .ok (.getfield 59, 3) := by decide +kernel
theorem dX8_wearAt_13 : decode cX8_wearAt 13 = .ok (.istore 5, 2) := by decide +kernel
theorem dX8_wearAt_15 : decode cX8_wearAt 15 = .ok (.iload 5, 2) := by decide +kernel
theorem dX8_wearAt_17 : decode cX8_wearAt 17 = .ok (.iload_n 1, 1) := by decide +kernel
theorem dX8_wearAt_18 : decode cX8_wearAt 18 = .ok (.if_icmp .ge 63, 3) := by decide +kernel
theorem dX8_wearAt_21 : decode cX8_wearAt 21 = .ok (.iload 5, 2) := by decide +kernel
theorem dX8_wearAt_23 : decode cX8_wearAt 23 = .ok (.ifCond .lt 28, 3) := by decide +kernel
theorem dX8_wearAt_26 : decode cX8_wearAt 26 = .ok (.iload 5, 2) := by decide +kernel
theorem dX8_wearAt_28 : decode cX8_wearAt 28 = .ok (.aload_n 0, 1) := by decide +kernel
theorem dX8_wearAt_29 : decode cX8_wearAt 29 = .ok (.getfield 31, 3) := by decide +kernel
theorem dX8_wearAt_32 : decode cX8_wearAt 32 = .ok (.arraylength, 1) := by decide +kernel
theorem dX8_wearAt_33 : decode cX8_wearAt 33 = .ok (.if_icmp .ge 18, 3) := by decide +kernel
theorem dX8_wearAt_36 : decode cX8_wearAt 36 = .ok (.aload_n 0, 1) := by decide +kernel
theorem dX8_wearAt_37 : decode cX8_wearAt 37 = .ok (.getfield 31, 3) := by decide +kernel
theorem dX8_wearAt_40 : decode cX8_wearAt 40 = .ok (.iload 5, 2) := by decide +kernel
theorem dX8_wearAt_42 : decode cX8_wearAt 42 = .ok (.iaload, 1) := by decide +kernel
theorem dX8_wearAt_43 : decode cX8_wearAt 43 = .ok (.iconst (-1), 1) := by decide +kernel
theorem dX8_wearAt_44 : decode cX8_wearAt 44 = .ok (.if_icmp .eq 7, 3) := by decide +kernel
theorem dX8_wearAt_47 : decode cX8_wearAt 47 = .ok (.iconst 1, 1) := by decide +kernel
theorem dX8_wearAt_48 : decode cX8_wearAt 48 = .ok (.goto 4, 3) := by decide +kernel
theorem dX8_wearAt_51 : decode cX8_wearAt 51 = .ok (.iconst 0, 1) := by decide +kernel
theorem dX8_wearAt_52 : decode cX8_wearAt 52 = .ok (.istore 6, 2) := by decide +kernel
theorem dX8_wearAt_54 : decode cX8_wearAt 54 = .ok (.iload 4, 2) := by decide +kernel
theorem dX8_wearAt_56 : decode cX8_wearAt 56 = .ok (.iload 6, 2) := by decide +kernel
theorem dX8_wearAt_58 : decode cX8_wearAt 58 = .ok (.ifCond .eq 13, 3) := by decide +kernel
theorem dX8_wearAt_61 : decode cX8_wearAt 61 = .ok (.aload_n 0, 1) := by decide +kernel
theorem dX8_wearAt_62 : decode cX8_wearAt 62 = .ok (.getfield 31, 3) := by decide +kernel
theorem dX8_wearAt_65 : decode cX8_wearAt 65 = .ok (.iload 5, 2) := by decide +kernel
theorem dX8_wearAt_67 : decode cX8_wearAt 67 = .ok (.iaload, 1) := by decide +kernel
theorem dX8_wearAt_68 : decode cX8_wearAt 68 = .ok (.goto 4, 3) := by decide +kernel
theorem dX8_wearAt_71 : decode cX8_wearAt 71 = .ok (.iload_n 3, 1) := by decide +kernel
theorem dX8_wearAt_72 : decode cX8_wearAt 72 = .ok (.iadd, 1) := by decide +kernel
theorem dX8_wearAt_73 : decode cX8_wearAt 73 = .ok (.istore 4, 2) := by decide +kernel
theorem dX8_wearAt_75 : decode cX8_wearAt 75 = .ok (.iinc 5 1, 3) := by decide +kernel
theorem dX8_wearAt_78 : decode cX8_wearAt 78 = .ok (.goto (-63), 3) := by decide +kernel
theorem dX8_wearAt_81 : decode cX8_wearAt 81 = .ok (.iload 4, 2) := by decide +kernel
theorem dX8_wearAt_83 : decode cX8_wearAt 83 = .ok (.ireturn, 1) := by decide +kernel
theorem dX8_meanWheels_0 : decode cX8_meanWheels 0 = .ok (.iconst 0, 1) := by decide +kernel
theorem dX8_meanWheels_1 : decode cX8_meanWheels 1 = .ok (.istore_n 2, 1) := by decide +kernel
theorem dX8_meanWheels_2 : decode cX8_meanWheels 2 = .ok (.iconst 0, 1) := by decide +kernel
theorem dX8_meanWheels_3 : decode cX8_meanWheels 3 = .ok (.istore_n 3, 1) := by decide +kernel
theorem dX8_meanWheels_4 : decode cX8_meanWheels 4 = .ok (.iconst 0, 1) := by decide +kernel
theorem dX8_meanWheels_5 : decode cX8_meanWheels 5 = .ok (.istore 4, 2) := by decide +kernel
theorem dX8_meanWheels_7 : decode cX8_meanWheels 7 = .ok (.iload 4, 2) := by decide +kernel
theorem dX8_meanWheels_9 : decode cX8_meanWheels 9 = .ok (.iload_n 1, 1) := by decide +kernel
theorem dX8_meanWheels_10 : decode cX8_meanWheels 10 = .ok (.if_icmp .ge 43, 3) := by decide +kernel
theorem dX8_meanWheels_13 : decode cX8_meanWheels 13 = .ok (.iload 4, 2) := by decide +kernel
theorem dX8_meanWheels_15 : decode cX8_meanWheels 15 = .ok (.aload_n 0, 1) := by decide +kernel
theorem dX8_meanWheels_16 : decode cX8_meanWheels 16 = .ok (.getfield 31, 3) := by decide +kernel
theorem dX8_meanWheels_19 : decode cX8_meanWheels 19 = .ok (.arraylength, 1) := by decide +kernel
theorem dX8_meanWheels_20 : decode cX8_meanWheels 20 = .ok (.if_icmp .ge 33, 3) := by decide +kernel
theorem dX8_meanWheels_23 : decode cX8_meanWheels 23 = .ok (.aload_n 0, 1) := by decide +kernel
theorem dX8_meanWheels_24 : decode cX8_meanWheels 24 = .ok (.getfield 31, 3) := by decide +kernel
theorem dX8_meanWheels_27 : decode cX8_meanWheels 27 = .ok (.iload 4, 2) := by decide +kernel
theorem dX8_meanWheels_29 : decode cX8_meanWheels 29 = .ok (.iaload, 1) := by decide +kernel
theorem dX8_meanWheels_30 : decode cX8_meanWheels 30 = .ok (.iconst (-1), 1) := by decide +kernel
theorem dX8_meanWheels_31 : decode cX8_meanWheels 31 = .ok (.if_icmp .eq 16, 3) := by decide +kernel
theorem dX8_meanWheels_34 : decode cX8_meanWheels 34 = .ok (.iload_n 2, 1) := by decide +kernel
theorem dX8_meanWheels_35 : decode cX8_meanWheels 35 = .ok (.aload_n 0, 1) := by decide +kernel
theorem dX8_meanWheels_36 : decode cX8_meanWheels 36 = .ok (.getfield 31, 3) := by decide +kernel
theorem dX8_meanWheels_39 : decode cX8_meanWheels 39 = .ok (.iload 4, 2) := by decide +kernel
theorem dX8_meanWheels_41 : decode cX8_meanWheels 41 = .ok (.iaload, 1) := by decide +kernel
theorem dX8_meanWheels_42 : decode cX8_meanWheels 42 = .ok (.iadd, 1) := by decide +kernel
theorem dX8_meanWheels_43 : decode cX8_meanWheels 43 = .ok (.istore_n 2, 1) := by decide +kernel
theorem dX8_meanWheels_44 : decode cX8_meanWheels 44 = .ok (.iinc 3 1, 3) := by decide +kernel
theorem dX8_meanWheels_47 : decode cX8_meanWheels 47 = .ok (.iinc 4 1, 3) := by decide +kernel
theorem dX8_meanWheels_50 : decode cX8_meanWheels 50 = .ok (.goto (-43), 3) := by decide +kernel
theorem dX8_meanWheels_53 : decode cX8_meanWheels 53 = .ok (.iload_n 3, 1) := by decide +kernel
theorem dX8_meanWheels_54 : decode cX8_meanWheels 54 = .ok (.ifCond .ne 7, 3) := by decide +kernel
theorem dX8_meanWheels_57 : decode cX8_meanWheels 57 = .ok (.iconst 0, 1) := by decide +kernel
theorem dX8_meanWheels_58 : decode cX8_meanWheels 58 = .ok (.goto 6, 3) := by decide +kernel
theorem dX8_meanWheels_61 : decode cX8_meanWheels 61 = .ok (.iload_n 2, 1) := by decide +kernel
theorem dX8_meanWheels_62 : decode cX8_meanWheels 62 = .ok (.iload_n 3, 1) := by decide +kernel
theorem dX8_meanWheels_63 : decode cX8_meanWheels 63 = .ok (.idiv, 1) := by decide +kernel
theorem dX8_meanWheels_64 : decode cX8_meanWheels 64 = .ok (.ireturn, 1) := by decide +kernel
theorem dX8_costIn_0 : decode cX8_costIn 0 = .ok (.iload_n 1, 1) := by decide +kernel
theorem dX8_costIn_1 : decode cX8_costIn 1 = .ok (.aload_n 0, 1) := by decide +kernel
theorem dX8_costIn_2 : decode cX8_costIn 2 = .ok (.getfield 62, 3) := by decide +kernel
theorem dX8_costIn_5 : decode cX8_costIn 5 = .ok (.if_icmp .ne 15, 3) := by decide +kernel
theorem dX8_costIn_8 : decode cX8_costIn 8 = .ok (.aload_n 0, 1) := by decide +kernel
theorem dX8_costIn_9 : decode cX8_costIn 9 = .ok (.getfield 65, 3) := by decide +kernel
theorem dX8_costIn_12 : decode cX8_costIn 12 = .ok (.aload_n 0, 1) := by decide +kernel
theorem dX8_costIn_13 : decode cX8_costIn 13 = .ok (.getfield 68, 3) := by decide +kernel
theorem dX8_costIn_16 : decode cX8_costIn 16 = .ok (.isub, 1) := by decide +kernel
theorem dX8_costIn_17 : decode cX8_costIn 17 = .ok (.goto 7, 3) := by decide +kernel
theorem dX8_costIn_20 : decode cX8_costIn 20 = .ok (.aload_n 0, 1) := by decide +kernel
theorem dX8_costIn_21 : decode cX8_costIn 21 = .ok (.getfield 65, 3) := by decide +kernel
theorem dX8_costIn_24 : decode cX8_costIn 24 = .ok (.ireturn, 1) := by decide +kernel
theorem dX9_init_0 : decode cX9_init 0 = .ok (.aload_n 0, 1) := by decide +kernel
theorem dX9_init_1 : decode cX9_init 1 = .ok (.invokespecial 3, 3) := by decide +kernel
theorem dX9_init_4 : decode cX9_init 4 = .ok (.aload_n 0, 1) := by decide +kernel
theorem dX9_init_5 : decode cX9_init 5 = .ok (.bipush 6, 2) := by decide +kernel
theorem dX9_init_7 : decode cX9_init 7 = .ok (.newarray .int, 2) := by decide +kernel
theorem dX9_init_9 : decode cX9_init 9 = .ok (.putfield 11, 3) := by decide +kernel
theorem dX9_init_12 : decode cX9_init 12 = .ok (.aload_n 0, 1) := by decide +kernel
theorem dX9_init_13 : decode cX9_init 13 = .ok (.iconst 0, 1) := by decide +kernel
theorem dX9_init_14 : decode cX9_init 14 = .ok (.newarray .byte, 2) := by decide +kernel
theorem dX9_init_16 : decode cX9_init 16 = .ok (.putfield 15, 3) := by decide +kernel
theorem dX9_init_19 : decode cX9_init 19 = .ok (.aload_n 0, 1) := by decide +kernel
theorem dX9_init_20 : decode cX9_init 20 = .ok (.ldc 19, 2) := by decide +kernel
theorem dX9_init_22 : decode cX9_init 22 = .ok (.putfield 21, 3) := by decide +kernel
theorem dX9_init_25 : decode cX9_init 25 = .ok (.return_, 1) := by decide +kernel
theorem dX9_readText_0 : decode cX9_readText 0 = .ok (.aload_n 0, 1) := by decide +kernel
theorem dX9_readText_1 : decode cX9_readText 1 = .ok (.aload_n 1, 1) := by decide +kernel
theorem dX9_readText_2 : decode cX9_readText 2 = .ok (.putfield 15, 3) := by decide +kernel
theorem dX9_readText_5 : decode cX9_readText 5 = .ok (.aload_n 0, 1) := by decide +kernel
theorem dX9_readText_6 : decode cX9_readText 6 = .ok (.iload_n 2, 1) := by decide +kernel
theorem dX9_readText_7 : decode cX9_readText 7 = .ok (.aload_n 1, 1) := by decide +kernel
theorem dX9_readText_8 : decode cX9_readText 8 = .ok (.arraylength, 1) := by decide +kernel
theorem dX9_readText_9 : decode cX9_readText 9 = .ok (.invokestatic 25, 3) := by decide +kernel
theorem dX9_readText_12 : decode cX9_readText 12 = .ok (.putfield 31, 3) := by decide +kernel
theorem dX9_readText_15 : decode cX9_readText 15 = .ok (.aload_n 0, 1) := by decide +kernel
theorem dX9_readText_16 : decode cX9_readText 16 = .ok (.iconst 0, 1) := by decide +kernel
theorem dX9_readText_17 : decode cX9_readText 17 = .ok (.putfield 35, 3) := by decide +kernel
theorem dX9_readText_20 : decode cX9_readText 20 = .ok (.aload_n 0, 1) := by decide +kernel
theorem dX9_readText_21 : decode cX9_readText 21 = .ok (.iload_n 3, 1) := by decide +kernel
theorem dX9_readText_22 : decode cX9_readText 22 = .ok (.ifCond .ne 8, 3) := by decide +kernel
theorem dX9_readText_25 : decode cX9_readText 25 = .ok (.ldc 19, 2) := by decide +kernel
theorem dX9_readText_27 : decode cX9_readText 27 = .ok (.goto 5, 3) := by decide +kernel
theorem dX9_readText_30 : decode cX9_readText 30 = .ok (.ldc 38, 2) := by decide +kernel
theorem dX9_readText_32 : decode cX9_readText 32 = .ok (.putfield 21, 3) := by decide +kernel
theorem dX9_readText_35 : decode cX9_readText 35 = .ok (.aload_n 0, 1) := by decide +kernel
theorem dX9_readText_36 : decode cX9_readText 36 = .ok (.iconst (-1), 1) := by decide +kernel
theorem dX9_readText_37 : decode cX9_readText 37 = .ok (.putfield 40, 3) := by decide +kernel
theorem dX9_readText_40 : decode cX9_readText 40 = .ok (.aload_n 0, 1) := by decide +kernel
theorem dX9_readText_41 : decode cX9_readText 41 = .ok (.iconst (-1), 1) := by decide +kernel
theorem dX9_readText_42 : decode cX9_readText 42 = .ok (.putfield 43, 3) := by decide +kernel
theorem dX9_readText_45 : decode cX9_readText 45 = .ok (.iconst 0, 1) := by decide +kernel
theorem dX9_readText_46 : decode cX9_readText 46 = .ok (.istore 4, 2) := by decide +kernel
theorem dX9_readText_48 : decode cX9_readText 48 = .ok (.iconst 0, 1) := by decide +kernel
theorem dX9_readText_49 : decode cX9_readText 49 = .ok (.istore 5, 2) := by decide +kernel
theorem dX9_readText_51 : decode cX9_readText 51 = .ok (.iload 5, 2) := by decide +kernel
theorem dX9_readText_53 : decode cX9_readText 53 = .ok (.sipush 160, 3) := by decide +kernel
theorem dX9_readText_56 : decode cX9_readText 56 = .ok (.if_icmp .gt 86, 3) := by decide +kernel
theorem dX9_readText_59 : decode cX9_readText 59 = .ok (.aload_n 0, 1) := by decide +kernel
theorem dX9_readText_60 : decode cX9_readText 60 = .ok (.iload 5, 2) := by decide +kernel
theorem dX9_readText_62 : decode cX9_readText 62 = .ok (.invokevirtual 46, 3) := by decide +kernel
theorem dX9_readText_65 : decode cX9_readText 65 = .ok (.istore 6, 2) := by decide +kernel
theorem dX9_readText_67 : decode cX9_readText 67 = .ok (.aload_n 0, 1) := by decide +kernel
theorem dX9_readText_68 : decode cX9_readText 68 = .ok (.getfield 43, 3) := by decide +kernel
theorem dX9_readText_71 : decode cX9_readText 71 = .ok (.iload 5, 2) := by decide +kernel
theorem dX9_readText_73 : decode cX9_readText 73 = .ok (.if_icmp .ne 7, 3) := by decide +kernel
theorem dX9_readText_76 : decode cX9_readText 76 = .ok (.iload 6, 2) := by decide +kernel
theorem dX9_readText_78 : decode cX9_readText 78 = .ok (.istore 4, 2) := by decide +kernel
theorem dX9_readText_80 : decode cX9_readText 80 = .ok (.aload_n 0, 1) := by decide +kernel
theorem dX9_readText_81 : decode cX9_readText 81 = .ok (.getfield 40, 3) := by decide +kernel
theorem dX9_readText_84 : decode cX9_readText 84 = .ok (.iconst (-1), 1) := by decide +kernel
theorem dX9_readText_85 : decode cX9_readText 85 = .ok (.if_icmp .ne 11, 3) := by decide +kernel
theorem dX9_readText_88 : decode cX9_readText 88 = .ok (.aload_n 0, 1) := by decide +kernel
theorem dX9_readText_89 : decode cX9_readText 89 = .ok (.invokevirtual 50, 3) := by decide +kernel
theorem dX9_readText_92 : decode cX9_readText 92 = .ok (.iconst (-1), 1) := by decide +kernel
theorem dX9_readText_93 : decode cX9_readText 93 = .ok (.if_icmp .ne 6, 3) := by decide +kernel
theorem dX9_readText_96 : decode cX9_readText 96 = .ok (.iload 4, 2) := by decide +kernel
theorem dX9_readText_98 : decode cX9_readText 98 = .ok (.ireturn, 1) := by decide +kernel
theorem dX9_readText_99 : decode cX9_readText 99 = .ok (.aload_n 0, 1) := by decide +kernel
theorem dX9_readText_100 : decode cX9_readText 100 = .ok (.invokevirtual 50, 3) := by decide +kernel
theorem dX9_readText_103 : decode cX9_readText 103 = .ok (.bipush 59, 2) := by decide +kernel
theorem dX9_readText_105 : decode cX9_readText 105 = .ok (.if_icmp .eq 10, 3) := by decide +kernel
theorem dX9_readText_108 : decode cX9_readText 108 = .ok (.aload_n 0, 1) := by decide +kernel
theorem dX9_readText_109 : decode cX9_readText 109 = .ok (.invokevirtual 54, 3) := by decide +kernel
theorem dX9_readText_112 : decode cX9_readText 112 = .ok (.iload 4, 2) := by decide +kernel
theorem dX9_readText_114 : decode cX9_readText 114 = .ok (.ireturn, 1) := by decide +kernel
theorem dX9_readText_115 : decode cX9_readText 115 = .ok (.aload_n 0, 1) := by decide +kernel
theorem dX9_readText_116 : decode cX9_readText 116 = .ok (.dup, 1) := by decide +kernel
theorem dX9_readText_117 : decode cX9_readText 117 = .ok (.getfield 35, 3) := by decide +kernel
theorem dX9_readText_120 : decode cX9_readText 120 = .ok (.iconst 1, 1) := by decide +kernel
theorem dX9_readText_121 : decode cX9_readText 121 = .ok (.iadd, 1) := by decide +kernel
theorem dX9_readText_122 : decode cX9_readText 122 = .ok (.putfield 35, 3) := by decide +kernel
theorem dX9_readText_125 : decode cX9_readText 125 = .ok (.aload_n 0, 1) := by decide +kernel
theorem dX9_readText_126 : decode cX9_readText 126 = .ok (.invokevirtual 50, 3) := by decide +kernel
theorem dX9_readText_129 : decode cX9_readText 129 = .ok (.iconst (-1), 1) := by decide +kernel
theorem dX9_readText_130 : decode cX9_readText 130 = .ok (.if_icmp .ne 6, 3) := by decide +kernel
theorem dX9_readText_133 : decode cX9_readText 133 = .ok (.iload 4, 2) := by decide +kernel
theorem dX9_readText_135 : decode cX9_readText 135 = .ok (.ireturn, 1) := by decide +kernel
theorem dX9_readText_136 : decode cX9_readText 136 = .ok (.iinc 5 1, 3) := by decide +kernel
theorem dX9_readText_139 : decode cX9_readText 139 = .ok (.goto (-88), 3) := by decide +kernel
theorem dX9_readText_142 : decode cX9_readText 142 = .ok (.iload 4, 2) := by decide +kernel
theorem dX9_readText_144 : decode cX9_readText 144 = .ok (.ireturn, 1) := by decide +kernel
theorem dX9_readClause_0 : decode cX9_readClause 0 = .ok (.aload_n 0, 1) := by decide +kernel
theorem dX9_readClause_1 : decode cX9_readClause 1 = .ok (.iconst 0, 1) := by decide +kernel
theorem dX9_readClause_2 : decode cX9_readClause 2 = .ok (.invokevirtual 57, 3) := by decide +kernel
theorem dX9_readClause_5 : decode cX9_readClause 5 = .ok (.istore_n 2, 1) := by decide +kernel
theorem dX9_readClause_6 : decode cX9_readClause 6 = .ok (.iconst 1, 1) := by decide +kernel
theorem dX9_readClause_7 : decode cX9_readClause 7 = .ok (.istore_n 3, 1) := by decide +kernel
theorem dX9_readClause_8 : decode cX9_readClause 8 = .ok (.aload_n 0, 1) := by decide +kernel
theorem dX9_readClause_9 : decode cX9_readClause 9 = .ok (.getfield 40, 3) := by decide +kernel
theorem dX9_readClause_12 : decode cX9_readClause 12 = .ok (.iconst (-1), 1) := by decide +kernel
theorem dX9_readClause_13 : decode cX9_readClause 13 = .ok (.if_icmp .ne 38, 3) := by decide +kernel
theorem dX9_readClause_16 : decode cX9_readClause 16 = .ok (.aload_n 0, 1) := by decide +kernel
theorem dX9_readClause_17 : decode cX9_readClause 17 = .ok (.invokevirtual 50, 3) := by decide +kernel
theorem dX9_readClause_20 : decode cX9_readClause 20 = .ok (.bipush 63, 2) := by decide +kernel
theorem dX9_readClause_22 : decode cX9_readClause 22 = .ok (.if_icmp .ne 29, 3) := by decide +kernel
theorem dX9_readClause_25 : decode cX9_readClause 25 = .ok (.aload_n 0, 1) := by decide +kernel
theorem dX9_readClause_26 : decode cX9_readClause 26 = .ok (.dup, 1) := by decide +kernel
theorem dX9_readClause_27 : decode cX9_readClause 27 = .ok (.getfield 35, 3) := by decide +kernel
theorem dX9_readClause_30 : decode cX9_readClause 30 = .ok (.iconst 1, 1) := by decide +kernel
theorem dX9_readClause_31 : decode cX9_readClause 31 = .ok (.iadd, 1) := by decide +kernel
theorem dX9_readClause_32 : decode cX9_readClause 32 = .ok (.putfield 35, 3) := by decide +kernel
theorem dX9_readClause_35 : decode cX9_readClause 35 = .ok (.iload_n 2, 1) := by decide +kernel
theorem dX9_readClause_36 : decode cX9_readClause 36 = .ok (.ifCond .eq 7, 3) := by decide +kernel
theorem dX9_readClause_39 : decode cX9_readClause 39 = .ok (.iconst 1, 1) := by decide +kernel
theorem dX9_readClause_40 : decode cX9_readClause 40 = .ok (.goto 4, 3) := by decide +kernel
theorem dX9_readClause_43 : decode cX9_readClause 43 = .ok (.iconst 0, 1) := by decide +kernel
theorem dX9_readClause_44 : decode cX9_readClause 44 = .ok (.istore_n 3, 1) := by decide +kernel
theorem dX9_readClause_45 : decode cX9_readClause 45 = .ok (.aload_n 0, 1) := by decide +kernel
theorem dX9_readClause_46 : decode cX9_readClause 46 = .ok (.iconst 0, 1) := by decide +kernel
theorem dX9_readClause_47 : decode cX9_readClause 47 = .ok (.invokevirtual 57, 3) := by decide +kernel
theorem dX9_readClause_50 : decode cX9_readClause 50 = .ok (.istore_n 2, 1) := by decide +kernel
theorem dX9_readClause_51 : decode cX9_readClause 51 = .ok (.iload_n 3, 1) := by decide +kernel
theorem dX9_readClause_52 : decode cX9_readClause 52 = .ok (.ifCond .eq 16, 3) := by decide +kernel
theorem dX9_readClause_55 : decode cX9_readClause 55 = .ok (.aload_n 0, 1) := by decide +kernel
theorem dX9_readClause_56 : decode cX9_readClause 56 = .ok (.getfield 43, 3) := by decide +kernel
theorem dX9_readClause_59 : decode cX9_readClause 59 = .ok (.iconst (-1), 1) := by decide +kernel
theorem dX9_readClause_60 : decode cX9_readClause 60 = .ok (.if_icmp .ne 8, 3) := by decide +kernel
theorem dX9_readClause_63 : decode cX9_readClause 63 = .ok (.aload_n 0, 1) := by decide +kernel
theorem dX9_readClause_64 : decode cX9_readClause 64 = .ok (.iload_n 1, 1) := by decide +kernel
theorem dX9_readClause_65 : decode cX9_readClause 65 = .ok (.putfield 43, 3) := by decide +kernel
theorem dX9_readClause_68 : decode cX9_readClause 68 = .ok (.iload_n 2, 1) := by decide +kernel
theorem dX9_readClause_69 : decode cX9_readClause 69 = .ok (.ireturn, 1) := by decide +kernel
theorem dX9_readExpression_0 : decode cX9_readExpression 0 = .ok (.aload_n 0, 1) := by decide +kernel
theorem dX9_readExpression_1 : decode cX9_readExpression 1 = .ok (.iload_n 1, 1) := by decide +kernel
theorem dX9_readExpression_2 : decode cX9_readExpression 2 = .ok (.invokevirtual 60, 3) := by decide +kernel
theorem dX9_readExpression_5 : decode cX9_readExpression 5 = .ok (.istore_n 2, 1) := by decide +kernel
theorem dX9_readExpression_6 : decode cX9_readExpression 6 = .ok (.aload_n 0, 1) := by decide +kernel
theorem dX9_readExpression_7 : decode cX9_readExpression 7 = .ok (.invokevirtual 50, 3) := by decide +kernel
theorem dX9_readExpression_10 : decode cX9_readExpression 10 = .ok (.istore_n 3, 1) := by decide +kernel
theorem dX9_readExpression_11 : decode cX9_readExpression 11 = .ok (.aload_n 0, 1) := by decide +kernel
theorem dX9_readExpression_12 : decode cX9_readExpression 12 = .ok (.getfield 40, 3) := by decide +kernel
theorem dX9_readExpression_15 : decode cX9_readExpression 15 = .ok (.iconst (-1), 1) := by decide +kernel
theorem dX9_readExpression_16 : decode cX9_readExpression 16 = .ok (.if_icmp .ne 21, 3) := by decide +kernel
theorem dX9_readExpression_19 : decode cX9_readExpression 19 = .ok (.iload_n 3, 1) := by decide +kernel
theorem dX9_readExpression_20 : decode cX9_readExpression 20 = .ok (.bipush 60, 2) := by decide +kernel
theorem dX9_readExpression_22 : decode cX9_readExpression 22 = .ok (.if_icmp .eq 17, 3) := by decide +kernel
theorem dX9_readExpression_25 : decode cX9_readExpression 25 = .ok (.iload_n 3, 1) := by decide +kernel
theorem dX9_readExpression_26 : decode cX9_readExpression 26 = .ok (.bipush 61, 2) := by decide +kernel
theorem dX9_readExpression_28 : decode cX9_readExpression 28 = .ok (.if_icmp .eq 11, 3) := by decide +kernel
theorem dX9_readExpression_31 : decode cX9_readExpression 31 = .ok (.iload_n 3, 1) := by decide +kernel
theorem dX9_readExpression_32 : decode cX9_readExpression 32 = .ok (.bipush 62, 2) := by decide +kernel
theorem dX9_readExpression_34 : decode cX9_readExpression 34 = .ok (.if_icmp .eq 5, 3) := by decide +kernel
theorem dX9_readExpression_37 : decode cX9_readExpression 37 = .ok (.iload_n 2, 1) := by decide +kernel
theorem dX9_readExpression_38 : decode cX9_readExpression 38 = .ok (.ireturn, 1) := by decide +kernel
theorem dX9_readExpression_39 : decode cX9_readExpression 39 = .ok (.aload_n 0, 1) := by decide +kernel
theorem dX9_readExpression_40 : decode cX9_readExpression 40 = .ok (.dup, 1) := by decide +kernel
theorem dX9_readExpression_41 : decode cX9_readExpression 41 = .ok (.getfield 35, 3) := by decide +kernel
theorem dX9_readExpression_44 : decode cX9_readExpression 44 = .ok (.iconst 1, 1) := by decide +kernel
theorem dX9_readExpression_45 : decode cX9_readExpression 45 = .ok (.iadd, 1) := by decide +kernel
theorem dX9_readExpression_46 : decode cX9_readExpression 46 = .ok (.putfield 35, 3) := by decide +kernel
theorem dX9_readExpression_49 : decode cX9_readExpression 49 = .ok (.aload_n 0, 1) := by decide +kernel
theorem dX9_readExpression_50 : decode cX9_readExpression 50 = .ok (.iload_n 1, 1) := by decide +kernel
theorem dX9_readExpression_51 : decode cX9_readExpression 51 = .ok (.invokevirtual 60, 3) := by decide +kernel
theorem dX9_readExpression_54 : decode cX9_readExpression 54 = .ok (.istore 4, 2) := by decide +kernel
theorem dX9_readExpression_56 : decode cX9_readExpression 56 = .ok (.iload_n 3, 1) := by decide +kernel
theorem dX9_readExpression_57 : decode cX9_readExpression 57 = .ok (.bipush 60, 2) := by decide +kernel
theorem dX9_readExpression_59 : decode cX9_readExpression 59 = .ok (.if_icmp .ne 17, 3) := by decide +kernel
theorem dX9_readExpression_62 : decode cX9_readExpression 62 = .ok (.iload_n 2, 1) := by decide +kernel
theorem dX9_readExpression_63 : decode cX9_readExpression 63 = .ok (.iload 4, 2) := by decide +kernel
theorem dX9_readExpression_65 : decode cX9_readExpression 65 = .ok (.if_icmp .ge 7, 3) := by decide +kernel
theorem dX9_readExpression_68 : decode cX9_readExpression 68 = .ok (.iconst 1, 1) := by decide +kernel
theorem dX9_readExpression_69 : decode cX9_readExpression 69 = .ok (.goto 38, 3) := by decide +kernel
theorem dX9_readExpression_72 : decode cX9_readExpression 72 = .ok (.iconst 0, 1) := by decide +kernel
theorem dX9_readExpression_73 : decode cX9_readExpression 73 = .ok (.goto 34, 3) := by decide +kernel
theorem dX9_readExpression_76 : decode cX9_readExpression 76 = .ok (.iload_n 3, 1) := by decide +kernel
theorem dX9_readExpression_77 : decode cX9_readExpression 77 = .ok (.bipush 62, 2) := by decide +kernel
theorem dX9_readExpression_79 : decode cX9_readExpression 79 = .ok (.if_icmp .ne 17, 3) := by decide +kernel
theorem dX9_readExpression_82 : decode cX9_readExpression 82 = .ok (.iload_n 2, 1) := by decide +kernel
theorem dX9_readExpression_83 : decode cX9_readExpression 83 = .ok (.iload 4, 2) := by decide +kernel
theorem dX9_readExpression_85 : decode cX9_readExpression 85 = .ok (.if_icmp .le 7, 3) := by decide +kernel
theorem dX9_readExpression_88 : decode cX9_readExpression 88 = .ok (.iconst 1, 1) := by decide +kernel
theorem dX9_readExpression_89 : decode cX9_readExpression 89 = .ok (.goto 18, 3) := by decide +kernel
theorem dX9_readExpression_92 : decode cX9_readExpression 92 = .ok (.iconst 0, 1) := by decide +kernel
theorem dX9_readExpression_93 : decode cX9_readExpression 93 = .ok (.goto 14, 3) := by decide +kernel
theorem dX9_readExpression_96 : decode cX9_readExpression 96 = .ok (.iload_n 2, 1) := by decide +kernel
theorem dX9_readExpression_97 : decode cX9_readExpression 97 = .ok (.iload 4, 2) := by decide +kernel
theorem dX9_readExpression_99 : decode cX9_readExpression 99 = .ok (.if_icmp .ne 7, 3) := by decide +kernel
theorem dX9_readExpression_102 : decode cX9_readExpression 102 = .ok (.iconst 1, 1) := by decide +kernel
theorem dX9_readExpression_103 : decode cX9_readExpression 103 = .ok (.goto 4, 3) := by decide +kernel
theorem dX9_readExpression_106 : decode cX9_readExpression 106 = .ok (.iconst 0, 1) := by decide +kernel
theorem dX9_readExpression_107 : decode cX9_readExpression 107 = .ok (.istore 5, 2) := by decide +kernel
theorem dX9_readExpression_109 : decode cX9_readExpression 109 = .ok (.iload 5, 2) := by decide +kernel
theorem dX9_readExpression_111 : decode cX9_readExpression 111 = .ok (.ifCond .eq 7, 3) := by decide +kernel
theorem dX9_readExpression_114 : decode cX9_readExpression 114 = .ok (.iconst 1, 1) := by decide +kernel
theorem dX9_readExpression_115 : decode cX9_readExpression 115 = .ok (.goto 4, 3) := by decide +kernel
theorem dX9_readExpression_118 : decode cX9_readExpression 118 = .ok (.iconst 0, 1) := by decide +kernel
theorem dX9_readExpression_119 : decode cX9_readExpression 119 = .ok (.ireturn, 1) := by decide +kernel
theorem dX9_readSum_0 : decode cX9_readSum 0 = .ok (.aload_n 0, 1) := by decide +kernel
theorem dX9_readSum_1 : decode cX9_readSum 1 = .ok (.iload_n 1, 1) := by decide +kernel
theorem dX9_readSum_2 : decode cX9_readSum 2 = .ok (.invokevirtual 63, 3) := by decide +kernel
theorem dX9_readSum_5 : decode cX9_readSum 5 = .ok (.istore_n 2, 1) := by decide +kernel
theorem dX9_readSum_6 : decode cX9_readSum 6 = .ok (.iconst 0, 1) := by decide +kernel
theorem dX9_readSum_7 : decode cX9_readSum 7 = .ok (.istore_n 3, 1) := by decide +kernel
theorem dX9_readSum_8 : decode cX9_readSum 8 = .ok (.iload_n 3, 1) := by decide +kernel
theorem dX9_readSum_9 : decode cX9_readSum 9 = .ok (.sipush 160, 3) := by decide +kernel
theorem dX9_readSum_12 : decode cX9_readSum 12 = .ok (.if_icmp .ge 75, 3) := by decide +kernel
theorem dX9_readSum_15 : decode cX9_readSum 15 = .ok (.aload_n 0, 1) := by decide +kernel
theorem dX9_readSum_16 : decode cX9_readSum 16 = .ok (.getfield 40, 3) := by decide +kernel
theorem dX9_readSum_19 : decode cX9_readSum 19 = .ok (.iconst (-1), 1) := by decide +kernel
theorem dX9_readSum_20 : decode cX9_readSum 20 = .ok (.if_icmp .ne 67, 3) := by decide +kernel
theorem dX9_readSum_23 : decode cX9_readSum 23 = .ok (.aload_n 0, 1) := by decide +kernel
theorem dX9_readSum_24 : decode cX9_readSum 24 = .ok (.invokevirtual 50, 3) := by decide +kernel
theorem dX9_readSum_27 : decode cX9_readSum 27 = .ok (.istore 4, 2) := by decide +kernel
theorem dX9_readSum_29 : decode cX9_readSum 29 = .ok (.iload 4, 2) := by decide +kernel
theorem dX9_readSum_31 : decode cX9_readSum 31 = .ok (.bipush 43, 2) := by decide +kernel
theorem dX9_readSum_33 : decode cX9_readSum 33 = .ok (.if_icmp .eq 12, 3) := by decide +kernel
theorem dX9_readSum_36 : decode cX9_readSum 36 = .ok (.iload 4, 2) := by decide +kernel
theorem dX9_readSum_38 : decode cX9_readSum 38 = .ok (.bipush 45, 2) := by decide +kernel
theorem dX9_readSum_40 : decode cX9_readSum 40 = .ok (.if_icmp .eq 5, 3) := by decide +kernel
theorem dX9_readSum_43 : decode cX9_readSum 43 = .ok (.iload_n 2, 1) := by decide +kernel
theorem dX9_readSum_44 : decode cX9_readSum 44 = .ok (.ireturn, 1) := by decide +kernel
theorem dX9_readSum_45 : decode cX9_readSum 45 = .ok (.aload_n 0, 1) := by decide +kernel
theorem dX9_readSum_46 : decode cX9_readSum 46 = .ok (.dup, 1) := by decide +kernel
theorem dX9_readSum_47 : decode cX9_readSum 47 = .ok (.getfield 35, 3) := by decide +kernel
theorem dX9_readSum_50 : decode cX9_readSum 50 = .ok (.iconst 1, 1) := by decide +kernel
theorem dX9_readSum_51 : decode cX9_readSum 51 = .ok (.iadd, 1) := by decide +kernel
theorem dX9_readSum_52 : decode cX9_readSum 52 = .ok (.putfield 35, 3) := by decide +kernel
theorem dX9_readSum_55 : decode cX9_readSum 55 = .ok (.aload_n 0, 1) := by decide +kernel
theorem dX9_readSum_56 : decode cX9_readSum 56 = .ok (.iload_n 1, 1) := by decide +kernel
theorem dX9_readSum_57 : decode cX9_readSum 57 = .ok (.invokevirtual 63, 3) := by decide +kernel
theorem dX9_readSum_60 : decode cX9_readSum 60 = .ok (.istore 5, 2) := by decide +kernel
theorem dX9_readSum_62 : decode cX9_readSum 62 = .ok (.iload 4, 2) := by decide +kernel
theorem dX9_readSum_64 : decode cX9_readSum 64 = .ok (.bipush 43, 2) := by decide +kernel
theorem dX9_readSum_66 : decode cX9_readSum 66 = .ok (.if_icmp .ne 10, 3) := by decide +kernel
theorem dX9_readSum_69 : decode cX9_readSum 69 = .ok (.iload_n 2, 1) := by decide +kernel
theorem dX9_readSum_70 : decode cX9_readSum 70 = .ok (.iload 5, 2) := by decide +kernel
theorem dX9_readSum_72 : decode cX9_readSum 72 = .ok (.iadd, 1) := by decide +kernel
theorem dX9_readSum_73 : decode cX9_readSum 73 = .ok (.goto 7, 3) := by decide +kernel
theorem dX9_readSum_76 : decode cX9_readSum 76 = .ok (.iload_n 2, 1) := by decide +kernel
theorem dX9_readSum_77 : decode cX9_readSum 77 = .ok (.iload 5, 2) := by decide +kernel
theorem dX9_readSum_79 : decode cX9_readSum 79 = .ok (.isub, 1) := by decide +kernel
theorem dX9_readSum_80 : decode cX9_readSum 80 = .ok (.istore_n 2, 1) := by decide +kernel
theorem dX9_readSum_81 : decode cX9_readSum 81 = .ok (.iinc 3 1, 3) := by decide +kernel
theorem dX9_readSum_84 : decode cX9_readSum 84 = .ok (.goto (-76), 3) := by decide +kernel
theorem dX9_readSum_87 : decode cX9_readSum 87 = .ok (.iload_n 2, 1) := by decide +kernel
theorem dX9_readSum_88 : decode cX9_readSum 88 = .ok (.ireturn, 1) := by decide +kernel
theorem dX9_readProduct_0 : decode cX9_readProduct 0 = .ok (.aload_n 0, 1) := by decide +kernel
theorem dX9_readProduct_1 : decode cX9_readProduct 1 = .ok (.iload_n 1, 1) := by decide +kernel
theorem dX9_readProduct_2 : decode cX9_readProduct 2 = .ok (.invokevirtual 66, 3) := by decide +kernel
theorem dX9_readProduct_5 : decode cX9_readProduct 5 = .ok (.istore_n 2, 1) := by decide +kernel
theorem dX9_readProduct_6 : decode cX9_readProduct 6 = .ok (.iconst 0, 1) := by decide +kernel
theorem dX9_readProduct_7 : decode cX9_readProduct 7 = .ok (.istore_n 3, 1) := by decide +kernel
theorem dX9_readProduct_8 : decode cX9_readProduct 8 = .ok (.iload_n 3, 1) := by decide +kernel
theorem dX9_readProduct_9 : decode cX9_readProduct 9 = .ok (.sipush 160, 3) := by decide +kernel
theorem dX9_readProduct_12 : decode cX9_readProduct 12 = .ok (.if_icmp .ge 68, 3) := by decide +kernel
theorem dX9_readProduct_15 : decode cX9_readProduct 15 = .ok (.aload_n 0, 1) := by decide +kernel
theorem dX9_readProduct_16 : decode cX9_readProduct 16 = .ok (.getfield 40, 3) := by decide +kernel
theorem dX9_readProduct_19 : decode cX9_readProduct 19 = .ok (.iconst (-1), 1) := by decide +kernel
theorem dX9_readProduct_20 : decode cX9_readProduct 20 = .ok (.if_icmp .ne 60, 3) := by decide +kernel
theorem dX9_readProduct_23 : decode cX9_readProduct 23 = .ok (.aload_n 0, 1) := by decide +kernel
theorem dX9_readProduct_24 : decode cX9_readProduct 24 = .ok (.invokevirtual 50, 3) := by decide +kernel
theorem dX9_readProduct_27 : decode cX9_readProduct 27 = .ok (.istore 4, 2) := by decide +kernel
theorem dX9_readProduct_29 : decode cX9_readProduct 29 = .ok (.iload 4, 2) := by decide +kernel
theorem dX9_readProduct_31 : decode cX9_readProduct 31 = .ok (.bipush 42, 2) := by decide +kernel
theorem dX9_readProduct_33 : decode cX9_readProduct 33 = .ok (.if_icmp .eq 19, 3) := by decide +kernel
theorem dX9_readProduct_36 : decode cX9_readProduct 36 = .ok (.iload 4, 2) := by decide +kernel
theorem dX9_readProduct_38 : decode cX9_readProduct 38 = .ok (.bipush 47, 2) := by decide +kernel
theorem dX9_readProduct_40 : decode cX9_readProduct 40 = .ok (.if_icmp .eq 12, 3) := by decide +kernel
theorem dX9_readProduct_43 : decode cX9_readProduct 43 = .ok (.iload 4, 2) := by decide +kernel
theorem dX9_readProduct_45 : decode cX9_readProduct 45 = .ok (.bipush 37, 2) := by decide +kernel
theorem dX9_readProduct_47 : decode cX9_readProduct 47 = .ok (.if_icmp .eq 5, 3) := by decide +kernel
theorem dX9_readProduct_50 : decode cX9_readProduct 50 = .ok (.iload_n 2, 1) := by decide +kernel
theorem dX9_readProduct_51 : decode cX9_readProduct 51 = .ok (.ireturn, 1) := by decide +kernel
theorem dX9_readProduct_52 : decode cX9_readProduct 52 = .ok (.aload_n 0, 1) := by decide +kernel
theorem dX9_readProduct_53 : decode cX9_readProduct 53 = .ok (.dup, 1) := by decide +kernel
theorem dX9_readProduct_54 : decode cX9_readProduct 54 = .ok (.getfield 35, 3) := by decide +kernel
theorem dX9_readProduct_57 : decode cX9_readProduct 57 = .ok (.iconst 1, 1) := by decide +kernel
theorem dX9_readProduct_58 : decode cX9_readProduct 58 = .ok (.iadd, 1) := by decide +kernel
theorem dX9_readProduct_59 : decode cX9_readProduct 59 = .ok (.putfield 35, 3) := by decide +kernel
theorem dX9_readProduct_62 : decode cX9_readProduct 62 = .ok (.iload 4, 2) := by decide +kernel
theorem dX9_readProduct_64 : decode cX9_readProduct 64 = .ok (.iload_n 2, 1) := by decide +kernel
theorem dX9_readProduct_65 : decode cX9_readProduct 65 = .ok (.aload_n 0, 1) := by decide +kernel
theorem dX9_readProduct_66 : decode cX9_readProduct 66 = .ok (.iload_n 1, 1) := by decide +kernel
theorem dX9_readProduct_67 : decode cX9_readProduct 67 = .ok (.invokevirtual 66, 3) := by decide +kernel
theorem dX9_readProduct_70 : decode cX9_readProduct 70 = .ok (.invokestatic 69, 3) := by decide +kernel
theorem dX9_readProduct_73 : decode cX9_readProduct 73 = .ok (.istore_n 2, 1) := by decide +kernel
theorem dX9_readProduct_74 : decode cX9_readProduct 74 = .ok (.iinc 3 1, 3) := by decide +kernel
theorem dX9_readProduct_77 : decode cX9_readProduct 77 = .ok (.goto (-69), 3) := by decide +kernel
theorem dX9_readProduct_80 : decode cX9_readProduct 80 = .ok (.iload_n 2, 1) := by decide +kernel
theorem dX9_readProduct_81 : decode cX9_readProduct 81 = .ok (.ireturn, 1) := by decide +kernel
theorem dX9_multiply_0 : decode cX9_multiply 0 = .ok (.iload_n 0, 1) := by decide +kernel
theorem dX9_multiply_1 : decode cX9_multiply 1 = .ok (.bipush 42, 2) := by decide +kernel
theorem dX9_multiply_3 : decode cX9_multiply 3 = .ok (.if_icmp .ne 7, 3) := by decide +kernel
theorem dX9_multiply_6 : decode cX9_multiply 6 = .ok (.iload_n 1, 1) := by decide +kernel
theorem dX9_multiply_7 : decode cX9_multiply 7 = .ok (.iload_n 2, 1) := by decide +kernel
theorem dX9_multiply_8 : decode cX9_multiply 8 = .ok (.imul, 1) := by decide +kernel
theorem dX9_multiply_9 : decode cX9_multiply 9 = .ok (.ireturn, 1) := by decide +kernel
theorem dX9_multiply_10 : decode cX9_multiply 10 = .ok (.iload_n 2, 1) := by decide +kernel
theorem dX9_multiply_11 : decode cX9_multiply 11 = .ok (.ifCond .ne 5, 3) := by decide +kernel
theorem dX9_multiply_14 : decode cX9_multiply 14 = .ok (.iconst 0, 1) := by decide +kernel
theorem dX9_multiply_15 : decode cX9_multiply 15 = .ok (.ireturn, 1) := by decide +kernel
theorem dX9_multiply_16 : decode cX9_multiply 16 = .ok (.iload_n 0, 1) := by decide +kernel
theorem dX9_multiply_17 : decode cX9_multiply 17 = .ok (.bipush 47, 2) := by decide +kernel
theorem dX9_multiply_19 : decode cX9_multiply 19 = .ok (.if_icmp .ne 9, 3) := by decide +kernel
theorem dX9_multiply_22 : decode cX9_multiply 22 = .ok (.iload_n 1, 1) := by decide +kernel
theorem dX9_multiply_23 : decode cX9_multiply 23 = .ok (.iload_n 2, 1) := by decide +kernel
theorem dX9_multiply_24 : decode cX9_multiply 24 = .ok (.idiv, 1) := by decide +kernel
theorem dX9_multiply_25 : decode cX9_multiply 25 = .ok (.goto 6, 3) := by decide +kernel
theorem dX9_multiply_28 : decode cX9_multiply 28 = .ok (.iload_n 1, 1) := by decide +kernel
theorem dX9_multiply_29 : decode cX9_multiply 29 = .ok (.iload_n 2, 1) := by decide +kernel
theorem dX9_multiply_30 : decode cX9_multiply 30 = .ok (.irem, 1) := by decide +kernel
theorem dX9_multiply_31 : decode cX9_multiply 31 = .ok (.ireturn, 1) := by decide +kernel
theorem dX9_readOperand_0 : decode cX9_readOperand 0 = .ok (.aload_n 0, 1) := by decide +kernel
theorem dX9_readOperand_1 : decode cX9_readOperand 1 = .ok (.invokevirtual 50, 3) := by decide +kernel
theorem dX9_readOperand_4 : decode cX9_readOperand 4 = .ok (.istore_n 2, 1) := by decide +kernel
theorem dX9_readOperand_5 : decode cX9_readOperand 5 = .ok (.iload_n 2, 1) := by decide +kernel
theorem dX9_readOperand_6 : decode cX9_readOperand 6 = .ok (.invokestatic 73, 3) := by decide +kernel
theorem dX9_readOperand_9 : decode cX9_readOperand 9 = .ok (.ifCond .eq 8, 3) := by decide +kernel
theorem dX9_readOperand_12 : decode cX9_readOperand 12 = .ok (.aload_n 0, 1) := by decide +kernel
theorem dX9_readOperand_13 : decode cX9_readOperand 13 = .ok (.invokevirtual 77, 3) := by decide +kernel
theorem dX9_readOperand_16 : decode cX9_readOperand 16 = .ok (.ireturn, 1) := by decide +kernel
theorem dX9_readOperand_17 : decode cX9_readOperand 17 = .ok (.iload_n 2, 1) := by decide +kernel
theorem dX9_readOperand_18 : decode cX9_readOperand 18 = .ok (.bipush 40, 2) := by decide +kernel
theorem dX9_readOperand_20 : decode cX9_readOperand 20 = .ok (.if_icmp .ne 17, 3) := by decide +kernel
theorem dX9_readOperand_23 : decode cX9_readOperand 23 = .ok (.iload_n 1, 1) := by decide +kernel
theorem dX9_readOperand_24 : decode cX9_readOperand 24 = .ok (.bipush 10, 2) := by decide +kernel
theorem dX9_readOperand_26 : decode cX9_readOperand 26 = .ok (.if_icmp .ge 11, 3) := by decide +kernel
theorem dX9_readOperand_29 : decode cX9_readOperand 29 = .ok (.aload_n 0, 1) := by decide +kernel
theorem dX9_readOperand_30 : decode cX9_readOperand 30 = .ok (.iload_n 1, 1) := by decide +kernel
theorem dX9_readOperand_31 : decode cX9_readOperand 31 = .ok (.iconst 1, 1) := by decide +kernel
theorem dX9_readOperand_32 : decode cX9_readOperand 32 = .ok (.iadd, 1) := by decide +kernel
theorem dX9_readOperand_33 : decode cX9_readOperand 33 = .ok (.invokevirtual 80, 3) := by decide +kernel
theorem dX9_readOperand_36 : decode cX9_readOperand 36 = .ok (.ireturn, 1) := by decide +kernel
theorem dX9_readOperand_37 : decode cX9_readOperand 37 = .ok (.iload_n 2, 1) := by decide +kernel
theorem dX9_readOperand_38 : decode cX9_readOperand 38 = .ok (.iconst (-1), 1) := by decide +kernel
theorem dX9_readOperand_39 : decode cX9_readOperand 39 = .ok (.if_icmp .ne 7, 3) := by decide +kernel
theorem dX9_readOperand_42 : decode cX9_readOperand 42 = .ok (.iconst (-1), 1) := by decide +kernel
theorem dX9_readOperand_43 : decode cX9_readOperand 43 = .ok (.goto 12, 3) := by decide +kernel
theorem dX9_readOperand_46 : decode cX9_readOperand 46 = .ok (.aload_n 0, 1) := by decide +kernel
theorem dX9_readOperand_47 : decode cX9_readOperand 47 = .ok (.getfield 21, 3) := by decide +kernel
theorem dX9_readOperand_50 : decode cX9_readOperand 50 = .ok (.iload_n 2, 1) := by decide +kernel
theorem dX9_readOperand_51 : decode cX9_readOperand 51 = .ok (.i2c, 1) := by decide +kernel
theorem dX9_readOperand_52 : decode cX9_readOperand 52 = .ok (.invokevirtual 83, 3) := by decide +kernel
theorem dX9_readOperand_55 : decode cX9_readOperand 55 = .ok (.istore_n 3, 1) := by decide +kernel
theorem dX9_readOperand_56 : decode cX9_readOperand 56 = .ok (.iload_n 3, 1) := by decide +kernel
theorem dX9_readOperand_57 : decode cX9_readOperand 57 = .ok (.ifCond .lt 12, 3) := by decide +kernel
theorem dX9_readOperand_60 : decode cX9_readOperand 60 = .ok (.iload_n 3, 1) := by decide +kernel
theorem dX9_readOperand_61 : decode cX9_readOperand 61 = .ok (.aload_n 0, 1) := by decide +kernel
theorem dX9_readOperand_62 : decode cX9_readOperand 62 = .ok (.getfield 11, 3) := by decide +kernel
theorem dX9_readOperand_65 : decode cX9_readOperand 65 = .ok (.arraylength, 1) := by decide +kernel
theorem dX9_readOperand_66 : decode cX9_readOperand 66 = .ok (.if_icmp .lt 9, 3) := by decide +kernel
theorem dX9_readOperand_69 : decode cX9_readOperand 69 = .ok (.aload_n 0, 1) := by decide +kernel
theorem dX9_readOperand_70 : decode cX9_readOperand 70 = .ok (.invokevirtual 54, 3) := by decide +kernel
theorem dX9_readOperand_73 : decode cX9_readOperand 73 = .ok (.iconst 0, 1) := by decide +kernel
theorem dX9_readOperand_74 : decode cX9_readOperand 74 = .ok (.ireturn, 1) := by decide +kernel
theorem dX9_readOperand_75 : decode cX9_readOperand 75 = .ok (.aload_n 0, 1) := by decide +kernel
theorem dX9_readOperand_76 : decode cX9_readOperand 76 = .ok (.dup, 1) := by decide +kernel
theorem dX9_readOperand_77 : decode cX9_readOperand 77 = .ok (.getfield 35, 3) := by decide +kernel
theorem dX9_readOperand_80 : decode cX9_readOperand 80 = .ok (.iconst 1, 1) := by decide +kernel
theorem dX9_readOperand_81 : decode cX9_readOperand 81 = .ok (.iadd, 1) := by decide +kernel
theorem dX9_readOperand_82 : decode cX9_readOperand 82 = .ok (.putfield 35, 3) := by decide +kernel
theorem dX9_readOperand_85 : decode cX9_readOperand 85 = .ok (.aload_n 0, 1) := by decide +kernel
theorem dX9_readOperand_86 : decode cX9_readOperand 86 = .ok (.getfield 11, 3) := by decide +kernel
theorem dX9_readOperand_89 : decode cX9_readOperand 89 = .ok (.iload_n 3, 1) := by decide +kernel
theorem dX9_readOperand_90 : decode cX9_readOperand 90 = .ok (.iaload, 1) := by decide +kernel
theorem dX9_readOperand_91 : decode cX9_readOperand 91 = .ok (.ireturn, 1) := by decide +kernel
theorem dX9_readParenthesis_0 : decode cX9_readParenthesis 0 = .ok (.aload_n 0, 1) := by decide +kernel
theorem dX9_readParenthesis_1 : decode cX9_readParenthesis 1 = .ok (.dup, 1) := by decide +kernel
theorem dX9_readParenthesis_2 : decode cX9_readParenthesis 2 = .ok (.getfield 35, 3) := by decide +kernel
theorem dX9_readParenthesis_5 : decode cX9_readParenthesis 5 = .ok (.iconst 1, 1) := by decide +kernel
theorem dX9_readParenthesis_6 : decode cX9_readParenthesis 6 = .ok (.iadd, 1) := by decide +kernel
theorem dX9_readParenthesis_7 : decode cX9_readParenthesis 7 = .ok (.putfield 35, 3) := by decide +kernel
theorem dX9_readParenthesis_10 : decode cX9_readParenthesis 10 = .ok (.aload_n 0, 1) := by decide +kernel
theorem dX9_readParenthesis_11 : decode cX9_readParenthesis 11 = .ok (.iload_n 1, 1) := by decide +kernel
theorem dX9_readParenthesis_12 : decode cX9_readParenthesis 12 = .ok (.invokevirtual 57, 3) := by decide +kernel
theorem dX9_readParenthesis_15 : decode cX9_readParenthesis 15 = .ok (.istore_n 2, 1) := by decide +kernel
theorem dX9_readParenthesis_16 : decode cX9_readParenthesis 16 = .ok (.aload_n 0, 1) := by decide +kernel
theorem dX9_readParenthesis_17 : decode cX9_readParenthesis 17 = .ok (.getfield 40, 3) := by decide +kernel
theorem dX9_readParenthesis_20 : decode cX9_readParenthesis 20 = .ok (.iconst (-1), 1) := by decide +kernel
theorem dX9_readParenthesis_21 : decode cX9_readParenthesis 21 = .ok (.if_icmp .ne 16, 3) := by decide +kernel
theorem dX9_readParenthesis_24 : decode cX9_readParenthesis 24 = .ok (.aload_n 0, 1) := by decide +kernel
theorem dX9_readParenthesis_25 : decode cX9_readParenthesis 25 = .ok (.invokevirtual 50, 3) := by decide +kernel
theorem dX9_readParenthesis_28 : decode cX9_readParenthesis 28 = .ok (.bipush 41, 2) := by decide +kernel
theorem dX9_readParenthesis_30 : decode cX9_readParenthesis 30 = .ok (.if_icmp .eq 7, 3) := by decide +kernel
theorem dX9_readParenthesis_33 : decode cX9_readParenthesis 33 = .ok (.aload_n 0, 1) := by decide +kernel
theorem dX9_readParenthesis_34 : decode cX9_readParenthesis 34 = .ok (.invokevirtual 54, 3) := by decide +kernel
theorem dX9_readParenthesis_37 : decode cX9_readParenthesis 37 = .ok (.aload_n 0, 1) := by decide +kernel
theorem dX9_readParenthesis_38 : decode cX9_readParenthesis 38 = .ok (.dup, 1) := by decide +kernel
theorem dX9_readParenthesis_39 : decode cX9_readParenthesis 39 = .ok (.getfield 35, 3) := by decide +kernel
theorem dX9_readParenthesis_42 : decode cX9_readParenthesis 42 = .ok (.iconst 1, 1) := by decide +kernel
theorem dX9_readParenthesis_43 : decode cX9_readParenthesis 43 = .ok (.iadd, 1) := by decide +kernel
theorem dX9_readParenthesis_44 : decode cX9_readParenthesis 44 = .ok (.putfield 35, 3) := by decide +kernel
theorem dX9_readParenthesis_47 : decode cX9_readParenthesis 47 = .ok (.iload_n 2, 1) := by decide +kernel
theorem dX9_readParenthesis_48 : decode cX9_readParenthesis 48 = .ok (.ireturn, 1) := by decide +kernel
theorem dX9_readNumber_0 : decode cX9_readNumber 0 = .ok (.iconst 0, 1) := by decide +kernel
theorem dX9_readNumber_1 : decode cX9_readNumber 1 = .ok (.istore_n 1, 1) := by decide +kernel
theorem dX9_readNumber_2 : decode cX9_readNumber 2 = .ok (.iconst 0, 1) := by decide +kernel
theorem dX9_readNumber_3 : decode cX9_readNumber 3 = .ok (.istore_n 2, 1) := by decide +kernel
theorem dX9_readNumber_4 : decode cX9_readNumber 4 = .ok (.iload_n 2, 1) := by decide +kernel
theorem dX9_readNumber_5 : decode cX9_readNumber 5 = .ok (.bipush 6, 2) := by decide +kernel
theorem dX9_readNumber_7 : decode cX9_readNumber 7 = .ok (.if_icmp .ge 42, 3) := by decide +kernel
theorem dX9_readNumber_10 : decode cX9_readNumber 10 = .ok (.aload_n 0, 1) := by decide +kernel
theorem dX9_readNumber_11 : decode cX9_readNumber 11 = .ok (.invokevirtual 50, 3) := by decide +kernel
theorem dX9_readNumber_14 : decode cX9_readNumber 14 = .ok (.invokestatic 73, 3) := by decide +kernel
theorem dX9_readNumber_17 : decode cX9_readNumber 17 = .ok (.ifCond .eq 32, 3) := by decide +kernel
theorem dX9_readNumber_20 : decode cX9_readNumber 20 = .ok (.iload_n 1, 1) := by decide +kernel
theorem dX9_readNumber_21 : decode cX9_readNumber 21 = .ok (.bipush 10, 2) := by decide +kernel
theorem dX9_readNumber_23 : decode cX9_readNumber 23 = .ok (.imul, 1) := by decide +kernel
theorem dX9_readNumber_24 : decode cX9_readNumber 24 = .ok (.aload_n 0, 1) := by decide +kernel
theorem dX9_readNumber_25 : decode cX9_readNumber 25 = .ok (.invokevirtual 50, 3) := by decide +kernel
theorem dX9_readNumber_28 : decode cX9_readNumber 28 = .ok (.iadd, 1) := by decide +kernel
theorem dX9_readNumber_29 : decode cX9_readNumber 29 = .ok (.bipush 48, 2) := by decide +kernel
theorem dX9_readNumber_31 : decode cX9_readNumber 31 = .ok (.isub, 1) := by decide +kernel
theorem dX9_readNumber_32 : decode cX9_readNumber 32 = .ok (.istore_n 1, 1) := by decide +kernel
theorem dX9_readNumber_33 : decode cX9_readNumber 33 = .ok (.aload_n 0, 1) := by decide +kernel
theorem dX9_readNumber_34 : decode cX9_readNumber 34 = .ok (.dup, 1) := by decide +kernel
theorem dX9_readNumber_35 : decode cX9_readNumber 35 = .ok (.getfield 35, 3) := by decide +kernel
theorem dX9_readNumber_38 : decode cX9_readNumber 38 = .ok (.iconst 1, 1) := by decide +kernel
theorem dX9_readNumber_39 : decode cX9_readNumber 39 = .ok (.iadd, 1) := by decide +kernel
theorem dX9_readNumber_40 : decode cX9_readNumber 40 = .ok (.putfield 35, 3) := by decide +kernel
theorem dX9_readNumber_43 : decode cX9_readNumber 43 = .ok (.iinc 2 1, 3) := by decide +kernel
theorem dX9_readNumber_46 : decode cX9_readNumber 46 = .ok (.goto (-42), 3) := by decide +kernel
theorem dX9_readNumber_49 : decode cX9_readNumber 49 = .ok (.aload_n 0, 1) := by decide +kernel
theorem dX9_readNumber_50 : decode cX9_readNumber 50 = .ok (.invokevirtual 50, 3) := by decide +kernel
theorem dX9_readNumber_53 : decode cX9_readNumber 53 = .ok (.invokestatic 73, 3) := by decide +kernel
theorem dX9_readNumber_56 : decode cX9_readNumber 56 = .ok (.ifCond .eq 7, 3) := by decide +kernel
theorem dX9_readNumber_59 : decode cX9_readNumber 59 = .ok (.aload_n 0, 1) := by decide +kernel
theorem dX9_readNumber_60 : decode cX9_readNumber 60 = .ok (.invokevirtual 54, 3) := by decide +kernel
theorem dX9_readNumber_63 : decode cX9_readNumber 63 = .ok (.iload_n 1, 1) := by decide +kernel
theorem dX9_readNumber_64 : decode cX9_readNumber 64 = .ok (.ireturn, 1) := by decide +kernel
theorem dX9_isDigit_0 : decode cX9_isDigit 0 = .ok (.iload_n 0, 1) := by decide +kernel
theorem dX9_isDigit_1 : decode cX9_isDigit 1 = .ok (.bipush 48, 2) := by decide +kernel
theorem dX9_isDigit_3 : decode cX9_isDigit 3 = .ok (.if_icmp .lt 13, 3) := by decide +kernel
theorem dX9_isDigit_6 : decode cX9_isDigit 6 = .ok (.iload_n 0, 1) := by decide +kernel
theorem dX9_isDigit_7 : decode cX9_isDigit 7 = .ok (.bipush 57, 2) := by decide +kernel
theorem dX9_isDigit_9 : decode cX9_isDigit 9 = .ok (.if_icmp .gt 7, 3) := by decide +kernel
theorem dX9_isDigit_12 : decode cX9_isDigit 12 = .ok (.iconst 1, 1) := by decide +kernel
theorem dX9_isDigit_13 : decode cX9_isDigit 13 = .ok (.goto 4, 3) := by decide +kernel
theorem dX9_isDigit_16 : decode cX9_isDigit 16 = .ok (.iconst 0, 1) := by decide +kernel
theorem dX9_isDigit_17 : decode cX9_isDigit 17 = .ok (.ireturn, 1) := by decide +kernel
theorem dX9_peek_0 : decode cX9_peek 0 = .ok (.aload_n 0, 1) := by decide +kernel
theorem dX9_peek_1 : decode cX9_peek 1 = .ok (.getfield 35, 3) := by decide +kernel
theorem dX9_peek_4 : decode cX9_peek 4 = .ok (.aload_n 0, 1) := by decide +kernel
theorem dX9_peek_5 : decode cX9_peek 5 = .ok (.getfield 31, 3) := by decide +kernel
theorem dX9_peek_8 : decode cX9_peek 8 = .ok (.if_icmp .ge 19, 3) := by decide +kernel
theorem dX9_peek_11 : decode cX9_peek 11 = .ok (.aload_n 0, 1) := by decide +kernel
theorem dX9_peek_12 : decode cX9_peek 12 = .ok (.getfield 15, 3) := by decide +kernel
theorem dX9_peek_15 : decode cX9_peek 15 = .ok (.aload_n 0, 1) := by decide +kernel
theorem dX9_peek_16 : decode cX9_peek 16 = .ok (.getfield 35, 3) := by decide +kernel
theorem dX9_peek_19 : decode cX9_peek 19 = .ok (.baload, 1) := by decide +kernel
theorem dX9_peek_20 : decode cX9_peek 20 = .ok (.sipush 255, 3) := by decide +kernel
theorem dX9_peek_23 : decode cX9_peek 23 = .ok (.iand, 1) := by decide +kernel
theorem dX9_peek_24 : decode cX9_peek 24 = .ok (.goto 4, 3) := by decide +kernel
theorem dX9_peek_27 : decode cX9_peek 27 = .ok (.iconst (-1), 1) := by decide +kernel
theorem dX9_peek_28 : decode cX9_peek 28 = .ok (.ireturn, 1) := by decide +kernel
theorem dX9_markFault_0 : decode cX9_markFault 0 = .ok (.aload_n 0, 1) := by decide +kernel
theorem dX9_markFault_1 : decode cX9_markFault 1 = .ok (.getfield 40, 3) := by decide +kernel
theorem dX9_markFault_4 : decode cX9_markFault 4 = .ok (.iconst (-1), 1) := by decide +kernel
theorem dX9_markFault_5 : decode cX9_markFault 5 = .ok (.if_icmp .ne 11, 3) := by decide +kernel
theorem dX9_markFault_8 : decode cX9_markFault 8 = .ok (.aload_n 0, 1) := by decide +kernel
theorem dX9_markFault_9 : decode cX9_markFault 9 = .ok (.aload_n 0, 1) := by decide +kernel
theorem dX9_markFault_10 : decode cX9_markFault 10 = .ok (.getfield 35, 3) := by decide +kernel
theorem dX9_markFault_13 : decode cX9_markFault 13 = .ok (.putfield 40, 3) := by decide +kernel
theorem dX9_markFault_16 : decode cX9_markFault 16 = .ok (.return_, 1) := by decide +kernel
theorem dX10_init_0 : decode cX10_init 0 = .ok (.aload_n 0, 1) := by decide +kernel
theorem dX10_init_1 : decode cX10_init 1 = .ok (.invokespecial 3, 3) := by decide +kernel
theorem dX10_init_4 : decode cX10_init 4 = .ok (.aload_n 0, 1) := by decide +kernel
theorem dX10_init_5 : decode cX10_init 5 = .ok (.bipush 10, 2) := by decide +kernel
theorem dX10_init_7 : decode cX10_init 7 = .ok (.newarray .int, 2) := by decide +kernel
theorem dX10_init_9 : decode cX10_init 9 = .ok (.putfield 9, 3) := by decide +kernel
theorem dX10_init_12 : decode cX10_init 12 = .ok (.aload_n 0, 1) := by decide +kernel
theorem dX10_init_13 : decode cX10_init 13 = .ok (.sipush 610, 3) := by decide +kernel
theorem dX10_init_16 : decode cX10_init 16 = .ok (.newarray .int, 2) := by decide +kernel
theorem dX10_init_18 : decode cX10_init 18 = .ok (.putfield 15, 3) := by decide +kernel
theorem dX10_init_21 : decode cX10_init 21 = .ok (.aload_n 0, 1) := by decide +kernel
theorem dX10_init_22 : decode cX10_init 22 = .ok (.bipush 10, 2) := by decide +kernel
theorem dX10_init_24 : decode cX10_init 24 = .ok (.newarray .int, 2) := by decide +kernel
theorem dX10_init_26 : decode cX10_init 26 = .ok (.putfield 18, 3) := by decide +kernel
theorem dX10_init_29 : decode cX10_init 29 = .ok (.aload_n 0, 1) := by decide +kernel
theorem dX10_init_30 : decode cX10_init 30 = .ok (.bipush 10, 2) := by decide +kernel
theorem dX10_init_32 : decode cX10_init 32 = .ok (.newarray .int, 2) := by decide +kernel
theorem dX10_init_34 : decode cX10_init 34 = .ok (.putfield 21, 3) := by decide +kernel
theorem dX10_init_37 : decode cX10_init 37 = .ok (.return_, 1) := by decide +kernel
theorem dX10_bring_0 : decode cX10_bring 0 = .ok (.aload_n 0, 1) := by decide +kernel
theorem dX10_bring_1 : decode cX10_bring 1 = .ok (.getfield 9, 3) := by decide +kernel
theorem dX10_bring_4 : decode cX10_bring 4 = .ok (.iload_n 1, 1) := by decide +kernel
theorem dX10_bring_5 : decode cX10_bring 5 = .ok (.iaload, 1) := by decide +kernel
theorem dX10_bring_6 : decode cX10_bring 6 = .ok (.iload_n 2, 1) := by decide +kernel
theorem dX10_bring_7 : decode cX10_bring 7 = .ok (.iadd, 1) := by decide +kernel
theorem dX10_bring_8 : decode cX10_bring 8 = .ok (.sipush 999, 3) := by decide +kernel
theorem dX10_bring_11 : decode cX10_bring 11 = .ok (.if_icmp .le 6, 3) := by decide +kernel
theorem dX10_bring_14 : decode cX10_bring 14 = .ok (.bipush (-2), 2) := by decide +kernel
theorem dX10_bring_16 : decode cX10_bring 16 = .ok (.ireturn, 1) := by decide +kernel
theorem dX10_bring_17 : decode cX10_bring 17 = .ok (.aload_n 0, 1) := by decide +kernel
theorem dX10_bring_18 : decode cX10_bring 18 = .ok (.getfield 9, 3) := by decide +kernel
theorem dX10_bring_21 : decode cX10_bring 21 = .ok (.iload_n 1, 1) := by decide +kernel
theorem dX10_bring_22 : decode cX10_bring 22 = .ok (.dup2, 1) := by decide +kernel
theorem dX10_bring_23 : decode cX10_bring 23 = .ok (.iaload, 1) := by decide +kernel
theorem dX10_bring_24 : decode cX10_bring 24 = .ok (.iload_n 2, 1) := by decide +kernel
theorem dX10_bring_25 : decode cX10_bring 25 = .ok (.iadd, 1) := by decide +kernel
theorem dX10_bring_26 : decode cX10_bring 26 = .ok (.iastore, 1) := by decide +kernel
theorem dX10_bring_27 : decode cX10_bring 27 = .ok (.aload_n 0, 1) := by decide +kernel
theorem dX10_bring_28 : decode cX10_bring 28 = .ok (.getfield 9, 3) := by decide +kernel
theorem dX10_bring_31 : decode cX10_bring 31 = .ok (.iload_n 1, 1) := by decide +kernel
theorem dX10_bring_32 : decode cX10_bring 32 = .ok (.iaload, 1) := by decide +kernel
theorem dX10_bring_33 : decode cX10_bring 33 = .ok (.ireturn, 1) := by decide +kernel
theorem dX10_tellCourse_0 : decode cX10_tellCourse 0 = .ok (.aload_n 0, 1) := by decide +kernel
theorem dX10_tellCourse_1 : decode cX10_tellCourse 1 = .ok (.iload_n 1, 1) := by decide +kernel
theorem dX10_tellCourse_2 : decode cX10_tellCourse 2 = .ok (.invokevirtual 24, 3) := by decide +kernel
theorem dX10_tellCourse_5 : decode cX10_tellCourse 5 = .ok (.istore_n 2, 1) := by decide +kernel
theorem dX10_tellCourse_6 : decode cX10_tellCourse 6 = .ok (.iload_n 2, 1) := by decide +kernel
theorem dX10_tellCourse_7 : decode cX10_tellCourse 7 = .ok (.bipush (-2), 2) := by decide +kernel
theorem dX10_tellCourse_9 : decode cX10_tellCourse 9 = .ok (.if_icmp .ne 6, 3) := by decide +kernel
theorem dX10_tellCourse_12 : decode cX10_tellCourse 12 = .ok (.bipush (-2), 2) := by decide +kernel
theorem dX10_tellCourse_14 : decode cX10_tellCourse 14 = .ok (.ireturn, 1) := by decide +kernel
theorem dX10_tellCourse_15 : decode cX10_tellCourse 15 = .ok (.iconst 1, 1) := by decide +kernel
theorem dX10_tellCourse_16 : decode cX10_tellCourse 16 = .ok (.istore_n 3, 1) := by decide +kernel
theorem dX10_tellCourse_17 : decode cX10_tellCourse 17 = .ok (.iload_n 3, 1) := by decide +kernel
theorem dX10_tellCourse_18 : decode cX10_tellCourse 18 = .ok (.bipush 9, 2) := by decide +kernel
theorem dX10_tellCourse_20 : decode cX10_tellCourse 20 = .ok (.if_icmp .gt 21, 3) := by decide +kernel
theorem dX10_tellCourse_23 : decode cX10_tellCourse 23 = .ok (.aload_n 0, 1) := by decide +kernel
theorem dX10_tellCourse_24 : decode cX10_tellCourse 24 = .ok (.getfield 21, 3) := by decide +kernel
theorem dX10_tellCourse_27 : decode cX10_tellCourse 27 = .ok (.iload_n 3, 1) := by decide +kernel
theorem dX10_tellCourse_28 : decode cX10_tellCourse 28 = .ok (.aload_n 0, 1) := by decide +kernel
theorem dX10_tellCourse_29 : decode cX10_tellCourse 29 = .ok (.getfield 18, 3) := by decide +kernel
theorem dX10_tellCourse_32 : decode cX10_tellCourse 32 = .ok (.iload_n 3, 1) := by decide +kernel
theorem dX10_tellCourse_33 : decode cX10_tellCourse 33 = .ok (.iaload, 1) := by decide +kernel
theorem dX10_tellCourse_34 : decode cX10_tellCourse 34 = .ok (.iastore, 1) := by decide +kernel
theorem dX10_tellCourse_35 : decode cX10_tellCourse 35 = .ok (.iinc 3 1, 3) := by decide +kernel
theorem dX10_tellCourse_38 : decode cX10_tellCourse 38 = .ok (.goto (-21), 3) := by decide +kernel
theorem dX10_tellCourse_41 : decode cX10_tellCourse 41 = .ok (.aload_n 0, 1) := by decide +kernel
theorem dX10_tellCourse_42 : decode cX10_tellCourse 42 = .ok (.iconst 1, 1) := by decide +kernel
theorem dX10_tellCourse_43 : decode cX10_tellCourse 43 = .ok (.putfield 28, 3) := by decide +kernel
theorem dX10_tellCourse_46 : decode cX10_tellCourse 46 = .ok (.iload_n 2, 1) := by decide +kernel
theorem dX10_tellCourse_47 : decode cX10_tellCourse 47 = .ok (.ireturn, 1) := by decide +kernel
theorem dX10_toldOf_0 : decode cX10_toldOf 0 = .ok (.aload_n 0, 1) := by decide +kernel
theorem dX10_toldOf_1 : decode cX10_toldOf 1 = .ok (.getfield 28, 3) := by decide +kernel
theorem dX10_toldOf_4 : decode cX10_toldOf 4 = .ok (.ifCond .eq 12, 3) := by decide +kernel
theorem dX10_toldOf_7 : decode cX10_toldOf 7 = .ok (.aload_n 0, 1) := by decide +kernel
theorem dX10_toldOf_8 : decode cX10_toldOf 8 = .ok (.getfield 21, 3) := by decide +kernel
theorem dX10_toldOf_11 : decode cX10_toldOf 11 = .ok (.iload_n 1, 1) := by decide +kernel
theorem dX10_toldOf_12 : decode cX10_toldOf 12 = .ok (.iaload, 1) := by decide +kernel
theorem dX10_toldOf_13 : decode cX10_toldOf 13 = .ok (.goto 4, 3) := by decide +kernel
theorem dX10_toldOf_16 : decode cX10_toldOf 16 = .ok (.iconst (-1), 1) := by decide +kernel
theorem dX10_toldOf_17 : decode cX10_toldOf 17 = .ok (.ireturn, 1) := by decide +kernel
theorem dX10_layCourse_0 : decode cX10_layCourse 0 = .ok (.aload_n 0, 1) := by decide +kernel
theorem dX10_layCourse_1 : decode cX10_layCourse 1 = .ok (.iload_n 1, 1) := by decide +kernel
theorem dX10_layCourse_2 : decode cX10_layCourse 2 = .ok (.invokevirtual 24, 3) := by decide +kernel
theorem dX10_layCourse_5 : decode cX10_layCourse 5 = .ok (.istore_n 2, 1) := by decide +kernel
theorem dX10_layCourse_6 : decode cX10_layCourse 6 = .ok (.iload_n 2, 1) := by decide +kernel
theorem dX10_layCourse_7 : decode cX10_layCourse 7 = .ok (.bipush (-2), 2) := by decide +kernel
theorem dX10_layCourse_9 : decode cX10_layCourse 9 = .ok (.if_icmp .ne 6, 3) := by decide +kernel
theorem dX10_layCourse_12 : decode cX10_layCourse 12 = .ok (.bipush (-2), 2) := by decide +kernel
theorem dX10_layCourse_14 : decode cX10_layCourse 14 = .ok (.ireturn, 1) := by decide +kernel
theorem dX10_layCourse_15 : decode cX10_layCourse 15 = .ok (.iconst 1, 1) := by decide +kernel
theorem dX10_layCourse_16 : decode cX10_layCourse 16 = .ok (.istore_n 3, 1) := by decide +kernel
theorem dX10_layCourse_17 : decode cX10_layCourse 17 = .ok (.iload_n 3, 1) := by decide +kernel
theorem dX10_layCourse_18 : decode cX10_layCourse 18 = .ok (.bipush 9, 2) := by decide +kernel
theorem dX10_layCourse_20 : decode cX10_layCourse 20 = .ok (.if_icmp .gt 24, 3) := by decide +kernel
theorem dX10_layCourse_23 : decode cX10_layCourse 23 = .ok (.aload_n 0, 1) := by decide +kernel
theorem dX10_layCourse_24 : decode cX10_layCourse 24 = .ok (.getfield 9, 3) := by decide +kernel
theorem dX10_layCourse_27 : decode cX10_layCourse 27 = .ok (.iload_n 3, 1) := by decide +kernel
theorem dX10_layCourse_28 : decode cX10_layCourse 28 = .ok (.dup2, 1) := by decide +kernel
theorem dX10_layCourse_29 : decode cX10_layCourse 29 = .ok (.iaload, 1) := by decide +kernel
theorem dX10_layCourse_30 : decode cX10_layCourse 30 = .ok (.aload_n 0, 1) := by decide +kernel
theorem dX10_layCourse_31 : decode cX10_layCourse 31 = .ok (.getfield 18, 3) := by decide +kernel
theorem dX10_layCourse_34 : decode cX10_layCourse 34 = .ok (.iload_n 3, 1) := by decide +kernel
theorem dX10_layCourse_35 : decode cX10_layCourse 35 = .ok (.iaload, 1) := by decide +kernel
theorem dX10_layCourse_36 : decode cX10_layCourse 36 = .ok (.isub, 1) := by decide +kernel
theorem dX10_layCourse_37 : decode cX10_layCourse 37 = .ok (.iastore, 1) := by decide +kernel
theorem dX10_layCourse_38 : decode cX10_layCourse 38 = .ok (.iinc 3 1, 3) := by decide +kernel
theorem dX10_layCourse_41 : decode cX10_layCourse 41 = .ok (.goto (-24), 3) := by decide +kernel
theorem dX10_layCourse_44 : decode cX10_layCourse 44 = .ok (.iload_n 2, 1) := by decide +kernel
theorem dX10_layCourse_45 : decode cX10_layCourse 45 = .ok (.ireturn, 1) := by decide +kernel
theorem dX10_chooseCourse_0 : decode cX10_chooseCourse 0 = .ok (.iconst 0, 1) := by decide +kernel
theorem dX10_chooseCourse_1 : decode cX10_chooseCourse 1 = .ok (.istore_n 2, 1) := by decide +kernel
theorem dX10_chooseCourse_2 : decode cX10_chooseCourse 2 = .ok (.iload_n 2, 1) := by decide +kernel
theorem dX10_chooseCourse_3 : decode cX10_chooseCourse 3 = .ok (.iload_n 1, 1) := by decide +kernel
theorem dX10_chooseCourse_4 : decode cX10_chooseCourse 4 = .ok (.if_icmp .gt 25, 3) := by decide +kernel
theorem dX10_chooseCourse_7 : decode cX10_chooseCourse 7 = .ok (.aload_n 0, 1) := by decide +kernel
theorem dX10_chooseCourse_8 : decode cX10_chooseCourse 8 = .ok (.getfield 15, 3) := by decide +kernel
theorem dX10_chooseCourse_11 : decode cX10_chooseCourse 11 = .ok (.iload_n 2, 1) := by decide +kernel
theorem dX10_chooseCourse_12 : decode cX10_chooseCourse 12 = .ok (.iload_n 2, 1) := by decide +kernel
theorem dX10_chooseCourse_13 : decode cX10_chooseCourse 13 = .ok (.ifCond .ne 7, 3) := by decide +kernel
theorem dX10_chooseCourse_16 : decode cX10_chooseCourse 16 = .ok (.iconst 0, 1) := by decide +kernel
theorem dX10_chooseCourse_17 : decode cX10_chooseCourse 17 = .ok (.goto 5, 3) := by decide +kernel
theorem dX10_chooseCourse_20 : decode cX10_chooseCourse 20 = .ok (.ldc 32, 2) := by decide +kernel
theorem dX10_chooseCourse_22 : decode cX10_chooseCourse 22 = .ok (.iastore, 1) := by decide +kernel
theorem dX10_chooseCourse_23 : decode cX10_chooseCourse 23 = .ok (.iinc 2 1, 3) := by decide +kernel
theorem dX10_chooseCourse_26 : decode cX10_chooseCourse 26 = .ok (.goto (-24), 3) := by decide +kernel
theorem dX10_chooseCourse_29 : decode cX10_chooseCourse 29 = .ok (.iconst 1, 1) := by decide +kernel
theorem dX10_chooseCourse_30 : decode cX10_chooseCourse 30 = .ok (.istore_n 2, 1) := by decide +kernel
theorem dX10_chooseCourse_31 : decode cX10_chooseCourse 31 = .ok (.iload_n 2, 1) := by decide +kernel
theorem dX10_chooseCourse_32 : decode cX10_chooseCourse 32 = .ok (.bipush 9, 2) := by decide +kernel
theorem dX10_chooseCourse_34 : decode cX10_chooseCourse 34 = .ok (.if_icmp .gt 62, 3) := by decide +kernel
theorem dX10_chooseCourse_37 : decode cX10_chooseCourse 37 = .ok (.iconst 0, 1) := by decide +kernel
theorem dX10_chooseCourse_38 : decode cX10_chooseCourse 38 = .ok (.istore_n 3, 1) := by decide +kernel
theorem dX10_chooseCourse_39 : decode cX10_chooseCourse 39 = .ok (.iload_n 3, 1) := by decide +kernel
theorem dX10_chooseCourse_40 : decode cX10_chooseCourse 40 = .ok (.iload_n 1, 1) := by decide +kernel
theorem dX10_chooseCourse_41 : decode cX10_chooseCourse 41 = .ok (.if_icmp .gt 49, 3) := by decide +kernel
theorem dX10_chooseCourse_44 : decode cX10_chooseCourse 44 = .ok (.aload_n 0, 1) := by decide +kernel
theorem dX10_chooseCourse_45 : decode cX10_chooseCourse 45 = .ok (.iload_n 2, 1) := by decide +kernel
theorem dX10_chooseCourse_46 : decode cX10_chooseCourse 46 = .ok (.iload_n 3, 1) := by decide +kernel
theorem dX10_chooseCourse_47 : decode cX10_chooseCourse 47 = .ok (.invokevirtual 33, 3) := by decide +kernel
theorem dX10_chooseCourse_50 : decode cX10_chooseCourse 50 = .ok (.istore 4, 2) := by decide +kernel
theorem dX10_chooseCourse_52 : decode cX10_chooseCourse 52 = .ok (.aload_n 0, 1) := by decide +kernel
theorem dX10_chooseCourse_53 : decode cX10_chooseCourse 53 = .ok (.getfield 15, 3) := by decide +kernel
theorem dX10_chooseCourse_56 : decode cX10_chooseCourse 56 = .ok (.iload_n 2, 1) := by decide +kernel
theorem dX10_chooseCourse_57 : decode cX10_chooseCourse 57 = .ok (.bipush 61, 2) := by decide +kernel
theorem dX10_chooseCourse_59 : decode cX10_chooseCourse 59 = .ok (.imul, 1) := by decide +kernel
theorem dX10_chooseCourse_60 : decode cX10_chooseCourse 60 = .ok (.iload_n 3, 1) := by decide +kernel
theorem dX10_chooseCourse_61 : decode cX10_chooseCourse 61 = .ok (.iadd, 1) := by decide +kernel
theorem dX10_chooseCourse_62 : decode cX10_chooseCourse 62 = .ok (.iload 4, 2) := by decide +kernel
theorem dX10_chooseCourse_64 : decode cX10_chooseCourse 64 = .ok (.aload_n 0, 1) := by decide +kernel
theorem dX10_chooseCourse_65 : decode cX10_chooseCourse 65 = .ok (.getfield 15, 3) := by decide +kernel
theorem dX10_chooseCourse_68 : decode cX10_chooseCourse 68 = .ok (.iload_n 2, 1) := by decide +kernel
theorem dX10_chooseCourse_69 : decode cX10_chooseCourse 69 = .ok (.iconst 1, 1) := by decide +kernel
theorem dX10_chooseCourse_70 : decode cX10_chooseCourse 70 = .ok (.isub, 1) := by decide +kernel
theorem dX10_chooseCourse_71 : decode cX10_chooseCourse 71 = .ok (.bipush 61, 2) := by decide +kernel
theorem dX10_chooseCourse_73 : decode cX10_chooseCourse 73 = .ok (.imul, 1) := by decide +kernel
theorem dX10_chooseCourse_74 : decode cX10_chooseCourse 74 = .ok (.iload_n 3, 1) := by decide +kernel
theorem dX10_chooseCourse_75 : decode cX10_chooseCourse 75 = .ok (.iadd, 1) := by decide +kernel
theorem dX10_chooseCourse_76 : decode cX10_chooseCourse 76 = .ok (.iload 4, 2) := by decide +kernel
theorem dX10_chooseCourse_78 : decode cX10_chooseCourse 78 = .ok (.iload_n 2, 1) := by decide +kernel
theorem dX10_chooseCourse_79 : decode cX10_chooseCourse 79 = .ok (.imul, 1) := by decide +kernel
theorem dX10_chooseCourse_80 : decode cX10_chooseCourse 80 = .ok (.isub, 1) := by decide +kernel
theorem dX10_chooseCourse_81 : decode cX10_chooseCourse 81 = .ok (.iaload, 1) := by decide +kernel
theorem dX10_chooseCourse_82 : decode cX10_chooseCourse 82 = .ok (.iadd, 1) := by decide +kernel
theorem dX10_chooseCourse_83 : decode cX10_chooseCourse 83 = .ok (.iastore, 1) := by decide +kernel
theorem dX10_chooseCourse_84 : decode cX10_chooseCourse 84 = .ok (.iinc 3 1, 3) := by decide +kernel
theorem dX10_chooseCourse_87 : decode cX10_chooseCourse 87 = .ok (.goto (-48), 3) := by decide +kernel
theorem dX10_chooseCourse_90 : decode cX10_chooseCourse 90 = .ok (.iinc 2 1, 3) := by decide +kernel
theorem dX10_chooseCourse_93 : decode cX10_chooseCourse 93 = .ok (.goto (-62), 3) := by decide +kernel
theorem dX10_chooseCourse_96 : decode cX10_chooseCourse 96 = .ok (.aload_n 0, 1) := by decide +kernel
theorem dX10_chooseCourse_97 : decode cX10_chooseCourse 97 = .ok (.getfield 15, 3) := by decide +kernel
theorem dX10_chooseCourse_100 : decode cX10_chooseCourse 100 = .ok (.sipush 549, 3) := by decide +kernel
theorem dX10_chooseCourse_103 : decode cX10_chooseCourse 103 = .ok (.iload_n 1, 1) := by decide +kernel
theorem dX10_chooseCourse_104 : decode cX10_chooseCourse 104 = .ok (.iadd, 1) := by decide +kernel
theorem dX10_chooseCourse_105 : decode cX10_chooseCourse 105 = .ok (.iaload, 1) := by decide +kernel
theorem dX10_chooseCourse_106 : decode cX10_chooseCourse 106 = .ok (.ldc 32, 2) := by decide +kernel
theorem dX10_chooseCourse_108 : decode cX10_chooseCourse 108 = .ok (.if_icmp .lt 6, 3) := by decide +kernel
theorem dX10_chooseCourse_111 : decode cX10_chooseCourse 111 = .ok (.bipush (-2), 2) := by decide +kernel
theorem dX10_chooseCourse_113 : decode cX10_chooseCourse 113 = .ok (.ireturn, 1) := by decide +kernel
theorem dX10_chooseCourse_114 : decode cX10_chooseCourse 114 = .ok (.iload_n 1, 1) := by decide +kernel
theorem dX10_chooseCourse_115 : decode cX10_chooseCourse 115 = .ok (.istore_n 2, 1) := by decide +kernel
theorem dX10_chooseCourse_116 : decode cX10_chooseCourse 116 = .ok (.bipush 9, 2) := by decide +kernel
theorem dX10_chooseCourse_118 : decode cX10_chooseCourse 118 = .ok (.istore_n 3, 1) := by decide +kernel
theorem dX10_chooseCourse_119 : decode cX10_chooseCourse 119 = .ok (.iload_n 3, 1) := by decide +kernel
theorem dX10_chooseCourse_120 : decode cX10_chooseCourse 120 = .ok (.iconst 1, 1) := by decide +kernel
theorem dX10_chooseCourse_121 : decode cX10_chooseCourse 121 = .ok (.if_icmp .lt 32, 3) := by decide +kernel
theorem dX10_chooseCourse_124 : decode cX10_chooseCourse 124 = .ok (.aload_n 0, 1) := by decide +kernel
theorem dX10_chooseCourse_125 : decode cX10_chooseCourse 125 = .ok (.getfield 18, 3) := by decide +kernel
theorem dX10_chooseCourse_128 : decode cX10_chooseCourse 128 = .ok (.iload_n 3, 1) := by decide +kernel
theorem dX10_chooseCourse_129 : decode cX10_chooseCourse 129 = .ok (.aload_n 0, 1) := by decide +kernel
theorem dX10_chooseCourse_130 : decode cX10_chooseCourse 130 = .ok (.iload_n 3, 1) := by decide +kernel
theorem dX10_chooseCourse_131 : decode cX10_chooseCourse 131 = .ok (.iload_n 2, 1) := by decide +kernel
theorem dX10_chooseCourse_132 : decode cX10_chooseCourse 132 = .ok (.invokevirtual 33, 3) := by decide +kernel
theorem dX10_chooseCourse_135 : decode cX10_chooseCourse 135 = .ok (.iastore, 1) := by decide +kernel
theorem dX10_chooseCourse_136 : decode cX10_chooseCourse 136 = .ok (.iload_n 2, 1) := by decide +kernel
theorem dX10_chooseCourse_137 : decode cX10_chooseCourse 137 = .ok (.aload_n 0, 1) := by decide +kernel
theorem dX10_chooseCourse_138 : decode cX10_chooseCourse 138 = .ok (.getfield 18, 3) := by decide +kernel
theorem dX10_chooseCourse_141 : decode cX10_chooseCourse 141 = .ok (.iload_n 3, 1) := by decide +kernel
theorem dX10_chooseCourse_142 : decode cX10_chooseCourse 142 = .ok (.iaload, 1) := by decide +kernel
theorem dX10_chooseCourse_143 : decode cX10_chooseCourse 143 = .ok (.iload_n 3, 1) := by decide +kernel
theorem dX10_chooseCourse_144 : decode cX10_chooseCourse 144 = .ok (.imul, 1) := by decide +kernel
theorem dX10_chooseCourse_145 : decode cX10_chooseCourse 145 = .ok (.isub, 1) := by decide +kernel
theorem dX10_chooseCourse_146 : decode cX10_chooseCourse 146 = .ok (.istore_n 2, 1) := by decide +kernel
theorem dX10_chooseCourse_147 : decode cX10_chooseCourse 147 = .ok (.iinc 3 (-1), 3) := by decide +kernel
theorem dX10_chooseCourse_150 : decode cX10_chooseCourse 150 = .ok (.goto (-31), 3) := by decide +kernel
theorem dX10_chooseCourse_153 : decode cX10_chooseCourse 153 = .ok (.aload_n 0, 1) := by decide +kernel
theorem dX10_chooseCourse_154 : decode cX10_chooseCourse 154 = .ok (.getfield 15, 3) := by decide +kernel
theorem dX10_chooseCourse_157 : decode cX10_chooseCourse 157 = .ok (.sipush 549, 3) := by decide +kernel
theorem dX10_chooseCourse_160 : decode cX10_chooseCourse 160 = .ok (.iload_n 1, 1) := by decide +kernel
theorem dX10_chooseCourse_161 : decode cX10_chooseCourse 161 = .ok (.iadd, 1) := by decide +kernel
theorem dX10_chooseCourse_162 : decode cX10_chooseCourse 162 = .ok (.iaload, 1) := by decide +kernel
theorem dX10_chooseCourse_163 : decode cX10_chooseCourse 163 = .ok (.ireturn, 1) := by decide +kernel
theorem dX10_countFor_0 : decode cX10_countFor 0 = .ok (.iconst 0, 1) := by decide +kernel
theorem dX10_countFor_1 : decode cX10_countFor 1 = .ok (.istore_n 3, 1) := by decide +kernel
theorem dX10_countFor_2 : decode cX10_countFor 2 = .ok (.ldc 32, 2) := by decide +kernel
theorem dX10_countFor_4 : decode cX10_countFor 4 = .ok (.istore 4, 2) := by decide +kernel
theorem dX10_countFor_6 : decode cX10_countFor 6 = .ok (.iconst 0, 1) := by decide +kernel
theorem dX10_countFor_7 : decode cX10_countFor 7 = .ok (.istore 5, 2) := by decide +kernel
theorem dX10_countFor_9 : decode cX10_countFor 9 = .ok (.iload 5, 2) := by decide +kernel
theorem dX10_countFor_11 : decode cX10_countFor 11 = .ok (.aload_n 0, 1) := by decide +kernel
theorem dX10_countFor_12 : decode cX10_countFor 12 = .ok (.getfield 9, 3) := by decide +kernel
theorem dX10_countFor_15 : decode cX10_countFor 15 = .ok (.iload_n 1, 1) := by decide +kernel
theorem dX10_countFor_16 : decode cX10_countFor 16 = .ok (.iaload, 1) := by decide +kernel
theorem dX10_countFor_17 : decode cX10_countFor 17 = .ok (.if_icmp .gt 54, 3) := by decide +kernel
theorem dX10_countFor_20 : decode cX10_countFor 20 = .ok (.iload 5, 2) := by decide +kernel
theorem dX10_countFor_22 : decode cX10_countFor 22 = .ok (.iload_n 1, 1) := by decide +kernel
theorem dX10_countFor_23 : decode cX10_countFor 23 = .ok (.imul, 1) := by decide +kernel
theorem dX10_countFor_24 : decode cX10_countFor 24 = .ok (.iload_n 2, 1) := by decide +kernel
theorem dX10_countFor_25 : decode cX10_countFor 25 = .ok (.if_icmp .gt 46, 3) := by decide +kernel
theorem dX10_countFor_28 : decode cX10_countFor 28 = .ok (.iload 5, 2) := by decide +kernel
theorem dX10_countFor_30 : decode cX10_countFor 30 = .ok (.aload_n 0, 1) := by decide +kernel
theorem dX10_countFor_31 : decode cX10_countFor 31 = .ok (.getfield 15, 3) := by decide +kernel
theorem dX10_countFor_34 : decode cX10_countFor 34 = .ok (.iload_n 1, 1) := by decide +kernel
theorem dX10_countFor_35 : decode cX10_countFor 35 = .ok (.iconst 1, 1) := by decide +kernel
theorem dX10_countFor_36 : decode cX10_countFor 36 = .ok (.isub, 1) := by decide +kernel
theorem dX10_countFor_37 : decode cX10_countFor 37 = .ok (.bipush 61, 2) := by decide +kernel
theorem dX10_countFor_39 : decode cX10_countFor 39 = .ok (.imul, 1) := by decide +kernel
theorem dX10_countFor_40 : decode cX10_countFor 40 = .ok (.iload_n 2, 1) := by decide +kernel
theorem dX10_countFor_41 : decode cX10_countFor 41 = .ok (.iadd, 1) := by decide +kernel
theorem dX10_countFor_42 : decode cX10_countFor 42 = .ok (.iload 5, 2) := by decide +kernel
theorem dX10_countFor_44 : decode cX10_countFor 44 = .ok (.iload_n 1, 1) := by decide +kernel
theorem dX10_countFor_45 : decode cX10_countFor 45 = .ok (.imul, 1) := by decide +kernel
theorem dX10_countFor_46 : decode cX10_countFor 46 = .ok (.isub, 1) := by decide +kernel
theorem dX10_countFor_47 : decode cX10_countFor 47 = .ok (.iaload, 1) := by decide +kernel
theorem dX10_countFor_48 : decode cX10_countFor 48 = .ok (.iadd, 1) := by decide +kernel
theorem dX10_countFor_49 : decode cX10_countFor 49 = .ok (.istore 6, 2) := by decide +kernel
theorem dX10_countFor_51 : decode cX10_countFor 51 = .ok (.iload 6, 2) := by decide +kernel
theorem dX10_countFor_53 : decode cX10_countFor 53 = .ok (.iload 4, 2) := by decide +kernel
theorem dX10_countFor_55 : decode cX10_countFor 55 = .ok (.if_icmp .gt 10, 3) := by decide +kernel
theorem dX10_countFor_58 : decode cX10_countFor 58 = .ok (.iload 5, 2) := by decide +kernel
theorem dX10_countFor_60 : decode cX10_countFor 60 = .ok (.istore_n 3, 1) := by decide +kernel
theorem dX10_countFor_61 : decode cX10_countFor 61 = .ok (.iload 6, 2) := by decide +kernel
theorem dX10_countFor_63 : decode cX10_countFor 63 = .ok (.istore 4, 2) := by decide +kernel
theorem dX10_countFor_65 : decode cX10_countFor 65 = .ok (.iinc 5 1, 3) := by decide +kernel
theorem dX10_countFor_68 : decode cX10_countFor 68 = .ok (.goto (-59), 3) := by decide +kernel
theorem dX10_countFor_71 : decode cX10_countFor 71 = .ok (.iload_n 3, 1) := by decide +kernel
theorem dX10_countFor_72 : decode cX10_countFor 72 = .ok (.ireturn, 1) := by decide +kernel
theorem dX10_countAll_0 : decode cX10_countAll 0 = .ok (.iconst 0, 1) := by decide +kernel
theorem dX10_countAll_1 : decode cX10_countAll 1 = .ok (.istore_n 1, 1) := by decide +kernel
theorem dX10_countAll_2 : decode cX10_countAll 2 = .ok (.iconst 1, 1) := by decide +kernel
theorem dX10_countAll_3 : decode cX10_countAll 3 = .ok (.istore_n 2, 1) := by decide +kernel
theorem dX10_countAll_4 : decode cX10_countAll 4 = .ok (.iload_n 2, 1) := by decide +kernel
theorem dX10_countAll_5 : decode cX10_countAll 5 = .ok (.bipush 9, 2) := by decide +kernel
theorem dX10_countAll_7 : decode cX10_countAll 7 = .ok (.if_icmp .gt 18, 3) := by decide +kernel
theorem dX10_countAll_10 : decode cX10_countAll 10 = .ok (.iload_n 1, 1) := by decide +kernel
theorem dX10_countAll_11 : decode cX10_countAll 11 = .ok (.aload_n 0, 1) := by decide +kernel
theorem dX10_countAll_12 : decode cX10_countAll 12 = .ok (.getfield 9, 3) := by decide +kernel
theorem dX10_countAll_15 : decode cX10_countAll 15 = .ok (.iload_n 2, 1) := by decide +kernel
theorem dX10_countAll_16 : decode cX10_countAll 16 = .ok (.iaload, 1) := by decide +kernel
theorem dX10_countAll_17 : decode cX10_countAll 17 = .ok (.iadd, 1) := by decide +kernel
theorem dX10_countAll_18 : decode cX10_countAll 18 = .ok (.istore_n 1, 1) := by decide +kernel
theorem dX10_countAll_19 : decode cX10_countAll 19 = .ok (.iinc 2 1, 3) := by decide +kernel
theorem dX10_countAll_22 : decode cX10_countAll 22 = .ok (.goto (-18), 3) := by decide +kernel
theorem dX10_countAll_25 : decode cX10_countAll 25 = .ok (.iload_n 1, 1) := by decide +kernel
theorem dX10_countAll_26 : decode cX10_countAll 26 = .ok (.ireturn, 1) := by decide +kernel
theorem dX11_init_0 : decode cX11_init 0 = .ok (.aload_n 0, 1) := by decide +kernel
theorem dX11_init_1 : decode cX11_init 1 = .ok (.invokespecial 3, 3) := by decide +kernel
theorem dX11_init_4 : decode cX11_init 4 = .ok (.aload_n 0, 1) := by decide +kernel
theorem dX11_init_5 : decode cX11_init 5 = .ok (.bipush 8, 2) := by decide +kernel
theorem dX11_init_7 : decode cX11_init 7 = .ok (.anewarray 9, 3) := by decide +kernel
theorem dX11_init_10 : decode cX11_init 10 = .ok (.putfield 11, 3) := by decide +kernel
theorem dX11_init_13 : decode cX11_init 13 = .ok (.aload_n 0, 1) := by decide +kernel
theorem dX11_init_14 : decode cX11_init 14 = .ok (.new 15, 3) := by decide +kernel
theorem dX11_init_17 : decode cX11_init 17 = .ok (.dup, 1) := by decide +kernel
theorem dX11_init_18 : decode cX11_init 18 = .ok (.invokespecial 17, 3) := by decide +kernel
theorem dX11_init_21 : decode cX11_init 21 = .ok (.putfield 18, 3) := by decide +kernel
theorem dX11_init_24 : decode cX11_init 24 = .ok (.aload_n 0, 1) := by decide +kernel
theorem dX11_init_25 : decode cX11_init 25 = .ok (.new 22, 3) := by decide +kernel
theorem dX11_init_28 : decode cX11_init 28 = .ok (.dup, 1) := by decide +kernel
theorem dX11_init_29 : decode cX11_init 29 = .ok (.invokespecial 24, 3) := by decide +kernel
theorem dX11_init_32 : decode cX11_init 32 = .ok (.putfield 25, 3) := by decide +kernel
theorem dX11_init_35 : decode cX11_init 35 = .ok (.aload_n 0, 1) := by decide +kernel
theorem dX11_init_36 : decode cX11_init 36 = .ok (.new 29, 3) := by decide +kernel
theorem dX11_init_39 : decode cX11_init 39 = .ok (.dup, 1) := by decide +kernel
theorem dX11_init_40 : decode cX11_init 40 = .ok (.invokespecial 31, 3) := by decide +kernel
theorem dX11_init_43 : decode cX11_init 43 = .ok (.putfield 32, 3) := by decide +kernel
theorem dX11_init_46 : decode cX11_init 46 = .ok (.aload_n 0, 1) := by decide +kernel
theorem dX11_init_47 : decode cX11_init 47 = .ok (.new 36, 3) := by decide +kernel
theorem dX11_init_50 : decode cX11_init 50 = .ok (.dup, 1) := by decide +kernel
theorem dX11_init_51 : decode cX11_init 51 = .ok (.invokespecial 38, 3) := by decide +kernel
theorem dX11_init_54 : decode cX11_init 54 = .ok (.putfield 39, 3) := by decide +kernel
theorem dX11_init_57 : decode cX11_init 57 = .ok (.aload_n 0, 1) := by decide +kernel
theorem dX11_init_58 : decode cX11_init 58 = .ok (.bipush 60, 2) := by decide +kernel
theorem dX11_init_60 : decode cX11_init 60 = .ok (.anewarray 43, 3) := by decide +kernel
theorem dX11_init_63 : decode cX11_init 63 = .ok (.putfield 45, 3) := by decide +kernel
theorem dX11_init_66 : decode cX11_init 66 = .ok (.aload_n 0, 1) := by decide +kernel
theorem dX11_init_67 : decode cX11_init 67 = .ok (.new 49, 3) := by decide +kernel
theorem dX11_init_70 : decode cX11_init 70 = .ok (.dup, 1) := by decide +kernel
theorem dX11_init_71 : decode cX11_init 71 = .ok (.invokespecial 51, 3) := by decide +kernel
theorem dX11_init_74 : decode cX11_init 74 = .ok (.putfield 52, 3) := by decide +kernel
theorem dX11_init_77 : decode cX11_init 77 = .ok (.aload_n 0, 1) := by decide +kernel
theorem dX11_init_78 : decode cX11_init 78 = .ok (.sipush 200, 3) := by decide +kernel
theorem dX11_init_81 : decode cX11_init 81 = .ok (.anewarray 56, 3) := by decide +kernel
theorem dX11_init_84 : decode cX11_init 84 = .ok (.putfield 58, 3) := by decide +kernel
theorem dX11_init_87 : decode cX11_init 87 = .ok (.aload_n 0, 1) := by decide +kernel
theorem dX11_init_88 : decode cX11_init 88 = .ok (.new 62, 3) := by decide +kernel
theorem dX11_init_91 : decode cX11_init 91 = .ok (.dup, 1) := by decide +kernel
theorem dX11_init_92 : decode cX11_init 92 = .ok (.invokespecial 64, 3) := by decide +kernel
theorem dX11_init_95 : decode cX11_init 95 = .ok (.putfield 65, 3) := by decide +kernel
theorem dX11_init_98 : decode cX11_init 98 = .ok (.return_, 1) := by decide +kernel
theorem dX11_street_0 : decode cX11_street 0 = .ok (.iload_n 1, 1) := by decide +kernel
theorem dX11_street_1 : decode cX11_street 1 = .ok (.iconst 1, 1) := by decide +kernel
theorem dX11_street_2 : decode cX11_street 2 = .ok (.bipush 16, 2) := by decide +kernel
theorem dX11_street_4 : decode cX11_street 4 = .ok (.invokestatic 69, 3) := by decide +kernel
theorem dX11_street_7 : decode cX11_street 7 = .ok (.ifCond .eq 23, 3) := by decide +kernel
theorem dX11_street_10 : decode cX11_street 10 = .ok (.iload_n 2, 1) := by decide +kernel
theorem dX11_street_11 : decode cX11_street 11 = .ok (.iconst 1, 1) := by decide +kernel
theorem dX11_street_12 : decode cX11_street 12 = .ok (.bipush 9, 2) := by decide +kernel
theorem dX11_street_14 : decode cX11_street 14 = .ok (.invokestatic 69, 3) := by decide +kernel
theorem dX11_street_17 : decode cX11_street 17 = .ok (.ifCond .eq 13, 3) := by decide +kernel
theorem dX11_street_20 : decode cX11_street 20 = .ok (.iload_n 3, 1) := by decide +kernel
theorem dX11_street_21 : decode cX11_street 21 = .ok (.iconst 0, 1) := by decide +kernel
theorem dX11_street_22 : decode cX11_street 22 = .ok (.bipush 99, 2) := by decide +kernel
theorem dX11_street_24 : decode cX11_street 24 = .ok (.invokestatic 69, 3) := by decide +kernel
theorem dX11_street_27 : decode cX11_street 27 = .ok (.ifCond .ne 5, 3) := by decide +kernel
theorem dX11_street_30 : decode cX11_street 30 = .ok (.iconst (-1), 1) := by decide +kernel
theorem dX11_street_31 : decode cX11_street 31 = .ok (.ireturn, 1) := by decide +kernel
theorem dX11_street_32 : decode cX11_street 32 = .ok (.aload_n 0, 1) := by decide +kernel
theorem dX11_street_33 : decode cX11_street 33 = .ok (.getfield 73, 3) := by decide +kernel
theorem dX11_street_36 : decode cX11_street 36 = .ok (.bipush 8, 2) := by decide +kernel
theorem dX11_street_38 : decode cX11_street 38 = .ok (.if_icmp .lt 6, 3) := by decide +kernel
theorem dX11_street_41 : decode cX11_street 41 = .ok (.bipush (-3), 2) := by decide +kernel
theorem dX11_street_43 : decode cX11_street 43 = .ok (.ireturn, 1) := by decide +kernel
theorem dX11_street_44 : decode cX11_street 44 = .ok (.aload_n 0, 1) := by decide +kernel
theorem dX11_street_45 : decode cX11_street 45 = .ok (.getfield 11, 3) := by decide +kernel
theorem dX11_street_48 : decode cX11_street 48 = .ok (.aload_n 0, 1) := by decide +kernel
theorem dX11_street_49 : decode cX11_street 49 = .ok (.getfield 73, 3) := by decide +kernel
theorem dX11_street_52 : decode cX11_street 52 = .ok (.new 9, 3) := by decide +kernel
theorem dX11_street_55 : decode cX11_street 55 = .ok (.dup, 1) := by decide +kernel
theorem dX11_street_56 : decode cX11_street 56 = .ok (.iload_n 1, 1) := by decide +kernel
theorem dX11_street_57 : decode cX11_street 57 = .ok (.iload_n 2, 1) := by decide +kernel
theorem dX11_street_58 : decode cX11_street 58 = .ok (.iload_n 3, 1) := by decide +kernel
theorem dX11_street_59 : decode cX11_street 59 = .ok (.invokespecial 77, 3) := by decide +kernel
theorem dX11_street_62 : decode cX11_street 62 = .ok (.aastore, 1) := by decide +kernel
theorem dX11_street_63 : decode cX11_street 63 = .ok (.aload_n 0, 1) := by decide +kernel
theorem dX11_street_64 : decode cX11_street 64 = .ok (.dup, 1) := by decide +kernel
theorem dX11_street_65 : decode cX11_street 65 = .ok (.getfield 73, 3) := by decide +kernel
theorem dX11_street_68 : decode cX11_street 68 = .ok (.iconst 1, 1) := by decide +kernel
theorem dX11_street_69 : decode cX11_street 69 = .ok (.iadd, 1) := by decide +kernel
theorem dX11_street_70 : decode cX11_street 70 = .ok (.putfield 73, 3) := by decide +kernel
theorem dX11_street_73 : decode cX11_street 73 = .ok (.aload_n 0, 1) := by decide +kernel
theorem dX11_street_74 : decode cX11_street 74 = .ok (.getfield 73, 3) := by decide +kernel
theorem dX11_street_77 : decode cX11_street 77 = .ok (.iconst 1, 1) := by decide +kernel
theorem dX11_street_78 : decode cX11_street 78 = .ok (.isub, 1) := by decide +kernel
theorem dX11_street_79 : decode cX11_street 79 = .ok (.ireturn, 1) := by decide +kernel
theorem dX11_height_0 : decode cX11_height 0 = .ok (.aload_n 0, 1) := by decide +kernel
theorem dX11_height_1 : decode cX11_height 1 = .ok (.iload_n 1, 1) := by decide +kernel
theorem dX11_height_2 : decode cX11_height 2 = .ok (.invokevirtual 80, 3) := by decide +kernel
theorem dX11_height_5 : decode cX11_height 5 = .ok (.astore 5, 2) := by decide +kernel
theorem dX11_height_7 : decode cX11_height 7 = .ok (.aload 5, 2) := by decide +kernel
theorem dX11_height_9 : decode cX11_height 9 = .ok (.ifnull 24, 3) := by decide +kernel
theorem dX11_height_12 : decode cX11_height 12 = .ok (.aload 5, 2) := by decide +kernel
theorem dX11_height_14 : decode cX11_height 14 = .ok (.iload_n 2, 1) := by decide +kernel
theorem dX11_height_15 : decode cX11_height 15 = .ok (.iload_n 3, 1) := by decide +kernel
theorem dX11_height_16 : decode cX11_height 16 = .ok (.invokevirtual 84, 3) := by decide +kernel
theorem dX11_height_19 : decode cX11_height 19 = .ok (.ifCond .eq 14, 3) := by decide +kernel
theorem dX11_height_22 : decode cX11_height 22 = .ok (.iload 4, 2) := by decide +kernel
theorem dX11_height_24 : decode cX11_height 24 = .ok (.iconst 0, 1) := by decide +kernel
theorem dX11_height_25 : decode cX11_height 25 = .ok (.bipush 99, 2) := by decide +kernel
theorem dX11_height_27 : decode cX11_height 27 = .ok (.invokestatic 69, 3) := by decide +kernel
theorem dX11_height_30 : decode cX11_height 30 = .ok (.ifCond .ne 5, 3) := by decide +kernel
theorem dX11_height_33 : decode cX11_height 33 = .ok (.iconst (-1), 1) := by decide +kernel
theorem dX11_height_34 : decode cX11_height 34 = .ok (.ireturn, 1) := by decide +kernel
theorem dX11_height_35 : decode cX11_height 35 = .ok (.aload 5, 2) := by decide +kernel
theorem dX11_height_37 : decode cX11_height 37 = .ok (.iload_n 2, 1) := by decide +kernel
theorem dX11_height_38 : decode cX11_height 38 = .ok (.iload_n 3, 1) := by decide +kernel
theorem dX11_height_39 : decode cX11_height 39 = .ok (.invokevirtual 88, 3) := by decide +kernel
theorem dX11_height_42 : decode cX11_height 42 = .ok (.istore 6, 2) := by decide +kernel
theorem dX11_height_44 : decode cX11_height 44 = .ok (.aload 5, 2) := by decide +kernel
theorem dX11_height_46 : decode cX11_height 46 = .ok (.getfield 92, 3) := by decide +kernel
theorem dX11_height_49 : decode cX11_height 49 = .ok (.iload 6, 2) := by decide +kernel
theorem dX11_height_51 : decode cX11_height 51 = .ok (.iaload, 1) := by decide +kernel
theorem dX11_height_52 : decode cX11_height 52 = .ok (.istore 7, 2) := by decide +kernel
theorem dX11_height_54 : decode cX11_height 54 = .ok (.aload 5, 2) := by decide +kernel
theorem dX11_height_56 : decode cX11_height 56 = .ok (.getfield 92, 3) := by decide +kernel
theorem dX11_height_59 : decode cX11_height 59 = .ok (.iload 6, 2) := by decide +kernel
theorem dX11_height_61 : decode cX11_height 61 = .ok (.iload 4, 2) := by decide +kernel
theorem dX11_height_63 : decode cX11_height 63 = .ok (.iastore, 1) := by decide +kernel
theorem dX11_height_64 : decode cX11_height 64 = .ok (.iload 7, 2) := by decide +kernel
theorem dX11_height_66 : decode cX11_height 66 = .ok (.ireturn, 1) := by decide +kernel
theorem dX11_read_0 : decode cX11_read 0 = .ok (.aload_n 0, 1) := by decide +kernel
theorem dX11_read_1 : decode cX11_read 1 = .ok (.iload_n 1, 1) := by decide +kernel
theorem dX11_read_2 : decode cX11_read 2 = .ok (.invokevirtual 80, 3) := by decide +kernel
theorem dX11_read_5 : decode cX11_read 5 = .ok (.astore 4, 2) := by decide +kernel
theorem dX11_read_7 : decode cX11_read 7 = .ok (.aload 4, 2) := by decide +kernel
theorem dX11_read_9 : decode cX11_read 9 = .ok (.ifnull 13, 3) := by decide +kernel
theorem dX11_read_12 : decode cX11_read 12 = .ok (.aload 4, 2) := by decide +kernel
theorem dX11_read_14 : decode cX11_read 14 = .ok (.iload_n 2, 1) := by decide +kernel
theorem dX11_read_15 : decode cX11_read 15 = .ok (.iload_n 3, 1) := by decide +kernel
theorem dX11_read_16 : decode cX11_read 16 = .ok (.invokevirtual 84, 3) := by decide +kernel
theorem dX11_read_19 : decode cX11_read 19 = .ok (.ifCond .ne 5, 3) := by decide +kernel
theorem dX11_read_22 : decode cX11_read 22 = .ok (.iconst (-1), 1) := by decide +kernel
theorem dX11_read_23 : decode cX11_read 23 = .ok (.ireturn, 1) := by decide +kernel
theorem dX11_read_24 : decode cX11_read 24 = .ok (.aload 4, 2) := by decide +kernel
theorem dX11_read_26 : decode cX11_read 26 = .ok (.getfield 92, 3) := by decide +kernel
theorem dX11_read_29 : decode cX11_read 29 = .ok (.aload 4, 2) := by decide +kernel
theorem dX11_read_31 : decode cX11_read 31 = .ok (.iload_n 2, 1) := by decide +kernel
theorem dX11_read_32 : decode cX11_read 32 = .ok (.iload_n 3, 1) := by decide +kernel
theorem dX11_read_33 : decode cX11_read 33 = .ok (.invokevirtual 88, 3) := by decide +kernel
theorem dX11_read_36 : decode cX11_read 36 = .ok (.iaload, 1) := by decide +kernel
theorem dX11_read_37 : decode cX11_read 37 = .ok (.ireturn, 1) := by decide +kernel
theorem dX11_drain_0 : decode cX11_drain 0 = .ok (.aload_n 0, 1) := by decide +kernel
theorem dX11_drain_1 : decode cX11_drain 1 = .ok (.iload_n 1, 1) := by decide +kernel
theorem dX11_drain_2 : decode cX11_drain 2 = .ok (.invokevirtual 80, 3) := by decide +kernel
theorem dX11_drain_5 : decode cX11_drain 5 = .ok (.astore 5, 2) := by decide +kernel
theorem dX11_drain_7 : decode cX11_drain 7 = .ok (.aload 5, 2) := by decide +kernel
theorem dX11_drain_9 : decode cX11_drain 9 = .ok (.ifnull 23, 3) := by decide +kernel
theorem dX11_drain_12 : decode cX11_drain 12 = .ok (.aload 5, 2) := by decide +kernel
theorem dX11_drain_14 : decode cX11_drain 14 = .ok (.iload_n 2, 1) := by decide +kernel
theorem dX11_drain_15 : decode cX11_drain 15 = .ok (.iload_n 3, 1) := by decide +kernel
theorem dX11_drain_16 : decode cX11_drain 16 = .ok (.invokevirtual 84, 3) := by decide +kernel
theorem dX11_drain_19 : decode cX11_drain 19 = .ok (.ifCond .eq 13, 3) := by decide +kernel
theorem dX11_drain_22 : decode cX11_drain 22 = .ok (.iload 4, 2) := by decide +kernel
theorem dX11_drain_24 : decode cX11_drain 24 = .ok (.iconst 0, 1) := by decide +kernel
theorem dX11_drain_25 : decode cX11_drain 25 = .ok (.iconst 1, 1) := by decide +kernel
theorem dX11_drain_26 : decode cX11_drain 26 = .ok (.invokestatic 69, 3) := by decide +kernel
theorem dX11_drain_29 : decode cX11_drain 29 = .ok (.ifCond .ne 5, 3) := by decide +kernel
theorem dX11_drain_32 : decode cX11_drain 32 = .ok (.iconst (-1), 1) := by decide +kernel
theorem dX11_drain_33 : decode cX11_drain 33 = .ok (.ireturn, 1) := by decide +kernel
theorem dX11_drain_34 : decode cX11_drain 34 = .ok (.aload 5, 2) := by decide +kernel
theorem dX11_drain_36 : decode cX11_drain 36 = .ok (.iload_n 2, 1) := by decide +kernel
theorem dX11_drain_37 : decode cX11_drain 37 = .ok (.iload_n 3, 1) := by decide +kernel
theorem dX11_drain_38 : decode cX11_drain 38 = .ok (.invokevirtual 88, 3) := by decide +kernel
theorem dX11_drain_41 : decode cX11_drain 41 = .ok (.istore 6, 2) := by decide +kernel
theorem dX11_drain_43 : decode cX11_drain 43 = .ok (.aload 5, 2) := by decide +kernel
theorem dX11_drain_45 : decode cX11_drain 45 = .ok (.getfield 96, 3) := by decide +kernel
theorem dX11_drain_48 : decode cX11_drain 48 = .ok (.iload 6, 2) := by decide +kernel
theorem dX11_drain_50 : decode cX11_drain 50 = .ok (.iaload, 1) := by decide +kernel
theorem dX11_drain_51 : decode cX11_drain 51 = .ok (.istore 7, 2) := by decide +kernel
theorem dX11_drain_53 : decode cX11_drain 53 = .ok (.aload 5, 2) := by decide +kernel
theorem dX11_drain_55 : decode cX11_drain 55 = .ok (.getfield 96, 3) := by decide +kernel
theorem dX11_drain_58 : decode cX11_drain 58 = .ok (.iload 6, 2) := by decide +kernel
theorem dX11_drain_60 : decode cX11_drain 60 = .ok (.iload 4, 2) := by decide +kernel
theorem dX11_drain_62 : decode cX11_drain 62 = .ok (.iastore, 1) := by decide +kernel
theorem dX11_drain_63 : decode cX11_drain 63 = .ok (.iload 7, 2) := by decide +kernel
theorem dX11_drain_65 : decode cX11_drain 65 = .ok (.ireturn, 1) := by decide +kernel
theorem dX11_water_0 : decode cX11_water 0 = .ok (.aload_n 0, 1) := by decide +kernel
theorem dX11_water_1 : decode cX11_water 1 = .ok (.iload_n 1, 1) := by decide +kernel
theorem dX11_water_2 : decode cX11_water 2 = .ok (.invokevirtual 80, 3) := by decide +kernel
theorem dX11_water_5 : decode cX11_water 5 = .ok (.astore 4, 2) := by decide +kernel
theorem dX11_water_7 : decode cX11_water 7 = .ok (.aload 4, 2) := by decide +kernel
theorem dX11_water_9 : decode cX11_water 9 = .ok (.ifnull 13, 3) := by decide +kernel
theorem dX11_water_12 : decode cX11_water 12 = .ok (.aload 4, 2) := by decide +kernel
theorem dX11_water_14 : decode cX11_water 14 = .ok (.iload_n 2, 1) := by decide +kernel
theorem dX11_water_15 : decode cX11_water 15 = .ok (.iload_n 3, 1) := by decide +kernel
theorem dX11_water_16 : decode cX11_water 16 = .ok (.invokevirtual 84, 3) := by decide +kernel
theorem dX11_water_19 : decode cX11_water 19 = .ok (.ifCond .ne 5, 3) := by decide +kernel
theorem dX11_water_22 : decode cX11_water 22 = .ok (.iconst (-1), 1) := by decide +kernel
theorem dX11_water_23 : decode cX11_water 23 = .ok (.ireturn, 1) := by decide +kernel
theorem dX11_water_24 : decode cX11_water 24 = .ok (.aload 4, 2) := by decide +kernel
theorem dX11_water_26 : decode cX11_water 26 = .ok (.aload 4, 2) := by decide +kernel
theorem dX11_water_28 : decode cX11_water 28 = .ok (.iload_n 2, 1) := by decide +kernel
theorem dX11_water_29 : decode cX11_water 29 = .ok (.iload_n 3, 1) := by decide +kernel
theorem dX11_water_30 : decode cX11_water 30 = .ok (.invokevirtual 88, 3) := by decide +kernel
theorem dX11_water_33 : decode cX11_water 33 = .ok (.invokevirtual 99, 3) := by decide +kernel
theorem dX11_water_36 : decode cX11_water 36 = .ok (.istore 5, 2) := by decide +kernel
theorem dX11_water_38 : decode cX11_water 38 = .ok (.bipush 16, 2) := by decide +kernel
theorem dX11_water_40 : decode cX11_water 40 = .ok (.aload 4, 2) := by decide +kernel
theorem dX11_water_42 : decode cX11_water 42 = .ok (.iload 5, 2) := by decide +kernel
theorem dX11_water_44 : decode cX11_water 44 = .ok (.invokevirtual 103, 3) := by decide +kernel
theorem dX11_water_47 : decode cX11_water 47 = .ok (.imul, 1) := by decide +kernel
theorem dX11_water_48 : decode cX11_water 48 = .ok (.aload 4, 2) := by decide +kernel
theorem dX11_water_50 : decode cX11_water 50 = .ok (.iload 5, 2) := by decide +kernel
theorem dX11_water_52 : decode cX11_water 52 = .ok (.invokevirtual 106, 3) := by decide +kernel
theorem dX11_water_55 : decode cX11_water 55 = .ok (.iadd, 1) := by decide +kernel
theorem dX11_water_56 : decode cX11_water 56 = .ok (.istore 6, 2) := by decide +kernel
theorem dX11_water_58 : decode cX11_water 58 = .ok (.aload 4, 2) := by decide +kernel
theorem dX11_water_60 : decode cX11_water 60 = .ok (.getfield 96, 3) := by decide +kernel
theorem dX11_water_63 : decode cX11_water 63 = .ok (.iload 5, 2) := by decide +kernel
theorem dX11_water_65 : decode cX11_water 65 = .ok (.iaload, 1) := by decide +kernel
theorem dX11_water_66 : decode cX11_water 66 = .ok (.iconst 1, 1) := by decide +kernel
theorem dX11_water_67 : decode cX11_water 67 = .ok (.if_icmp .ne 12, 3) := by decide +kernel
theorem dX11_water_70 : decode cX11_water 70 = .ok (.iload 6, 2) := by decide +kernel
theorem dX11_water_72 : decode cX11_water 72 = .ok (.sipush 1000, 3) := by decide +kernel
theorem dX11_water_75 : decode cX11_water 75 = .ok (.iadd, 1) := by decide +kernel
theorem dX11_water_76 : decode cX11_water 76 = .ok (.goto 5, 3) := by decide +kernel
theorem dX11_water_79 : decode cX11_water 79 = .ok (.iload 6, 2) := by decide +kernel
theorem dX11_water_81 : decode cX11_water 81 = .ok (.ireturn, 1) := by decide +kernel
theorem dX11_standing_0 : decode cX11_standing 0 = .ok (.aload_n 0, 1) := by decide +kernel
theorem dX11_standing_1 : decode cX11_standing 1 = .ok (.iload_n 1, 1) := by decide +kernel
theorem dX11_standing_2 : decode cX11_standing 2 = .ok (.invokevirtual 80, 3) := by decide +kernel
theorem dX11_standing_5 : decode cX11_standing 5 = .ok (.astore_n 2, 1) := by decide +kernel
theorem dX11_standing_6 : decode cX11_standing 6 = .ok (.aload_n 2, 1) := by decide +kernel
theorem dX11_standing_7 : decode cX11_standing 7 = .ok (.ifnonnull 7, 3) := by decide +kernel
theorem dX11_standing_10 : decode cX11_standing 10 = .ok (.iconst (-1), 1) := by decide +kernel
theorem dX11_standing_11 : decode cX11_standing 11 = .ok (.goto 11, 3) := by decide +kernel
theorem dX11_standing_14 : decode cX11_standing 14 = .ok (.aload_n 0, 1) := by decide +kernel
theorem dX11_standing_15 : decode cX11_standing 15 = .ok (.getfield 18, 3) := by decide +kernel
theorem dX11_standing_18 : decode cX11_standing 18 = .ok (.aload_n 2, 1) := by decide +kernel
theorem dX11_standing_19 : decode cX11_standing 19 = .ok (.invokevirtual 109, 3) := by decide +kernel
theorem dX11_standing_22 : decode cX11_standing 22 = .ok (.ireturn, 1) := by decide +kernel
theorem dX11_most_0 : decode cX11_most 0 = .ok (.aload_n 0, 1) := by decide +kernel
theorem dX11_most_1 : decode cX11_most 1 = .ok (.iload_n 1, 1) := by decide +kernel
theorem dX11_most_2 : decode cX11_most 2 = .ok (.invokevirtual 80, 3) := by decide +kernel
theorem dX11_most_5 : decode cX11_most 5 = .ok (.astore_n 2, 1) := by decide +kernel
theorem dX11_most_6 : decode cX11_most 6 = .ok (.aload_n 2, 1) := by decide +kernel
theorem dX11_most_7 : decode cX11_most 7 = .ok (.ifnonnull 7, 3) := by decide +kernel
theorem dX11_most_10 : decode cX11_most 10 = .ok (.iconst (-1), 1) := by decide +kernel
theorem dX11_most_11 : decode cX11_most 11 = .ok (.goto 11, 3) := by decide +kernel
theorem dX11_most_14 : decode cX11_most 14 = .ok (.aload_n 0, 1) := by decide +kernel
theorem dX11_most_15 : decode cX11_most 15 = .ok (.getfield 18, 3) := by decide +kernel
theorem dX11_most_18 : decode cX11_most 18 = .ok (.aload_n 2, 1) := by decide +kernel
theorem dX11_most_19 : decode cX11_most 19 = .ok (.invokevirtual 113, 3) := by decide +kernel
theorem dX11_most_22 : decode cX11_most 22 = .ok (.ireturn, 1) := by decide +kernel
theorem dX11_level_0 : decode cX11_level 0 = .ok (.aload_n 0, 1) := by decide +kernel
theorem dX11_level_1 : decode cX11_level 1 = .ok (.iload_n 1, 1) := by decide +kernel
theorem dX11_level_2 : decode cX11_level 2 = .ok (.invokevirtual 80, 3) := by decide +kernel
theorem dX11_level_5 : decode cX11_level 5 = .ok (.astore 5, 2) := by decide +kernel
theorem dX11_level_7 : decode cX11_level 7 = .ok (.aload 5, 2) := by decide +kernel
theorem dX11_level_9 : decode cX11_level 9 = .ok (.ifnull 37, 3) := by decide +kernel
theorem dX11_level_12 : decode cX11_level 12 = .ok (.aload 5, 2) := by decide +kernel
theorem dX11_level_14 : decode cX11_level 14 = .ok (.iload_n 2, 1) := by decide +kernel
theorem dX11_level_15 : decode cX11_level 15 = .ok (.iload_n 3, 1) := by decide +kernel
theorem dX11_level_16 : decode cX11_level 16 = .ok (.invokevirtual 84, 3) := by decide +kernel
theorem dX11_level_19 : decode cX11_level 19 = .ok (.ifCond .eq 27, 3) := by decide +kernel
theorem dX11_level_22 : decode cX11_level 22 = .ok (.iload 4, 2) := by decide +kernel
theorem dX11_level_24 : decode cX11_level 24 = .ok (.iconst 0, 1) := by decide +kernel
theorem dX11_level_25 : decode cX11_level 25 = .ok (.bipush 99, 2) := by decide +kernel
theorem dX11_level_27 : decode cX11_level 27 = .ok (.invokestatic 69, 3) := by decide +kernel
theorem dX11_level_30 : decode cX11_level 30 = .ok (.ifCond .eq 16, 3) := by decide +kernel
theorem dX11_level_33 : decode cX11_level 33 = .ok (.iload 4, 2) := by decide +kernel
theorem dX11_level_35 : decode cX11_level 35 = .ok (.bipush 10, 2) := by decide +kernel
theorem dX11_level_37 : decode cX11_level 37 = .ok (.idiv, 1) := by decide +kernel
theorem dX11_level_38 : decode cX11_level 38 = .ok (.iload 4, 2) := by decide +kernel
theorem dX11_level_40 : decode cX11_level 40 = .ok (.bipush 10, 2) := by decide +kernel
theorem dX11_level_42 : decode cX11_level 42 = .ok (.irem, 1) := by decide +kernel
theorem dX11_level_43 : decode cX11_level 43 = .ok (.if_icmp .le 5, 3) := by decide +kernel
theorem dX11_level_46 : decode cX11_level 46 = .ok (.iconst (-1), 1) := by decide +kernel
theorem dX11_level_47 : decode cX11_level 47 = .ok (.ireturn, 1) := by decide +kernel
theorem dX11_level_48 : decode cX11_level 48 = .ok (.aload_n 0, 1) := by decide +kernel
theorem dX11_level_49 : decode cX11_level 49 = .ok (.getfield 25, 3) := by decide +kernel
theorem dX11_level_52 : decode cX11_level 52 = .ok (.aload 5, 2) := by decide +kernel
theorem dX11_level_54 : decode cX11_level 54 = .ok (.iload_n 2, 1) := by decide +kernel
theorem dX11_level_55 : decode cX11_level 55 = .ok (.iload_n 3, 1) := by decide +kernel
theorem dX11_level_56 : decode cX11_level 56 = .ok (.iload 4, 2) := by decide +kernel
theorem dX11_level_58 : decode cX11_level 58 = .ok (.bipush 10, 2) := by decide +kernel
theorem dX11_level_60 : decode cX11_level 60 = .ok (.idiv, 1) := by decide +kernel
theorem dX11_level_61 : decode cX11_level 61 = .ok (.iload 4, 2) := by decide +kernel
theorem dX11_level_63 : decode cX11_level 63 = .ok (.bipush 10, 2) := by decide +kernel
theorem dX11_level_65 : decode cX11_level 65 = .ok (.irem, 1) := by decide +kernel
theorem dX11_level_66 : decode cX11_level 66 = .ok (.invokevirtual 116, 3) := by decide +kernel
theorem dX11_level_69 : decode cX11_level 69 = .ok (.ireturn, 1) := by decide +kernel
theorem dX11_levelled_0 : decode cX11_levelled 0 = .ok (.aload_n 0, 1) := by decide +kernel
theorem dX11_levelled_1 : decode cX11_levelled 1 = .ok (.getfield 25, 3) := by decide +kernel
theorem dX11_levelled_4 : decode cX11_levelled 4 = .ok (.iload_n 1, 1) := by decide +kernel
theorem dX11_levelled_5 : decode cX11_levelled 5 = .ok (.invokevirtual 120, 3) := by decide +kernel
theorem dX11_levelled_8 : decode cX11_levelled 8 = .ok (.ireturn, 1) := by decide +kernel
theorem dX11_move_0 : decode cX11_move 0 = .ok (.aload_n 0, 1) := by decide +kernel
theorem dX11_move_1 : decode cX11_move 1 = .ok (.getfield 25, 3) := by decide +kernel
theorem dX11_move_4 : decode cX11_move 4 = .ok (.invokevirtual 123, 3) := by decide +kernel
theorem dX11_move_7 : decode cX11_move 7 = .ok (.ireturn, 1) := by decide +kernel
theorem dX11_stones_0 : decode cX11_stones 0 = .ok (.iload_n 1, 1) := by decide +kernel
theorem dX11_stones_1 : decode cX11_stones 1 = .ok (.iconst 1, 1) := by decide +kernel
theorem dX11_stones_2 : decode cX11_stones 2 = .ok (.bipush 9, 2) := by decide +kernel
theorem dX11_stones_4 : decode cX11_stones 4 = .ok (.invokestatic 69, 3) := by decide +kernel
theorem dX11_stones_7 : decode cX11_stones 7 = .ok (.ifCond .eq 13, 3) := by decide +kernel
theorem dX11_stones_10 : decode cX11_stones 10 = .ok (.iload_n 2, 1) := by decide +kernel
theorem dX11_stones_11 : decode cX11_stones 11 = .ok (.iconst 1, 1) := by decide +kernel
theorem dX11_stones_12 : decode cX11_stones 12 = .ok (.bipush 99, 2) := by decide +kernel
theorem dX11_stones_14 : decode cX11_stones 14 = .ok (.invokestatic 69, 3) := by decide +kernel
theorem dX11_stones_17 : decode cX11_stones 17 = .ok (.ifCond .ne 5, 3) := by decide +kernel
theorem dX11_stones_20 : decode cX11_stones 20 = .ok (.iconst (-1), 1) := by decide +kernel
theorem dX11_stones_21 : decode cX11_stones 21 = .ok (.ireturn, 1) := by decide +kernel
theorem dX11_stones_22 : decode cX11_stones 22 = .ok (.aload_n 0, 1) := by decide +kernel
theorem dX11_stones_23 : decode cX11_stones 23 = .ok (.getfield 32, 3) := by decide +kernel
theorem dX11_stones_26 : decode cX11_stones 26 = .ok (.iload_n 1, 1) := by decide +kernel
theorem dX11_stones_27 : decode cX11_stones 27 = .ok (.iload_n 2, 1) := by decide +kernel
theorem dX11_stones_28 : decode cX11_stones 28 = .ok (.invokevirtual 127, 3) := by decide +kernel
theorem dX11_stones_31 : decode cX11_stones 31 = .ok (.ireturn, 1) := by decide +kernel
theorem dX11_course_0 : decode cX11_course 0 = .ok (.iload_n 1, 1) := by decide +kernel
theorem dX11_course_1 : decode cX11_course 1 = .ok (.iconst 1, 1) := by decide +kernel
theorem dX11_course_2 : decode cX11_course 2 = .ok (.bipush 60, 2) := by decide +kernel
theorem dX11_course_4 : decode cX11_course 4 = .ok (.invokestatic 69, 3) := by decide +kernel
theorem dX11_course_7 : decode cX11_course 7 = .ok (.ifCond .eq 14, 3) := by decide +kernel
theorem dX11_course_10 : decode cX11_course 10 = .ok (.aload_n 0, 1) := by decide +kernel
theorem dX11_course_11 : decode cX11_course 11 = .ok (.getfield 32, 3) := by decide +kernel
theorem dX11_course_14 : decode cX11_course 14 = .ok (.iload_n 1, 1) := by decide +kernel
theorem dX11_course_15 : decode cX11_course 15 = .ok (.invokevirtual 130, 3) := by decide +kernel
theorem dX11_course_18 : decode cX11_course 18 = .ok (.goto 4, 3) := by decide +kernel
theorem dX11_course_21 : decode cX11_course 21 = .ok (.iconst (-1), 1) := by decide +kernel
theorem dX11_course_22 : decode cX11_course 22 = .ok (.ireturn, 1) := by decide +kernel
theorem dX11_of_0 : decode cX11_of 0 = .ok (.iload_n 1, 1) := by decide +kernel
theorem dX11_of_1 : decode cX11_of 1 = .ok (.iconst 1, 1) := by decide +kernel
theorem dX11_of_2 : decode cX11_of 2 = .ok (.bipush 9, 2) := by decide +kernel
theorem dX11_of_4 : decode cX11_of 4 = .ok (.invokestatic 69, 3) := by decide +kernel
theorem dX11_of_7 : decode cX11_of 7 = .ok (.ifCond .eq 14, 3) := by decide +kernel
theorem dX11_of_10 : decode cX11_of 10 = .ok (.aload_n 0, 1) := by decide +kernel
theorem dX11_of_11 : decode cX11_of 11 = .ok (.getfield 32, 3) := by decide +kernel
theorem dX11_of_14 : decode cX11_of 14 = .ok (.iload_n 1, 1) := by decide +kernel
theorem dX11_of_15 : decode cX11_of 15 = .ok (.invokevirtual 133, 3) := by decide +kernel
theorem dX11_of_18 : decode cX11_of 18 = .ok (.goto 4, 3) := by decide +kernel
theorem dX11_of_21 : decode cX11_of 21 = .ok (.iconst (-1), 1) := by decide +kernel
theorem dX11_of_22 : decode cX11_of 22 = .ok (.ireturn, 1) := by decide +kernel
theorem dX11_lay_0 : decode cX11_lay 0 = .ok (.iload_n 1, 1) := by decide +kernel
theorem dX11_lay_1 : decode cX11_lay 1 = .ok (.iconst 1, 1) := by decide +kernel
theorem dX11_lay_2 : decode cX11_lay 2 = .ok (.bipush 60, 2) := by decide +kernel
theorem dX11_lay_4 : decode cX11_lay 4 = .ok (.invokestatic 69, 3) := by decide +kernel
theorem dX11_lay_7 : decode cX11_lay 7 = .ok (.ifCond .eq 14, 3) := by decide +kernel
theorem dX11_lay_10 : decode cX11_lay 10 = .ok (.aload_n 0, 1) := by decide +kernel
theorem dX11_lay_11 : decode cX11_lay 11 = .ok (.getfield 32, 3) := by decide +kernel
theorem dX11_lay_14 : decode cX11_lay 14 = .ok (.iload_n 1, 1) := by decide +kernel
theorem dX11_lay_15 : decode cX11_lay 15 = .ok (.invokevirtual 136, 3) := by decide +kernel
theorem dX11_lay_18 : decode cX11_lay 18 = .ok (.goto 4, 3) := by decide +kernel
theorem dX11_lay_21 : decode cX11_lay 21 = .ok (.iconst (-1), 1) := by decide +kernel
theorem dX11_lay_22 : decode cX11_lay 22 = .ok (.ireturn, 1) := by decide +kernel
theorem dX11_year_0 : decode cX11_year 0 = .ok (.aload_n 0, 1) := by decide +kernel
theorem dX11_year_1 : decode cX11_year 1 = .ok (.getfield 139, 3) := by decide +kernel
theorem dX11_year_4 : decode cX11_year 4 = .ok (.bipush 30, 2) := by decide +kernel
theorem dX11_year_6 : decode cX11_year 6 = .ok (.if_icmp .lt 6, 3) := by decide +kernel
theorem dX11_year_9 : decode cX11_year 9 = .ok (.bipush (-2), 2) := by decide +kernel
theorem dX11_year_11 : decode cX11_year 11 = .ok (.ireturn, 1) := by decide +kernel
theorem dX11_year_12 : decode cX11_year 12 = .ok (.aload_n 0, 1) := by decide +kernel
theorem dX11_year_13 : decode cX11_year 13 = .ok (.dup, 1) := by decide +kernel
theorem dX11_year_14 : decode cX11_year 14 = .ok (.getfield 139, 3) := by decide +kernel
theorem dX11_year_17 : decode cX11_year 17 = .ok (.iconst 1, 1) := by decide +kernel
theorem dX11_year_18 : decode cX11_year 18 = .ok (.iadd, 1) := by decide +kernel
theorem dX11_year_19 : decode cX11_year 19 = .ok (.putfield 139, 3) := by decide +kernel
theorem dX11_year_22 : decode cX11_year 22 = .ok (.aload_n 0, 1) := by decide +kernel
theorem dX11_year_23 : decode cX11_year 23 = .ok (.getfield 139, 3) := by decide +kernel
theorem dX11_year_26 : decode cX11_year 26 = .ok (.ireturn, 1) := by decide +kernel
theorem dX11_wheels_0 : decode cX11_wheels 0 = .ok (.aload_n 0, 1) := by decide +kernel
theorem dX11_wheels_1 : decode cX11_wheels 1 = .ok (.iload_n 1, 1) := by decide +kernel
theorem dX11_wheels_2 : decode cX11_wheels 2 = .ok (.invokevirtual 80, 3) := by decide +kernel
theorem dX11_wheels_5 : decode cX11_wheels 5 = .ok (.astore 4, 2) := by decide +kernel
theorem dX11_wheels_7 : decode cX11_wheels 7 = .ok (.aload 4, 2) := by decide +kernel
theorem dX11_wheels_9 : decode cX11_wheels 9 = .ok (.ifnull 26, 3) := by decide +kernel
theorem dX11_wheels_12 : decode cX11_wheels 12 = .ok (.iload_n 2, 1) := by decide +kernel
theorem dX11_wheels_13 : decode cX11_wheels 13 = .ok (.iconst 0, 1) := by decide +kernel
theorem dX11_wheels_14 : decode cX11_wheels 14 = .ok (.aload_n 0, 1) := by decide +kernel
theorem dX11_wheels_15 : decode cX11_wheels 15 = .ok (.getfield 139, 3) := by decide +kernel
theorem dX11_wheels_18 : decode cX11_wheels 18 = .ok (.invokestatic 69, 3) := by decide +kernel
theorem dX11_wheels_21 : decode cX11_wheels 21 = .ok (.ifCond .eq 14, 3) := by decide +kernel
theorem dX11_wheels_24 : decode cX11_wheels 24 = .ok (.iload_n 3, 1) := by decide +kernel
theorem dX11_wheels_25 : decode cX11_wheels 25 = .ok (.iconst (-1), 1) := by decide +kernel
theorem dX11_wheels_26 : decode cX11_wheels 26 = .ok (.sipush 9999, 3) := by decide +kernel
theorem dX11_wheels_29 : decode cX11_wheels 29 = .ok (.invokestatic 69, 3) := by decide +kernel
theorem dX11_wheels_32 : decode cX11_wheels 32 = .ok (.ifCond .ne 5, 3) := by decide +kernel
theorem dX11_wheels_35 : decode cX11_wheels 35 = .ok (.iconst (-1), 1) := by decide +kernel
theorem dX11_wheels_36 : decode cX11_wheels 36 = .ok (.ireturn, 1) := by decide +kernel
theorem dX11_wheels_37 : decode cX11_wheels 37 = .ok (.aload 4, 2) := by decide +kernel
theorem dX11_wheels_39 : decode cX11_wheels 39 = .ok (.getfield 142, 3) := by decide +kernel
theorem dX11_wheels_42 : decode cX11_wheels 42 = .ok (.iload_n 2, 1) := by decide +kernel
theorem dX11_wheels_43 : decode cX11_wheels 43 = .ok (.iload_n 3, 1) := by decide +kernel
theorem dX11_wheels_44 : decode cX11_wheels 44 = .ok (.iastore, 1) := by decide +kernel
theorem dX11_wheels_45 : decode cX11_wheels 45 = .ok (.iconst 1, 1) := by decide +kernel
theorem dX11_wheels_46 : decode cX11_wheels 46 = .ok (.ireturn, 1) := by decide +kernel
theorem dX11_pave_0 : decode cX11_pave 0 = .ok (.aload_n 0, 1) := by decide +kernel
theorem dX11_pave_1 : decode cX11_pave 1 = .ok (.iload_n 1, 1) := by decide +kernel
theorem dX11_pave_2 : decode cX11_pave 2 = .ok (.invokevirtual 80, 3) := by decide +kernel
theorem dX11_pave_5 : decode cX11_pave 5 = .ok (.astore_n 2, 1) := by decide +kernel
theorem dX11_pave_6 : decode cX11_pave 6 = .ok (.aload_n 2, 1) := by decide +kernel
theorem dX11_pave_7 : decode cX11_pave 7 = .ok (.ifnonnull 5, 3) := by decide +kernel
theorem dX11_pave_10 : decode cX11_pave 10 = .ok (.iconst (-1), 1) := by decide +kernel
theorem dX11_pave_11 : decode cX11_pave 11 = .ok (.ireturn, 1) := by decide +kernel
theorem dX11_pave_12 : decode cX11_pave 12 = .ok (.aload_n 2, 1) := by decide +kernel
theorem dX11_pave_13 : decode cX11_pave 13 = .ok (.aload_n 0, 1) := by decide +kernel
theorem dX11_pave_14 : decode cX11_pave 14 = .ok (.getfield 139, 3) := by decide +kernel
theorem dX11_pave_17 : decode cX11_pave 17 = .ok (.aload_n 0, 1) := by decide +kernel
theorem dX11_pave_18 : decode cX11_pave 18 = .ok (.getfield 139, 3) := by decide +kernel
theorem dX11_pave_21 : decode cX11_pave 21 = .ok (.invokevirtual 145, 3) := by decide +kernel
theorem dX11_pave_24 : decode cX11_pave 24 = .ok (.istore_n 3, 1) := by decide +kernel
theorem dX11_pave_25 : decode cX11_pave 25 = .ok (.aload_n 2, 1) := by decide +kernel
theorem dX11_pave_26 : decode cX11_pave 26 = .ok (.aload_n 0, 1) := by decide +kernel
theorem dX11_pave_27 : decode cX11_pave 27 = .ok (.getfield 139, 3) := by decide +kernel
theorem dX11_pave_30 : decode cX11_pave 30 = .ok (.putfield 148, 3) := by decide +kernel
theorem dX11_pave_33 : decode cX11_pave 33 = .ok (.iload_n 3, 1) := by decide +kernel
theorem dX11_pave_34 : decode cX11_pave 34 = .ok (.ireturn, 1) := by decide +kernel
theorem dX11_wear_0 : decode cX11_wear 0 = .ok (.aload_n 0, 1) := by decide +kernel
theorem dX11_wear_1 : decode cX11_wear 1 = .ok (.iload_n 1, 1) := by decide +kernel
theorem dX11_wear_2 : decode cX11_wear 2 = .ok (.invokevirtual 80, 3) := by decide +kernel
theorem dX11_wear_5 : decode cX11_wear 5 = .ok (.astore_n 3, 1) := by decide +kernel
theorem dX11_wear_6 : decode cX11_wear 6 = .ok (.aload_n 3, 1) := by decide +kernel
theorem dX11_wear_7 : decode cX11_wear 7 = .ok (.ifnull 13, 3) := by decide +kernel
theorem dX11_wear_10 : decode cX11_wear 10 = .ok (.iload_n 2, 1) := by decide +kernel
theorem dX11_wear_11 : decode cX11_wear 11 = .ok (.iconst 0, 1) := by decide +kernel
theorem dX11_wear_12 : decode cX11_wear 12 = .ok (.bipush 40, 2) := by decide +kernel
theorem dX11_wear_14 : decode cX11_wear 14 = .ok (.invokestatic 69, 3) := by decide +kernel
theorem dX11_wear_17 : decode cX11_wear 17 = .ok (.ifCond .ne 5, 3) := by decide +kernel
theorem dX11_wear_20 : decode cX11_wear 20 = .ok (.iconst (-1), 1) := by decide +kernel
theorem dX11_wear_21 : decode cX11_wear 21 = .ok (.ireturn, 1) := by decide +kernel
theorem dX11_wear_22 : decode cX11_wear 22 = .ok (.aload_n 3, 1) := by decide +kernel
theorem dX11_wear_23 : decode cX11_wear 23 = .ok (.iload_n 2, 1) := by decide +kernel
theorem dX11_wear_24 : decode cX11_wear 24 = .ok (.aload_n 0, 1) := by decide +kernel
theorem dX11_wear_25 : decode cX11_wear 25 = .ok (.getfield 139, 3) := by decide +kernel
theorem dX11_wear_28 : decode cX11_wear 28 = .ok (.invokevirtual 145, 3) := by decide +kernel
theorem dX11_wear_31 : decode cX11_wear 31 = .ok (.ireturn, 1) := by decide +kernel
theorem dX11_cost_0 : decode cX11_cost 0 = .ok (.aload_n 0, 1) := by decide +kernel
theorem dX11_cost_1 : decode cX11_cost 1 = .ok (.iload_n 1, 1) := by decide +kernel
theorem dX11_cost_2 : decode cX11_cost 2 = .ok (.invokevirtual 80, 3) := by decide +kernel
theorem dX11_cost_5 : decode cX11_cost 5 = .ok (.astore 5, 2) := by decide +kernel
theorem dX11_cost_7 : decode cX11_cost 7 = .ok (.aload 5, 2) := by decide +kernel
theorem dX11_cost_9 : decode cX11_cost 9 = .ok (.ifnull 34, 3) := by decide +kernel
theorem dX11_cost_12 : decode cX11_cost 12 = .ok (.iload_n 2, 1) := by decide +kernel
theorem dX11_cost_13 : decode cX11_cost 13 = .ok (.iconst 1, 1) := by decide +kernel
theorem dX11_cost_14 : decode cX11_cost 14 = .ok (.sipush 9999, 3) := by decide +kernel
theorem dX11_cost_17 : decode cX11_cost 17 = .ok (.invokestatic 69, 3) := by decide +kernel
theorem dX11_cost_20 : decode cX11_cost 20 = .ok (.ifCond .eq 23, 3) := by decide +kernel
theorem dX11_cost_23 : decode cX11_cost 23 = .ok (.iload_n 3, 1) := by decide +kernel
theorem dX11_cost_24 : decode cX11_cost 24 = .ok (.iconst 0, 1) := by decide +kernel
theorem dX11_cost_25 : decode cX11_cost 25 = .ok (.iload_n 2, 1) := by decide +kernel
theorem dX11_cost_26 : decode cX11_cost 26 = .ok (.invokestatic 69, 3) := by decide +kernel
theorem dX11_cost_29 : decode cX11_cost 29 = .ok (.ifCond .eq 14, 3) := by decide +kernel
theorem dX11_cost_32 : decode cX11_cost 32 = .ok (.iload 4, 2) := by decide +kernel
theorem dX11_cost_34 : decode cX11_cost 34 = .ok (.iconst 0, 1) := by decide +kernel
theorem dX11_cost_35 : decode cX11_cost 35 = .ok (.bipush 40, 2) := by decide +kernel
theorem dX11_cost_37 : decode cX11_cost 37 = .ok (.invokestatic 69, 3) := by decide +kernel
theorem dX11_cost_40 : decode cX11_cost 40 = .ok (.ifCond .ne 5, 3) := by decide +kernel
theorem dX11_cost_43 : decode cX11_cost 43 = .ok (.iconst (-1), 1) := by decide +kernel
theorem dX11_cost_44 : decode cX11_cost 44 = .ok (.ireturn, 1) := by decide +kernel
theorem dX11_cost_45 : decode cX11_cost 45 = .ok (.aload 5, 2) := by decide +kernel
theorem dX11_cost_47 : decode cX11_cost 47 = .ok (.iload_n 2, 1) := by decide +kernel
theorem dX11_cost_48 : decode cX11_cost 48 = .ok (.putfield 151, 3) := by decide +kernel
theorem dX11_cost_51 : decode cX11_cost 51 = .ok (.aload 5, 2) := by decide +kernel
theorem dX11_cost_53 : decode cX11_cost 53 = .ok (.iload_n 3, 1) := by decide +kernel
theorem dX11_cost_54 : decode cX11_cost 54 = .ok (.putfield 154, 3) := by decide +kernel
theorem dX11_cost_57 : decode cX11_cost 57 = .ok (.aload 5, 2) := by decide +kernel
theorem dX11_cost_59 : decode cX11_cost 59 = .ok (.iload 4, 2) := by decide +kernel
theorem dX11_cost_61 : decode cX11_cost 61 = .ok (.putfield 157, 3) := by decide +kernel
theorem dX11_cost_64 : decode cX11_cost 64 = .ok (.iconst 1, 1) := by decide +kernel
theorem dX11_cost_65 : decode cX11_cost 65 = .ok (.ireturn, 1) := by decide +kernel
theorem dX11_plan_0 : decode cX11_plan 0 = .ok (.aload_n 0, 1) := by decide +kernel
theorem dX11_plan_1 : decode cX11_plan 1 = .ok (.iload_n 1, 1) := by decide +kernel
theorem dX11_plan_2 : decode cX11_plan 2 = .ok (.invokevirtual 160, 3) := by decide +kernel
theorem dX11_plan_5 : decode cX11_plan 5 = .ok (.ifCond .eq 62, 3) := by decide +kernel
theorem dX11_plan_8 : decode cX11_plan 8 = .ok (.iload_n 2, 1) := by decide +kernel
theorem dX11_plan_9 : decode cX11_plan 9 = .ok (.iconst 1, 1) := by decide +kernel
theorem dX11_plan_10 : decode cX11_plan 10 = .ok (.iconst 3, 1) := by decide +kernel
theorem dX11_plan_11 : decode cX11_plan 11 = .ok (.invokestatic 69, 3) := by decide +kernel
theorem dX11_plan_14 : decode cX11_plan 14 = .ok (.ifCond .eq 53, 3) := by decide +kernel
theorem dX11_plan_17 : decode cX11_plan 17 = .ok (.iload_n 3, 1) := by decide +kernel
theorem dX11_plan_18 : decode cX11_plan 18 = .ok (.iconst 0, 1) := by decide +kernel
theorem dX11_plan_19 : decode cX11_plan 19 = .ok (.ldc 164, 2) := by decide +kernel
theorem dX11_plan_21 : decode cX11_plan 21 = .ok (.invokestatic 69, 3) := by decide +kernel
theorem dX11_plan_24 : decode cX11_plan 24 = .ok (.ifCond .eq 43, 3) := by decide +kernel
theorem dX11_plan_27 : decode cX11_plan 27 = .ok (.iload 4, 2) := by decide +kernel
theorem dX11_plan_29 : decode cX11_plan 29 = .ok (.iconst 0, 1) := by decide +kernel
theorem dX11_plan_30 : decode cX11_plan 30 = .ok (.iload_n 2, 1) := by decide +kernel
theorem dX11_plan_31 : decode cX11_plan 31 = .ok (.iconst 2, 1) := by decide +kernel
theorem dX11_plan_32 : decode cX11_plan 32 = .ok (.if_icmp .lt 8, 3) := by decide +kernel
theorem dX11_plan_35 : decode cX11_plan 35 = .ok (.ldc 164, 2) := by decide +kernel
theorem dX11_plan_37 : decode cX11_plan 37 = .ok (.goto 4, 3) := by decide +kernel
theorem dX11_plan_40 : decode cX11_plan 40 = .ok (.iconst 0, 1) := by decide +kernel
theorem dX11_plan_41 : decode cX11_plan 41 = .ok (.invokestatic 69, 3) := by decide +kernel
theorem dX11_plan_44 : decode cX11_plan 44 = .ok (.ifCond .eq 23, 3) := by decide +kernel
theorem dX11_plan_47 : decode cX11_plan 47 = .ok (.iload 5, 2) := by decide +kernel
theorem dX11_plan_49 : decode cX11_plan 49 = .ok (.iconst 0, 1) := by decide +kernel
theorem dX11_plan_50 : decode cX11_plan 50 = .ok (.iload_n 2, 1) := by decide +kernel
theorem dX11_plan_51 : decode cX11_plan 51 = .ok (.iconst 3, 1) := by decide +kernel
theorem dX11_plan_52 : decode cX11_plan 52 = .ok (.if_icmp .lt 8, 3) := by decide +kernel
theorem dX11_plan_55 : decode cX11_plan 55 = .ok (.ldc 164, 2) := by decide +kernel
theorem dX11_plan_57 : decode cX11_plan 57 = .ok (.goto 4, 3) := by decide +kernel
theorem dX11_plan_60 : decode cX11_plan 60 = .ok (.iconst 0, 1) := by decide +kernel
theorem dX11_plan_61 : decode cX11_plan 61 = .ok (.invokestatic 69, 3) := by decide +kernel
theorem dX11_plan_64 : decode cX11_plan 64 = .ok (.ifCond .ne 5, 3) := by decide +kernel
theorem dX11_plan_67 : decode cX11_plan 67 = .ok (.iconst (-1), 1) := by decide +kernel
theorem dX11_plan_68 : decode cX11_plan 68 = .ok (.ireturn, 1) := by decide +kernel
theorem dX11_plan_69 : decode cX11_plan 69 = .ok (.aload_n 0, 1) := by decide +kernel
theorem dX11_plan_70 : decode cX11_plan 70 = .ok (.getfield 39, 3) := by decide +kernel
theorem dX11_plan_73 : decode cX11_plan 73 = .ok (.iload_n 2, 1) := by decide +kernel
theorem dX11_plan_74 : decode cX11_plan 74 = .ok (.iload_n 3, 1) := by decide +kernel
theorem dX11_plan_75 : decode cX11_plan 75 = .ok (.iload 4, 2) := by decide +kernel
theorem dX11_plan_77 : decode cX11_plan 77 = .ok (.iload 5, 2) := by decide +kernel
theorem dX11_plan_79 : decode cX11_plan 79 = .ok (.invokevirtual 165, 3) := by decide +kernel
theorem dX11_plan_82 : decode cX11_plan 82 = .ok (.iconst 0, 1) := by decide +kernel
theorem dX11_plan_83 : decode cX11_plan 83 = .ok (.istore 6, 2) := by decide +kernel
theorem dX11_plan_85 : decode cX11_plan 85 = .ok (.iload 6, 2) := by decide +kernel
theorem dX11_plan_87 : decode cX11_plan 87 = .ok (.aload_n 0, 1) := by decide +kernel
theorem dX11_plan_88 : decode cX11_plan 88 = .ok (.getfield 73, 3) := by decide +kernel
theorem dX11_plan_91 : decode cX11_plan 91 = .ok (.if_icmp .ge 48, 3) := by decide +kernel
theorem dX11_plan_94 : decode cX11_plan 94 = .ok (.aload_n 0, 1) := by decide +kernel
theorem dX11_plan_95 : decode cX11_plan 95 = .ok (.getfield 11, 3) := by decide +kernel
theorem dX11_plan_98 : decode cX11_plan 98 = .ok (.iload 6, 2) := by decide +kernel
theorem dX11_plan_100 : decode cX11_plan 100 = .ok (.aaload, 1) := by decide +kernel
theorem dX11_plan_101 : decode cX11_plan 101 = .ok (.astore 7, 2) := by decide +kernel
theorem dX11_plan_103 : decode cX11_plan 103 = .ok (.iload_n 1, 1) := by decide +kernel
theorem dX11_plan_104 : decode cX11_plan 104 = .ok (.iload 6, 2) := by decide +kernel
theorem dX11_plan_106 : decode cX11_plan 106 = .ok (.ishr, 1) := by decide +kernel
theorem dX11_plan_107 : decode cX11_plan 107 = .ok (.iconst 1, 1) := by decide +kernel
theorem dX11_plan_108 : decode cX11_plan 108 = .ok (.iand, 1) := by decide +kernel
theorem dX11_plan_109 : decode cX11_plan 109 = .ok (.iconst 1, 1) := by decide +kernel
theorem dX11_plan_110 : decode cX11_plan 110 = .ok (.if_icmp .ne 23, 3) := by decide +kernel
theorem dX11_plan_113 : decode cX11_plan 113 = .ok (.aload 7, 2) := by decide +kernel
theorem dX11_plan_115 : decode cX11_plan 115 = .ok (.ifnull 18, 3) := by decide +kernel
theorem dX11_plan_118 : decode cX11_plan 118 = .ok (.aload_n 0, 1) := by decide +kernel
theorem dX11_plan_119 : decode cX11_plan 119 = .ok (.getfield 39, 3) := by decide +kernel
theorem dX11_plan_122 : decode cX11_plan 122 = .ok (.iload 6, 2) := by decide +kernel
theorem dX11_plan_124 : decode cX11_plan 124 = .ok (.aload 7, 2) := by decide +kernel
theorem dX11_plan_126 : decode cX11_plan 126 = .ok (.aload_n 0, 1) := by decide +kernel
theorem dX11_plan_127 : decode cX11_plan 127 = .ok (.getfield 139, 3) := by decide +kernel
theorem dX11_plan_130 : decode cX11_plan 130 = .ok (.invokevirtual 169, 3) := by decide +kernel
theorem dX11_plan_133 : decode cX11_plan 133 = .ok (.iinc 6 1, 3) := by decide +kernel
theorem dX11_plan_136 : decode cX11_plan 136 = .ok (.goto (-51), 3) := by decide +kernel
theorem dX11_plan_139 : decode cX11_plan 139 = .ok (.aload_n 0, 1) := by decide +kernel
theorem dX11_plan_140 : decode cX11_plan 140 = .ok (.getfield 39, 3) := by decide +kernel
theorem dX11_plan_143 : decode cX11_plan 143 = .ok (.aload_n 0, 1) := by decide +kernel
theorem dX11_plan_144 : decode cX11_plan 144 = .ok (.getfield 139, 3) := by decide +kernel
theorem dX11_plan_147 : decode cX11_plan 147 = .ok (.invokevirtual 173, 3) := by decide +kernel
theorem dX11_plan_150 : decode cX11_plan 150 = .ok (.ireturn, 1) := by decide +kernel
theorem dX11_planned_0 : decode cX11_planned 0 = .ok (.aload_n 0, 1) := by decide +kernel
theorem dX11_planned_1 : decode cX11_planned 1 = .ok (.getfield 39, 3) := by decide +kernel
theorem dX11_planned_4 : decode cX11_planned 4 = .ok (.iload_n 1, 1) := by decide +kernel
theorem dX11_planned_5 : decode cX11_planned 5 = .ok (.invokevirtual 176, 3) := by decide +kernel
theorem dX11_planned_8 : decode cX11_planned 8 = .ok (.ireturn, 1) := by decide +kernel
theorem dX11_house_0 : decode cX11_house 0 = .ok (.aload_n 0, 1) := by decide +kernel
theorem dX11_house_1 : decode cX11_house 1 = .ok (.iload_n 1, 1) := by decide +kernel
theorem dX11_house_2 : decode cX11_house 2 = .ok (.invokevirtual 179, 3) := by decide +kernel
theorem dX11_house_5 : decode cX11_house 5 = .ok (.ifCond .eq 14, 3) := by decide +kernel
theorem dX11_house_8 : decode cX11_house 8 = .ok (.iload_n 3, 1) := by decide +kernel
theorem dX11_house_9 : decode cX11_house 9 = .ok (.iconst 0, 1) := by decide +kernel
theorem dX11_house_10 : decode cX11_house 10 = .ok (.sipush 999, 3) := by decide +kernel
theorem dX11_house_13 : decode cX11_house 13 = .ok (.invokestatic 69, 3) := by decide +kernel
theorem dX11_house_16 : decode cX11_house 16 = .ok (.ifCond .ne 5, 3) := by decide +kernel
theorem dX11_house_19 : decode cX11_house 19 = .ok (.iconst (-1), 1) := by decide +kernel
theorem dX11_house_20 : decode cX11_house 20 = .ok (.ireturn, 1) := by decide +kernel
theorem dX11_house_21 : decode cX11_house 21 = .ok (.iload_n 2, 1) := by decide +kernel
theorem dX11_house_22 : decode cX11_house 22 = .ok (.iconst (-1), 1) := by decide +kernel
theorem dX11_house_23 : decode cX11_house 23 = .ok (.if_icmp .eq 24, 3) := by decide +kernel
theorem dX11_house_26 : decode cX11_house 26 = .ok (.aload_n 0, 1) := by decide +kernel
theorem dX11_house_27 : decode cX11_house 27 = .ok (.iload_n 2, 1) := by decide +kernel
theorem dX11_house_28 : decode cX11_house 28 = .ok (.invokevirtual 179, 3) := by decide +kernel
theorem dX11_house_31 : decode cX11_house 31 = .ok (.ifCond .eq 14, 3) := by decide +kernel
theorem dX11_house_34 : decode cX11_house 34 = .ok (.iload_n 2, 1) := by decide +kernel
theorem dX11_house_35 : decode cX11_house 35 = .ok (.bipush 100, 2) := by decide +kernel
theorem dX11_house_37 : decode cX11_house 37 = .ok (.idiv, 1) := by decide +kernel
theorem dX11_house_38 : decode cX11_house 38 = .ok (.iload_n 1, 1) := by decide +kernel
theorem dX11_house_39 : decode cX11_house 39 = .ok (.bipush 100, 2) := by decide +kernel
theorem dX11_house_41 : decode cX11_house 41 = .ok (.idiv, 1) := by decide +kernel
theorem dX11_house_42 : decode cX11_house 42 = .ok (.if_icmp .ne 5, 3) := by decide +kernel
theorem dX11_house_45 : decode cX11_house 45 = .ok (.iconst (-1), 1) := by decide +kernel
theorem dX11_house_46 : decode cX11_house 46 = .ok (.ireturn, 1) := by decide +kernel
theorem dX11_house_47 : decode cX11_house 47 = .ok (.aload_n 0, 1) := by decide +kernel
theorem dX11_house_48 : decode cX11_house 48 = .ok (.getfield 182, 3) := by decide +kernel
theorem dX11_house_51 : decode cX11_house 51 = .ok (.bipush 60, 2) := by decide +kernel
theorem dX11_house_53 : decode cX11_house 53 = .ok (.if_icmp .lt 6, 3) := by decide +kernel
theorem dX11_house_56 : decode cX11_house 56 = .ok (.bipush (-3), 2) := by decide +kernel
theorem dX11_house_58 : decode cX11_house 58 = .ok (.ireturn, 1) := by decide +kernel
theorem dX11_house_59 : decode cX11_house 59 = .ok (.aload_n 0, 1) := by decide +kernel
theorem dX11_house_60 : decode cX11_house 60 = .ok (.getfield 45, 3) := by decide +kernel
theorem dX11_house_63 : decode cX11_house 63 = .ok (.aload_n 0, 1) := by decide +kernel
theorem dX11_house_64 : decode cX11_house 64 = .ok (.getfield 182, 3) := by decide +kernel
theorem dX11_house_67 : decode cX11_house 67 = .ok (.new 43, 3) := by decide +kernel
theorem dX11_house_70 : decode cX11_house 70 = .ok (.dup, 1) := by decide +kernel
theorem dX11_house_71 : decode cX11_house 71 = .ok (.iload_n 1, 1) := by decide +kernel
theorem dX11_house_72 : decode cX11_house 72 = .ok (.iload_n 2, 1) := by decide +kernel
theorem dX11_house_73 : decode cX11_house 73 = .ok (.iload_n 3, 1) := by decide +kernel
theorem dX11_house_74 : decode cX11_house 74 = .ok (.invokespecial 185, 3) := by decide +kernel
theorem dX11_house_77 : decode cX11_house 77 = .ok (.aastore, 1) := by decide +kernel
theorem dX11_house_78 : decode cX11_house 78 = .ok (.aload_n 0, 1) := by decide +kernel
theorem dX11_house_79 : decode cX11_house 79 = .ok (.dup, 1) := by decide +kernel
theorem dX11_house_80 : decode cX11_house 80 = .ok (.getfield 182, 3) := by decide +kernel
theorem dX11_house_83 : decode cX11_house 83 = .ok (.iconst 1, 1) := by decide +kernel
theorem dX11_house_84 : decode cX11_house 84 = .ok (.iadd, 1) := by decide +kernel
theorem dX11_house_85 : decode cX11_house 85 = .ok (.putfield 182, 3) := by decide +kernel
theorem dX11_house_88 : decode cX11_house 88 = .ok (.aload_n 0, 1) := by decide +kernel
theorem dX11_house_89 : decode cX11_house 89 = .ok (.getfield 182, 3) := by decide +kernel
theorem dX11_house_92 : decode cX11_house 92 = .ok (.iconst 1, 1) := by decide +kernel
theorem dX11_house_93 : decode cX11_house 93 = .ok (.isub, 1) := by decide +kernel
theorem dX11_house_94 : decode cX11_house 94 = .ok (.ireturn, 1) := by decide +kernel
theorem dX11_days_0 : decode cX11_days 0 = .ok (.iload_n 1, 1) := by decide +kernel
theorem dX11_days_1 : decode cX11_days 1 = .ok (.iconst 1, 1) := by decide +kernel
theorem dX11_days_2 : decode cX11_days 2 = .ok (.bipush 100, 2) := by decide +kernel
theorem dX11_days_4 : decode cX11_days 4 = .ok (.invokestatic 69, 3) := by decide +kernel
theorem dX11_days_7 : decode cX11_days 7 = .ok (.ifCond .eq 15, 3) := by decide +kernel
theorem dX11_days_10 : decode cX11_days 10 = .ok (.aload_n 0, 1) := by decide +kernel
theorem dX11_days_11 : decode cX11_days 11 = .ok (.getfield 186, 3) := by decide +kernel
theorem dX11_days_14 : decode cX11_days 14 = .ok (.iload_n 1, 1) := by decide +kernel
theorem dX11_days_15 : decode cX11_days 15 = .ok (.iadd, 1) := by decide +kernel
theorem dX11_days_16 : decode cX11_days 16 = .ok (.sipush 9999, 3) := by decide +kernel
theorem dX11_days_19 : decode cX11_days 19 = .ok (.if_icmp .le 5, 3) := by decide +kernel
theorem dX11_days_22 : decode cX11_days 22 = .ok (.iconst (-1), 1) := by decide +kernel
theorem dX11_days_23 : decode cX11_days 23 = .ok (.ireturn, 1) := by decide +kernel
theorem dX11_days_24 : decode cX11_days 24 = .ok (.aload_n 0, 1) := by decide +kernel
theorem dX11_days_25 : decode cX11_days 25 = .ok (.dup, 1) := by decide +kernel
theorem dX11_days_26 : decode cX11_days 26 = .ok (.getfield 186, 3) := by decide +kernel
theorem dX11_days_29 : decode cX11_days 29 = .ok (.iload_n 1, 1) := by decide +kernel
theorem dX11_days_30 : decode cX11_days 30 = .ok (.iadd, 1) := by decide +kernel
theorem dX11_days_31 : decode cX11_days 31 = .ok (.putfield 186, 3) := by decide +kernel
theorem dX11_days_34 : decode cX11_days 34 = .ok (.aload_n 0, 1) := by decide +kernel
theorem dX11_days_35 : decode cX11_days 35 = .ok (.getfield 186, 3) := by decide +kernel
theorem dX11_days_38 : decode cX11_days 38 = .ok (.ireturn, 1) := by decide +kernel
theorem dX11_feed_0 : decode cX11_feed 0 = .ok (.iload_n 1, 1) := by decide +kernel
theorem dX11_feed_1 : decode cX11_feed 1 = .ok (.iconst 1, 1) := by decide +kernel
theorem dX11_feed_2 : decode cX11_feed 2 = .ok (.iconst 4, 1) := by decide +kernel
theorem dX11_feed_3 : decode cX11_feed 3 = .ok (.invokestatic 69, 3) := by decide +kernel
