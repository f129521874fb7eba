theorem dX11_feed_6 : decode cX11_feed 6 = .ok (.ifCond .eq 15, 3) := by decide +kernel
theorem dX11_feed_9 : decode cX11_feed 9 = .ok (.aload_n 0, 1) := by decide +kernel
theorem dX11_feed_10 : decode cX11_feed 10 = .ok (.getfield 52, 3) := by decide +kernel
theorem dX11_feed_13 : decode cX11_feed 13 = .ok (.iload_n 1, 1) := by decide +kernel
theorem dX11_feed_14 : decode cX11_feed 14 = .ok (.iload_n 2, 1) := by decide +kernel
theorem dX11_feed_15 : decode cX11_feed 15 = .ok (.invokevirtual 189, 3) := by decide +kernel
theorem dX11_feed_18 : decode cX11_feed 18 = .ok (.goto 4, 3) := by decide +kernel
theorem dX11_feed_21 : decode cX11_feed 21 = .ok (.iconst (-1), 1) := by decide +kernel
theorem dX11_feed_22 : decode cX11_feed 22 = .ok (.ireturn, 1) := by decide +kernel
theorem dX11_act_0 : decode cX11_act 0 = .ok (.iload_n 1, 1) := by decide +kernel
theorem dX11_act_1 : decode cX11_act 1 = .ok (.invokestatic 192, 3) := by decide +kernel
theorem dX11_act_4 : decode cX11_act 4 = .ok (.ifCond .eq 10, 3) := by decide +kernel
theorem dX11_act_7 : decode cX11_act 7 = .ok (.iload_n 2, 1) := by decide +kernel
theorem dX11_act_8 : decode cX11_act 8 = .ok (.invokestatic 195, 3) := by decide +kernel
theorem dX11_act_11 : decode cX11_act 11 = .ok (.ifCond .ne 5, 3) := by decide +kernel
theorem dX11_act_14 : decode cX11_act 14 = .ok (.iconst (-1), 1) := by decide +kernel
theorem dX11_act_15 : decode cX11_act 15 = .ok (.ireturn, 1) := by decide +kernel
theorem dX11_act_16 : decode cX11_act 16 = .ok (.aload_n 0, 1) := by decide +kernel
theorem dX11_act_17 : decode cX11_act 17 = .ok (.getfield 52, 3) := by decide +kernel
theorem dX11_act_20 : decode cX11_act 20 = .ok (.iload_n 1, 1) := by decide +kernel
theorem dX11_act_21 : decode cX11_act 21 = .ok (.iload_n 2, 1) := by decide +kernel
theorem dX11_act_22 : decode cX11_act 22 = .ok (.aload_n 0, 1) := by decide +kernel
theorem dX11_act_23 : decode cX11_act 23 = .ok (.getfield 186, 3) := by decide +kernel
theorem dX11_act_26 : decode cX11_act 26 = .ok (.invokevirtual 198, 3) := by decide +kernel
theorem dX11_act_29 : decode cX11_act 29 = .ok (.ireturn, 1) := by decide +kernel
theorem dX11_inForce_0 : decode cX11_inForce 0 = .ok (.iload_n 1, 1) := by decide +kernel
theorem dX11_inForce_1 : decode cX11_inForce 1 = .ok (.invokestatic 192, 3) := by decide +kernel
theorem dX11_inForce_4 : decode cX11_inForce 4 = .ok (.ifCond .eq 17, 3) := by decide +kernel
theorem dX11_inForce_7 : decode cX11_inForce 7 = .ok (.iload_n 2, 1) := by decide +kernel
theorem dX11_inForce_8 : decode cX11_inForce 8 = .ok (.invokestatic 195, 3) := by decide +kernel
theorem dX11_inForce_11 : decode cX11_inForce 11 = .ok (.ifCond .eq 10, 3) := by decide +kernel
theorem dX11_inForce_14 : decode cX11_inForce 14 = .ok (.iload_n 3, 1) := by decide +kernel
theorem dX11_inForce_15 : decode cX11_inForce 15 = .ok (.invokestatic 195, 3) := by decide +kernel
theorem dX11_inForce_18 : decode cX11_inForce 18 = .ok (.ifCond .ne 5, 3) := by decide +kernel
theorem dX11_inForce_21 : decode cX11_inForce 21 = .ok (.iconst (-1), 1) := by decide +kernel
theorem dX11_inForce_22 : decode cX11_inForce 22 = .ok (.ireturn, 1) := by decide +kernel
theorem dX11_inForce_23 : decode cX11_inForce 23 = .ok (.aload_n 0, 1) := by decide +kernel
theorem dX11_inForce_24 : decode cX11_inForce 24 = .ok (.getfield 52, 3) := by decide +kernel
theorem dX11_inForce_27 : decode cX11_inForce 27 = .ok (.iload_n 1, 1) := by decide +kernel
theorem dX11_inForce_28 : decode cX11_inForce 28 = .ok (.iload_n 2, 1) := by decide +kernel
theorem dX11_inForce_29 : decode cX11_inForce 29 = .ok (.iload_n 3, 1) := by decide +kernel
theorem dX11_inForce_30 : decode cX11_inForce 30 = .ok (.invokevirtual 202, 3) := by decide +kernel
theorem dX11_inForce_33 : decode cX11_inForce 33 = .ok (.istore 4, 2) := by decide +kernel
theorem dX11_inForce_35 : decode cX11_inForce 35 = .ok (.iload 4, 2) := by decide +kernel
theorem dX11_inForce_37 : decode cX11_inForce 37 = .ok (.iconst (-1), 1) := by decide +kernel
theorem dX11_inForce_38 : decode cX11_inForce 38 = .ok (.if_icmp .ne 8, 3) := by decide +kernel
theorem dX11_inForce_41 : decode cX11_inForce 41 = .ok (.bipush (-2), 2) := by decide +kernel
theorem dX11_inForce_43 : decode cX11_inForce 43 = .ok (.goto 5, 3) := by decide +kernel
theorem dX11_inForce_46 : decode cX11_inForce 46 = .ok (.iload 4, 2) := by decide +kernel
theorem dX11_inForce_48 : decode cX11_inForce 48 = .ok (.ireturn, 1) := by decide +kernel
theorem dX11_rate_0 : decode cX11_rate 0 = .ok (.aload_n 0, 1) := by decide +kernel
theorem dX11_rate_1 : decode cX11_rate 1 = .ok (.iload_n 1, 1) := by decide +kernel
theorem dX11_rate_2 : decode cX11_rate 2 = .ok (.invokevirtual 205, 3) := by decide +kernel
theorem dX11_rate_5 : decode cX11_rate 5 = .ok (.astore 4, 2) := by decide +kernel
theorem dX11_rate_7 : decode cX11_rate 7 = .ok (.aload 4, 2) := by decide +kernel
theorem dX11_rate_9 : decode cX11_rate 9 = .ok (.ifnull 17, 3) := by decide +kernel
theorem dX11_rate_12 : decode cX11_rate 12 = .ok (.iload_n 2, 1) := by decide +kernel
theorem dX11_rate_13 : decode cX11_rate 13 = .ok (.invokestatic 195, 3) := by decide +kernel
theorem dX11_rate_16 : decode cX11_rate 16 = .ok (.ifCond .eq 10, 3) := by decide +kernel
theorem dX11_rate_19 : decode cX11_rate 19 = .ok (.iload_n 3, 1) := by decide +kernel
theorem dX11_rate_20 : decode cX11_rate 20 = .ok (.invokestatic 195, 3) := by decide +kernel
theorem dX11_rate_23 : decode cX11_rate 23 = .ok (.ifCond .ne 6, 3) := by decide +kernel
theorem dX11_rate_26 : decode cX11_rate 26 = .ok (.ldc 209, 2) := by decide +kernel
theorem dX11_rate_28 : decode cX11_rate 28 = .ok (.ireturn, 1) := by decide +kernel
theorem dX11_rate_29 : decode cX11_rate 29 = .ok (.aload_n 0, 1) := by decide +kernel
theorem dX11_rate_30 : decode cX11_rate 30 = .ok (.getfield 52, 3) := by decide +kernel
theorem dX11_rate_33 : decode cX11_rate 33 = .ok (.iconst 0, 1) := by decide +kernel
theorem dX11_rate_34 : decode cX11_rate 34 = .ok (.iload_n 2, 1) := by decide +kernel
theorem dX11_rate_35 : decode cX11_rate 35 = .ok (.iload_n 3, 1) := by decide +kernel
theorem dX11_rate_36 : decode cX11_rate 36 = .ok (.invokevirtual 210, 3) := by decide +kernel
theorem dX11_rate_39 : decode cX11_rate 39 = .ok (.astore 5, 2) := by decide +kernel
theorem dX11_rate_41 : decode cX11_rate 41 = .ok (.aload_n 0, 1) := by decide +kernel
theorem dX11_rate_42 : decode cX11_rate 42 = .ok (.getfield 52, 3) := by decide +kernel
theorem dX11_rate_45 : decode cX11_rate 45 = .ok (.aload 5, 2) := by decide +kernel
theorem dX11_rate_47 : decode cX11_rate 47 = .ok (.aload 4, 2) := by decide +kernel
theorem dX11_rate_49 : decode cX11_rate 49 = .ok (.iconst 0, 1) := by decide +kernel
theorem dX11_rate_50 : decode cX11_rate 50 = .ok (.iload_n 2, 1) := by decide +kernel
theorem dX11_rate_51 : decode cX11_rate 51 = .ok (.invokevirtual 214, 3) := by decide +kernel
theorem dX11_rate_54 : decode cX11_rate 54 = .ok (.istore 6, 2) := by decide +kernel
theorem dX11_rate_56 : decode cX11_rate 56 = .ok (.aload 4, 2) := by decide +kernel
theorem dX11_rate_58 : decode cX11_rate 58 = .ok (.invokevirtual 218, 3) := by decide +kernel
theorem dX11_rate_61 : decode cX11_rate 61 = .ok (.ifCond .eq 21, 3) := by decide +kernel
theorem dX11_rate_64 : decode cX11_rate 64 = .ok (.iload 6, 2) := by decide +kernel
theorem dX11_rate_66 : decode cX11_rate 66 = .ok (.aload_n 0, 1) := by decide +kernel
theorem dX11_rate_67 : decode cX11_rate 67 = .ok (.getfield 52, 3) := by decide +kernel
theorem dX11_rate_70 : decode cX11_rate 70 = .ok (.aload 5, 2) := by decide +kernel
theorem dX11_rate_72 : decode cX11_rate 72 = .ok (.aload 4, 2) := by decide +kernel
theorem dX11_rate_74 : decode cX11_rate 74 = .ok (.iconst 1, 1) := by decide +kernel
theorem dX11_rate_75 : decode cX11_rate 75 = .ok (.iload_n 2, 1) := by decide +kernel
theorem dX11_rate_76 : decode cX11_rate 76 = .ok (.invokevirtual 214, 3) := by decide +kernel
theorem dX11_rate_79 : decode cX11_rate 79 = .ok (.iadd, 1) := by decide +kernel
theorem dX11_rate_80 : decode cX11_rate 80 = .ok (.istore 6, 2) := by decide +kernel
theorem dX11_rate_82 : decode cX11_rate 82 = .ok (.iload 6, 2) := by decide +kernel
theorem dX11_rate_84 : decode cX11_rate 84 = .ok (.ireturn, 1) := by decide +kernel
theorem dX11_rates_0 : decode cX11_rates 0 = .ok (.aload_n 0, 1) := by decide +kernel
theorem dX11_rates_1 : decode cX11_rates 1 = .ok (.iload_n 1, 1) := by decide +kernel
theorem dX11_rates_2 : decode cX11_rates 2 = .ok (.invokevirtual 80, 3) := by decide +kernel
theorem dX11_rates_5 : decode cX11_rates 5 = .ok (.ifnull 10, 3) := by decide +kernel
theorem dX11_rates_8 : decode cX11_rates 8 = .ok (.iload_n 2, 1) := by decide +kernel
theorem dX11_rates_9 : decode cX11_rates 9 = .ok (.invokestatic 195, 3) := by decide +kernel
theorem dX11_rates_12 : decode cX11_rates 12 = .ok (.ifCond .ne 6, 3) := by decide +kernel
theorem dX11_rates_15 : decode cX11_rates 15 = .ok (.ldc 209, 2) := by decide +kernel
theorem dX11_rates_17 : decode cX11_rates 17 = .ok (.ireturn, 1) := by decide +kernel
theorem dX11_rates_18 : decode cX11_rates 18 = .ok (.aload_n 0, 1) := by decide +kernel
theorem dX11_rates_19 : decode cX11_rates 19 = .ok (.getfield 52, 3) := by decide +kernel
theorem dX11_rates_22 : decode cX11_rates 22 = .ok (.iconst 0, 1) := by decide +kernel
theorem dX11_rates_23 : decode cX11_rates 23 = .ok (.iload_n 2, 1) := by decide +kernel
theorem dX11_rates_24 : decode cX11_rates 24 = .ok (.iload_n 2, 1) := by decide +kernel
theorem dX11_rates_25 : decode cX11_rates 25 = .ok (.invokevirtual 210, 3) := by decide +kernel
theorem dX11_rates_28 : decode cX11_rates 28 = .ok (.astore_n 3, 1) := by decide +kernel
theorem dX11_rates_29 : decode cX11_rates 29 = .ok (.iconst 0, 1) := by decide +kernel
theorem dX11_rates_30 : decode cX11_rates 30 = .ok (.istore 4, 2) := by decide +kernel
theorem dX11_rates_32 : decode cX11_rates 32 = .ok (.iconst 0, 1) := by decide +kernel
theorem dX11_rates_33 : decode cX11_rates 33 = .ok (.istore 5, 2) := by decide +kernel
theorem dX11_rates_35 : decode cX11_rates 35 = .ok (.iload 5, 2) := by decide +kernel
theorem dX11_rates_37 : decode cX11_rates 37 = .ok (.aload_n 0, 1) := by decide +kernel
theorem dX11_rates_38 : decode cX11_rates 38 = .ok (.getfield 182, 3) := by decide +kernel
theorem dX11_rates_41 : decode cX11_rates 41 = .ok (.if_icmp .ge 62, 3) := by decide +kernel
theorem dX11_rates_44 : decode cX11_rates 44 = .ok (.aload_n 0, 1) := by decide +kernel
theorem dX11_rates_45 : decode cX11_rates 45 = .ok (.getfield 45, 3) := by decide +kernel
theorem dX11_rates_48 : decode cX11_rates 48 = .ok (.iload 5, 2) := by decide +kernel
theorem dX11_rates_50 : decode cX11_rates 50 = .ok (.aaload, 1) := by decide +kernel
theorem dX11_rates_51 : decode cX11_rates 51 = .ok (.astore 6, 2) := by decide +kernel
theorem dX11_rates_53 : decode cX11_rates 53 = .ok (.aload 6, 2) := by decide +kernel
theorem dX11_rates_55 : decode cX11_rates 55 = .ok (.ifnull 42, 3) := by decide +kernel
theorem dX11_rates_58 : decode cX11_rates 58 = .ok (.aload 6, 2) := by decide +kernel
theorem dX11_rates_60 : decode cX11_rates 60 = .ok (.iload_n 1, 1) := by decide +kernel
theorem dX11_rates_61 : decode cX11_rates 61 = .ok (.invokevirtual 222, 3) := by decide +kernel
theorem dX11_rates_64 : decode cX11_rates 64 = .ok (.ifCond .eq 33, 3) := by decide +kernel
theorem dX11_rates_67 : decode cX11_rates 67 = .ok (.iload 4, 2) := by decide +kernel
theorem dX11_rates_69 : decode cX11_rates 69 = .ok (.aload_n 0, 1) := by decide +kernel
theorem dX11_rates_70 : decode cX11_rates 70 = .ok (.getfield 52, 3) := by decide +kernel
theorem dX11_rates_73 : decode cX11_rates 73 = .ok (.aload_n 3, 1) := by decide +kernel
theorem dX11_rates_74 : decode cX11_rates 74 = .ok (.aload 6, 2) := by decide +kernel
theorem dX11_rates_76 : decode cX11_rates 76 = .ok (.aload 6, 2) := by decide +kernel
theorem dX11_rates_78 : decode cX11_rates 78 = .ok (.getfield 225, 3) := by decide +kernel
theorem dX11_rates_81 : decode cX11_rates 81 = .ok (.iload_n 1, 1) := by decide +kernel
theorem dX11_rates_82 : decode cX11_rates 82 = .ok (.if_icmp .eq 7, 3) := by decide +kernel
theorem dX11_rates_85 : decode cX11_rates 85 = .ok (.iconst 1, 1) := by decide +kernel
theorem dX11_rates_86 : decode cX11_rates 86 = .ok (.goto 4, 3) := by decide +kernel
theorem dX11_rates_89 : decode cX11_rates 89 = .ok (.iconst 0, 1) := by decide +kernel
theorem dX11_rates_90 : decode cX11_rates 90 = .ok (.iload_n 2, 1) := by decide +kernel
theorem dX11_rates_91 : decode cX11_rates 91 = .ok (.invokevirtual 214, 3) := by decide +kernel
theorem dX11_rates_94 : decode cX11_rates 94 = .ok (.iadd, 1) := by decide +kernel
theorem dX11_rates_95 : decode cX11_rates 95 = .ok (.istore 4, 2) := by decide +kernel
theorem dX11_rates_97 : decode cX11_rates 97 = .ok (.iinc 5 1, 3) := by decide +kernel
theorem dX11_rates_100 : decode cX11_rates 100 = .ok (.goto (-65), 3) := by decide +kernel
theorem dX11_rates_103 : decode cX11_rates 103 = .ok (.iload 4, 2) := by decide +kernel
theorem dX11_rates_105 : decode cX11_rates 105 = .ok (.ireturn, 1) := by decide +kernel
theorem dX11_clause_0 : decode cX11_clause 0 = .ok (.aload_n 0, 1) := by decide +kernel
theorem dX11_clause_1 : decode cX11_clause 1 = .ok (.iload_n 1, 1) := by decide +kernel
theorem dX11_clause_2 : decode cX11_clause 2 = .ok (.invokevirtual 205, 3) := by decide +kernel
theorem dX11_clause_5 : decode cX11_clause 5 = .ok (.astore_n 3, 1) := by decide +kernel
theorem dX11_clause_6 : decode cX11_clause 6 = .ok (.aload_n 3, 1) := by decide +kernel
theorem dX11_clause_7 : decode cX11_clause 7 = .ok (.ifnull 10, 3) := by decide +kernel
theorem dX11_clause_10 : decode cX11_clause 10 = .ok (.iload_n 2, 1) := by decide +kernel
theorem dX11_clause_11 : decode cX11_clause 11 = .ok (.invokestatic 195, 3) := by decide +kernel
theorem dX11_clause_14 : decode cX11_clause 14 = .ok (.ifCond .ne 5, 3) := by decide +kernel
theorem dX11_clause_17 : decode cX11_clause 17 = .ok (.iconst (-1), 1) := by decide +kernel
theorem dX11_clause_18 : decode cX11_clause 18 = .ok (.ireturn, 1) := by decide +kernel
theorem dX11_clause_19 : decode cX11_clause 19 = .ok (.aload_n 0, 1) := by decide +kernel
theorem dX11_clause_20 : decode cX11_clause 20 = .ok (.getfield 52, 3) := by decide +kernel
theorem dX11_clause_23 : decode cX11_clause 23 = .ok (.iconst 0, 1) := by decide +kernel
theorem dX11_clause_24 : decode cX11_clause 24 = .ok (.iload_n 2, 1) := by decide +kernel
theorem dX11_clause_25 : decode cX11_clause 25 = .ok (.iload_n 2, 1) := by decide +kernel
theorem dX11_clause_26 : decode cX11_clause 26 = .ok (.invokevirtual 210, 3) := by decide +kernel
theorem dX11_clause_29 : decode cX11_clause 29 = .ok (.astore 4, 2) := by decide +kernel
theorem dX11_clause_31 : decode cX11_clause 31 = .ok (.aload 4, 2) := by decide +kernel
theorem dX11_clause_33 : decode cX11_clause 33 = .ok (.ifnonnull 6, 3) := by decide +kernel
theorem dX11_clause_36 : decode cX11_clause 36 = .ok (.bipush (-2), 2) := by decide +kernel
theorem dX11_clause_38 : decode cX11_clause 38 = .ok (.ireturn, 1) := by decide +kernel
theorem dX11_clause_39 : decode cX11_clause 39 = .ok (.aload_n 0, 1) := by decide +kernel
theorem dX11_clause_40 : decode cX11_clause 40 = .ok (.getfield 52, 3) := by decide +kernel
theorem dX11_clause_43 : decode cX11_clause 43 = .ok (.aload 4, 2) := by decide +kernel
theorem dX11_clause_45 : decode cX11_clause 45 = .ok (.aload_n 3, 1) := by decide +kernel
theorem dX11_clause_46 : decode cX11_clause 46 = .ok (.iconst 0, 1) := by decide +kernel
theorem dX11_clause_47 : decode cX11_clause 47 = .ok (.iload_n 2, 1) := by decide +kernel
theorem dX11_clause_48 : decode cX11_clause 48 = .ok (.invokevirtual 214, 3) := by decide +kernel
theorem dX11_clause_51 : decode cX11_clause 51 = .ok (.pop, 1) := by decide +kernel
theorem dX11_clause_52 : decode cX11_clause 52 = .ok (.aload_n 0, 1) := by decide +kernel
theorem dX11_clause_53 : decode cX11_clause 53 = .ok (.getfield 52, 3) := by decide +kernel
theorem dX11_clause_56 : decode cX11_clause 56 = .ok (.getfield 228, 3) := by decide +kernel
theorem dX11_clause_59 : decode cX11_clause 59 = .ok (.getfield 232, 3) := by decide +kernel
theorem dX11_clause_62 : decode cX11_clause 62 = .ok (.istore 5, 2) := by decide +kernel
theorem dX11_clause_64 : decode cX11_clause 64 = .ok (.iload 5, 2) := by decide +kernel
theorem dX11_clause_66 : decode cX11_clause 66 = .ok (.iconst (-1), 1) := by decide +kernel
theorem dX11_clause_67 : decode cX11_clause 67 = .ok (.if_icmp .ne 8, 3) := by decide +kernel
theorem dX11_clause_70 : decode cX11_clause 70 = .ok (.bipush (-2), 2) := by decide +kernel
theorem dX11_clause_72 : decode cX11_clause 72 = .ok (.goto 5, 3) := by decide +kernel
theorem dX11_clause_75 : decode cX11_clause 75 = .ok (.iload 5, 2) := by decide +kernel
theorem dX11_clause_77 : decode cX11_clause 77 = .ok (.ireturn, 1) := by decide +kernel
theorem dX11_open_0 : decode cX11_open 0 = .ok (.iload_n 1, 1) := by decide +kernel
theorem dX11_open_1 : decode cX11_open 1 = .ok (.iconst 0, 1) := by decide +kernel
theorem dX11_open_2 : decode cX11_open 2 = .ok (.iconst 3, 1) := by decide +kernel
theorem dX11_open_3 : decode cX11_open 3 = .ok (.invokestatic 69, 3) := by decide +kernel
theorem dX11_open_6 : decode cX11_open 6 = .ok (.ifCond .eq 23, 3) := by decide +kernel
theorem dX11_open_9 : decode cX11_open 9 = .ok (.aload_n 0, 1) := by decide +kernel
theorem dX11_open_10 : decode cX11_open 10 = .ok (.iload_n 2, 1) := by decide +kernel
theorem dX11_open_11 : decode cX11_open 11 = .ok (.iload_n 3, 1) := by decide +kernel
theorem dX11_open_12 : decode cX11_open 12 = .ok (.invokevirtual 237, 3) := by decide +kernel
theorem dX11_open_15 : decode cX11_open 15 = .ok (.ifCond .eq 14, 3) := by decide +kernel
theorem dX11_open_18 : decode cX11_open 18 = .ok (.iload 4, 2) := by decide +kernel
theorem dX11_open_20 : decode cX11_open 20 = .ok (.iconst 1, 1) := by decide +kernel
theorem dX11_open_21 : decode cX11_open 21 = .ok (.bipush 99, 2) := by decide +kernel
theorem dX11_open_23 : decode cX11_open 23 = .ok (.invokestatic 69, 3) := by decide +kernel
theorem dX11_open_26 : decode cX11_open 26 = .ok (.ifCond .ne 5, 3) := by decide +kernel
theorem dX11_open_29 : decode cX11_open 29 = .ok (.iconst (-1), 1) := by decide +kernel
theorem dX11_open_30 : decode cX11_open 30 = .ok (.ireturn, 1) := by decide +kernel
theorem dX11_open_31 : decode cX11_open 31 = .ok (.aload_n 0, 1) := by decide +kernel
theorem dX11_open_32 : decode cX11_open 32 = .ok (.iload_n 2, 1) := by decide +kernel
theorem dX11_open_33 : decode cX11_open 33 = .ok (.iload_n 3, 1) := by decide +kernel
theorem dX11_open_34 : decode cX11_open 34 = .ok (.invokevirtual 240, 3) := by decide +kernel
theorem dX11_open_37 : decode cX11_open 37 = .ok (.iconst (-1), 1) := by decide +kernel
theorem dX11_open_38 : decode cX11_open 38 = .ok (.if_icmp .eq 6, 3) := by decide +kernel
theorem dX11_open_41 : decode cX11_open 41 = .ok (.bipush (-2), 2) := by decide +kernel
theorem dX11_open_43 : decode cX11_open 43 = .ok (.ireturn, 1) := by decide +kernel
theorem dX11_open_44 : decode cX11_open 44 = .ok (.aload_n 0, 1) := by decide +kernel
theorem dX11_open_45 : decode cX11_open 45 = .ok (.getfield 243, 3) := by decide +kernel
theorem dX11_open_48 : decode cX11_open 48 = .ok (.sipush 200, 3) := by decide +kernel
theorem dX11_open_51 : decode cX11_open 51 = .ok (.if_icmp .lt 6, 3) := by decide +kernel
theorem dX11_open_54 : decode cX11_open 54 = .ok (.bipush (-3), 2) := by decide +kernel
theorem dX11_open_56 : decode cX11_open 56 = .ok (.ireturn, 1) := by decide +kernel
theorem dX11_open_57 : decode cX11_open 57 = .ok (.aload_n 0, 1) := by decide +kernel
theorem dX11_open_58 : decode cX11_open 58 = .ok (.getfield 58, 3) := by decide +kernel
theorem dX11_open_61 : decode cX11_open 61 = .ok (.aload_n 0, 1) := by decide +kernel
theorem dX11_open_62 : decode cX11_open 62 = .ok (.getfield 243, 3) := by decide +kernel
theorem dX11_open_65 : decode cX11_open 65 = .ok (.new 56, 3) := by decide +kernel
theorem dX11_open_68 : decode cX11_open 68 = .ok (.dup, 1) := by decide +kernel
theorem dX11_open_69 : decode cX11_open 69 = .ok (.iload_n 1, 1) := by decide +kernel
theorem dX11_open_70 : decode cX11_open 70 = .ok (.iload_n 2, 1) := by decide +kernel
theorem dX11_open_71 : decode cX11_open 71 = .ok (.iload_n 3, 1) := by decide +kernel
theorem dX11_open_72 : decode cX11_open 72 = .ok (.aload_n 0, 1) := by decide +kernel
theorem dX11_open_73 : decode cX11_open 73 = .ok (.getfield 186, 3) := by decide +kernel
theorem dX11_open_76 : decode cX11_open 76 = .ok (.iload 4, 2) := by decide +kernel
theorem dX11_open_78 : decode cX11_open 78 = .ok (.invokespecial 246, 3) := by decide +kernel
theorem dX11_open_81 : decode cX11_open 81 = .ok (.aastore, 1) := by decide +kernel
theorem dX11_open_82 : decode cX11_open 82 = .ok (.aload_n 0, 1) := by decide +kernel
theorem dX11_open_83 : decode cX11_open 83 = .ok (.dup, 1) := by decide +kernel
theorem dX11_open_84 : decode cX11_open 84 = .ok (.getfield 243, 3) := by decide +kernel
theorem dX11_open_87 : decode cX11_open 87 = .ok (.iconst 1, 1) := by decide +kernel
theorem dX11_open_88 : decode cX11_open 88 = .ok (.iadd, 1) := by decide +kernel
theorem dX11_open_89 : decode cX11_open 89 = .ok (.putfield 243, 3) := by decide +kernel
theorem dX11_open_92 : decode cX11_open 92 = .ok (.aload_n 0, 1) := by decide +kernel
theorem dX11_open_93 : decode cX11_open 93 = .ok (.getfield 243, 3) := by decide +kernel
theorem dX11_open_96 : decode cX11_open 96 = .ok (.iconst 1, 1) := by decide +kernel
theorem dX11_open_97 : decode cX11_open 97 = .ok (.isub, 1) := by decide +kernel
theorem dX11_open_98 : decode cX11_open 98 = .ok (.ireturn, 1) := by decide +kernel
theorem dX11_back_0 : decode cX11_back 0 = .ok (.aload_n 0, 1) := by decide +kernel
theorem dX11_back_1 : decode cX11_back 1 = .ok (.iload_n 1, 1) := by decide +kernel
theorem dX11_back_2 : decode cX11_back 2 = .ok (.invokevirtual 249, 3) := by decide +kernel
theorem dX11_back_5 : decode cX11_back 5 = .ok (.astore_n 2, 1) := by decide +kernel
theorem dX11_back_6 : decode cX11_back 6 = .ok (.aload_n 2, 1) := by decide +kernel
theorem dX11_back_7 : decode cX11_back 7 = .ok (.ifnonnull 5, 3) := by decide +kernel
theorem dX11_back_10 : decode cX11_back 10 = .ok (.iconst (-1), 1) := by decide +kernel
theorem dX11_back_11 : decode cX11_back 11 = .ok (.ireturn, 1) := by decide +kernel
theorem dX11_back_12 : decode cX11_back 12 = .ok (.aload_n 2, 1) := by decide +kernel
theorem dX11_back_13 : decode cX11_back 13 = .ok (.invokevirtual 253, 3) := by decide +kernel
theorem dX11_back_16 : decode cX11_back 16 = .ok (.ifCond .ne 6, 3) := by decide +kernel
theorem dX11_back_19 : decode cX11_back 19 = .ok (.bipush (-2), 2) := by decide +kernel
theorem dX11_back_21 : decode cX11_back 21 = .ok (.ireturn, 1) := by decide +kernel
theorem dX11_back_22 : decode cX11_back 22 = .ok (.aload_n 2, 1) := by decide +kernel
theorem dX11_back_23 : decode cX11_back 23 = .ok (.aload_n 0, 1) := by decide +kernel
theorem dX11_back_24 : decode cX11_back 24 = .ok (.getfield 186, 3) := by decide +kernel
theorem dX11_back_27 : decode cX11_back 27 = .ok (.putfield 256, 3) := by decide +kernel
theorem dX11_back_30 : decode cX11_back 30 = .ok (.aload_n 0, 1) := by decide +kernel
theorem dX11_back_31 : decode cX11_back 31 = .ok (.getfield 186, 3) := by decide +kernel
theorem dX11_back_34 : decode cX11_back 34 = .ok (.aload_n 2, 1) := by decide +kernel
theorem dX11_back_35 : decode cX11_back 35 = .ok (.getfield 259, 3) := by decide +kernel
theorem dX11_back_38 : decode cX11_back 38 = .ok (.isub, 1) := by decide +kernel
theorem dX11_back_39 : decode cX11_back 39 = .ok (.ireturn, 1) := by decide +kernel
theorem dX11_penalty_0 : decode cX11_penalty 0 = .ok (.aload_n 0, 1) := by decide +kernel
theorem dX11_penalty_1 : decode cX11_penalty 1 = .ok (.iload_n 1, 1) := by decide +kernel
theorem dX11_penalty_2 : decode cX11_penalty 2 = .ok (.invokevirtual 249, 3) := by decide +kernel
theorem dX11_penalty_5 : decode cX11_penalty 5 = .ok (.astore 4, 2) := by decide +kernel
theorem dX11_penalty_7 : decode cX11_penalty 7 = .ok (.aload 4, 2) := by decide +kernel
theorem dX11_penalty_9 : decode cX11_penalty 9 = .ok (.ifnull 22, 3) := by decide +kernel
theorem dX11_penalty_12 : decode cX11_penalty 12 = .ok (.iload_n 2, 1) := by decide +kernel
theorem dX11_penalty_13 : decode cX11_penalty 13 = .ok (.iconst 0, 1) := by decide +kernel
theorem dX11_penalty_14 : decode cX11_penalty 14 = .ok (.aload_n 0, 1) := by decide +kernel
theorem dX11_penalty_15 : decode cX11_penalty 15 = .ok (.getfield 186, 3) := by decide +kernel
theorem dX11_penalty_18 : decode cX11_penalty 18 = .ok (.invokestatic 69, 3) := by decide +kernel
theorem dX11_penalty_21 : decode cX11_penalty 21 = .ok (.ifCond .eq 10, 3) := by decide +kernel
theorem dX11_penalty_24 : decode cX11_penalty 24 = .ok (.iload_n 3, 1) := by decide +kernel
theorem dX11_penalty_25 : decode cX11_penalty 25 = .ok (.invokestatic 195, 3) := by decide +kernel
theorem dX11_penalty_28 : decode cX11_penalty 28 = .ok (.ifCond .ne 6, 3) := by decide +kernel
theorem dX11_penalty_31 : decode cX11_penalty 31 = .ok (.ldc 209, 2) := by decide +kernel
theorem dX11_penalty_33 : decode cX11_penalty 33 = .ok (.ireturn, 1) := by decide +kernel
theorem dX11_penalty_34 : decode cX11_penalty 34 = .ok (.iload_n 2, 1) := by decide +kernel
theorem dX11_penalty_35 : decode cX11_penalty 35 = .ok (.aload 4, 2) := by decide +kernel
theorem dX11_penalty_37 : decode cX11_penalty 37 = .ok (.getfield 259, 3) := by decide +kernel
theorem dX11_penalty_40 : decode cX11_penalty 40 = .ok (.if_icmp .ge 5, 3) := by decide +kernel
theorem dX11_penalty_43 : decode cX11_penalty 43 = .ok (.iconst 0, 1) := by decide +kernel
theorem dX11_penalty_44 : decode cX11_penalty 44 = .ok (.ireturn, 1) := by decide +kernel
theorem dX11_penalty_45 : decode cX11_penalty 45 = .ok (.aload_n 0, 1) := by decide +kernel
theorem dX11_penalty_46 : decode cX11_penalty 46 = .ok (.getfield 52, 3) := by decide +kernel
theorem dX11_penalty_49 : decode cX11_penalty 49 = .ok (.iconst 1, 1) := by decide +kernel
theorem dX11_penalty_50 : decode cX11_penalty 50 = .ok (.iload_n 2, 1) := by decide +kernel
theorem dX11_penalty_51 : decode cX11_penalty 51 = .ok (.iload_n 3, 1) := by decide +kernel
theorem dX11_penalty_52 : decode cX11_penalty 52 = .ok (.invokevirtual 210, 3) := by decide +kernel
theorem dX11_penalty_55 : decode cX11_penalty 55 = .ok (.astore 5, 2) := by decide +kernel
theorem dX11_penalty_57 : decode cX11_penalty 57 = .ok (.aload_n 0, 1) := by decide +kernel
theorem dX11_penalty_58 : decode cX11_penalty 58 = .ok (.getfield 52, 3) := by decide +kernel
theorem dX11_penalty_61 : decode cX11_penalty 61 = .ok (.aload 5, 2) := by decide +kernel
theorem dX11_penalty_63 : decode cX11_penalty 63 = .ok (.aload 4, 2) := by decide +kernel
theorem dX11_penalty_65 : decode cX11_penalty 65 = .ok (.iload_n 2, 1) := by decide +kernel
theorem dX11_penalty_66 : decode cX11_penalty 66 = .ok (.aload_n 0, 1) := by decide +kernel
theorem dX11_penalty_67 : decode cX11_penalty 67 = .ok (.aload 4, 2) := by decide +kernel
theorem dX11_penalty_69 : decode cX11_penalty 69 = .ok (.getfield 262, 3) := by decide +kernel
theorem dX11_penalty_72 : decode cX11_penalty 72 = .ok (.invokevirtual 265, 3) := by decide +kernel
theorem dX11_penalty_75 : decode cX11_penalty 75 = .ok (.invokevirtual 268, 3) := by decide +kernel
theorem dX11_penalty_78 : decode cX11_penalty 78 = .ok (.ireturn, 1) := by decide +kernel
theorem dX11_sink_0 : decode cX11_sink 0 = .ok (.aload_n 0, 1) := by decide +kernel
theorem dX11_sink_1 : decode cX11_sink 1 = .ok (.iload_n 1, 1) := by decide +kernel
theorem dX11_sink_2 : decode cX11_sink 2 = .ok (.iload_n 2, 1) := by decide +kernel
theorem dX11_sink_3 : decode cX11_sink 3 = .ok (.invokevirtual 237, 3) := by decide +kernel
theorem dX11_sink_6 : decode cX11_sink 6 = .ok (.ifCond .ne 5, 3) := by decide +kernel
theorem dX11_sink_9 : decode cX11_sink 9 = .ok (.iconst (-1), 1) := by decide +kernel
theorem dX11_sink_10 : decode cX11_sink 10 = .ok (.ireturn, 1) := by decide +kernel
theorem dX11_sink_11 : decode cX11_sink 11 = .ok (.aload_n 0, 1) := by decide +kernel
theorem dX11_sink_12 : decode cX11_sink 12 = .ok (.iload_n 1, 1) := by decide +kernel
theorem dX11_sink_13 : decode cX11_sink 13 = .ok (.iload_n 2, 1) := by decide +kernel
theorem dX11_sink_14 : decode cX11_sink 14 = .ok (.invokevirtual 240, 3) := by decide +kernel
theorem dX11_sink_17 : decode cX11_sink 17 = .ok (.istore_n 3, 1) := by decide +kernel
theorem dX11_sink_18 : decode cX11_sink 18 = .ok (.iload_n 3, 1) := by decide +kernel
theorem dX11_sink_19 : decode cX11_sink 19 = .ok (.iconst (-1), 1) := by decide +kernel
theorem dX11_sink_20 : decode cX11_sink 20 = .ok (.if_icmp .eq 7, 3) := by decide +kernel
theorem dX11_sink_23 : decode cX11_sink 23 = .ok (.iload_n 3, 1) := by decide +kernel
theorem dX11_sink_24 : decode cX11_sink 24 = .ok (.goto 9, 3) := by decide +kernel
theorem dX11_sink_27 : decode cX11_sink 27 = .ok (.aload_n 0, 1) := by decide +kernel
theorem dX11_sink_28 : decode cX11_sink 28 = .ok (.iload_n 1, 1) := by decide +kernel
theorem dX11_sink_29 : decode cX11_sink 29 = .ok (.iload_n 2, 1) := by decide +kernel
theorem dX11_sink_30 : decode cX11_sink 30 = .ok (.invokevirtual 272, 3) := by decide +kernel
theorem dX11_sink_33 : decode cX11_sink 33 = .ok (.istore 4, 2) := by decide +kernel
theorem dX11_sink_35 : decode cX11_sink 35 = .ok (.iload 4, 2) := by decide +kernel
theorem dX11_sink_37 : decode cX11_sink 37 = .ok (.iconst (-1), 1) := by decide +kernel
theorem dX11_sink_38 : decode cX11_sink 38 = .ok (.if_icmp .ne 8, 3) := by decide +kernel
theorem dX11_sink_41 : decode cX11_sink 41 = .ok (.bipush (-2), 2) := by decide +kernel
theorem dX11_sink_43 : decode cX11_sink 43 = .ok (.goto 5, 3) := by decide +kernel
theorem dX11_sink_46 : decode cX11_sink 46 = .ok (.iload 4, 2) := by decide +kernel
theorem dX11_sink_48 : decode cX11_sink 48 = .ok (.ireturn, 1) := by decide +kernel
theorem dX11_opening_0 : decode cX11_opening 0 = .ok (.aload_n 0, 1) := by decide +kernel
theorem dX11_opening_1 : decode cX11_opening 1 = .ok (.iload_n 1, 1) := by decide +kernel
theorem dX11_opening_2 : decode cX11_opening 2 = .ok (.invokevirtual 249, 3) := by decide +kernel
theorem dX11_opening_5 : decode cX11_opening 5 = .ok (.astore_n 3, 1) := by decide +kernel
theorem dX11_opening_6 : decode cX11_opening 6 = .ok (.aload_n 3, 1) := by decide +kernel
theorem dX11_opening_7 : decode cX11_opening 7 = .ok (.ifnonnull 6, 3) := by decide +kernel
theorem dX11_opening_10 : decode cX11_opening 10 = .ok (.bipush (-2), 2) := by decide +kernel
theorem dX11_opening_12 : decode cX11_opening 12 = .ok (.ireturn, 1) := by decide +kernel
theorem dX11_opening_13 : decode cX11_opening 13 = .ok (.iload_n 2, 1) := by decide +kernel
theorem dX11_opening_14 : decode cX11_opening 14 = .ok (.tableswitch 68 0 5 #[38, 43, 48, 53, 58, 63], 38) := by decide +kernel
theorem dX11_opening_52 : decode cX11_opening 52 = .ok (.aload_n 3, 1) := by decide +kernel
theorem dX11_opening_53 : decode cX11_opening 53 = .ok (.getfield 262, 3) := by decide +kernel
theorem dX11_opening_56 : decode cX11_opening 56 = .ok (.ireturn, 1) := by decide +kernel
theorem dX11_opening_57 : decode cX11_opening 57 = .ok (.aload_n 3, 1) := by decide +kernel
theorem dX11_opening_58 : decode cX11_opening 58 = .ok (.getfield 275, 3) := by decide +kernel
theorem dX11_opening_61 : decode cX11_opening 61 = .ok (.ireturn, 1) := by decide +kernel
theorem dX11_opening_62 : decode cX11_opening 62 = .ok (.aload_n 3, 1) := by decide +kernel
theorem dX11_opening_63 : decode cX11_opening 63 = .ok (.getfield 278, 3) := by decide +kernel
theorem dX11_opening_66 : decode cX11_opening 66 = .ok (.ireturn, 1) := by decide +kernel
theorem dX11_opening_67 : decode cX11_opening 67 = .ok (.aload_n 3, 1) := by decide +kernel
theorem dX11_opening_68 : decode cX11_opening 68 = .ok (.getfield 259, 3) := by decide +kernel
theorem dX11_opening_71 : decode cX11_opening 71 = .ok (.ireturn, 1) := by decide +kernel
theorem dX11_opening_72 : decode cX11_opening 72 = .ok (.aload_n 3, 1) := by decide +kernel
theorem dX11_opening_73 : decode cX11_opening 73 = .ok (.getfield 281, 3) := by decide +kernel
theorem dX11_opening_76 : decode cX11_opening 76 = .ok (.ireturn, 1) := by decide +kernel
theorem dX11_opening_77 : decode cX11_opening 77 = .ok (.aload_n 3, 1) := by decide +kernel
theorem dX11_opening_78 : decode cX11_opening 78 = .ok (.getfield 256, 3) := by decide +kernel
theorem dX11_opening_81 : decode cX11_opening 81 = .ok (.ireturn, 1) := by decide +kernel
theorem dX11_opening_82 : decode cX11_opening 82 = .ok (.bipush (-2), 2) := by decide +kernel
theorem dX11_opening_84 : decode cX11_opening 84 = .ok (.ireturn, 1) := by decide +kernel
theorem dX11_draw_0 : decode cX11_draw 0 = .ok (.iload_n 1, 1) := by decide +kernel
theorem dX11_draw_1 : decode cX11_draw 1 = .ok (.iconst 1, 1) := by decide +kernel
theorem dX11_draw_2 : decode cX11_draw 2 = .ok (.bipush 40, 2) := by decide +kernel
theorem dX11_draw_4 : decode cX11_draw 4 = .ok (.invokestatic 69, 3) := by decide +kernel
theorem dX11_draw_7 : decode cX11_draw 7 = .ok (.ifCond .eq 12, 3) := by decide +kernel
theorem dX11_draw_10 : decode cX11_draw 10 = .ok (.iload_n 2, 1) := by decide +kernel
theorem dX11_draw_11 : decode cX11_draw 11 = .ok (.iconst 1, 1) := by decide +kernel
theorem dX11_draw_12 : decode cX11_draw 12 = .ok (.iload_n 1, 1) := by decide +kernel
theorem dX11_draw_13 : decode cX11_draw 13 = .ok (.invokestatic 69, 3) := by decide +kernel
theorem dX11_draw_16 : decode cX11_draw 16 = .ok (.ifCond .ne 5, 3) := by decide +kernel
theorem dX11_draw_19 : decode cX11_draw 19 = .ok (.iconst (-1), 1) := by decide +kernel
theorem dX11_draw_20 : decode cX11_draw 20 = .ok (.ireturn, 1) := by decide +kernel
theorem dX11_draw_21 : decode cX11_draw 21 = .ok (.aload_n 0, 1) := by decide +kernel
theorem dX11_draw_22 : decode cX11_draw 22 = .ok (.getfield 65, 3) := by decide +kernel
theorem dX11_draw_25 : decode cX11_draw 25 = .ok (.iload_n 1, 1) := by decide +kernel
theorem dX11_draw_26 : decode cX11_draw 26 = .ok (.iload_n 2, 1) := by decide +kernel
theorem dX11_draw_27 : decode cX11_draw 27 = .ok (.iload_n 3, 1) := by decide +kernel
theorem dX11_draw_28 : decode cX11_draw 28 = .ok (.invokevirtual 284, 3) := by decide +kernel
theorem dX11_draw_31 : decode cX11_draw 31 = .ok (.ireturn, 1) := by decide +kernel
theorem dX11_drawn_0 : decode cX11_drawn 0 = .ok (.aload_n 0, 1) := by decide +kernel
theorem dX11_drawn_1 : decode cX11_drawn 1 = .ok (.getfield 65, 3) := by decide +kernel
theorem dX11_drawn_4 : decode cX11_drawn 4 = .ok (.iload_n 1, 1) := by decide +kernel
theorem dX11_drawn_5 : decode cX11_drawn 5 = .ok (.invokevirtual 287, 3) := by decide +kernel
theorem dX11_drawn_8 : decode cX11_drawn 8 = .ok (.ireturn, 1) := by decide +kernel
theorem dX11_bad_0 : decode cX11_bad 0 = .ok (.iload_n 1, 1) := by decide +kernel
theorem dX11_bad_1 : decode cX11_bad 1 = .ok (.iconst 1, 1) := by decide +kernel
theorem dX11_bad_2 : decode cX11_bad 2 = .ok (.bipush 40, 2) := by decide +kernel
theorem dX11_bad_4 : decode cX11_bad 4 = .ok (.invokestatic 69, 3) := by decide +kernel
theorem dX11_bad_7 : decode cX11_bad 7 = .ok (.ifCond .eq 33, 3) := by decide +kernel
theorem dX11_bad_10 : decode cX11_bad 10 = .ok (.iload_n 2, 1) := by decide +kernel
theorem dX11_bad_11 : decode cX11_bad 11 = .ok (.iconst 1, 1) := by decide +kernel
theorem dX11_bad_12 : decode cX11_bad 12 = .ok (.iload_n 1, 1) := by decide +kernel
theorem dX11_bad_13 : decode cX11_bad 13 = .ok (.invokestatic 69, 3) := by decide +kernel
theorem dX11_bad_16 : decode cX11_bad 16 = .ok (.ifCond .eq 24, 3) := by decide +kernel
theorem dX11_bad_19 : decode cX11_bad 19 = .ok (.iload_n 3, 1) := by decide +kernel
theorem dX11_bad_20 : decode cX11_bad 20 = .ok (.iconst 0, 1) := by decide +kernel
theorem dX11_bad_21 : decode cX11_bad 21 = .ok (.iload_n 2, 1) := by decide +kernel
theorem dX11_bad_22 : decode cX11_bad 22 = .ok (.invokestatic 69, 3) := by decide +kernel
theorem dX11_bad_25 : decode cX11_bad 25 = .ok (.ifCond .eq 15, 3) := by decide +kernel
theorem dX11_bad_28 : decode cX11_bad 28 = .ok (.iload 4, 2) := by decide +kernel
theorem dX11_bad_30 : decode cX11_bad 30 = .ok (.iconst 1, 1) := by decide +kernel
theorem dX11_bad_31 : decode cX11_bad 31 = .ok (.sipush 9999, 3) := by decide +kernel
theorem dX11_bad_34 : decode cX11_bad 34 = .ok (.invokestatic 69, 3) := by decide +kernel
theorem dX11_bad_37 : decode cX11_bad 37 = .ok (.ifCond .ne 5, 3) := by decide +kernel
theorem dX11_bad_40 : decode cX11_bad 40 = .ok (.iconst (-1), 1) := by decide +kernel
theorem dX11_bad_41 : decode cX11_bad 41 = .ok (.ireturn, 1) := by decide +kernel
theorem dX11_bad_42 : decode cX11_bad 42 = .ok (.aload_n 0, 1) := by decide +kernel
theorem dX11_bad_43 : decode cX11_bad 43 = .ok (.getfield 65, 3) := by decide +kernel
theorem dX11_bad_46 : decode cX11_bad 46 = .ok (.iload_n 1, 1) := by decide +kernel
theorem dX11_bad_47 : decode cX11_bad 47 = .ok (.iload_n 2, 1) := by decide +kernel
theorem dX11_bad_48 : decode cX11_bad 48 = .ok (.iload_n 3, 1) := by decide +kernel
theorem dX11_bad_49 : decode cX11_bad 49 = .ok (.iload 4, 2) := by decide +kernel
theorem dX11_bad_51 : decode cX11_bad 51 = .ok (.invokevirtual 290, 3) := by decide +kernel
theorem dX11_bad_54 : decode cX11_bad 54 = .ok (.ireturn, 1) := by decide +kernel
theorem dX11_count_0 : decode cX11_count 0 = .ok (.iload_n 1, 1) := by decide +kernel
theorem dX11_count_1 : decode cX11_count 1 = .ok (.tableswitch 105 0 8 #[51, 56, 61, 69, 74, 79, 84, 89, 97], 51) := by decide +kernel
theorem dX11_count_52 : decode cX11_count 52 = .ok (.aload_n 0, 1) := by decide +kernel
theorem dX11_count_53 : decode cX11_count 53 = .ok (.getfield 73, 3) := by decide +kernel
theorem dX11_count_56 : decode cX11_count 56 = .ok (.ireturn, 1) := by decide +kernel
theorem dX11_count_57 : decode cX11_count 57 = .ok (.aload_n 0, 1) := by decide +kernel
theorem dX11_count_58 : decode cX11_count 58 = .ok (.getfield 182, 3) := by decide +kernel
theorem dX11_count_61 : decode cX11_count 61 = .ok (.ireturn, 1) := by decide +kernel
theorem dX11_count_62 : decode cX11_count 62 = .ok (.aload_n 0, 1) := by decide +kernel
theorem dX11_count_63 : decode cX11_count 63 = .ok (.getfield 52, 3) := by decide +kernel
theorem dX11_count_66 : decode cX11_count 66 = .ok (.getfield 294, 3) := by decide +kernel
theorem dX11_count_69 : decode cX11_count 69 = .ok (.ireturn, 1) := by decide +kernel
theorem dX11_count_70 : decode cX11_count 70 = .ok (.aload_n 0, 1) := by decide +kernel
theorem dX11_count_71 : decode cX11_count 71 = .ok (.getfield 243, 3) := by decide +kernel
theorem dX11_count_74 : decode cX11_count 74 = .ok (.ireturn, 1) := by decide +kernel
theorem dX11_count_75 : decode cX11_count 75 = .ok (.aload_n 0, 1) := by decide +kernel
theorem dX11_count_76 : decode cX11_count 76 = .ok (.invokevirtual 297, 3) := by decide +kernel
theorem dX11_count_79 : decode cX11_count 79 = .ok (.ireturn, 1) := by decide +kernel
theorem dX11_count_80 : decode cX11_count 80 = .ok (.aload_n 0, 1) := by decide +kernel
theorem dX11_count_81 : decode cX11_count 81 = .ok (.getfield 186, 3) := by decide +kernel
theorem dX11_count_84 : decode cX11_count 84 = .ok (.ireturn, 1) := by decide +kernel
theorem dX11_count_85 : decode cX11_count 85 = .ok (.aload_n 0, 1) := by decide +kernel
theorem dX11_count_86 : decode cX11_count 86 = .ok (.getfield 139, 3) := by decide +kernel
theorem dX11_count_89 : decode cX11_count 89 = .ok (.ireturn, 1) := by decide +kernel
theorem dX11_count_90 : decode cX11_count 90 = .ok (.aload_n 0, 1) := by decide +kernel
theorem dX11_count_91 : decode cX11_count 91 = .ok (.getfield 52, 3) := by decide +kernel
theorem dX11_count_94 : decode cX11_count 94 = .ok (.getfield 300, 3) := by decide +kernel
theorem dX11_count_97 : decode cX11_count 97 = .ok (.ireturn, 1) := by decide +kernel
theorem dX11_count_98 : decode cX11_count 98 = .ok (.aload_n 0, 1) := by decide +kernel
theorem dX11_count_99 : decode cX11_count 99 = .ok (.getfield 32, 3) := by decide +kernel
theorem dX11_count_102 : decode cX11_count 102 = .ok (.invokevirtual 303, 3) := by decide +kernel
theorem dX11_count_105 : decode cX11_count 105 = .ok (.ireturn, 1) := by decide +kernel
theorem dX11_count_106 : decode cX11_count 106 = .ok (.iconst (-1), 1) := by decide +kernel
theorem dX11_count_107 : decode cX11_count 107 = .ok (.ireturn, 1) := by decide +kernel
theorem dX11_within_0 : decode cX11_within 0 = .ok (.iload_n 0, 1) := by decide +kernel
theorem dX11_within_1 : decode cX11_within 1 = .ok (.iload_n 1, 1) := by decide +kernel
theorem dX11_within_2 : decode cX11_within 2 = .ok (.if_icmp .lt 12, 3) := by decide +kernel
theorem dX11_within_5 : decode cX11_within 5 = .ok (.iload_n 0, 1) := by decide +kernel
theorem dX11_within_6 : decode cX11_within 6 = .ok (.iload_n 2, 1) := by decide +kernel
theorem dX11_within_7 : decode cX11_within 7 = .ok (.if_icmp .gt 7, 3) := by decide +kernel
theorem dX11_within_10 : decode cX11_within 10 = .ok (.iconst 1, 1) := by decide +kernel
theorem dX11_within_11 : decode cX11_within 11 = .ok (.goto 4, 3) := by decide +kernel
theorem dX11_within_14 : decode cX11_within 14 = .ok (.iconst 0, 1) := by decide +kernel
theorem dX11_within_15 : decode cX11_within 15 = .ok (.ireturn, 1) := by decide +kernel
theorem dX11_isDay_0 : decode cX11_isDay 0 = .ok (.iload_n 0, 1) := by decide +kernel
theorem dX11_isDay_1 : decode cX11_isDay 1 = .ok (.iconst 0, 1) := by decide +kernel
theorem dX11_isDay_2 : decode cX11_isDay 2 = .ok (.sipush 9999, 3) := by decide +kernel
theorem dX11_isDay_5 : decode cX11_isDay 5 = .ok (.invokestatic 69, 3) := by decide +kernel
theorem dX11_isDay_8 : decode cX11_isDay 8 = .ok (.ireturn, 1) := by decide +kernel
theorem dX11_isKind_0 : decode cX11_isKind 0 = .ok (.iload_n 0, 1) := by decide +kernel
theorem dX11_isKind_1 : decode cX11_isKind 1 = .ok (.ifCond .eq 8, 3) := by decide +kernel
theorem dX11_isKind_4 : decode cX11_isKind 4 = .ok (.iload_n 0, 1) := by decide +kernel
theorem dX11_isKind_5 : decode cX11_isKind 5 = .ok (.iconst 1, 1) := by decide +kernel
theorem dX11_isKind_6 : decode cX11_isKind 6 = .ok (.if_icmp .ne 7, 3) := by decide +kernel
theorem dX11_isKind_9 : decode cX11_isKind 9 = .ok (.iconst 1, 1) := by decide +kernel
theorem dX11_isKind_10 : decode cX11_isKind 10 = .ok (.goto 4, 3) := by decide +kernel
theorem dX11_isKind_13 : decode cX11_isKind 13 = .ok (.iconst 0, 1) := by decide +kernel
theorem dX11_isKind_14 : decode cX11_isKind 14 = .ok (.ireturn, 1) := by decide +kernel
theorem dX11_findStreet_0 : decode cX11_findStreet 0 = .ok (.iload_n 1, 1) := by decide +kernel
theorem dX11_findStreet_1 : decode cX11_findStreet 1 = .ok (.ifCond .lt 20, 3) := by decide +kernel
theorem dX11_findStreet_4 : decode cX11_findStreet 4 = .ok (.iload_n 1, 1) := by decide +kernel
theorem dX11_findStreet_5 : decode cX11_findStreet 5 = .ok (.aload_n 0, 1) := by decide +kernel
theorem dX11_findStreet_6 : decode cX11_findStreet 6 = .ok (.getfield 73, 3) := by decide +kernel
theorem dX11_findStreet_9 : decode cX11_findStreet 9 = .ok (.if_icmp .ge 12, 3) := by decide +kernel
theorem dX11_findStreet_12 : decode cX11_findStreet 12 = .ok (.aload_n 0, 1) := by decide +kernel
theorem dX11_findStreet_13 : decode cX11_findStreet 13 = .ok (.getfield 11, 3) := by decide +kernel
theorem dX11_findStreet_16 : decode cX11_findStreet 16 = .ok (.iload_n 1, 1) := by decide +kernel
theorem dX11_findStreet_17 : decode cX11_findStreet 17 = .ok (.aaload, 1) := by decide +kernel
theorem dX11_findStreet_18 : decode cX11_findStreet 18 = .ok (.goto 4, 3) := by decide +kernel
theorem dX11_findStreet_21 : decode cX11_findStreet 21 = .ok (.aconst_null, 1) := by decide +kernel
theorem dX11_findStreet_22 : decode cX11_findStreet 22 = .ok (.areturn, 1) := by decide +kernel
theorem dX11_findHouse_0 : decode cX11_findHouse 0 = .ok (.iload_n 1, 1) := by decide +kernel
theorem dX11_findHouse_1 : decode cX11_findHouse 1 = .ok (.ifCond .lt 20, 3) := by decide +kernel
theorem dX11_findHouse_4 : decode cX11_findHouse 4 = .ok (.iload_n 1, 1) := by decide +kernel
theorem dX11_findHouse_5 : decode cX11_findHouse 5 = .ok (.aload_n 0, 1) := by decide +kernel
theorem dX11_findHouse_6 : decode cX11_findHouse 6 = .ok (.getfield 182, 3) := by decide +kernel
theorem dX11_findHouse_9 : decode cX11_findHouse 9 = .ok (.if_icmp .ge 12, 3) := by decide +kernel
theorem dX11_findHouse_12 : decode cX11_findHouse 12 = .ok (.aload_n 0, 1) := by decide +kernel
theorem dX11_findHouse_13 : decode cX11_findHouse 13 = .ok (.getfield 45, 3) := by decide +kernel
theorem dX11_findHouse_16 : decode cX11_findHouse 16 = .ok (.iload_n 1, 1) := by decide +kernel
theorem dX11_findHouse_17 : decode cX11_findHouse 17 = .ok (.aaload, 1) := by decide +kernel
theorem dX11_findHouse_18 : decode cX11_findHouse 18 = .ok (.goto 4, 3) := by decide +kernel
theorem dX11_findHouse_21 : decode cX11_findHouse 21 = .ok (.aconst_null, 1) := by decide +kernel
theorem dX11_findHouse_22 : decode cX11_findHouse 22 = .ok (.areturn, 1) := by decide +kernel
theorem dX11_findOpening_0 : decode cX11_findOpening 0 = .ok (.iload_n 1, 1) := by decide +kernel
theorem dX11_findOpening_1 : decode cX11_findOpening 1 = .ok (.ifCond .lt 20, 3) := by decide +kernel
theorem dX11_findOpening_4 : decode cX11_findOpening 4 = .ok (.iload_n 1, 1) := by decide +kernel
theorem dX11_findOpening_5 : decode cX11_findOpening 5 = .ok (.aload_n 0, 1) := by decide +kernel
theorem dX11_findOpening_6 : decode cX11_findOpening 6 = .ok (.getfield 243, 3) := by decide +kernel
theorem dX11_findOpening_9 : decode cX11_findOpening 9 = .ok (.if_icmp .ge 12, 3) := by decide +kernel
theorem dX11_findOpening_12 : decode cX11_findOpening 12 = .ok (.aload_n 0, 1) := by decide +kernel
theorem dX11_findOpening_13 : decode cX11_findOpening 13 = .ok (.getfield 58, 3) := by decide +kernel
theorem dX11_findOpening_16 : decode cX11_findOpening 16 = .ok (.iload_n 1, 1) := by decide +kernel
theorem dX11_findOpening_17 : decode cX11_findOpening 17 = .ok (.aaload, 1) := by decide +kernel
theorem dX11_findOpening_18 : decode cX11_findOpening 18 = .ok (.goto 4, 3) := by decide +kernel
theorem dX11_findOpening_21 : decode cX11_findOpening 21 = .ok (.aconst_null, 1) := by decide +kernel
theorem dX11_findOpening_22 : decode cX11_findOpening 22 = .ok (.areturn, 1) := by decide +kernel
theorem dX11_isFrontage_0 : decode cX11_isFrontage 0 = .ok (.iload_n 1, 1) := by decide +kernel
theorem dX11_isFrontage_1 : decode cX11_isFrontage 1 = .ok (.ifCond .lt 25, 3) := by decide +kernel
theorem dX11_isFrontage_4 : decode cX11_isFrontage 4 = .ok (.aload_n 0, 1) := by decide +kernel
theorem dX11_isFrontage_5 : decode cX11_isFrontage 5 = .ok (.iload_n 1, 1) := by decide +kernel
theorem dX11_isFrontage_6 : decode cX11_isFrontage 6 = .ok (.bipush 100, 2) := by decide +kernel
theorem dX11_isFrontage_8 : decode cX11_isFrontage 8 = .ok (.idiv, 1) := by decide +kernel
theorem dX11_isFrontage_9 : decode cX11_isFrontage 9 = .ok (.invokevirtual 80, 3) := by decide +kernel
theorem dX11_isFrontage_12 : decode cX11_isFrontage 12 = .ok (.ifnull 14, 3) := by decide +kernel
theorem dX11_isFrontage_15 : decode cX11_isFrontage 15 = .ok (.iload_n 1, 1) := by decide +kernel
theorem dX11_isFrontage_16 : decode cX11_isFrontage 16 = .ok (.bipush 100, 2) := by decide +kernel
theorem dX11_isFrontage_18 : decode cX11_isFrontage 18 = .ok (.irem, 1) := by decide +kernel
theorem dX11_isFrontage_19 : decode cX11_isFrontage 19 = .ok (.ifCond .eq 7, 3) := by decide +kernel
theorem dX11_isFrontage_22 : decode cX11_isFrontage 22 = .ok (.iconst 1, 1) := by decide +kernel
theorem dX11_isFrontage_23 : decode cX11_isFrontage 23 = .ok (.goto 4, 3) := by decide +kernel
theorem dX11_isFrontage_26 : decode cX11_isFrontage 26 = .ok (.iconst 0, 1) := by decide +kernel
theorem dX11_isFrontage_27 : decode cX11_isFrontage 27 = .ok (.ireturn, 1) := by decide +kernel
theorem dX11_isSquare_0 : decode cX11_isSquare 0 = .ok (.aload_n 0, 1) := by decide +kernel
theorem dX11_isSquare_1 : decode cX11_isSquare 1 = .ok (.iload_n 1, 1) := by decide +kernel
theorem dX11_isSquare_2 : decode cX11_isSquare 2 = .ok (.invokevirtual 80, 3) := by decide +kernel
theorem dX11_isSquare_5 : decode cX11_isSquare 5 = .ok (.astore_n 3, 1) := by decide +kernel
theorem dX11_isSquare_6 : decode cX11_isSquare 6 = .ok (.aload_n 3, 1) := by decide +kernel
theorem dX11_isSquare_7 : decode cX11_isSquare 7 = .ok (.ifnull 26, 3) := by decide +kernel
theorem dX11_isSquare_10 : decode cX11_isSquare 10 = .ok (.iload_n 2, 1) := by decide +kernel
theorem dX11_isSquare_11 : decode cX11_isSquare 11 = .ok (.ifCond .lt 22, 3) := by decide +kernel
theorem dX11_isSquare_14 : decode cX11_isSquare 14 = .ok (.aload_n 3, 1) := by decide +kernel
theorem dX11_isSquare_15 : decode cX11_isSquare 15 = .ok (.iload_n 2, 1) := by decide +kernel
theorem dX11_isSquare_16 : decode cX11_isSquare 16 = .ok (.bipush 16, 2) := by decide +kernel
theorem dX11_isSquare_18 : decode cX11_isSquare 18 = .ok (.idiv, 1) := by decide +kernel
theorem dX11_isSquare_19 : decode cX11_isSquare 19 = .ok (.iload_n 2, 1) := by decide +kernel
theorem dX11_isSquare_20 : decode cX11_isSquare 20 = .ok (.bipush 16, 2) := by decide +kernel
theorem dX11_isSquare_22 : decode cX11_isSquare 22 = .ok (.irem, 1) := by decide +kernel
theorem dX11_isSquare_23 : decode cX11_isSquare 23 = .ok (.invokevirtual 84, 3) := by decide +kernel
theorem dX11_isSquare_26 : decode cX11_isSquare 26 = .ok (.ifCond .eq 7, 3) := by decide +kernel
theorem dX11_isSquare_29 : decode cX11_isSquare 29 = .ok (.iconst 1, 1) := by decide +kernel
theorem dX11_isSquare_30 : decode cX11_isSquare 30 = .ok (.goto 4, 3) := by decide +kernel
theorem dX11_isSquare_33 : decode cX11_isSquare 33 = .ok (.iconst 0, 1) := by decide +kernel
theorem dX11_isSquare_34 : decode cX11_isSquare 34 = .ok (.ireturn, 1) := by decide +kernel
theorem dX11_isPlanSet_0 : decode cX11_isPlanSet 0 = .ok (.iload_n 1, 1) := by decide +kernel
theorem dX11_isPlanSet_1 : decode cX11_isPlanSet 1 = .ok (.ifCond .lt 25, 3) := by decide +kernel
theorem dX11_isPlanSet_4 : decode cX11_isPlanSet 4 = .ok (.iload_n 1, 1) := by decide +kernel
theorem dX11_isPlanSet_5 : decode cX11_isPlanSet 5 = .ok (.aload_n 0, 1) := by decide +kernel
theorem dX11_isPlanSet_6 : decode cX11_isPlanSet 6 = .ok (.getfield 73, 3) := by decide +kernel
theorem dX11_isPlanSet_9 : decode cX11_isPlanSet 9 = .ok (.ishr, 1) := by decide +kernel
theorem dX11_isPlanSet_10 : decode cX11_isPlanSet 10 = .ok (.ifCond .ne 16, 3) := by decide +kernel
theorem dX11_isPlanSet_13 : decode cX11_isPlanSet 13 = .ok (.iload_n 1, 1) := by decide +kernel
theorem dX11_isPlanSet_14 : decode cX11_isPlanSet 14 = .ok (.invokestatic 306, 3) := by decide +kernel
theorem dX11_isPlanSet_17 : decode cX11_isPlanSet 17 = .ok (.iconst 1, 1) := by decide +kernel
theorem dX11_isPlanSet_18 : decode cX11_isPlanSet 18 = .ok (.bipush 6, 2) := by decide +kernel
theorem dX11_isPlanSet_20 : decode cX11_isPlanSet 20 = .ok (.invokestatic 69, 3) := by decide +kernel
theorem dX11_isPlanSet_23 : decode cX11_isPlanSet 23 = .ok (.ifCond .ne 5, 3) := by decide +kernel
theorem dX11_isPlanSet_26 : decode cX11_isPlanSet 26 = .ok (.iconst 0, 1) := by decide +kernel
theorem dX11_isPlanSet_27 : decode cX11_isPlanSet 27 = .ok (.ireturn, 1) := by decide +kernel
theorem dX11_isPlanSet_28 : decode cX11_isPlanSet 28 = .ok (.iconst 0, 1) := by decide +kernel
theorem dX11_isPlanSet_29 : decode cX11_isPlanSet 29 = .ok (.istore_n 2, 1) := by decide +kernel
theorem dX11_isPlanSet_30 : decode cX11_isPlanSet 30 = .ok (.iload_n 2, 1) := by decide +kernel
theorem dX11_isPlanSet_31 : decode cX11_isPlanSet 31 = .ok (.aload_n 0, 1) := by decide +kernel
theorem dX11_isPlanSet_32 : decode cX11_isPlanSet 32 = .ok (.getfield 73, 3) := by decide +kernel
theorem dX11_isPlanSet_35 : decode cX11_isPlanSet 35 = .ok (.if_icmp .ge 38, 3) := by decide +kernel
theorem dX11_isPlanSet_38 : decode cX11_isPlanSet 38 = .ok (.aload_n 0, 1) := by decide +kernel
theorem dX11_isPlanSet_39 : decode cX11_isPlanSet 39 = .ok (.getfield 11, 3) := by decide +kernel
theorem dX11_isPlanSet_42 : decode cX11_isPlanSet 42 = .ok (.iload_n 2, 1) := by decide +kernel
theorem dX11_isPlanSet_43 : decode cX11_isPlanSet 43 = .ok (.aaload, 1) := by decide +kernel
theorem dX11_isPlanSet_44 : decode cX11_isPlanSet 44 = .ok (.astore_n 3, 1) := by decide +kernel
theorem dX11_isPlanSet_45 : decode cX11_isPlanSet 45 = .ok (.iload_n 1, 1) := by decide +kernel
theorem dX11_isPlanSet_46 : decode cX11_isPlanSet 46 = .ok (.iload_n 2, 1) := by decide +kernel
theorem dX11_isPlanSet_47 : decode cX11_isPlanSet 47 = .ok (.ishr, 1) := by decide +kernel
theorem dX11_isPlanSet_48 : decode cX11_isPlanSet 48 = .ok (.iconst 1, 1) := by decide +kernel
theorem dX11_isPlanSet_49 : decode cX11_isPlanSet 49 = .ok (.iand, 1) := by decide +kernel
theorem dX11_isPlanSet_50 : decode cX11_isPlanSet 50 = .ok (.iconst 1, 1) := by decide +kernel
theorem dX11_isPlanSet_51 : decode cX11_isPlanSet 51 = .ok (.if_icmp .ne 16, 3) := by decide +kernel
theorem dX11_isPlanSet_54 : decode cX11_isPlanSet 54 = .ok (.aload_n 3, 1) := by decide +kernel
theorem dX11_isPlanSet_55 : decode cX11_isPlanSet 55 = .ok (.ifnull 10, 3) := by decide +kernel
theorem dX11_isPlanSet_58 : decode cX11_isPlanSet 58 = .ok (.aload_n 3, 1) := by decide +kernel
theorem dX11_isPlanSet_59 : decode cX11_isPlanSet 59 = .ok (.getfield 151, 3) := by decide +kernel
theorem dX11_isPlanSet_62 : decode cX11_isPlanSet 62 = .ok (.ifCond .ne 5, 3) := by decide +kernel
theorem dX11_isPlanSet_65 : decode cX11_isPlanSet 65 = .ok (.iconst 0, 1) := by decide +kernel
theorem dX11_isPlanSet_66 : decode cX11_isPlanSet 66 = .ok (.ireturn, 1) := by decide +kernel
theorem dX11_isPlanSet_67 : decode cX11_isPlanSet 67 = .ok (.iinc 2 1, 3) := by decide +kernel
theorem dX11_isPlanSet_70 : decode cX11_isPlanSet 70 = .ok (.goto (-40), 3) := by decide +kernel
theorem dX11_isPlanSet_73 : decode cX11_isPlanSet 73 = .ok (.iconst 1, 1) := by decide +kernel
theorem dX11_isPlanSet_74 : decode cX11_isPlanSet 74 = .ok (.ireturn, 1) := by decide +kernel
theorem dX11_openNowAt_0 : decode cX11_openNowAt 0 = .ok (.iconst 0, 1) := by decide +kernel
theorem dX11_openNowAt_1 : decode cX11_openNowAt 1 = .ok (.istore_n 3, 1) := by decide +kernel
theorem dX11_openNowAt_2 : decode cX11_openNowAt 2 = .ok (.iload_n 3, 1) := by decide +kernel
theorem dX11_openNowAt_3 : decode cX11_openNowAt 3 = .ok (.aload_n 0, 1) := by decide +kernel
theorem dX11_openNowAt_4 : decode cX11_openNowAt 4 = .ok (.getfield 243, 3) := by decide +kernel
theorem dX11_openNowAt_7 : decode cX11_openNowAt 7 = .ok (.if_icmp .ge 42, 3) := by decide +kernel
theorem dX11_openNowAt_10 : decode cX11_openNowAt 10 = .ok (.aload_n 0, 1) := by decide +kernel
theorem dX11_openNowAt_11 : decode cX11_openNowAt 11 = .ok (.getfield 58, 3) := by decide +kernel
theorem dX11_openNowAt_14 : decode cX11_openNowAt 14 = .ok (.iload_n 3, 1) := by decide +kernel
theorem dX11_openNowAt_15 : decode cX11_openNowAt 15 = .ok (.aaload, 1) := by decide +kernel
theorem dX11_openNowAt_16 : decode cX11_openNowAt 16 = .ok (.astore 4, 2) := by decide +kernel
theorem dX11_openNowAt_18 : decode cX11_openNowAt 18 = .ok (.aload 4, 2) := by decide +kernel
theorem dX11_openNowAt_20 : decode cX11_openNowAt 20 = .ok (.ifnull 23, 3) := by decide +kernel
theorem dX11_openNowAt_23 : decode cX11_openNowAt 23 = .ok (.aload 4, 2) := by decide +kernel
theorem dX11_openNowAt_25 : decode cX11_openNowAt 25 = .ok (.iload_n 1, 1) := by decide +kernel
theorem dX11_openNowAt_26 : decode cX11_openNowAt 26 = .ok (.iload_n 2, 1) := by decide +kernel
theorem dX11_openNowAt_27 : decode cX11_openNowAt 27 = .ok (.invokevirtual 311, 3) := by decide +kernel
theorem dX11_openNowAt_30 : decode cX11_openNowAt 30 = .ok (.ifCond .eq 13, 3) := by decide +kernel
theorem dX11_openNowAt_33 : decode cX11_openNowAt 33 = .ok (.aload 4, 2) := by decide +kernel
theorem dX11_openNowAt_35 : decode cX11_openNowAt 35 = .ok (.invokevirtual 253, 3) := by decide +kernel
theorem dX11_openNowAt_38 : decode cX11_openNowAt 38 = .ok (.ifCond .eq 5, 3) := by decide +kernel
theorem dX11_openNowAt_41 : decode cX11_openNowAt 41 = .ok (.iload_n 3, 1) := by decide +kernel
theorem dX11_openNowAt_42 : decode cX11_openNowAt 42 = .ok (.ireturn, 1) := by decide +kernel
theorem dX11_openNowAt_43 : decode cX11_openNowAt 43 = .ok (.iinc 3 1, 3) := by decide +kernel
theorem dX11_openNowAt_46 : decode cX11_openNowAt 46 = .ok (.goto (-44), 3) := by decide +kernel
theorem dX11_openNowAt_49 : decode cX11_openNowAt 49 = .ok (.iconst (-1), 1) := by decide +kernel
theorem dX11_openNowAt_50 : decode cX11_openNowAt 50 = .ok (.ireturn, 1) := by decide +kernel
theorem dX11_lastPutBackAt_0 : decode cX11_lastPutBackAt 0 = .ok (.iconst (-1), 1) := by decide +kernel
theorem dX11_lastPutBackAt_1 : decode cX11_lastPutBackAt 1 = .ok (.istore_n 3, 1) := by decide +kernel
theorem dX11_lastPutBackAt_2 : decode cX11_lastPutBackAt 2 = .ok (.iconst (-1), 1) := by decide +kernel
theorem dX11_lastPutBackAt_3 : decode cX11_lastPutBackAt 3 = .ok (.istore 4, 2) := by decide +kernel
theorem dX11_lastPutBackAt_5 : decode cX11_lastPutBackAt 5 = .ok (.iconst 0, 1) := by decide +kernel
theorem dX11_lastPutBackAt_6 : decode cX11_lastPutBackAt 6 = .ok (.istore 5, 2) := by decide +kernel
theorem dX11_lastPutBackAt_8 : decode cX11_lastPutBackAt 8 = .ok (.iload 5, 2) := by decide +kernel
theorem dX11_lastPutBackAt_10 : decode cX11_lastPutBackAt 10 = .ok (.aload_n 0, 1) := by decide +kernel
theorem dX11_lastPutBackAt_11 : decode cX11_lastPutBackAt 11 = .ok (.getfield 243, 3) := by decide +kernel
theorem dX11_lastPutBackAt_14 : decode cX11_lastPutBackAt 14 = .ok (.if_icmp .ge 61, 3) := by decide +kernel
theorem dX11_lastPutBackAt_17 : decode cX11_lastPutBackAt 17 = .ok (.aload_n 0, 1) := by decide +kernel
theorem dX11_lastPutBackAt_18 : decode cX11_lastPutBackAt 18 = .ok (.getfield 58, 3) := by decide +kernel
theorem dX11_lastPutBackAt_21 : decode cX11_lastPutBackAt 21 = .ok (.iload 5, 2) := by decide +kernel
theorem dX11_lastPutBackAt_23 : decode cX11_lastPutBackAt 23 = .ok (.aaload, 1) := by decide +kernel
theorem dX11_lastPutBackAt_24 : decode cX11_lastPutBackAt 24 = .ok (.astore 6, 2) := by decide +kernel
theorem dX11_lastPutBackAt_26 : decode cX11_lastPutBackAt 26 = .ok (.aload 6, 2) := by decide +kernel
theorem dX11_lastPutBackAt_28 : decode cX11_lastPutBackAt 28 = .ok (.ifnull 41, 3) := by decide +kernel
theorem dX11_lastPutBackAt_31 : decode cX11_lastPutBackAt 31 = .ok (.aload 6, 2) := by decide +kernel
theorem dX11_lastPutBackAt_33 : decode cX11_lastPutBackAt 33 = .ok (.iload_n 1, 1) := by decide +kernel
theorem dX11_lastPutBackAt_34 : decode cX11_lastPutBackAt 34 = .ok (.iload_n 2, 1) := by decide +kernel
theorem dX11_lastPutBackAt_35 : decode cX11_lastPutBackAt 35 = .ok (.invokevirtual 311, 3) := by decide +kernel
theorem dX11_lastPutBackAt_38 : decode cX11_lastPutBackAt 38 = .ok (.ifCond .eq 31, 3) := by decide +kernel
theorem dX11_lastPutBackAt_41 : decode cX11_lastPutBackAt 41 = .ok (.aload 6, 2) := by decide +kernel
theorem dX11_lastPutBackAt_43 : decode cX11_lastPutBackAt 43 = .ok (.invokevirtual 253, 3) := by decide +kernel
theorem dX11_lastPutBackAt_46 : decode cX11_lastPutBackAt 46 = .ok (.ifCond .ne 23, 3) := by decide +kernel
theorem dX11_lastPutBackAt_49 : decode cX11_lastPutBackAt 49 = .ok (.aload 6, 2) := by decide +kernel
theorem dX11_lastPutBackAt_51 : decode cX11_lastPutBackAt 51 = .ok (.getfield 256, 3) := by decide +kernel
theorem dX11_lastPutBackAt_54 : decode cX11_lastPutBackAt 54 = .ok (.iload 4, 2) := by decide +kernel
theorem dX11_lastPutBackAt_56 : decode cX11_lastPutBackAt 56 = .ok (.if_icmp .lt 13, 3) := by decide +kernel
theorem dX11_lastPutBackAt_59 : decode cX11_lastPutBackAt 59 = .ok (.iload 5, 2) := by decide +kernel
theorem dX11_lastPutBackAt_61 : decode cX11_lastPutBackAt 61 = .ok (.istore_n 3, 1) := by decide +kernel
theorem dX11_lastPutBackAt_62 : decode cX11_lastPutBackAt 62 = .ok (.aload 6, 2) := by decide +kernel
theorem dX11_lastPutBackAt_64 : decode cX11_lastPutBackAt 64 = .ok (.getfield 256, 3) := by decide +kernel
theorem dX11_lastPutBackAt_67 : decode cX11_lastPutBackAt 67 = .ok (.istore 4, 2) := by decide +kernel
theorem dX11_lastPutBackAt_69 : decode cX11_lastPutBackAt 69 = .ok (.iinc 5 1, 3) := by decide +kernel
theorem dX11_lastPutBackAt_72 : decode cX11_lastPutBackAt 72 = .ok (.goto (-64), 3) := by decide +kernel
theorem dX11_lastPutBackAt_75 : decode cX11_lastPutBackAt 75 = .ok (.iload_n 3, 1) := by decide +kernel
theorem dX11_lastPutBackAt_76 : decode cX11_lastPutBackAt 76 = .ok (.ireturn, 1) := by decide +kernel
theorem dX11_countOpen_0 : decode cX11_countOpen 0 = .ok (.iconst 0, 1) := by decide +kernel
theorem dX11_countOpen_1 : decode cX11_countOpen 1 = .ok (.istore_n 2, 1) := by decide +kernel
theorem dX11_countOpen_2 : decode cX11_countOpen 2 = .ok (.iconst 0, 1) := by decide +kernel
theorem dX11_countOpen_3 : decode cX11_countOpen 3 = .ok (.istore_n 3, 1) := by decide +kernel
theorem dX11_countOpen_4 : decode cX11_countOpen 4 = .ok (.iload_n 3, 1) := by decide +kernel
theorem dX11_countOpen_5 : decode cX11_countOpen 5 = .ok (.aload_n 0, 1) := by decide +kernel
theorem dX11_countOpen_6 : decode cX11_countOpen 6 = .ok (.getfield 243, 3) := by decide +kernel
theorem dX11_countOpen_9 : decode cX11_countOpen 9 = .ok (.if_icmp .ge 42, 3) := by decide +kernel
theorem dX11_countOpen_12 : decode cX11_countOpen 12 = .ok (.aload_n 0, 1) := by decide +kernel
theorem dX11_countOpen_13 : decode cX11_countOpen 13 = .ok (.getfield 58, 3) := by decide +kernel
theorem dX11_countOpen_16 : decode cX11_countOpen 16 = .ok (.iload_n 3, 1) := by decide +kernel
theorem dX11_countOpen_17 : decode cX11_countOpen 17 = .ok (.aaload, 1) := by decide +kernel
theorem dX11_countOpen_18 : decode cX11_countOpen 18 = .ok (.astore 4, 2) := by decide +kernel
theorem dX11_countOpen_20 : decode cX11_countOpen 20 = .ok (.aload 4, 2) := by decide +kernel
theorem dX11_countOpen_22 : decode cX11_countOpen 22 = .ok (.ifnull 23, 3) := by decide +kernel
theorem dX11_countOpen_25 : decode cX11_countOpen 25 = .ok (.aload 4, 2) := by decide +kernel
theorem dX11_countOpen_27 : decode cX11_countOpen 27 = .ok (.getfield 262, 3) := by decide +kernel
theorem dX11_countOpen_30 : decode cX11_countOpen 30 = .ok (.iload_n 1, 1) := by decide +kernel
theorem dX11_countOpen_31 : decode cX11_countOpen 31 = .ok (.if_icmp .ne 14, 3) := by decide +kernel
theorem dX11_countOpen_34 : decode cX11_countOpen 34 = .ok (.aload 4, 2) := by decide +kernel
theorem dX11_countOpen_36 : decode cX11_countOpen 36 = .ok (.invokevirtual 253, 3) := by decide +kernel
theorem dX11_countOpen_39 : decode cX11_countOpen 39 = .ok (.ifCond .eq 6, 3) := by decide +kernel
theorem dX11_countOpen_42 : decode cX11_countOpen 42 = .ok (.iinc 2 1, 3) := by decide +kernel
theorem dX11_countOpen_45 : decode cX11_countOpen 45 = .ok (.iinc 3 1, 3) := by decide +kernel
theorem dX11_countOpen_48 : decode cX11_countOpen 48 = .ok (.goto (-44), 3) := by decide +kernel
theorem dX11_countOpen_51 : decode cX11_countOpen 51 = .ok (.iload_n 2, 1) := by decide +kernel
theorem dX11_countOpen_52 : decode cX11_countOpen 52 = .ok (.ireturn, 1) := by decide +kernel
theorem dX11_countAllOpen_0 : decode cX11_countAllOpen 0 = .ok (.iconst 0, 1) := by decide +kernel
theorem dX11_countAllOpen_1 : decode cX11_countAllOpen 1 = .ok (.istore_n 1, 1) := by decide +kernel
theorem dX11_countAllOpen_2 : decode cX11_countAllOpen 2 = .ok (.iconst 0, 1) := by decide +kernel
theorem dX11_countAllOpen_3 : decode cX11_countAllOpen 3 = .ok (.istore_n 2, 1) := by decide +kernel
theorem dX11_countAllOpen_4 : decode cX11_countAllOpen 4 = .ok (.iload_n 2, 1) := by decide +kernel
theorem dX11_countAllOpen_5 : decode cX11_countAllOpen 5 = .ok (.iconst 3, 1) := by decide +kernel
theorem dX11_countAllOpen_6 : decode cX11_countAllOpen 6 = .ok (.if_icmp .gt 17, 3) := by decide +kernel
theorem dX11_countAllOpen_9 : decode cX11_countAllOpen 9 = .ok (.iload_n 1, 1) := by decide +kernel
theorem dX11_countAllOpen_10 : decode cX11_countAllOpen 10 = .ok (.aload_n 0, 1) := by decide +kernel
theorem dX11_countAllOpen_11 : decode cX11_countAllOpen 11 = .ok (.iload_n 2, 1) := by decide +kernel
theorem dX11_countAllOpen_12 : decode cX11_countAllOpen 12 = .ok (.invokevirtual 265, 3) := by decide +kernel
theorem dX11_countAllOpen_15 : decode cX11_countAllOpen 15 = .ok (.iadd, 1) := by decide +kernel
theorem dX11_countAllOpen_16 : decode cX11_countAllOpen 16 = .ok (.istore_n 1, 1) := by decide +kernel
theorem dX11_countAllOpen_17 : decode cX11_countAllOpen 17 = .ok (.iinc 2 1, 3) := by decide +kernel
theorem dX11_countAllOpen_20 : decode cX11_countAllOpen 20 = .ok (.goto (-16), 3) := by decide +kernel
theorem dX11_countAllOpen_23 : decode cX11_countAllOpen 23 = .ok (.iload_n 1, 1) := by decide +kernel
theorem dX11_countAllOpen_24 : decode cX11_countAllOpen 24 = .ok (.ireturn, 1) := by decide +kernel
theorem dX12_init_0 : decode cX12_init 0 = .ok (.aload_n 0, 1) := by decide +kernel
theorem dX12_init_1 : decode cX12_init 1 = .ok (.invokespecial 1, 3) := by decide +kernel
theorem dX12_init_4 : decode cX12_init 4 = .ok (.aload_n 0, 1) := by decide +kernel
theorem dX12_init_5 : decode cX12_init 5 = .ok (.bipush 8, 2) := by decide +kernel
theorem dX12_init_7 : decode cX12_init 7 = .ok (.newarray .int, 2) := by decide +kernel
theorem dX12_init_9 : decode cX12_init 9 = .ok (.putfield 7, 3) := by decide +kernel
theorem dX12_init_12 : decode cX12_init 12 = .ok (.aload_n 0, 1) := by decide +kernel
theorem dX12_init_13 : decode cX12_init 13 = .ok (.bipush 8, 2) := by decide +kernel
theorem dX12_init_15 : decode cX12_init 15 = .ok (.newarray .int, 2) := by decide +kernel
theorem dX12_init_17 : decode cX12_init 17 = .ok (.putfield 13, 3) := by decide +kernel
theorem dX12_init_20 : decode cX12_init 20 = .ok (.aload_n 0, 1) := by decide +kernel
theorem dX12_init_21 : decode cX12_init 21 = .ok (.sipush 1152, 3) := by decide +kernel
theorem dX12_init_24 : decode cX12_init 24 = .ok (.newarray .int, 2) := by decide +kernel
theorem dX12_init_26 : decode cX12_init 26 = .ok (.putfield 16, 3) := by decide +kernel
theorem dX12_init_29 : decode cX12_init 29 = .ok (.aload_n 0, 1) := by decide +kernel
theorem dX12_init_30 : decode cX12_init 30 = .ok (.sipush 1152, 3) := by decide +kernel
theorem dX12_init_33 : decode cX12_init 33 = .ok (.newarray .boolean, 2) := by decide +kernel
theorem dX12_init_35 : decode cX12_init 35 = .ok (.putfield 19, 3) := by decide +kernel
theorem dX12_init_38 : decode cX12_init 38 = .ok (.aload_n 0, 1) := by decide +kernel
theorem dX12_init_39 : decode cX12_init 39 = .ok (.sipush 256, 3) := by decide +kernel
theorem dX12_init_42 : decode cX12_init 42 = .ok (.newarray .int, 2) := by decide +kernel
theorem dX12_init_44 : decode cX12_init 44 = .ok (.putfield 23, 3) := by decide +kernel
theorem dX12_init_47 : decode cX12_init 47 = .ok (.aload_n 0, 1) := by decide +kernel
theorem dX12_init_48 : decode cX12_init 48 = .ok (.iconst (-1), 1) := by decide +kernel
theorem dX12_init_49 : decode cX12_init 49 = .ok (.putfield 26, 3) := by decide +kernel
theorem dX12_init_52 : decode cX12_init 52 = .ok (.aload_n 0, 1) := by decide +kernel
theorem dX12_init_53 : decode cX12_init 53 = .ok (.iconst (-1), 1) := by decide +kernel
theorem dX12_init_54 : decode cX12_init 54 = .ok (.putfield 30, 3) := by decide +kernel
theorem dX12_init_57 : decode cX12_init 57 = .ok (.aload_n 0, 1) := by decide +kernel
theorem dX12_init_58 : decode cX12_init 58 = .ok (.bipush 9, 2) := by decide +kernel
theorem dX12_init_60 : decode cX12_init 60 = .ok (.newarray .int, 2) := by decide +kernel
theorem dX12_init_62 : decode cX12_init 62 = .ok (.putfield 33, 3) := by decide +kernel
theorem dX12_init_65 : decode cX12_init 65 = .ok (.aload_n 0, 1) := by decide +kernel
theorem dX12_init_66 : decode cX12_init 66 = .ok (.bipush 9, 2) := by decide +kernel
theorem dX12_init_68 : decode cX12_init 68 = .ok (.newarray .int, 2) := by decide +kernel
theorem dX12_init_70 : decode cX12_init 70 = .ok (.putfield 36, 3) := by decide +kernel
theorem dX12_init_73 : decode cX12_init 73 = .ok (.aload_n 0, 1) := by decide +kernel
theorem dX12_init_74 : decode cX12_init 74 = .ok (.sipush 900, 3) := by decide +kernel
theorem dX12_init_77 : decode cX12_init 77 = .ok (.newarray .int, 2) := by decide +kernel
theorem dX12_init_79 : decode cX12_init 79 = .ok (.putfield 39, 3) := by decide +kernel
theorem dX12_init_82 : decode cX12_init 82 = .ok (.aload_n 0, 1) := by decide +kernel
theorem dX12_init_83 : decode cX12_init 83 = .ok (.bipush 10, 2) := by decide +kernel
theorem dX12_init_85 : decode cX12_init 85 = .ok (.newarray .int, 2) := by decide +kernel
theorem dX12_init_87 : decode cX12_init 87 = .ok (.putfield 42, 3) := by decide +kernel
theorem dX12_init_90 : decode cX12_init 90 = .ok (.aload_n 0, 1) := by decide +kernel
theorem dX12_init_91 : decode cX12_init 91 = .ok (.bipush 10, 2) := by decide +kernel
theorem dX12_init_93 : decode cX12_init 93 = .ok (.newarray .int, 2) := by decide +kernel
theorem dX12_init_95 : decode cX12_init 95 = .ok (.putfield 45, 3) := by decide +kernel
theorem dX12_init_98 : decode cX12_init 98 = .ok (.aload_n 0, 1) := by decide +kernel
theorem dX12_init_99 : decode cX12_init 99 = .ok (.bipush 10, 2) := by decide +kernel
theorem dX12_init_101 : decode cX12_init 101 = .ok (.newarray .int, 2) := by decide +kernel
theorem dX12_init_103 : decode cX12_init 103 = .ok (.putfield 48, 3) := by decide +kernel
theorem dX12_init_106 : decode cX12_init 106 = .ok (.aload_n 0, 1) := by decide +kernel
theorem dX12_init_107 : decode cX12_init 107 = .ok (.sipush 610, 3) := by decide +kernel
theorem dX12_init_110 : decode cX12_init 110 = .ok (.newarray .int, 2) := by decide +kernel
theorem dX12_init_112 : decode cX12_init 112 = .ok (.putfield 51, 3) := by decide +kernel
theorem dX12_init_115 : decode cX12_init 115 = .ok (.aload_n 0, 1) := by decide +kernel
theorem dX12_init_116 : decode cX12_init 116 = .ok (.sipush 248, 3) := by decide +kernel
theorem dX12_init_119 : decode cX12_init 119 = .ok (.newarray .boolean, 2) := by decide +kernel
theorem dX12_init_121 : decode cX12_init 121 = .ok (.putfield 54, 3) := by decide +kernel
theorem dX12_init_124 : decode cX12_init 124 = .ok (.aload_n 0, 1) := by decide +kernel
theorem dX12_init_125 : decode cX12_init 125 = .ok (.sipush 248, 3) := by decide +kernel
theorem dX12_init_128 : decode cX12_init 128 = .ok (.newarray .int, 2) := by decide +kernel
theorem dX12_init_130 : decode cX12_init 130 = .ok (.putfield 57, 3) := by decide +kernel
theorem dX12_init_133 : decode cX12_init 133 = .ok (.aload_n 0, 1) := by decide +kernel
theorem dX12_init_134 : decode cX12_init 134 = .ok (.bipush 8, 2) := by decide +kernel
theorem dX12_init_136 : decode cX12_init 136 = .ok (.newarray .int, 2) := by decide +kernel
theorem dX12_init_138 : decode cX12_init 138 = .ok (.putfield 60, 3) := by decide +kernel
theorem dX12_init_141 : decode cX12_init 141 = .ok (.aload_n 0, 1) := by decide +kernel
theorem dX12_init_142 : decode cX12_init 142 = .ok (.bipush 8, 2) := by decide +kernel
theorem dX12_init_144 : decode cX12_init 144 = .ok (.newarray .int, 2) := by decide +kernel
theorem dX12_init_146 : decode cX12_init 146 = .ok (.putfield 63, 3) := by decide +kernel
theorem dX12_init_149 : decode cX12_init 149 = .ok (.aload_n 0, 1) := by decide +kernel
theorem dX12_init_150 : decode cX12_init 150 = .ok (.bipush 8, 2) := by decide +kernel
theorem dX12_init_152 : decode cX12_init 152 = .ok (.newarray .int, 2) := by decide +kernel
theorem dX12_init_154 : decode cX12_init 154 = .ok (.putfield 66, 3) := by decide +kernel
theorem dX12_init_157 : decode cX12_init 157 = .ok (.aload_n 0, 1) := by decide +kernel
theorem dX12_init_158 : decode cX12_init 158 = .ok (.bipush 8, 2) := by decide +kernel
theorem dX12_init_160 : decode cX12_init 160 = .ok (.newarray .int, 2) := by decide +kernel
theorem dX12_init_162 : decode cX12_init 162 = .ok (.putfield 69, 3) := by decide +kernel
theorem dX12_init_165 : decode cX12_init 165 = .ok (.aload_n 0, 1) := by decide +kernel
theorem dX12_init_166 : decode cX12_init 166 = .ok (.bipush 8, 2) := by decide +kernel
theorem dX12_init_168 : decode cX12_init 168 = .ok (.newarray .int, 2) := by decide +kernel
theorem dX12_init_170 : decode cX12_init 170 = .ok (.putfield 72, 3) := by decide +kernel
theorem dX12_init_173 : decode cX12_init 173 = .ok (.aload_n 0, 1) := by decide +kernel
theorem dX12_init_174 : decode cX12_init 174 = .ok (.bipush 8, 2) := by decide +kernel
theorem dX12_init_176 : decode cX12_init 176 = .ok (.newarray .int, 2) := by decide +kernel
theorem dX12_init_178 : decode cX12_init 178 = .ok (.putfield 75, 3) := by decide +kernel
theorem dX12_init_181 : decode cX12_init 181 = .ok (.aload_n 0, 1) := by decide +kernel
theorem dX12_init_182 : decode cX12_init 182 = .ok (.iconst 3, 1) := by decide +kernel
theorem dX12_init_183 : decode cX12_init 183 = .ok (.newarray .int, 2) := by decide +kernel
theorem dX12_init_185 : decode cX12_init 185 = .ok (.putfield 78, 3) := by decide +kernel
theorem dX12_init_188 : decode cX12_init 188 = .ok (.aload_n 0, 1) := by decide +kernel
theorem dX12_init_189 : decode cX12_init 189 = .ok (.iconst 3, 1) := by decide +kernel
theorem dX12_init_190 : decode cX12_init 190 = .ok (.newarray .int, 2) := by decide +kernel
theorem dX12_init_192 : decode cX12_init 192 = .ok (.putfield 81, 3) := by decide +kernel
theorem dX12_init_195 : decode cX12_init 195 = .ok (.aload_n 0, 1) := by decide +kernel
theorem dX12_init_196 : decode cX12_init 196 = .ok (.bipush 60, 2) := by decide +kernel
theorem dX12_init_198 : decode cX12_init 198 = .ok (.newarray .int, 2) := by decide +kernel
theorem dX12_init_200 : decode cX12_init 200 = .ok (.putfield 84, 3) := by decide +kernel
theorem dX12_init_203 : decode cX12_init 203 = .ok (.aload_n 0, 1) := by decide +kernel
theorem dX12_init_204 : decode cX12_init 204 = .ok (.bipush 60, 2) := by decide +kernel
theorem dX12_init_206 : decode cX12_init 206 = .ok (.newarray .int, 2) := by decide +kernel
theorem dX12_init_208 : decode cX12_init 208 = .ok (.putfield 87, 3) := by decide +kernel
theorem dX12_init_211 : decode cX12_init 211 = .ok (.aload_n 0, 1) := by decide +kernel
theorem dX12_init_212 : decode cX12_init 212 = .ok (.bipush 60, 2) := by decide +kernel
theorem dX12_init_214 : decode cX12_init 214 = .ok (.newarray .int, 2) := by decide +kernel
theorem dX12_init_216 : decode cX12_init 216 = .ok (.putfield 90, 3) := by decide +kernel
theorem dX12_init_219 : decode cX12_init 219 = .ok (.aload_n 0, 1) := by decide +kernel
theorem dX12_init_220 : decode cX12_init 220 = .ok (.bipush 60, 2) := by decide +kernel
theorem dX12_init_222 : decode cX12_init 222 = .ok (.newarray .int, 2) := by decide +kernel
theorem dX12_init_224 : decode cX12_init 224 = .ok (.putfield 93, 3) := by decide +kernel
theorem dX12_init_227 : decode cX12_init 227 = .ok (.aload_n 0, 1) := by decide +kernel
theorem dX12_init_228 : decode cX12_init 228 = .ok (.bipush 60, 2) := by decide +kernel
theorem dX12_init_230 : decode cX12_init 230 = .ok (.newarray .int, 2) := by decide +kernel
theorem dX12_init_232 : decode cX12_init 232 = .ok (.putfield 96, 3) := by decide +kernel
theorem dX12_init_235 : decode cX12_init 235 = .ok (.aload_n 0, 1) := by decide +kernel
theorem dX12_init_236 : decode cX12_init 236 = .ok (.sipush 160, 3) := by decide +kernel
theorem dX12_init_239 : decode cX12_init 239 = .ok (.newarray .byte, 2) := by decide +kernel
theorem dX12_init_241 : decode cX12_init 241 = .ok (.putfield 99, 3) := by decide +kernel
theorem dX12_init_244 : decode cX12_init 244 = .ok (.aload_n 0, 1) := by decide +kernel
theorem dX12_init_245 : decode cX12_init 245 = .ok (.bipush 20, 2) := by decide +kernel
theorem dX12_init_247 : decode cX12_init 247 = .ok (.newarray .int, 2) := by decide +kernel
theorem dX12_init_249 : decode cX12_init 249 = .ok (.putfield 103, 3) := by decide +kernel
theorem dX12_init_252 : decode cX12_init 252 = .ok (.aload_n 0, 1) := by decide +kernel
theorem dX12_init_253 : decode cX12_init 253 = .ok (.bipush 20, 2) := by decide +kernel
theorem dX12_init_255 : decode cX12_init 255 = .ok (.newarray .int, 2) := by decide +kernel
theorem dX12_init_257 : decode cX12_init 257 = .ok (.putfield 106, 3) := by decide +kernel
theorem dX12_init_260 : decode cX12_init 260 = .ok (.aload_n 0, 1) := by decide +kernel
theorem dX12_init_261 : decode cX12_init 261 = .ok (.bipush 20, 2) := by decide +kernel
theorem dX12_init_263 : decode cX12_init 263 = .ok (.newarray .int, 2) := by decide +kernel
theorem dX12_init_265 : decode cX12_init 265 = .ok (.putfield 109, 3) := by decide +kernel
theorem dX12_init_268 : decode cX12_init 268 = .ok (.aload_n 0, 1) := by decide +kernel
theorem dX12_init_269 : decode cX12_init 269 = .ok (.bipush 20, 2) := by decide +kernel
theorem dX12_init_271 : decode cX12_init 271 = .ok (.newarray .int, 2) := by decide +kernel
theorem dX12_init_273 : decode cX12_init 273 = .ok (.putfield 112, 3) := by decide +kernel
theorem dX12_init_276 : decode cX12_init 276 = .ok (.aload_n 0, 1) := by decide +kernel
theorem dX12_init_277 : decode cX12_init 277 = .ok (.sipush 3400, 3) := by decide +kernel
theorem dX12_init_280 : decode cX12_init 280 = .ok (.newarray .int, 2) := by decide +kernel
theorem dX12_init_282 : decode cX12_init 282 = .ok (.putfield 115, 3) := by decide +kernel
theorem dX12_init_285 : decode cX12_init 285 = .ok (.aload_n 0, 1) := by decide +kernel
theorem dX12_init_286 : decode cX12_init 286 = .ok (.sipush 3400, 3) := by decide +kernel
theorem dX12_init_289 : decode cX12_init 289 = .ok (.newarray .int, 2) := by decide +kernel
theorem dX12_init_291 : decode cX12_init 291 = .ok (.putfield 118, 3) := by decide +kernel
theorem dX12_init_294 : decode cX12_init 294 = .ok (.aload_n 0, 1) := by decide +kernel
theorem dX12_init_295 : decode cX12_init 295 = .ok (.sipush 170, 3) := by decide +kernel
theorem dX12_init_298 : decode cX12_init 298 = .ok (.newarray .int, 2) := by decide +kernel
theorem dX12_init_300 : decode cX12_init 300 = .ok (.putfield 121, 3) := by decide +kernel
theorem dX12_init_303 : decode cX12_init 303 = .ok (.aload_n 0, 1) := by decide +kernel
theorem dX12_init_304 : decode cX12_init 304 = .ok (.sipush 128, 3) := by decide +kernel
theorem dX12_init_307 : decode cX12_init 307 = .ok (.newarray .int, 2) := by decide +kernel
theorem dX12_init_309 : decode cX12_init 309 = .ok (.putfield 124, 3) := by decide +kernel
theorem dX12_init_312 : decode cX12_init 312 = .ok (.aload_n 0, 1) := by decide +kernel
theorem dX12_init_313 : decode cX12_init 313 = .ok (.sipush 170, 3) := by decide +kernel
theorem dX12_init_316 : decode cX12_init 316 = .ok (.newarray .int, 2) := by decide +kernel
theorem dX12_init_318 : decode cX12_init 318 = .ok (.putfield 127, 3) := by decide +kernel
theorem dX12_init_321 : decode cX12_init 321 = .ok (.aload_n 0, 1) := by decide +kernel
theorem dX12_init_322 : decode cX12_init 322 = .ok (.sipush 200, 3) := by decide +kernel
theorem dX12_init_325 : decode cX12_init 325 = .ok (.newarray .int, 2) := by decide +kernel
theorem dX12_init_327 : decode cX12_init 327 = .ok (.putfield 130, 3) := by decide +kernel
theorem dX12_init_330 : decode cX12_init 330 = .ok (.aload_n 0, 1) := by decide +kernel
theorem dX12_init_331 : decode cX12_init 331 = .ok (.sipush 200, 3) := by decide +kernel
theorem dX12_init_334 : decode cX12_init 334 = .ok (.newarray .int, 2) := by decide +kernel
theorem dX12_init_336 : decode cX12_init 336 = .ok (.putfield 133, 3) := by decide +kernel
theorem dX12_init_339 : decode cX12_init 339 = .ok (.aload_n 0, 1) := by decide +kernel
theorem dX12_init_340 : decode cX12_init 340 = .ok (.sipush 200, 3) := by decide +kernel
theorem dX12_init_343 : decode cX12_init 343 = .ok (.newarray .int, 2) := by decide +kernel
theorem dX12_init_345 : decode cX12_init 345 = .ok (.putfield 136, 3) := by decide +kernel
theorem dX12_init_348 : decode cX12_init 348 = .ok (.aload_n 0, 1) := by decide +kernel
theorem dX12_init_349 : decode cX12_init 349 = .ok (.sipush 200, 3) := by decide +kernel
theorem dX12_init_352 : decode cX12_init 352 = .ok (.newarray .int, 2) := by decide +kernel
theorem dX12_init_354 : decode cX12_init 354 = .ok (.putfield 139, 3) := by decide +kernel
theorem dX12_init_357 : decode cX12_init 357 = .ok (.aload_n 0, 1) := by decide +kernel
theorem dX12_init_358 : decode cX12_init 358 = .ok (.sipush 200, 3) := by decide +kernel
theorem dX12_init_361 : decode cX12_init 361 = .ok (.newarray .int, 2) := by decide +kernel
theorem dX12_init_363 : decode cX12_init 363 = .ok (.putfield 142, 3) := by decide +kernel
theorem dX12_init_366 : decode cX12_init 366 = .ok (.aload_n 0, 1) := by decide +kernel
theorem dX12_init_367 : decode cX12_init 367 = .ok (.sipush 200, 3) := by decide +kernel
theorem dX12_init_370 : decode cX12_init 370 = .ok (.newarray .int, 2) := by decide +kernel
theorem dX12_init_372 : decode cX12_init 372 = .ok (.putfield 145, 3) := by decide +kernel
theorem dX12_init_375 : decode cX12_init 375 = .ok (.aload_n 0, 1) := by decide +kernel
theorem dX12_init_376 : decode cX12_init 376 = .ok (.bipush 40, 2) := by decide +kernel
theorem dX12_init_378 : decode cX12_init 378 = .ok (.newarray .int, 2) := by decide +kernel
theorem dX12_init_380 : decode cX12_init 380 = .ok (.putfield 148, 3) := by decide +kernel
theorem dX12_init_383 : decode cX12_init 383 = .ok (.aload_n 0, 1) := by decide +kernel
theorem dX12_init_384 : decode cX12_init 384 = .ok (.bipush 40, 2) := by decide +kernel
theorem dX12_init_386 : decode cX12_init 386 = .ok (.newarray .boolean, 2) := by decide +kernel
theorem dX12_init_388 : decode cX12_init 388 = .ok (.putfield 151, 3) := by decide +kernel
theorem dX12_init_391 : decode cX12_init 391 = .ok (.aload_n 0, 1) := by decide +kernel
theorem dX12_init_392 : decode cX12_init 392 = .ok (.sipush 1681, 3) := by decide +kernel
theorem dX12_init_395 : decode cX12_init 395 = .ok (.newarray .long, 2) := by decide +kernel
theorem dX12_init_397 : decode cX12_init 397 = .ok (.putfield 154, 3) := by decide +kernel
theorem dX12_init_400 : decode cX12_init 400 = .ok (.return_, 1) := by decide +kernel
theorem dX12_in_0 : decode cX12_in 0 = .ok (.iload_n 0, 1) := by decide +kernel
theorem dX12_in_1 : decode cX12_in 1 = .ok (.iload_n 1, 1) := by decide +kernel
theorem dX12_in_2 : decode cX12_in 2 = .ok (.if_icmp .lt 12, 3) := by decide +kernel
theorem dX12_in_5 : decode cX12_in 5 = .ok (.iload_n 0, 1) := by decide +kernel
theorem dX12_in_6 : decode cX12_in 6 = .ok (.iload_n 2, 1) := by decide +kernel
theorem dX12_in_7 : decode cX12_in 7 = .ok (.if_icmp .gt 7, 3) := by decide +kernel
theorem dX12_in_10 : decode cX12_in 10 = .ok (.iconst 1, 1) := by decide +kernel
theorem dX12_in_11 : decode cX12_in 11 = .ok (.goto 4, 3) := by decide +kernel
theorem dX12_in_14 : decode cX12_in 14 = .ok (.iconst 0, 1) := by decide +kernel
theorem dX12_in_15 : decode cX12_in 15 = .ok (.ireturn, 1) := by decide +kernel
theorem dX12_size_0 : decode cX12_size 0 = .ok (.iload_n 0, 1) := by decide +kernel
theorem dX12_size_1 : decode cX12_size 1 = .ok (.ifCond .ge 8, 3) := by decide +kernel
theorem dX12_size_4 : decode cX12_size 4 = .ok (.iload_n 0, 1) := by decide +kernel
theorem dX12_size_5 : decode cX12_size 5 = .ok (.ineg, 1) := by decide +kernel
theorem dX12_size_6 : decode cX12_size 6 = .ok (.goto 4, 3) := by decide +kernel
theorem dX12_size_9 : decode cX12_size 9 = .ok (.iload_n 0, 1) := by decide +kernel
theorem dX12_size_10 : decode cX12_size 10 = .ok (.ireturn, 1) := by decide +kernel
theorem dX12_isStreet_0 : decode cX12_isStreet 0 = .ok (.iload_n 1, 1) := by decide +kernel
theorem dX12_isStreet_1 : decode cX12_isStreet 1 = .ok (.iconst 0, 1) := by decide +kernel
theorem dX12_isStreet_2 : decode cX12_isStreet 2 = .ok (.aload_n 0, 1) := by decide +kernel
theorem dX12_isStreet_3 : decode cX12_isStreet 3 = .ok (.getfield 161, 3) := by decide +kernel
theorem dX12_isStreet_6 : decode cX12_isStreet 6 = .ok (.iconst 1, 1) := by decide +kernel
theorem dX12_isStreet_7 : decode cX12_isStreet 7 = .ok (.isub, 1) := by decide +kernel
theorem dX12_isStreet_8 : decode cX12_isStreet 8 = .ok (.invokestatic 164, 3) := by decide +kernel
theorem dX12_isStreet_11 : decode cX12_isStreet 11 = .ok (.ireturn, 1) := by decide +kernel
theorem dX12_isSquare_0 : decode cX12_isSquare 0 = .ok (.aload_n 0, 1) := by decide +kernel
theorem dX12_isSquare_1 : decode cX12_isSquare 1 = .ok (.iload_n 1, 1) := by decide +kernel
theorem dX12_isSquare_2 : decode cX12_isSquare 2 = .ok (.invokevirtual 168, 3) := by decide +kernel
theorem dX12_isSquare_5 : decode cX12_isSquare 5 = .ok (.ifCond .eq 39, 3) := by decide +kernel
theorem dX12_isSquare_8 : decode cX12_isSquare 8 = .ok (.iload_n 2, 1) := by decide +kernel
theorem dX12_isSquare_9 : decode cX12_isSquare 9 = .ok (.iconst 0, 1) := by decide +kernel
theorem dX12_isSquare_10 : decode cX12_isSquare 10 = .ok (.aload_n 0, 1) := by decide +kernel
theorem dX12_isSquare_11 : decode cX12_isSquare 11 = .ok (.getfield 7, 3) := by decide +kernel
theorem dX12_isSquare_14 : decode cX12_isSquare 14 = .ok (.iload_n 1, 1) := by decide +kernel
theorem dX12_isSquare_15 : decode cX12_isSquare 15 = .ok (.iaload, 1) := by decide +kernel
theorem dX12_isSquare_16 : decode cX12_isSquare 16 = .ok (.iconst 1, 1) := by decide +kernel
theorem dX12_isSquare_17 : decode cX12_isSquare 17 = .ok (.isub, 1) := by decide +kernel
theorem dX12_isSquare_18 : decode cX12_isSquare 18 = .ok (.invokestatic 164, 3) := by decide +kernel
theorem dX12_isSquare_21 : decode cX12_isSquare 21 = .ok (.ifCond .eq 23, 3) := by decide +kernel
theorem dX12_isSquare_24 : decode cX12_isSquare 24 = .ok (.iload_n 3, 1) := by decide +kernel
theorem dX12_isSquare_25 : decode cX12_isSquare 25 = .ok (.iconst 0, 1) := by decide +kernel
theorem dX12_isSquare_26 : decode cX12_isSquare 26 = .ok (.aload_n 0, 1) := by decide +kernel
theorem dX12_isSquare_27 : decode cX12_isSquare 27 = .ok (.getfield 13, 3) := by decide +kernel
theorem dX12_isSquare_30 : decode cX12_isSquare 30 = .ok (.iload_n 1, 1) := by decide +kernel
theorem dX12_isSquare_31 : decode cX12_isSquare 31 = .ok (.iaload, 1) := by decide +kernel
theorem dX12_isSquare_32 : decode cX12_isSquare 32 = .ok (.iconst 1, 1) := by decide +kernel
theorem dX12_isSquare_33 : decode cX12_isSquare 33 = .ok (.isub, 1) := by decide +kernel
theorem dX12_isSquare_34 : decode cX12_isSquare 34 = .ok (.invokestatic 164, 3) := by decide +kernel
theorem dX12_isSquare_37 : decode cX12_isSquare 37 = .ok (.ifCond .eq 7, 3) := by decide +kernel
theorem dX12_isSquare_40 : decode cX12_isSquare 40 = .ok (.iconst 1, 1) := by decide +kernel
theorem dX12_isSquare_41 : decode cX12_isSquare 41 = .ok (.goto 4, 3) := by decide +kernel
theorem dX12_isSquare_44 : decode cX12_isSquare 44 = .ok (.iconst 0, 1) := by decide +kernel
theorem dX12_isSquare_45 : decode cX12_isSquare 45 = .ok (.ireturn, 1) := by decide +kernel
theorem dX12_place_0 : decode cX12_place 0 = .ok (.sipush 144, 3) := by decide +kernel
theorem dX12_place_3 : decode cX12_place 3 = .ok (.iload_n 0, 1) := by decide +kernel
theorem dX12_place_4 : decode cX12_place 4 = .ok (.imul, 1) := by decide +kernel
theorem dX12_place_5 : decode cX12_place 5 = .ok (.bipush 9, 2) := by decide +kernel
theorem dX12_place_7 : decode cX12_place 7 = .ok (.iload_n 1, 1) := by decide +kernel
theorem dX12_place_8 : decode cX12_place 8 = .ok (.imul, 1) := by decide +kernel
theorem dX12_place_9 : decode cX12_place 9 = .ok (.iadd, 1) := by decide +kernel
theorem dX12_place_10 : decode cX12_place 10 = .ok (.iload_n 2, 1) := by decide +kernel
theorem dX12_place_11 : decode cX12_place 11 = .ok (.iadd, 1) := by decide +kernel
theorem dX12_place_12 : decode cX12_place 12 = .ok (.ireturn, 1) := by decide +kernel
theorem dX12_street_0 : decode cX12_street 0 = .ok (.iload_n 1, 1) := by decide +kernel
theorem dX12_street_1 : decode cX12_street 1 = .ok (.iconst 1, 1) := by decide +kernel
theorem dX12_street_2 : decode cX12_street 2 = .ok (.bipush 16, 2) := by decide +kernel
theorem dX12_street_4 : decode cX12_street 4 = .ok (.invokestatic 164, 3) := by decide +kernel
theorem dX12_street_7 : decode cX12_street 7 = .ok (.ifCond .eq 23, 3) := by decide +kernel
theorem dX12_street_10 : decode cX12_street 10 = .ok (.iload_n 2, 1) := by decide +kernel
theorem dX12_street_11 : decode cX12_street 11 = .ok (.iconst 1, 1) := by decide +kernel
theorem dX12_street_12 : decode cX12_street 12 = .ok (.bipush 9, 2) := by decide +kernel
theorem dX12_street_14 : decode cX12_street 14 = .ok (.invokestatic 164, 3) := by decide +kernel
theorem dX12_street_17 : decode cX12_street 17 = .ok (.ifCond .eq 13, 3) := by decide +kernel
theorem dX12_street_20 : decode cX12_street 20 = .ok (.iload_n 3, 1) := by decide +kernel
theorem dX12_street_21 : decode cX12_street 21 = .ok (.iconst 0, 1) := by decide +kernel
theorem dX12_street_22 : decode cX12_street 22 = .ok (.bipush 99, 2) := by decide +kernel
theorem dX12_street_24 : decode cX12_street 24 = .ok (.invokestatic 164, 3) := by decide +kernel
theorem dX12_street_27 : decode cX12_street 27 = .ok (.ifCond .ne 5, 3) := by decide +kernel
theorem dX12_street_30 : decode cX12_street 30 = .ok (.iconst (-1), 1) := by decide +kernel
theorem dX12_street_31 : decode cX12_street 31 = .ok (.ireturn, 1) := by decide +kernel
theorem dX12_street_32 : decode cX12_street 32 = .ok (.aload_n 0, 1) := by decide +kernel
theorem dX12_street_33 : decode cX12_street 33 = .ok (.getfield 161, 3) := by decide +kernel
theorem dX12_street_36 : decode cX12_street 36 = .ok (.bipush 8, 2) := by decide +kernel
theorem dX12_street_38 : decode cX12_street 38 = .ok (.if_icmp .ne 6, 3) := by decide +kernel
theorem dX12_street_41 : decode cX12_street 41 = .ok (.bipush (-3), 2) := by decide +kernel
theorem dX12_street_43 : decode cX12_street 43 = .ok (.ireturn, 1) := by decide +kernel
theorem dX12_street_44 : decode cX12_street 44 = .ok (.aload_n 0, 1) := by decide +kernel
theorem dX12_street_45 : decode cX12_street 45 = .ok (.getfield 7, 3) := by decide +kernel
theorem dX12_street_48 : decode cX12_street 48 = .ok (.aload_n 0, 1) := by decide +kernel
theorem dX12_street_49 : decode cX12_street 49 = .ok (.getfield 161, 3) := by decide +kernel
theorem dX12_street_52 : decode cX12_street 52 = .ok (.iload_n 1, 1) := by decide +kernel
theorem dX12_street_53 : decode cX12_street 53 = .ok (.iastore, 1) := by decide +kernel
theorem dX12_street_54 : decode cX12_street 54 = .ok (.aload_n 0, 1) := by decide +kernel
theorem dX12_street_55 : decode cX12_street 55 = .ok (.getfield 13, 3) := by decide +kernel
theorem dX12_street_58 : decode cX12_street 58 = .ok (.aload_n 0, 1) := by decide +kernel
theorem dX12_street_59 : decode cX12_street 59 = .ok (.getfield 161, 3) := by decide +kernel
theorem dX12_street_62 : decode cX12_street 62 = .ok (.iload_n 2, 1) := by decide +kernel
theorem dX12_street_63 : decode cX12_street 63 = .ok (.iastore, 1) := by decide +kernel
theorem dX12_street_64 : decode cX12_street 64 = .ok (.iconst 0, 1) := by decide +kernel
theorem dX12_street_65 : decode cX12_street 65 = .ok (.istore 4, 2) := by decide +kernel
theorem dX12_street_67 : decode cX12_street 67 = .ok (.iload 4, 2) := by decide +kernel
theorem dX12_street_69 : decode cX12_street 69 = .ok (.sipush 144, 3) := by decide +kernel
theorem dX12_street_72 : decode cX12_street 72 = .ok (.if_icmp .ge 26, 3) := by decide +kernel
theorem dX12_street_75 : decode cX12_street 75 = .ok (.aload_n 0, 1) := by decide +kernel
theorem dX12_street_76 : decode cX12_street 76 = .ok (.getfield 16, 3) := by decide +kernel
theorem dX12_street_79 : decode cX12_street 79 = .ok (.sipush 144, 3) := by decide +kernel
theorem dX12_street_82 : decode cX12_street 82 = .ok (.aload_n 0, 1) := by decide +kernel
theorem dX12_street_83 : decode cX12_street 83 = .ok (.getfield 161, 3) := by decide +kernel
theorem dX12_street_86 : decode cX12_street 86 = .ok (.imul, 1) := by decide +kernel
theorem dX12_street_87 : decode cX12_street 87 = .ok (.iload 4, 2) := by decide +kernel
theorem dX12_street_89 : decode cX12_street 89 = .ok (.iadd, 1) := by decide +kernel
theorem dX12_street_90 : decode cX12_street 90 = .ok (.iload_n 3, 1) := by decide +kernel
theorem dX12_street_91 : decode cX12_street 91 = .ok (.iastore, 1) := by decide +kernel
theorem dX12_street_92 : decode cX12_street 92 = .ok (.iinc 4 1, 3) := by decide +kernel
theorem dX12_street_95 : decode cX12_street 95 = .ok (.goto (-28), 3) := by decide +kernel
theorem dX12_street_98 : decode cX12_street 98 = .ok (.aload_n 0, 1) := by decide +kernel
theorem dX12_street_99 : decode cX12_street 99 = .ok (.dup, 1) := by decide +kernel
theorem dX12_street_100 : decode cX12_street 100 = .ok (.getfield 161, 3) := by decide +kernel
theorem dX12_street_103 : decode cX12_street 103 = .ok (.iconst 1, 1) := by decide +kernel
theorem dX12_street_104 : decode cX12_street 104 = .ok (.iadd, 1) := by decide +kernel
theorem dX12_street_105 : decode cX12_street 105 = .ok (.putfield 161, 3) := by decide +kernel
theorem dX12_street_108 : decode cX12_street 108 = .ok (.aload_n 0, 1) := by decide +kernel
theorem dX12_street_109 : decode cX12_street 109 = .ok (.getfield 161, 3) := by decide +kernel
theorem dX12_street_112 : decode cX12_street 112 = .ok (.iconst 1, 1) := by decide +kernel
theorem dX12_street_113 : decode cX12_street 113 = .ok (.isub, 1) := by decide +kernel
theorem dX12_street_114 : decode cX12_street 114 = .ok (.ireturn, 1) := by decide +kernel
theorem dX12_height_0 : decode cX12_height 0 = .ok (.aload_n 0, 1) := by decide +kernel
theorem dX12_height_1 : decode cX12_height 1 = .ok (.iload_n 1, 1) := by decide +kernel
theorem dX12_height_2 : decode cX12_height 2 = .ok (.iload_n 2, 1) := by decide +kernel
theorem dX12_height_3 : decode cX12_height 3 = .ok (.iload_n 3, 1) := by decide +kernel
theorem dX12_height_4 : decode cX12_height 4 = .ok (.invokevirtual 172, 3) := by decide +kernel
theorem dX12_height_7 : decode cX12_height 7 = .ok (.ifCond .eq 14, 3) := by decide +kernel
theorem dX12_height_10 : decode cX12_height 10 = .ok (.iload 4, 2) := by decide +kernel
theorem dX12_height_12 : decode cX12_height 12 = .ok (.iconst 0, 1) := by decide +kernel
theorem dX12_height_13 : decode cX12_height 13 = .ok (.bipush 99, 2) := by decide +kernel
theorem dX12_height_15 : decode cX12_height 15 = .ok (.invokestatic 164, 3) := by decide +kernel
theorem dX12_height_18 : decode cX12_height 18 = .ok (.ifCond .ne 5, 3) := by decide +kernel
theorem dX12_height_21 : decode cX12_height 21 = .ok (.iconst (-1), 1) := by decide +kernel
theorem dX12_height_22 : decode cX12_height 22 = .ok (.ireturn, 1) := by decide +kernel
theorem dX12_height_23 : decode cX12_height 23 = .ok (.aload_n 0, 1) := by decide +kernel
theorem dX12_height_24 : decode cX12_height 24 = .ok (.getfield 16, 3) := by decide +kernel
theorem dX12_height_27 : decode cX12_height 27 = .ok (.iload_n 1, 1) := by decide +kernel
theorem dX12_height_28 : decode cX12_height 28 = .ok (.iload_n 2, 1) := by decide +kernel
theorem dX12_height_29 : decode cX12_height 29 = .ok (.iload_n 3, 1) := by decide +kernel
theorem dX12_height_30 : decode cX12_height 30 = .ok (.invokestatic 175, 3) := by decide +kernel
theorem dX12_height_33 : decode cX12_height 33 = .ok (.iaload, 1) := by decide +kernel
theorem dX12_height_34 : decode cX12_height 34 = .ok (.istore 5, 2) := by decide +kernel
theorem dX12_height_36 : decode cX12_height 36 = .ok (.aload_n 0, 1) := by decide +kernel
theorem dX12_height_37 : decode cX12_height 37 = .ok (.getfield 16, 3) := by decide +kernel
theorem dX12_height_40 : decode cX12_height 40 = .ok (.iload_n 1, 1) := by decide +kernel
theorem dX12_height_41 : decode cX12_height 41 = .ok (.iload_n 2, 1) := by decide +kernel
theorem dX12_height_42 : decode cX12_height 42 = .ok (.iload_n 3, 1) := by decide +kernel
theorem dX12_height_43 : decode cX12_height 43 = .ok (.invokestatic 175, 3) := by decide +kernel
theorem dX12_height_46 : decode cX12_height 46 = .ok (.iload 4, 2) := by decide +kernel
theorem dX12_height_48 : decode cX12_height 48 = .ok (.iastore, 1) := by decide +kernel
theorem dX12_height_49 : decode cX12_height 49 = .ok (.iload 5, 2) := by decide +kernel
theorem dX12_height_51 : decode cX12_height 51 = .ok (.ireturn, 1) := by decide +kernel
theorem dX12_read_0 : decode cX12_read 0 = .ok (.aload_n 0, 1) := by decide +kernel
theorem dX12_read_1 : decode cX12_read 1 = .ok (.iload_n 1, 1) := by decide +kernel
theorem dX12_read_2 : decode cX12_read 2 = .ok (.iload_n 2, 1) := by decide +kernel
theorem dX12_read_3 : decode cX12_read 3 = .ok (.iload_n 3, 1) := by decide +kernel
theorem dX12_read_4 : decode cX12_read 4 = .ok (.invokevirtual 172, 3) := by decide +kernel
theorem dX12_read_7 : decode cX12_read 7 = .ok (.ifCond .eq 17, 3) := by decide +kernel
theorem dX12_read_10 : decode cX12_read 10 = .ok (.aload_n 0, 1) := by decide +kernel
theorem dX12_read_11 : decode cX12_read 11 = .ok (.getfield 16, 3) := by decide +kernel
theorem dX12_read_14 : decode cX12_read 14 = .ok (.iload_n 1, 1) := by decide +kernel
theorem dX12_read_15 : decode cX12_read 15 = .ok (.iload_n 2, 1) := by decide +kernel
theorem dX12_read_16 : decode cX12_read 16 = .ok (.iload_n 3, 1) := by decide +kernel
theorem dX12_read_17 : decode cX12_read 17 = .ok (.invokestatic 175, 3) := by decide +kernel
theorem dX12_read_20 : decode cX12_read 20 = .ok (.iaload, 1) := by decide +kernel
theorem dX12_read_21 : decode cX12_read 21 = .ok (.goto 4, 3) := by decide +kernel
theorem dX12_read_24 : decode cX12_read 24 = .ok (.iconst (-1), 1) := by decide +kernel
theorem dX12_read_25 : decode cX12_read 25 = .ok (.ireturn, 1) := by decide +kernel
theorem dX12_drain_0 : decode cX12_drain 0 = .ok (.aload_n 0, 1) := by decide +kernel
theorem dX12_drain_1 : decode cX12_drain 1 = .ok (.iload_n 1, 1) := by decide +kernel
theorem dX12_drain_2 : decode cX12_drain 2 = .ok (.iload_n 2, 1) := by decide +kernel
theorem dX12_drain_3 : decode cX12_drain 3 = .ok (.iload_n 3, 1) := by decide +kernel
theorem dX12_drain_4 : decode cX12_drain 4 = .ok (.invokevirtual 172, 3) := by decide +kernel
theorem dX12_drain_7 : decode cX12_drain 7 = .ok (.ifCond .eq 13, 3) := by decide +kernel
theorem dX12_drain_10 : decode cX12_drain 10 = .ok (.iload 4, 2) := by decide +kernel
theorem dX12_drain_12 : decode cX12_drain 12 = .ok (.iconst 0, 1) := by decide +kernel
theorem dX12_drain_13 : decode cX12_drain 13 = .ok (.iconst 1, 1) := by decide +kernel
theorem dX12_drain_14 : decode cX12_drain 14 = .ok (.invokestatic 164, 3) := by decide +kernel
theorem dX12_drain_17 : decode cX12_drain 17 = .ok (.ifCond .ne 5, 3) := by decide +kernel
theorem dX12_drain_20 : decode cX12_drain 20 = .ok (.iconst (-1), 1) := by decide +kernel
theorem dX12_drain_21 : decode cX12_drain 21 = .ok (.ireturn, 1) := by decide +kernel
theorem dX12_drain_22 : decode cX12_drain 22 = .ok (.aload_n 0, 1) := by decide +kernel
theorem dX12_drain_23 : decode cX12_drain 23 = .ok (.getfield 19, 3) := by decide +kernel
theorem dX12_drain_26 : decode cX12_drain 26 = .ok (.iload_n 1, 1) := by decide +kernel
theorem dX12_drain_27 : decode cX12_drain 27 = .ok (.iload_n 2, 1) := by decide +kernel
theorem dX12_drain_28 : decode cX12_drain 28 = .ok (.iload_n 3, 1) := by decide +kernel
theorem dX12_drain_29 : decode cX12_drain 29 = .ok (.invokestatic 175, 3) := by decide +kernel
theorem dX12_drain_32 : decode cX12_drain 32 = .ok (.baload, 1) := by decide +kernel
theorem dX12_drain_33 : decode cX12_drain 33 = .ok (.ifCond .eq 7, 3) := by decide +kernel
theorem dX12_drain_36 : decode cX12_drain 36 = .ok (.iconst 1, 1) := by decide +kernel
theorem dX12_drain_37 : decode cX12_drain 37 = .ok (.goto 4, 3) := by decide +kernel
theorem dX12_drain_40 : decode cX12_drain 40 = .ok (.iconst 0, 1) := by decide +kernel
theorem dX12_drain_41 : decode cX12_drain 41 = .ok (.istore 5, 2) := by decide +kernel
theorem dX12_drain_43 : decode cX12_drain 43 = .ok (.aload_n 0, 1) := by decide +kernel
theorem dX12_drain_44 : decode cX12_drain 44 = .ok (.getfield 19, 3) := by decide +kernel
theorem dX12_drain_47 : decode cX12_drain 47 = .ok (.iload_n 1, 1) := by decide +kernel
theorem dX12_drain_48 : decode cX12_drain 48 = .ok (.iload_n 2, 1) := by decide +kernel
theorem dX12_drain_49 : decode cX12_drain 49 = .ok (.iload_n 3, 1) := by decide +kernel
theorem dX12_drain_50 : decode cX12_drain 50 = .ok (.invokestatic 175, 3) := by decide +kernel
theorem dX12_drain_53 : decode cX12_drain 53 = .ok (.iload 4, 2) := by decide +kernel
theorem dX12_drain_55 : decode cX12_drain 55 = .ok (.iconst 1, 1) := by decide +kernel
theorem dX12_drain_56 : decode cX12_drain 56 = .ok (.if_icmp .ne 7, 3) := by decide +kernel
theorem dX12_drain_59 : decode cX12_drain 59 = .ok (.iconst 1, 1) := by decide +kernel
theorem dX12_drain_60 : decode cX12_drain 60 = .ok (.goto 4, 3) := by decide +kernel
theorem dX12_drain_63 : decode cX12_drain 63 = .ok (.iconst 0, 1) := by decide +kernel
theorem dX12_drain_64 : decode cX12_drain 64 = .ok (.bastore, 1) := by decide +kernel
theorem dX12_drain_65 : decode cX12_drain 65 = .ok (.iload 5, 2) := by decide +kernel
theorem dX12_drain_67 : decode cX12_drain 67 = .ok (.ireturn, 1) := by decide +kernel
theorem dX12_goesOn_0 : decode cX12_goesOn 0 = .ok (.bipush 16, 2) := by decide +kernel
theorem dX12_goesOn_2 : decode cX12_goesOn 2 = .ok (.iload_n 2, 1) := by decide +kernel
theorem dX12_goesOn_3 : decode cX12_goesOn 3 = .ok (.imul, 1) := by decide +kernel
theorem dX12_goesOn_4 : decode cX12_goesOn 4 = .ok (.iload_n 3, 1) := by decide +kernel
theorem dX12_goesOn_5 : decode cX12_goesOn 5 = .ok (.iadd, 1) := by decide +kernel
theorem dX12_goesOn_6 : decode cX12_goesOn 6 = .ok (.istore 4, 2) := by decide +kernel
theorem dX12_goesOn_8 : decode cX12_goesOn 8 = .ok (.aload_n 0, 1) := by decide +kernel
theorem dX12_goesOn_9 : decode cX12_goesOn 9 = .ok (.getfield 16, 3) := by decide +kernel
theorem dX12_goesOn_12 : decode cX12_goesOn 12 = .ok (.iload_n 1, 1) := by decide +kernel
theorem dX12_goesOn_13 : decode cX12_goesOn 13 = .ok (.iload_n 2, 1) := by decide +kernel
theorem dX12_goesOn_14 : decode cX12_goesOn 14 = .ok (.iload_n 3, 1) := by decide +kernel
theorem dX12_goesOn_15 : decode cX12_goesOn 15 = .ok (.invokestatic 175, 3) := by decide +kernel
theorem dX12_goesOn_18 : decode cX12_goesOn 18 = .ok (.iaload, 1) := by decide +kernel
theorem dX12_goesOn_19 : decode cX12_goesOn 19 = .ok (.istore 5, 2) := by decide +kernel
theorem dX12_goesOn_21 : decode cX12_goesOn 21 = .ok (.aload_n 0, 1) := by decide +kernel
theorem dX12_goesOn_22 : decode cX12_goesOn 22 = .ok (.getfield 19, 3) := by decide +kernel
theorem dX12_goesOn_25 : decode cX12_goesOn 25 = .ok (.iload_n 1, 1) := by decide +kernel
theorem dX12_goesOn_26 : decode cX12_goesOn 26 = .ok (.iload_n 2, 1) := by decide +kernel
theorem dX12_goesOn_27 : decode cX12_goesOn 27 = .ok (.iload_n 3, 1) := by decide +kernel
theorem dX12_goesOn_28 : decode cX12_goesOn 28 = .ok (.invokestatic 175, 3) := by decide +kernel
theorem dX12_goesOn_31 : decode cX12_goesOn 31 = .ok (.baload, 1) := by decide +kernel
theorem dX12_goesOn_32 : decode cX12_goesOn 32 = .ok (.ifCond .eq 6, 3) := by decide +kernel
theorem dX12_goesOn_35 : decode cX12_goesOn 35 = .ok (.iload 4, 2) := by decide +kernel
theorem dX12_goesOn_37 : decode cX12_goesOn 37 = .ok (.ireturn, 1) := by decide +kernel
theorem dX12_goesOn_38 : decode cX12_goesOn 38 = .ok (.iload_n 2, 1) := by decide +kernel
theorem dX12_goesOn_39 : decode cX12_goesOn 39 = .ok (.ifCond .le 46, 3) := by decide +kernel
theorem dX12_goesOn_42 : decode cX12_goesOn 42 = .ok (.aload_n 0, 1) := by decide +kernel
theorem dX12_goesOn_43 : decode cX12_goesOn 43 = .ok (.getfield 16, 3) := by decide +kernel
theorem dX12_goesOn_46 : decode cX12_goesOn 46 = .ok (.iload_n 1, 1) := by decide +kernel
theorem dX12_goesOn_47 : decode cX12_goesOn 47 = .ok (.iload_n 2, 1) := by decide +kernel
theorem dX12_goesOn_48 : decode cX12_goesOn 48 = .ok (.iconst 1, 1) := by decide +kernel
theorem dX12_goesOn_49 : decode cX12_goesOn 49 = .ok (.isub, 1) := by decide +kernel
theorem dX12_goesOn_50 : decode cX12_goesOn 50 = .ok (.iload_n 3, 1) := by decide +kernel
theorem dX12_goesOn_51 : decode cX12_goesOn 51 = .ok (.invokestatic 175, 3) := by decide +kernel
theorem dX12_goesOn_54 : decode cX12_goesOn 54 = .ok (.iaload, 1) := by decide +kernel
theorem dX12_goesOn_55 : decode cX12_goesOn 55 = .ok (.iload 5, 2) := by decide +kernel
theorem dX12_goesOn_57 : decode cX12_goesOn 57 = .ok (.if_icmp .ge 28, 3) := by decide +kernel
theorem dX12_goesOn_60 : decode cX12_goesOn 60 = .ok (.bipush 16, 2) := by decide +kernel
theorem dX12_goesOn_62 : decode cX12_goesOn 62 = .ok (.iload_n 2, 1) := by decide +kernel
theorem dX12_goesOn_63 : decode cX12_goesOn 63 = .ok (.iconst 1, 1) := by decide +kernel
theorem dX12_goesOn_64 : decode cX12_goesOn 64 = .ok (.isub, 1) := by decide +kernel
theorem dX12_goesOn_65 : decode cX12_goesOn 65 = .ok (.imul, 1) := by decide +kernel
theorem dX12_goesOn_66 : decode cX12_goesOn 66 = .ok (.iload_n 3, 1) := by decide +kernel
theorem dX12_goesOn_67 : decode cX12_goesOn 67 = .ok (.iadd, 1) := by decide +kernel
theorem dX12_goesOn_68 : decode cX12_goesOn 68 = .ok (.istore 4, 2) := by decide +kernel
theorem dX12_goesOn_70 : decode cX12_goesOn 70 = .ok (.aload_n 0, 1) := by decide +kernel
theorem dX12_goesOn_71 : decode cX12_goesOn 71 = .ok (.getfield 16, 3) := by decide +kernel
theorem dX12_goesOn_74 : decode cX12_goesOn 74 = .ok (.iload_n 1, 1) := by decide +kernel
theorem dX12_goesOn_75 : decode cX12_goesOn 75 = .ok (.iload_n 2, 1) := by decide +kernel
theorem dX12_goesOn_76 : decode cX12_goesOn 76 = .ok (.iconst 1, 1) := by decide +kernel
theorem dX12_goesOn_77 : decode cX12_goesOn 77 = .ok (.isub, 1) := by decide +kernel
theorem dX12_goesOn_78 : decode cX12_goesOn 78 = .ok (.iload_n 3, 1) := by decide +kernel
theorem dX12_goesOn_79 : decode cX12_goesOn 79 = .ok (.invokestatic 175, 3) := by decide +kernel
theorem dX12_goesOn_82 : decode cX12_goesOn 82 = .ok (.iaload, 1) := by decide +kernel
theorem dX12_goesOn_83 : decode cX12_goesOn 83 = .ok (.istore 5, 2) := by decide +kernel
theorem dX12_goesOn_85 : decode cX12_goesOn 85 = .ok (.iload_n 3, 1) := by decide +kernel
theorem dX12_goesOn_86 : decode cX12_goesOn 86 = .ok (.ifCond .le 46, 3) := by decide +kernel
theorem dX12_goesOn_89 : decode cX12_goesOn 89 = .ok (.aload_n 0, 1) := by decide +kernel
theorem dX12_goesOn_90 : decode cX12_goesOn 90 = .ok (.getfield 16, 3) := by decide +kernel
theorem dX12_goesOn_93 : decode cX12_goesOn 93 = .ok (.iload_n 1, 1) := by decide +kernel
theorem dX12_goesOn_94 : decode cX12_goesOn 94 = .ok (.iload_n 2, 1) := by decide +kernel
theorem dX12_goesOn_95 : decode cX12_goesOn 95 = .ok (.iload_n 3, 1) := by decide +kernel
theorem dX12_goesOn_96 : decode cX12_goesOn 96 = .ok (.iconst 1, 1) := by decide +kernel
theorem dX12_goesOn_97 : decode cX12_goesOn 97 = .ok (.isub, 1) := by decide +kernel
theorem dX12_goesOn_98 : decode cX12_goesOn 98 = .ok (.invokestatic 175, 3) := by decide +kernel
theorem dX12_goesOn_101 : decode cX12_goesOn 101 = .ok (.iaload, 1) := by decide +kernel
theorem dX12_goesOn_102 : decode cX12_goesOn 102 = .ok (.iload 5, 2) := by decide +kernel
theorem dX12_goesOn_104 : decode cX12_goesOn 104 = .ok (.if_icmp .ge 28, 3) := by decide +kernel
theorem dX12_goesOn_107 : decode cX12_goesOn 107 = .ok (.bipush 16, 2) := by decide +kernel
theorem dX12_goesOn_109 : decode cX12_goesOn 109 = .ok (.iload_n 2, 1) := by decide +kernel
theorem dX12_goesOn_110 : decode cX12_goesOn 110 = .ok (.imul, 1) := by decide +kernel
theorem dX12_goesOn_111 : decode cX12_goesOn 111 = .ok (.iload_n 3, 1) := by decide +kernel
theorem dX12_goesOn_112 : decode cX12_goesOn 112 = .ok (.iadd, 1) := by decide +kernel
theorem dX12_goesOn_113 : decode cX12_goesOn 113 = .ok (.iconst 1, 1) := by decide +kernel
theorem dX12_goesOn_114 : decode cX12_goesOn 114 = .ok (.isub, 1) := by decide +kernel
theorem dX12_goesOn_115 : decode cX12_goesOn 115 = .ok (.istore 4, 2) := by decide +kernel
theorem dX12_goesOn_117 : decode cX12_goesOn 117 = .ok (.aload_n 0, 1) := by decide +kernel
theorem dX12_goesOn_118 : decode cX12_goesOn 118 = .ok (.getfield 16, 3) := by decide +kernel
theorem dX12_goesOn_121 : decode cX12_goesOn 121 = .ok (.iload_n 1, 1) := by decide +kernel
theorem dX12_goesOn_122 : decode cX12_goesOn 122 = .ok (.iload_n 2, 1) := by decide +kernel
theorem dX12_goesOn_123 : decode cX12_goesOn 123 = .ok (.iload_n 3, 1) := by decide +kernel
theorem dX12_goesOn_124 : decode cX12_goesOn 124 = .ok (.iconst 1, 1) := by decide +kernel
theorem dX12_goesOn_125 : decode cX12_goesOn 125 = .ok (.isub, 1) := by decide +kernel
theorem dX12_goesOn_126 : decode cX12_goesOn 126 = .ok (.invokestatic 175, 3) := by decide +kernel
theorem dX12_goesOn_129 : decode cX12_goesOn 129 = .ok (.iaload, 1) := by decide +kernel
theorem dX12_goesOn_130 : decode cX12_goesOn 130 = .ok (.istore 5, 2) := by decide +kernel
theorem dX12_goesOn_132 : decode cX12_goesOn 132 = .ok (.iload_n 3, 1) := by decide +kernel
theorem dX12_goesOn_133 : decode cX12_goesOn 133 = .ok (.aload_n 0, 1) := by decide +kernel
theorem dX12_goesOn_134 : decode cX12_goesOn 134 = .ok (.getfield 13, 3) := by decide +kernel
theorem dX12_goesOn_137 : decode cX12_goesOn 137 = .ok (.iload_n 1, 1) := by decide +kernel
theorem dX12_goesOn_138 : decode cX12_goesOn 138 = .ok (.iaload, 1) := by decide +kernel
theorem dX12_goesOn_139 : decode cX12_goesOn 139 = .ok (.iconst 1, 1) := by decide +kernel
theorem dX12_goesOn_140 : decode cX12_goesOn 140 = .ok (.isub, 1) := by decide +kernel
theorem dX12_goesOn_141 : decode cX12_goesOn 141 = .ok (.if_icmp .ge 46, 3) := by decide +kernel
theorem dX12_goesOn_144 : decode cX12_goesOn 144 = .ok (.aload_n 0, 1) := by decide +kernel
theorem dX12_goesOn_145 : decode cX12_goesOn 145 = .ok (.getfield 16, 3) := by decide +kernel
theorem dX12_goesOn_148 : decode cX12_goesOn 148 = .ok (.iload_n 1, 1) := by decide +kernel
theorem dX12_goesOn_149 : decode cX12_goesOn 149 = .ok (.iload_n 2, 1) := by decide +kernel
theorem dX12_goesOn_150 : decode cX12_goesOn 150 = .ok (.iload_n 3, 1) := by decide +kernel
theorem dX12_goesOn_151 : decode cX12_goesOn 151 = .ok (.iconst 1, 1) := by decide +kernel
theorem dX12_goesOn_152 : decode cX12_goesOn 152 = .ok (.iadd, 1) := by decide +kernel
theorem dX12_goesOn_153 : decode cX12_goesOn 153 = .ok (.invokestatic 175, 3) := by decide +kernel
theorem dX12_goesOn_156 : decode cX12_goesOn 156 = .ok (.iaload, 1) := by decide +kernel
theorem dX12_goesOn_157 : decode cX12_goesOn 157 = .ok (.iload 5, 2) := by decide +kernel
theorem dX12_goesOn_159 : decode cX12_goesOn 159 = .ok (.if_icmp .ge 28, 3) := by decide +kernel
theorem dX12_goesOn_162 : decode cX12_goesOn 162 = .ok (.bipush 16, 2) := by decide +kernel
theorem dX12_goesOn_164 : decode cX12_goesOn 164 = .ok (.iload_n 2, 1) := by decide +kernel
theorem dX12_goesOn_165 : decode cX12_goesOn 165 = .ok (.imul, 1) := by decide +kernel
theorem dX12_goesOn_166 : decode cX12_goesOn 166 = .ok (.iload_n 3, 1) := by decide +kernel
theorem dX12_goesOn_167 : decode cX12_goesOn 167 = .ok (.iadd, 1) := by decide +kernel
theorem dX12_goesOn_168 : decode cX12_goesOn 168 = .ok (.iconst 1, 1) := by decide +kernel
theorem dX12_goesOn_169 : decode cX12_goesOn 169 = .ok (.iadd, 1) := by decide +kernel
theorem dX12_goesOn_170 : decode cX12_goesOn 170 = .ok (.istore 4, 2) := by decide +kernel
theorem dX12_goesOn_172 : decode cX12_goesOn 172 = .ok (.aload_n 0, 1) := by decide +kernel
theorem dX12_goesOn_173 : decode cX12_goesOn 173 = .ok (.getfield 16, 3) := by decide +kernel
theorem dX12_goesOn_176 : decode cX12_goesOn 176 = .ok (.iload_n 1, 1) := by decide +kernel
theorem dX12_goesOn_177 : decode cX12_goesOn 177 = .ok (.iload_n 2, 1) := by decide +kernel
theorem dX12_goesOn_178 : decode cX12_goesOn 178 = .ok (.iload_n 3, 1) := by decide +kernel
theorem dX12_goesOn_179 : decode cX12_goesOn 179 = .ok (.iconst 1, 1) := by decide +kernel
theorem dX12_goesOn_180 : decode cX12_goesOn 180 = .ok (.iadd, 1) := by decide +kernel
theorem dX12_goesOn_181 : decode cX12_goesOn 181 = .ok (.invokestatic 175, 3) := by decide +kernel
theorem dX12_goesOn_184 : decode cX12_goesOn 184 = .ok (.iaload, 1) := by decide +kernel
theorem dX12_goesOn_185 : decode cX12_goesOn 185 = .ok (.istore 5, 2) := by decide +kernel
theorem dX12_goesOn_187 : decode cX12_goesOn 187 = .ok (.iload_n 2, 1) := by decide +kernel
theorem dX12_goesOn_188 : decode cX12_goesOn 188 = .ok (.aload_n 0, 1) := by decide +kernel
theorem dX12_goesOn_189 : decode cX12_goesOn 189 = .ok (.getfield 7, 3) := by decide +kernel
theorem dX12_goesOn_192 : decode cX12_goesOn 192 = .ok (.iload_n 1, 1) := by decide +kernel
theorem dX12_goesOn_193 : decode cX12_goesOn 193 = .ok (.iaload, 1) := by decide +kernel
theorem dX12_goesOn_194 : decode cX12_goesOn 194 = .ok (.iconst 1, 1) := by decide +kernel
theorem dX12_goesOn_195 : decode cX12_goesOn 195 = .ok (.isub, 1) := by decide +kernel
theorem dX12_goesOn_196 : decode cX12_goesOn 196 = .ok (.if_icmp .ge 31, 3) := by decide +kernel
theorem dX12_goesOn_199 : decode cX12_goesOn 199 = .ok (.aload_n 0, 1) := by decide +kernel
theorem dX12_goesOn_200 : decode cX12_goesOn 200 = .ok (.getfield 16, 3) := by decide +kernel
theorem dX12_goesOn_203 : decode cX12_goesOn 203 = .ok (.iload_n 1, 1) := by decide +kernel
theorem dX12_goesOn_204 : decode cX12_goesOn 204 = .ok (.iload_n 2, 1) := by decide +kernel
theorem dX12_goesOn_205 : decode cX12_goesOn 205 = .ok (.iconst 1, 1) := by decide +kernel
theorem dX12_goesOn_206 : decode cX12_goesOn 206 = .ok (.iadd, 1) := by decide +kernel
theorem dX12_goesOn_207 : decode cX12_goesOn 207 = .ok (.iload_n 3, 1) := by decide +kernel
theorem dX12_goesOn_208 : decode cX12_goesOn 208 = .ok (.invokestatic 175, 3) := by decide +kernel
theorem dX12_goesOn_211 : decode cX12_goesOn 211 = .ok (.iaload, 1) := by decide +kernel
theorem dX12_goesOn_212 : decode cX12_goesOn 212 = .ok (.iload 5, 2) := by decide +kernel
theorem dX12_goesOn_214 : decode cX12_goesOn 214 = .ok (.if_icmp .ge 13, 3) := by decide +kernel
theorem dX12_goesOn_217 : decode cX12_goesOn 217 = .ok (.bipush 16, 2) := by decide +kernel
theorem dX12_goesOn_219 : decode cX12_goesOn 219 = .ok (.iload_n 2, 1) := by decide +kernel
theorem dX12_goesOn_220 : decode cX12_goesOn 220 = .ok (.iconst 1, 1) := by decide +kernel
theorem dX12_goesOn_221 : decode cX12_goesOn 221 = .ok (.iadd, 1) := by decide +kernel
theorem dX12_goesOn_222 : decode cX12_goesOn 222 = .ok (.imul, 1) := by decide +kernel
theorem dX12_goesOn_223 : decode cX12_goesOn 223 = .ok (.iload_n 3, 1) := by decide +kernel
theorem dX12_goesOn_224 : decode cX12_goesOn 224 = .ok (.iadd, 1) := by decide +kernel
theorem dX12_goesOn_225 : decode cX12_goesOn 225 = .ok (.istore 4, 2) := by decide +kernel
theorem dX12_goesOn_227 : decode cX12_goesOn 227 = .ok (.iload 4, 2) := by decide +kernel
theorem dX12_goesOn_229 : decode cX12_goesOn 229 = .ok (.ireturn, 1) := by decide +kernel
theorem dX12_comesTo_0 : decode cX12_comesTo 0 = .ok (.bipush 16, 2) := by decide +kernel
theorem dX12_comesTo_2 : decode cX12_comesTo 2 = .ok (.iload_n 2, 1) := by decide +kernel
theorem dX12_comesTo_3 : decode cX12_comesTo 3 = .ok (.imul, 1) := by decide +kernel
theorem dX12_comesTo_4 : decode cX12_comesTo 4 = .ok (.iload_n 3, 1) := by decide +kernel
theorem dX12_comesTo_5 : decode cX12_comesTo 5 = .ok (.iadd, 1) := by decide +kernel
theorem dX12_comesTo_6 : decode cX12_comesTo 6 = .ok (.istore 4, 2) := by decide +kernel
theorem dX12_comesTo_8 : decode cX12_comesTo 8 = .ok (.aload_n 0, 1) := by decide +kernel
theorem dX12_comesTo_9 : decode cX12_comesTo 9 = .ok (.iload_n 1, 1) := by decide +kernel
theorem dX12_comesTo_10 : decode cX12_comesTo 10 = .ok (.iload_n 2, 1) := by decide +kernel
theorem dX12_comesTo_11 : decode cX12_comesTo 11 = .ok (.iload_n 3, 1) := by decide +kernel
theorem dX12_comesTo_12 : decode cX12_comesTo 12 = .ok (.invokevirtual 179, 3) := by decide +kernel
theorem dX12_comesTo_15 : decode cX12_comesTo 15 = .ok (.istore 5, 2) := by decide +kernel
theorem dX12_comesTo_17 : decode cX12_comesTo 17 = .ok (.iload 5, 2) := by decide +kernel
theorem dX12_comesTo_19 : decode cX12_comesTo 19 = .ok (.iload 4, 2) := by decide +kernel
theorem dX12_comesTo_21 : decode cX12_comesTo 21 = .ok (.if_icmp .eq 27, 3) := by decide +kernel
theorem dX12_comesTo_24 : decode cX12_comesTo 24 = .ok (.iload 5, 2) := by decide +kernel
theorem dX12_comesTo_26 : decode cX12_comesTo 26 = .ok (.istore 4, 2) := by decide +kernel
theorem dX12_comesTo_28 : decode cX12_comesTo 28 = .ok (.aload_n 0, 1) := by decide +kernel
theorem dX12_comesTo_29 : decode cX12_comesTo 29 = .ok (.iload_n 1, 1) := by decide +kernel
theorem dX12_comesTo_30 : decode cX12_comesTo 30 = .ok (.iload 4, 2) := by decide +kernel
theorem dX12_comesTo_32 : decode cX12_comesTo 32 = .ok (.bipush 16, 2) := by decide +kernel
theorem dX12_comesTo_34 : decode cX12_comesTo 34 = .ok (.idiv, 1) := by decide +kernel
theorem dX12_comesTo_35 : decode cX12_comesTo 35 = .ok (.iload 4, 2) := by decide +kernel
theorem dX12_comesTo_37 : decode cX12_comesTo 37 = .ok (.bipush 16, 2) := by decide +kernel
theorem dX12_comesTo_39 : decode cX12_comesTo 39 = .ok (.irem, 1) := by decide +kernel
theorem dX12_comesTo_40 : decode cX12_comesTo 40 = .ok (.invokevirtual 179, 3) := by decide +kernel
theorem dX12_comesTo_43 : decode cX12_comesTo 43 = .ok (.istore 5, 2) := by decide +kernel
theorem dX12_comesTo_45 : decode cX12_comesTo 45 = .ok (.goto (-28), 3) := by decide +kernel
theorem dX12_comesTo_48 : decode cX12_comesTo 48 = .ok (.iload 4, 2) := by decide +kernel
theorem dX12_comesTo_50 : decode cX12_comesTo 50 = .ok (.ireturn, 1) := by decide +kernel
theorem dX12_isDrain_0 : decode cX12_isDrain 0 = .ok (.aload_n 0, 1) := by decide +kernel
theorem dX12_isDrain_1 : decode cX12_isDrain 1 = .ok (.getfield 19, 3) := by decide +kernel
theorem dX12_isDrain_4 : decode cX12_isDrain 4 = .ok (.iload_n 1, 1) := by decide +kernel
theorem dX12_isDrain_5 : decode cX12_isDrain 5 = .ok (.iload_n 2, 1) := by decide +kernel
theorem dX12_isDrain_6 : decode cX12_isDrain 6 = .ok (.bipush 16, 2) := by decide +kernel
theorem dX12_isDrain_8 : decode cX12_isDrain 8 = .ok (.idiv, 1) := by decide +kernel
theorem dX12_isDrain_9 : decode cX12_isDrain 9 = .ok (.iload_n 2, 1) := by decide +kernel
theorem dX12_isDrain_10 : decode cX12_isDrain 10 = .ok (.bipush 16, 2) := by decide +kernel
theorem dX12_isDrain_12 : decode cX12_isDrain 12 = .ok (.irem, 1) := by decide +kernel
theorem dX12_isDrain_13 : decode cX12_isDrain 13 = .ok (.invokestatic 175, 3) := by decide +kernel
theorem dX12_isDrain_16 : decode cX12_isDrain 16 = .ok (.baload, 1) := by decide +kernel
theorem dX12_isDrain_17 : decode cX12_isDrain 17 = .ok (.ireturn, 1) := by decide +kernel
theorem dX12_water_0 : decode cX12_water 0 = .ok (.aload_n 0, 1) := by decide +kernel
theorem dX12_water_1 : decode cX12_water 1 = .ok (.iload_n 1, 1) := by decide +kernel
theorem dX12_water_2 : decode cX12_water 2 = .ok (.iload_n 2, 1) := by decide +kernel
theorem dX12_water_3 : decode cX12_water 3 = .ok (.iload_n 3, 1) := by decide +kernel
theorem dX12_water_4 : decode cX12_water 4 = .ok (.invokevirtual 172, 3) := by decide +kernel
theorem dX12_water_7 : decode cX12_water 7 = .ok (.ifCond .ne 5, 3) := by decide +kernel
theorem dX12_water_10 : decode cX12_water 10 = .ok (.iconst (-1), 1) := by decide +kernel
theorem dX12_water_11 : decode cX12_water 11 = .ok (.ireturn, 1) := by decide +kernel
theorem dX12_water_12 : decode cX12_water 12 = .ok (.aload_n 0, 1) := by decide +kernel
theorem dX12_water_13 : decode cX12_water 13 = .ok (.iload_n 1, 1) := by decide +kernel
theorem dX12_water_14 : decode cX12_water 14 = .ok (.iload_n 2, 1) := by decide +kernel
theorem dX12_water_15 : decode cX12_water 15 = .ok (.iload_n 3, 1) := by decide +kernel
theorem dX12_water_16 : decode cX12_water 16 = .ok (.invokevirtual 182, 3) := by decide +kernel
theorem dX12_water_19 : decode cX12_water 19 = .ok (.istore 4, 2) := by decide +kernel
theorem dX12_water_21 : decode cX12_water 21 = .ok (.iload 4, 2) := by decide +kernel
theorem dX12_water_23 : decode cX12_water 23 = .ok (.aload_n 0, 1) := by decide +kernel
theorem dX12_water_24 : decode cX12_water 24 = .ok (.iload_n 1, 1) := by decide +kernel
theorem dX12_water_25 : decode cX12_water 25 = .ok (.iload 4, 2) := by decide +kernel
theorem dX12_water_27 : decode cX12_water 27 = .ok (.invokevirtual 185, 3) := by decide +kernel
theorem dX12_water_30 : decode cX12_water 30 = .ok (.ifCond .eq 9, 3) := by decide +kernel
theorem dX12_water_33 : decode cX12_water 33 = .ok (.sipush 1000, 3) := by decide +kernel
theorem dX12_water_36 : decode cX12_water 36 = .ok (.goto 4, 3) := by decide +kernel
theorem dX12_water_39 : decode cX12_water 39 = .ok (.iconst 0, 1) := by decide +kernel
theorem dX12_water_40 : decode cX12_water 40 = .ok (.iadd, 1) := by decide +kernel
theorem dX12_water_41 : decode cX12_water 41 = .ok (.ireturn, 1) := by decide +kernel
theorem dX12_standing_0 : decode cX12_standing 0 = .ok (.aload_n 0, 1) := by decide +kernel
theorem dX12_standing_1 : decode cX12_standing 1 = .ok (.iload_n 1, 1) := by decide +kernel
theorem dX12_standing_2 : decode cX12_standing 2 = .ok (.invokevirtual 168, 3) := by decide +kernel
theorem dX12_standing_5 : decode cX12_standing 5 = .ok (.ifCond .ne 5, 3) := by decide +kernel
theorem dX12_standing_8 : decode cX12_standing 8 = .ok (.iconst (-1), 1) := by decide +kernel
theorem dX12_standing_9 : decode cX12_standing 9 = .ok (.ireturn, 1) := by decide +kernel
theorem dX12_standing_10 : decode cX12_standing 10 = .ok (.iconst 0, 1) := by decide +kernel
theorem dX12_standing_11 : decode cX12_standing 11 = .ok (.istore_n 2, 1) := by decide +kernel
theorem dX12_standing_12 : decode cX12_standing 12 = .ok (.iconst 0, 1) := by decide +kernel
theorem dX12_standing_13 : decode cX12_standing 13 = .ok (.istore_n 3, 1) := by decide +kernel
theorem dX12_standing_14 : decode cX12_standing 14 = .ok (.iload_n 3, 1) := by decide +kernel
theorem dX12_standing_15 : decode cX12_standing 15 = .ok (.aload_n 0, 1) := by decide +kernel
theorem dX12_standing_16 : decode cX12_standing 16 = .ok (.getfield 7, 3) := by decide +kernel
theorem dX12_standing_19 : decode cX12_standing 19 = .ok (.iload_n 1, 1) := by decide +kernel
theorem dX12_standing_20 : decode cX12_standing 20 = .ok (.iaload, 1) := by decide +kernel
theorem dX12_standing_21 : decode cX12_standing 21 = .ok (.if_icmp .ge 53, 3) := by decide +kernel
theorem dX12_standing_24 : decode cX12_standing 24 = .ok (.iconst 0, 1) := by decide +kernel
theorem dX12_standing_25 : decode cX12_standing 25 = .ok (.istore 4, 2) := by decide +kernel
theorem dX12_standing_27 : decode cX12_standing 27 = .ok (.iload 4, 2) := by decide +kernel
theorem dX12_standing_29 : decode cX12_standing 29 = .ok (.aload_n 0, 1) := by decide +kernel
theorem dX12_standing_30 : decode cX12_standing 30 = .ok (.getfield 13, 3) := by decide +kernel
theorem dX12_standing_33 : decode cX12_standing 33 = .ok (.iload_n 1, 1) := by decide +kernel
theorem dX12_standing_34 : decode cX12_standing 34 = .ok (.iaload, 1) := by decide +kernel
theorem dX12_standing_35 : decode cX12_standing 35 = .ok (.if_icmp .ge 33, 3) := by decide +kernel
theorem dX12_standing_38 : decode cX12_standing 38 = .ok (.iload_n 2, 1) := by decide +kernel
theorem dX12_standing_39 : decode cX12_standing 39 = .ok (.aload_n 0, 1) := by decide +kernel
theorem dX12_standing_40 : decode cX12_standing 40 = .ok (.iload_n 1, 1) := by decide +kernel
theorem dX12_standing_41 : decode cX12_standing 41 = .ok (.aload_n 0, 1) := by decide +kernel
theorem dX12_standing_42 : decode cX12_standing 42 = .ok (.iload_n 1, 1) := by decide +kernel
theorem dX12_standing_43 : decode cX12_standing 43 = .ok (.iload_n 3, 1) := by decide +kernel
theorem dX12_standing_44 : decode cX12_standing 44 = .ok (.iload 4, 2) := by decide +kernel
theorem dX12_standing_46 : decode cX12_standing 46 = .ok (.invokevirtual 182, 3) := by decide +kernel
theorem dX12_standing_49 : decode cX12_standing 49 = .ok (.invokevirtual 185, 3) := by decide +kernel
theorem dX12_standing_52 : decode cX12_standing 52 = .ok (.ifCond .eq 7, 3) := by decide +kernel
theorem dX12_standing_55 : decode cX12_standing 55 = .ok (.iconst 0, 1) := by decide +kernel
theorem dX12_standing_56 : decode cX12_standing 56 = .ok (.goto 4, 3) := by decide +kernel
theorem dX12_standing_59 : decode cX12_standing 59 = .ok (.iconst 1, 1) := by decide +kernel
theorem dX12_standing_60 : decode cX12_standing 60 = .ok (.iadd, 1) := by decide +kernel
theorem dX12_standing_61 : decode cX12_standing 61 = .ok (.istore_n 2, 1) := by decide +kernel
theorem dX12_standing_62 : decode cX12_standing 62 = .ok (.iinc 4 1, 3) := by decide +kernel
theorem dX12_standing_65 : decode cX12_standing 65 = .ok (.goto (-38), 3) := by decide +kernel
theorem dX12_standing_68 : decode cX12_standing 68 = .ok (.iinc 3 1, 3) := by decide +kernel
theorem dX12_standing_71 : decode cX12_standing 71 = .ok (.goto (-57), 3) := by decide +kernel
theorem dX12_standing_74 : decode cX12_standing 74 = .ok (.iload_n 2, 1) := by decide +kernel
theorem dX12_standing_75 : decode cX12_standing 75 = .ok (.ireturn, 1) := by decide +kernel
theorem dX12_most_0 : decode cX12_most 0 = .ok (.aload_n 0, 1) := by decide +kernel
theorem dX12_most_1 : decode cX12_most 1 = .ok (.iload_n 1, 1) := by decide +kernel
theorem dX12_most_2 : decode cX12_most 2 = .ok (.invokevirtual 168, 3) := by decide +kernel
theorem dX12_most_5 : decode cX12_most 5 = .ok (.ifCond .ne 5, 3) := by decide +kernel
theorem dX12_most_8 : decode cX12_most 8 = .ok (.iconst (-1), 1) := by decide +kernel
theorem dX12_most_9 : decode cX12_most 9 = .ok (.ireturn, 1) := by decide +kernel
theorem dX12_most_10 : decode cX12_most 10 = .ok (.iconst 0, 1) := by decide +kernel
theorem dX12_most_11 : decode cX12_most 11 = .ok (.istore_n 2, 1) := by decide +kernel
theorem dX12_most_12 : decode cX12_most 12 = .ok (.iload_n 2, 1) := by decide +kernel
theorem dX12_most_13 : decode cX12_most 13 = .ok (.sipush 256, 3) := by decide +kernel
theorem dX12_most_16 : decode cX12_most 16 = .ok (.if_icmp .ge 16, 3) := by decide +kernel
theorem dX12_most_19 : decode cX12_most 19 = .ok (.aload_n 0, 1) := by decide +kernel
theorem dX12_most_20 : decode cX12_most 20 = .ok (.getfield 23, 3) := by decide +kernel
theorem dX12_most_23 : decode cX12_most 23 = .ok (.iload_n 2, 1) := by decide +kernel
theorem dX12_most_24 : decode cX12_most 24 = .ok (.iconst 0, 1) := by decide +kernel
theorem dX12_most_25 : decode cX12_most 25 = .ok (.iastore, 1) := by decide +kernel
theorem dX12_most_26 : decode cX12_most 26 = .ok (.iinc 2 1, 3) := by decide +kernel
theorem dX12_most_29 : decode cX12_most 29 = .ok (.goto (-17), 3) := by decide +kernel
theorem dX12_most_32 : decode cX12_most 32 = .ok (.iconst 0, 1) := by decide +kernel
theorem dX12_most_33 : decode cX12_most 33 = .ok (.istore_n 2, 1) := by decide +kernel
theorem dX12_most_34 : decode cX12_most 34 = .ok (.iconst 0, 1) := by decide +kernel
theorem dX12_most_35 : decode cX12_most 35 = .ok (.istore_n 3, 1) := by decide +kernel
theorem dX12_most_36 : decode cX12_most 36 = .ok (.iload_n 3, 1) := by decide +kernel
theorem dX12_most_37 : decode cX12_most 37 = .ok (.aload_n 0, 1) := by decide +kernel
theorem dX12_most_38 : decode cX12_most 38 = .ok (.getfield 7, 3) := by decide +kernel
theorem dX12_most_41 : decode cX12_most 41 = .ok (.iload_n 1, 1) := by decide +kernel
theorem dX12_most_42 : decode cX12_most 42 = .ok (.iaload, 1) := by decide +kernel
theorem dX12_most_43 : decode cX12_most 43 = .ok (.if_icmp .ge 73, 3) := by decide +kernel
theorem dX12_most_46 : decode cX12_most 46 = .ok (.iconst 0, 1) := by decide +kernel
theorem dX12_most_47 : decode cX12_most 47 = .ok (.istore 4, 2) := by decide +kernel
theorem dX12_most_49 : decode cX12_most 49 = .ok (.iload 4, 2) := by decide +kernel
theorem dX12_most_51 : decode cX12_most 51 = .ok (.aload_n 0, 1) := by decide +kernel
theorem dX12_most_52 : decode cX12_most 52 = .ok (.getfield 13, 3) := by decide +kernel
theorem dX12_most_55 : decode cX12_most 55 = .ok (.iload_n 1, 1) := by decide +kernel
theorem dX12_most_56 : decode cX12_most 56 = .ok (.iaload, 1) := by decide +kernel
theorem dX12_most_57 : decode cX12_most 57 = .ok (.if_icmp .ge 53, 3) := by decide +kernel
theorem dX12_most_60 : decode cX12_most 60 = .ok (.aload_n 0, 1) := by decide +kernel
theorem dX12_most_61 : decode cX12_most 61 = .ok (.iload_n 1, 1) := by decide +kernel
theorem dX12_most_62 : decode cX12_most 62 = .ok (.iload_n 3, 1) := by decide +kernel
theorem dX12_most_63 : decode cX12_most 63 = .ok (.iload 4, 2) := by decide +kernel
theorem dX12_most_65 : decode cX12_most 65 = .ok (.invokevirtual 182, 3) := by decide +kernel
theorem dX12_most_68 : decode cX12_most 68 = .ok (.istore 5, 2) := by decide +kernel
theorem dX12_most_70 : decode cX12_most 70 = .ok (.aload_n 0, 1) := by decide +kernel
theorem dX12_most_71 : decode cX12_most 71 = .ok (.getfield 23, 3) := by decide +kernel
theorem dX12_most_74 : decode cX12_most 74 = .ok (.iload 5, 2) := by decide +kernel
theorem dX12_most_76 : decode cX12_most 76 = .ok (.dup2, 1) := by decide +kernel
theorem dX12_most_77 : decode cX12_most 77 = .ok (.iaload, 1) := by decide +kernel
theorem dX12_most_78 : decode cX12_most 78 = .ok (.iconst 1, 1) := by decide +kernel
theorem dX12_most_79 : decode cX12_most 79 = .ok (.iadd, 1) := by decide +kernel
theorem dX12_most_80 : decode cX12_most 80 = .ok (.iastore, 1) := by decide +kernel
theorem dX12_most_81 : decode cX12_most 81 = .ok (.aload_n 0, 1) := by decide +kernel
theorem dX12_most_82 : decode cX12_most 82 = .ok (.getfield 23, 3) := by decide +kernel
theorem dX12_most_85 : decode cX12_most 85 = .ok (.iload 5, 2) := by decide +kernel
theorem dX12_most_87 : decode cX12_most 87 = .ok (.iaload, 1) := by decide +kernel
theorem dX12_most_88 : decode cX12_most 88 = .ok (.iload_n 2, 1) := by decide +kernel
theorem dX12_most_89 : decode cX12_most 89 = .ok (.if_icmp .le 13, 3) := by decide +kernel
theorem dX12_most_92 : decode cX12_most 92 = .ok (.aload_n 0, 1) := by decide +kernel
theorem dX12_most_93 : decode cX12_most 93 = .ok (.getfield 23, 3) := by decide +kernel
theorem dX12_most_96 : decode cX12_most 96 = .ok (.iload 5, 2) := by decide +kernel
theorem dX12_most_98 : decode cX12_most 98 = .ok (.iaload, 1) := by decide +kernel
theorem dX12_most_99 : decode cX12_most 99 = .ok (.goto 4, 3) := by decide +kernel
theorem dX12_most_102 : decode cX12_most 102 = .ok (.iload_n 2, 1) := by decide +kernel
theorem dX12_most_103 : decode cX12_most 103 = .ok (.istore_n 2, 1) := by decide +kernel
theorem dX12_most_104 : decode cX12_most 104 = .ok (.iinc 4 1, 3) := by decide +kernel
theorem dX12_most_107 : decode cX12_most 107 = .ok (.goto (-58), 3) := by decide +kernel
theorem dX12_most_110 : decode cX12_most 110 = .ok (.iinc 3 1, 3) := by decide +kernel
theorem dX12_most_113 : decode cX12_most 113 = .ok (.goto (-77), 3) := by decide +kernel
theorem dX12_most_116 : decode cX12_most 116 = .ok (.iload_n 2, 1) := by decide +kernel
theorem dX12_most_117 : decode cX12_most 117 = .ok (.ireturn, 1) := by decide +kernel
theorem dX12_falls_0 : decode cX12_falls 0 = .ok (.iload_n 2, 1) := by decide +kernel
theorem dX12_falls_1 : decode cX12_falls 1 = .ok (.ifCond .eq 9, 3) := by decide +kernel
theorem dX12_falls_4 : decode cX12_falls 4 = .ok (.iload_n 0, 1) := by decide +kernel
theorem dX12_falls_5 : decode cX12_falls 5 = .ok (.iload_n 1, 1) := by decide +kernel
theorem dX12_falls_6 : decode cX12_falls 6 = .ok (.isub, 1) := by decide +kernel
theorem dX12_falls_7 : decode cX12_falls 7 = .ok (.goto 6, 3) := by decide +kernel
theorem dX12_falls_10 : decode cX12_falls 10 = .ok (.iload_n 1, 1) := by decide +kernel
theorem dX12_falls_11 : decode cX12_falls 11 = .ok (.iload_n 0, 1) := by decide +kernel
theorem dX12_falls_12 : decode cX12_falls 12 = .ok (.isub, 1) := by decide +kernel
theorem dX12_falls_13 : decode cX12_falls 13 = .ok (.istore 5, 2) := by decide +kernel
theorem dX12_falls_15 : decode cX12_falls 15 = .ok (.iload 5, 2) := by decide +kernel
theorem dX12_falls_17 : decode cX12_falls 17 = .ok (.iload_n 3, 1) := by decide +kernel
theorem dX12_falls_18 : decode cX12_falls 18 = .ok (.if_icmp .lt 14, 3) := by decide +kernel
theorem dX12_falls_21 : decode cX12_falls 21 = .ok (.iload 5, 2) := by decide +kernel
theorem dX12_falls_23 : decode cX12_falls 23 = .ok (.iload 4, 2) := by decide +kernel
theorem dX12_falls_25 : decode cX12_falls 25 = .ok (.if_icmp .gt 7, 3) := by decide +kernel
theorem dX12_falls_28 : decode cX12_falls 28 = .ok (.iconst 1, 1) := by decide +kernel
theorem dX12_falls_29 : decode cX12_falls 29 = .ok (.goto 4, 3) := by decide +kernel
theorem dX12_falls_32 : decode cX12_falls 32 = .ok (.iconst 0, 1) := by decide +kernel
theorem dX12_falls_33 : decode cX12_falls 33 = .ok (.ireturn, 1) := by decide +kernel
theorem dX12_level_0 : decode cX12_level 0 = .ok (.aload_n 0, 1) := by decide +kernel
theorem dX12_level_1 : decode cX12_level 1 = .ok (.iload_n 1, 1) := by decide +kernel
theorem dX12_level_2 : decode cX12_level 2 = .ok (.iload_n 2, 1) := by decide +kernel
theorem dX12_level_3 : decode cX12_level 3 = .ok (.iload_n 3, 1) := by decide +kernel
theorem dX12_level_4 : decode cX12_level 4 = .ok (.invokevirtual 172, 3) := by decide +kernel
theorem dX12_level_7 : decode cX12_level 7 = .ok (.ifCond .eq 27, 3) := by decide +kernel
theorem dX12_level_10 : decode cX12_level 10 = .ok (.iload 4, 2) := by decide +kernel
theorem dX12_level_12 : decode cX12_level 12 = .ok (.iconst 0, 1) := by decide +kernel
theorem dX12_level_13 : decode cX12_level 13 = .ok (.bipush 99, 2) := by decide +kernel
theorem dX12_level_15 : decode cX12_level 15 = .ok (.invokestatic 164, 3) := by decide +kernel
theorem dX12_level_18 : decode cX12_level 18 = .ok (.ifCond .eq 16, 3) := by decide +kernel
theorem dX12_level_21 : decode cX12_level 21 = .ok (.iload 4, 2) := by decide +kernel
theorem dX12_level_23 : decode cX12_level 23 = .ok (.bipush 10, 2) := by decide +kernel
theorem dX12_level_25 : decode cX12_level 25 = .ok (.idiv, 1) := by decide +kernel
theorem dX12_level_26 : decode cX12_level 26 = .ok (.iload 4, 2) := by decide +kernel
theorem dX12_level_28 : decode cX12_level 28 = .ok (.bipush 10, 2) := by decide +kernel
theorem dX12_level_30 : decode cX12_level 30 = .ok (.irem, 1) := by decide +kernel
theorem dX12_level_31 : decode cX12_level 31 = .ok (.if_icmp .le 5, 3) := by decide +kernel
theorem dX12_level_34 : decode cX12_level 34 = .ok (.iconst (-1), 1) := by decide +kernel
theorem dX12_level_35 : decode cX12_level 35 = .ok (.ireturn, 1) := by decide +kernel
theorem dX12_level_36 : decode cX12_level 36 = .ok (.iload 4, 2) := by decide +kernel
theorem dX12_level_38 : decode cX12_level 38 = .ok (.bipush 10, 2) := by decide +kernel
theorem dX12_level_40 : decode cX12_level 40 = .ok (.idiv, 1) := by decide +kernel
theorem dX12_level_41 : decode cX12_level 41 = .ok (.istore 5, 2) := by decide +kernel
theorem dX12_level_43 : decode cX12_level 43 = .ok (.iload 4, 2) := by decide +kernel
theorem dX12_level_45 : decode cX12_level 45 = .ok (.bipush 10, 2) := by decide +kernel
theorem dX12_level_47 : decode cX12_level 47 = .ok (.irem, 1) := by decide +kernel
theorem dX12_level_48 : decode cX12_level 48 = .ok (.istore 6, 2) := by decide +kernel
theorem dX12_level_50 : decode cX12_level 50 = .ok (.aload_n 0, 1) := by decide +kernel
theorem dX12_level_51 : decode cX12_level 51 = .ok (.getfield 13, 3) := by decide +kernel
