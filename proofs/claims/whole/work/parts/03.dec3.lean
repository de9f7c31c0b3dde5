theorem dX12_wrong_0 : decode cX12_wrong 0 = .ok (.aload_n 0, 1) := by decide +kernel
theorem dX12_wrong_1 : decode cX12_wrong 1 = .ok (.getfield 202, 3) := by decide +kernel
theorem dX12_wrong_4 : decode cX12_wrong 4 = .ok (.ifCond .eq 4, 3) := by decide +kernel
theorem dX12_wrong_7 : decode cX12_wrong 7 = .ok (.return_, 1) := by decide +kernel
theorem dX12_wrong_8 : decode cX12_wrong 8 = .ok (.aload_n 0, 1) := by decide +kernel
theorem dX12_wrong_9 : decode cX12_wrong 9 = .ok (.iload_n 1, 1) := by decide +kernel
theorem dX12_wrong_10 : decode cX12_wrong 10 = .ok (.putfield 202, 3) := by decide +kernel
theorem dX12_wrong_13 : decode cX12_wrong 13 = .ok (.aload_n 0, 1) := by decide +kernel
theorem dX12_wrong_14 : decode cX12_wrong 14 = .ok (.aload_n 0, 1) := by decide +kernel
theorem dX12_wrong_15 : decode cX12_wrong 15 = .ok (.getfield 164, 3) := by decide +kernel
theorem dX12_wrong_18 : decode cX12_wrong 18 = .ok (.putfield 205, 3) := by decide +kernel
theorem dX12_wrong_21 : decode cX12_wrong 21 = .ok (.return_, 1) := by decide +kernel
theorem dX12_isWord_0 : decode cX12_isWord 0 = .ok (.aload_n 0, 1) := by decide +kernel
theorem dX12_isWord_1 : decode cX12_isWord 1 = .ok (.getfield 202, 3) := by decide +kernel
theorem dX12_isWord_4 : decode cX12_isWord 4 = .ok (.ifCond .ne 22, 3) := by decide +kernel
theorem dX12_isWord_7 : decode cX12_isWord 7 = .ok (.aload_n 0, 1) := by decide +kernel
theorem dX12_isWord_8 : decode cX12_isWord 8 = .ok (.getfield 167, 3) := by decide +kernel
theorem dX12_isWord_11 : decode cX12_isWord 11 = .ok (.ifCond .ne 15, 3) := by decide +kernel
theorem dX12_isWord_14 : decode cX12_isWord 14 = .ok (.aload_n 0, 1) := by decide +kernel
theorem dX12_isWord_15 : decode cX12_isWord 15 = .ok (.getfield 177, 3) := by decide +kernel
theorem dX12_isWord_18 : decode cX12_isWord 18 = .ok (.iload_n 1, 1) := by decide +kernel
theorem dX12_isWord_19 : decode cX12_isWord 19 = .ok (.if_icmp .ne 7, 3) := by decide +kernel
theorem dX12_isWord_22 : decode cX12_isWord 22 = .ok (.iconst 1, 1) := by decide +kernel
theorem dX12_isWord_23 : decode cX12_isWord 23 = .ok (.goto 4, 3) := by decide +kernel
theorem dX12_isWord_26 : decode cX12_isWord 26 = .ok (.iconst 0, 1) := by decide +kernel
theorem dX12_isWord_27 : decode cX12_isWord 27 = .ok (.ireturn, 1) := by decide +kernel
theorem dX12_isSign_0 : decode cX12_isSign 0 = .ok (.aload_n 0, 1) := by decide +kernel
theorem dX12_isSign_1 : decode cX12_isSign 1 = .ok (.getfield 202, 3) := by decide +kernel
theorem dX12_isSign_4 : decode cX12_isSign 4 = .ok (.ifCond .ne 23, 3) := by decide +kernel
theorem dX12_isSign_7 : decode cX12_isSign 7 = .ok (.aload_n 0, 1) := by decide +kernel
theorem dX12_isSign_8 : decode cX12_isSign 8 = .ok (.getfield 167, 3) := by decide +kernel
theorem dX12_isSign_11 : decode cX12_isSign 11 = .ok (.iconst 3, 1) := by decide +kernel
theorem dX12_isSign_12 : decode cX12_isSign 12 = .ok (.if_icmp .ne 15, 3) := by decide +kernel
theorem dX12_isSign_15 : decode cX12_isSign 15 = .ok (.aload_n 0, 1) := by decide +kernel
theorem dX12_isSign_16 : decode cX12_isSign 16 = .ok (.getfield 177, 3) := by decide +kernel
theorem dX12_isSign_19 : decode cX12_isSign 19 = .ok (.iload_n 1, 1) := by decide +kernel
theorem dX12_isSign_20 : decode cX12_isSign 20 = .ok (.if_icmp .ne 7, 3) := by decide +kernel
theorem dX12_isSign_23 : decode cX12_isSign 23 = .ok (.iconst 1, 1) := by decide +kernel
theorem dX12_isSign_24 : decode cX12_isSign 24 = .ok (.goto 4, 3) := by decide +kernel
theorem dX12_isSign_27 : decode cX12_isSign 27 = .ok (.iconst 0, 1) := by decide +kernel
theorem dX12_isSign_28 : decode cX12_isSign 28 = .ok (.ireturn, 1) := by decide +kernel
theorem dX12_goOn_0 : decode cX12_goOn 0 = .ok (.aload_n 0, 1) := by decide +kernel
theorem dX12_goOn_1 : decode cX12_goOn 1 = .ok (.getfield 202, 3) := by decide +kernel
theorem dX12_goOn_4 : decode cX12_goOn 4 = .ok (.ifCond .ne 7, 3) := by decide +kernel
theorem dX12_goOn_7 : decode cX12_goOn 7 = .ok (.aload_n 0, 1) := by decide +kernel
theorem dX12_goOn_8 : decode cX12_goOn 8 = .ok (.invokevirtual 208, 3) := by decide +kernel
theorem dX12_goOn_11 : decode cX12_goOn 11 = .ok (.return_, 1) := by decide +kernel
theorem dX12_numeral_0 : decode cX12_numeral 0 = .ok (.aload_n 0, 1) := by decide +kernel
theorem dX12_numeral_1 : decode cX12_numeral 1 = .ok (.getfield 202, 3) := by decide +kernel
theorem dX12_numeral_4 : decode cX12_numeral 4 = .ok (.ifCond .eq 5, 3) := by decide +kernel
theorem dX12_numeral_7 : decode cX12_numeral 7 = .ok (.iload_n 1, 1) := by decide +kernel
theorem dX12_numeral_8 : decode cX12_numeral 8 = .ok (.ireturn, 1) := by decide +kernel
theorem dX12_numeral_9 : decode cX12_numeral 9 = .ok (.aload_n 0, 1) := by decide +kernel
theorem dX12_numeral_10 : decode cX12_numeral 10 = .ok (.getfield 167, 3) := by decide +kernel
theorem dX12_numeral_13 : decode cX12_numeral 13 = .ok (.iconst 2, 1) := by decide +kernel
theorem dX12_numeral_14 : decode cX12_numeral 14 = .ok (.if_icmp .eq 11, 3) := by decide +kernel
theorem dX12_numeral_17 : decode cX12_numeral 17 = .ok (.aload_n 0, 1) := by decide +kernel
theorem dX12_numeral_18 : decode cX12_numeral 18 = .ok (.iconst 1, 1) := by decide +kernel
theorem dX12_numeral_19 : decode cX12_numeral 19 = .ok (.invokevirtual 211, 3) := by decide +kernel
theorem dX12_numeral_22 : decode cX12_numeral 22 = .ok (.goto 24, 3) := by decide +kernel
theorem dX12_numeral_25 : decode cX12_numeral 25 = .ok (.aload_n 0, 1) := by decide +kernel
theorem dX12_numeral_26 : decode cX12_numeral 26 = .ok (.getfield 177, 3) := by decide +kernel
theorem dX12_numeral_29 : decode cX12_numeral 29 = .ok (.iload_n 1, 1) := by decide +kernel
theorem dX12_numeral_30 : decode cX12_numeral 30 = .ok (.if_icmp .lt 11, 3) := by decide +kernel
theorem dX12_numeral_33 : decode cX12_numeral 33 = .ok (.aload_n 0, 1) := by decide +kernel
theorem dX12_numeral_34 : decode cX12_numeral 34 = .ok (.getfield 177, 3) := by decide +kernel
theorem dX12_numeral_37 : decode cX12_numeral 37 = .ok (.iload_n 2, 1) := by decide +kernel
theorem dX12_numeral_38 : decode cX12_numeral 38 = .ok (.if_icmp .le 8, 3) := by decide +kernel
theorem dX12_numeral_41 : decode cX12_numeral 41 = .ok (.aload_n 0, 1) := by decide +kernel
theorem dX12_numeral_42 : decode cX12_numeral 42 = .ok (.iconst 2, 1) := by decide +kernel
theorem dX12_numeral_43 : decode cX12_numeral 43 = .ok (.invokevirtual 211, 3) := by decide +kernel
theorem dX12_numeral_46 : decode cX12_numeral 46 = .ok (.aload_n 0, 1) := by decide +kernel
theorem dX12_numeral_47 : decode cX12_numeral 47 = .ok (.getfield 202, 3) := by decide +kernel
theorem dX12_numeral_50 : decode cX12_numeral 50 = .ok (.ifCond .eq 5, 3) := by decide +kernel
theorem dX12_numeral_53 : decode cX12_numeral 53 = .ok (.iload_n 1, 1) := by decide +kernel
theorem dX12_numeral_54 : decode cX12_numeral 54 = .ok (.ireturn, 1) := by decide +kernel
theorem dX12_numeral_55 : decode cX12_numeral 55 = .ok (.aload_n 0, 1) := by decide +kernel
theorem dX12_numeral_56 : decode cX12_numeral 56 = .ok (.getfield 177, 3) := by decide +kernel
theorem dX12_numeral_59 : decode cX12_numeral 59 = .ok (.istore_n 3, 1) := by decide +kernel
theorem dX12_numeral_60 : decode cX12_numeral 60 = .ok (.aload_n 0, 1) := by decide +kernel
theorem dX12_numeral_61 : decode cX12_numeral 61 = .ok (.invokevirtual 208, 3) := by decide +kernel
theorem dX12_numeral_64 : decode cX12_numeral 64 = .ok (.iload_n 3, 1) := by decide +kernel
theorem dX12_numeral_65 : decode cX12_numeral 65 = .ok (.ireturn, 1) := by decide +kernel
theorem dX12_found_0 : decode cX12_found 0 = .ok (.iconst 0, 1) := by decide +kernel
theorem dX12_found_1 : decode cX12_found 1 = .ok (.istore 4, 2) := by decide +kernel
theorem dX12_found_3 : decode cX12_found 3 = .ok (.iload 4, 2) := by decide +kernel
theorem dX12_found_5 : decode cX12_found 5 = .ok (.iload_n 2, 1) := by decide +kernel
theorem dX12_found_6 : decode cX12_found 6 = .ok (.if_icmp .ge 22, 3) := by decide +kernel
theorem dX12_found_9 : decode cX12_found 9 = .ok (.aload_n 0, 1) := by decide +kernel
theorem dX12_found_10 : decode cX12_found 10 = .ok (.iload_n 1, 1) := by decide +kernel
theorem dX12_found_11 : decode cX12_found 11 = .ok (.iload 4, 2) := by decide +kernel
theorem dX12_found_13 : decode cX12_found 13 = .ok (.iadd, 1) := by decide +kernel
theorem dX12_found_14 : decode cX12_found 14 = .ok (.iaload, 1) := by decide +kernel
theorem dX12_found_15 : decode cX12_found 15 = .ok (.iload_n 3, 1) := by decide +kernel
theorem dX12_found_16 : decode cX12_found 16 = .ok (.if_icmp .ne 6, 3) := by decide +kernel
theorem dX12_found_19 : decode cX12_found 19 = .ok (.iload 4, 2) := by decide +kernel
theorem dX12_found_21 : decode cX12_found 21 = .ok (.ireturn, 1) := by decide +kernel
theorem dX12_found_22 : decode cX12_found 22 = .ok (.iinc 4 1, 3) := by decide +kernel
theorem dX12_found_25 : decode cX12_found 25 = .ok (.goto (-22), 3) := by decide +kernel
theorem dX12_found_28 : decode cX12_found 28 = .ok (.iconst (-1), 1) := by decide +kernel
theorem dX12_found_29 : decode cX12_found 29 = .ok (.ireturn, 1) := by decide +kernel
theorem dX12_fresh_0 : decode cX12_fresh 0 = .ok (.aload_n 0, 1) := by decide +kernel
theorem dX12_fresh_1 : decode cX12_fresh 1 = .ok (.getfield 202, 3) := by decide +kernel
theorem dX12_fresh_4 : decode cX12_fresh 4 = .ok (.ifCond .eq 5, 3) := by decide +kernel
theorem dX12_fresh_7 : decode cX12_fresh 7 = .ok (.iconst 0, 1) := by decide +kernel
theorem dX12_fresh_8 : decode cX12_fresh 8 = .ok (.ireturn, 1) := by decide +kernel
theorem dX12_fresh_9 : decode cX12_fresh 9 = .ok (.aload_n 0, 1) := by decide +kernel
theorem dX12_fresh_10 : decode cX12_fresh 10 = .ok (.getfield 167, 3) := by decide +kernel
theorem dX12_fresh_13 : decode cX12_fresh 13 = .ok (.iconst 1, 1) := by decide +kernel
theorem dX12_fresh_14 : decode cX12_fresh 14 = .ok (.if_icmp .eq 11, 3) := by decide +kernel
theorem dX12_fresh_17 : decode cX12_fresh 17 = .ok (.aload_n 0, 1) := by decide +kernel
theorem dX12_fresh_18 : decode cX12_fresh 18 = .ok (.iconst 1, 1) := by decide +kernel
theorem dX12_fresh_19 : decode cX12_fresh 19 = .ok (.invokevirtual 211, 3) := by decide +kernel
theorem dX12_fresh_22 : decode cX12_fresh 22 = .ok (.goto 22, 3) := by decide +kernel
theorem dX12_fresh_25 : decode cX12_fresh 25 = .ok (.aload_n 1, 1) := by decide +kernel
theorem dX12_fresh_26 : decode cX12_fresh 26 = .ok (.iload_n 2, 1) := by decide +kernel
theorem dX12_fresh_27 : decode cX12_fresh 27 = .ok (.iload_n 3, 1) := by decide +kernel
theorem dX12_fresh_28 : decode cX12_fresh 28 = .ok (.aload_n 0, 1) := by decide +kernel
theorem dX12_fresh_29 : decode cX12_fresh 29 = .ok (.getfield 177, 3) := by decide +kernel
theorem dX12_fresh_32 : decode cX12_fresh 32 = .ok (.invokestatic 214, 3) := by decide +kernel
theorem dX12_fresh_35 : decode cX12_fresh 35 = .ok (.iconst (-1), 1) := by decide +kernel
theorem dX12_fresh_36 : decode cX12_fresh 36 = .ok (.if_icmp .eq 8, 3) := by decide +kernel
theorem dX12_fresh_39 : decode cX12_fresh 39 = .ok (.aload_n 0, 1) := by decide +kernel
theorem dX12_fresh_40 : decode cX12_fresh 40 = .ok (.iconst 3, 1) := by decide +kernel
theorem dX12_fresh_41 : decode cX12_fresh 41 = .ok (.invokevirtual 211, 3) := by decide +kernel
theorem dX12_fresh_44 : decode cX12_fresh 44 = .ok (.aload_n 0, 1) := by decide +kernel
theorem dX12_fresh_45 : decode cX12_fresh 45 = .ok (.getfield 202, 3) := by decide +kernel
theorem dX12_fresh_48 : decode cX12_fresh 48 = .ok (.ifCond .eq 5, 3) := by decide +kernel
theorem dX12_fresh_51 : decode cX12_fresh 51 = .ok (.iconst 0, 1) := by decide +kernel
theorem dX12_fresh_52 : decode cX12_fresh 52 = .ok (.ireturn, 1) := by decide +kernel
theorem dX12_fresh_53 : decode cX12_fresh 53 = .ok (.aload_n 0, 1) := by decide +kernel
theorem dX12_fresh_54 : decode cX12_fresh 54 = .ok (.getfield 177, 3) := by decide +kernel
theorem dX12_fresh_57 : decode cX12_fresh 57 = .ok (.istore 4, 2) := by decide +kernel
theorem dX12_fresh_59 : decode cX12_fresh 59 = .ok (.aload_n 0, 1) := by decide +kernel
theorem dX12_fresh_60 : decode cX12_fresh 60 = .ok (.invokevirtual 208, 3) := by decide +kernel
theorem dX12_fresh_63 : decode cX12_fresh 63 = .ok (.iload 4, 2) := by decide +kernel
theorem dX12_fresh_65 : decode cX12_fresh 65 = .ok (.ireturn, 1) := by decide +kernel
theorem dX12_fresher_0 : decode cX12_fresher 0 = .ok (.aload_n 0, 1) := by decide +kernel
theorem dX12_fresher_1 : decode cX12_fresher 1 = .ok (.getfield 13, 3) := by decide +kernel
theorem dX12_fresher_4 : decode cX12_fresher 4 = .ok (.bipush 8, 2) := by decide +kernel
theorem dX12_fresher_6 : decode cX12_fresher 6 = .ok (.iload_n 1, 1) := by decide +kernel
theorem dX12_fresher_7 : decode cX12_fresher 7 = .ok (.iadd, 1) := by decide +kernel
theorem dX12_fresher_8 : decode cX12_fresher 8 = .ok (.iaload, 1) := by decide +kernel
theorem dX12_fresher_9 : decode cX12_fresher 9 = .ok (.ireturn, 1) := by decide +kernel
theorem dX12_reads_0 : decode cX12_reads 0 = .ok (.aload_n 0, 1) := by decide +kernel
theorem dX12_reads_1 : decode cX12_reads 1 = .ok (.getfield 13, 3) := by decide +kernel
theorem dX12_reads_4 : decode cX12_reads 4 = .ok (.bipush 8, 2) := by decide +kernel
theorem dX12_reads_6 : decode cX12_reads 6 = .ok (.iload_n 1, 1) := by decide +kernel
theorem dX12_reads_7 : decode cX12_reads 7 = .ok (.iadd, 1) := by decide +kernel
theorem dX12_reads_8 : decode cX12_reads 8 = .ok (.iload_n 2, 1) := by decide +kernel
theorem dX12_reads_9 : decode cX12_reads 9 = .ok (.iastore, 1) := by decide +kernel
theorem dX12_reads_10 : decode cX12_reads 10 = .ok (.return_, 1) := by decide +kernel
theorem dX12_manAtHand_0 : decode cX12_manAtHand 0 = .ok (.aload_n 0, 1) := by decide +kernel
theorem dX12_manAtHand_1 : decode cX12_manAtHand 1 = .ok (.getfield 202, 3) := by decide +kernel
theorem dX12_manAtHand_4 : decode cX12_manAtHand 4 = .ok (.ifCond .eq 5, 3) := by decide +kernel
theorem dX12_manAtHand_7 : decode cX12_manAtHand 7 = .ok (.iconst 0, 1) := by decide +kernel
theorem dX12_manAtHand_8 : decode cX12_manAtHand 8 = .ok (.ireturn, 1) := by decide +kernel
theorem dX12_manAtHand_9 : decode cX12_manAtHand 9 = .ok (.aload_n 0, 1) := by decide +kernel
theorem dX12_manAtHand_10 : decode cX12_manAtHand 10 = .ok (.getfield 167, 3) := by decide +kernel
theorem dX12_manAtHand_13 : decode cX12_manAtHand 13 = .ok (.iconst 1, 1) := by decide +kernel
theorem dX12_manAtHand_14 : decode cX12_manAtHand 14 = .ok (.if_icmp .eq 8, 3) := by decide +kernel
theorem dX12_manAtHand_17 : decode cX12_manAtHand 17 = .ok (.aload_n 0, 1) := by decide +kernel
theorem dX12_manAtHand_18 : decode cX12_manAtHand 18 = .ok (.iconst 1, 1) := by decide +kernel
theorem dX12_manAtHand_19 : decode cX12_manAtHand 19 = .ok (.invokevirtual 211, 3) := by decide +kernel
theorem dX12_manAtHand_22 : decode cX12_manAtHand 22 = .ok (.aload_n 0, 1) := by decide +kernel
theorem dX12_manAtHand_23 : decode cX12_manAtHand 23 = .ok (.getfield 202, 3) := by decide +kernel
theorem dX12_manAtHand_26 : decode cX12_manAtHand 26 = .ok (.ifCond .ne 24, 3) := by decide +kernel
theorem dX12_manAtHand_29 : decode cX12_manAtHand 29 = .ok (.aload_n 0, 1) := by decide +kernel
theorem dX12_manAtHand_30 : decode cX12_manAtHand 30 = .ok (.getfield 16, 3) := by decide +kernel
theorem dX12_manAtHand_33 : decode cX12_manAtHand 33 = .ok (.bipush 6, 2) := by decide +kernel
theorem dX12_manAtHand_35 : decode cX12_manAtHand 35 = .ok (.aload_n 0, 1) := by decide +kernel
theorem dX12_manAtHand_36 : decode cX12_manAtHand 36 = .ok (.iconst 0, 1) := by decide +kernel
theorem dX12_manAtHand_37 : decode cX12_manAtHand 37 = .ok (.invokevirtual 218, 3) := by decide +kernel
theorem dX12_manAtHand_40 : decode cX12_manAtHand 40 = .ok (.aload_n 0, 1) := by decide +kernel
theorem dX12_manAtHand_41 : decode cX12_manAtHand 41 = .ok (.getfield 177, 3) := by decide +kernel
theorem dX12_manAtHand_44 : decode cX12_manAtHand 44 = .ok (.invokestatic 214, 3) := by decide +kernel
theorem dX12_manAtHand_47 : decode cX12_manAtHand 47 = .ok (.goto 4, 3) := by decide +kernel
theorem dX12_manAtHand_50 : decode cX12_manAtHand 50 = .ok (.iconst 0, 1) := by decide +kernel
theorem dX12_manAtHand_51 : decode cX12_manAtHand 51 = .ok (.istore_n 1, 1) := by decide +kernel
theorem dX12_manAtHand_52 : decode cX12_manAtHand 52 = .ok (.aload_n 0, 1) := by decide +kernel
theorem dX12_manAtHand_53 : decode cX12_manAtHand 53 = .ok (.getfield 202, 3) := by decide +kernel
theorem dX12_manAtHand_56 : decode cX12_manAtHand 56 = .ok (.ifCond .ne 13, 3) := by decide +kernel
theorem dX12_manAtHand_59 : decode cX12_manAtHand 59 = .ok (.iload_n 1, 1) := by decide +kernel
theorem dX12_manAtHand_60 : decode cX12_manAtHand 60 = .ok (.iconst (-1), 1) := by decide +kernel
theorem dX12_manAtHand_61 : decode cX12_manAtHand 61 = .ok (.if_icmp .ne 8, 3) := by decide +kernel
theorem dX12_manAtHand_64 : decode cX12_manAtHand 64 = .ok (.aload_n 0, 1) := by decide +kernel
theorem dX12_manAtHand_65 : decode cX12_manAtHand 65 = .ok (.iconst 4, 1) := by decide +kernel
theorem dX12_manAtHand_66 : decode cX12_manAtHand 66 = .ok (.invokevirtual 211, 3) := by decide +kernel
theorem dX12_manAtHand_69 : decode cX12_manAtHand 69 = .ok (.aload_n 0, 1) := by decide +kernel
theorem dX12_manAtHand_70 : decode cX12_manAtHand 70 = .ok (.getfield 202, 3) := by decide +kernel
theorem dX12_manAtHand_73 : decode cX12_manAtHand 73 = .ok (.ifCond .eq 7, 3) := by decide +kernel
theorem dX12_manAtHand_76 : decode cX12_manAtHand 76 = .ok (.iconst 0, 1) := by decide +kernel
theorem dX12_manAtHand_77 : decode cX12_manAtHand 77 = .ok (.goto 4, 3) := by decide +kernel
theorem dX12_manAtHand_80 : decode cX12_manAtHand 80 = .ok (.iload_n 1, 1) := by decide +kernel
theorem dX12_manAtHand_81 : decode cX12_manAtHand 81 = .ok (.ireturn, 1) := by decide +kernel
theorem dX12_manAhead_0 : decode cX12_manAhead 0 = .ok (.aload_n 0, 1) := by decide +kernel
theorem dX12_manAhead_1 : decode cX12_manAhead 1 = .ok (.invokevirtual 222, 3) := by decide +kernel
theorem dX12_manAhead_4 : decode cX12_manAhead 4 = .ok (.istore_n 1, 1) := by decide +kernel
theorem dX12_manAhead_5 : decode cX12_manAhead 5 = .ok (.aload_n 0, 1) := by decide +kernel
theorem dX12_manAhead_6 : decode cX12_manAhead 6 = .ok (.invokevirtual 225, 3) := by decide +kernel
theorem dX12_manAhead_9 : decode cX12_manAhead 9 = .ok (.iload_n 1, 1) := by decide +kernel
theorem dX12_manAhead_10 : decode cX12_manAhead 10 = .ok (.ireturn, 1) := by decide +kernel
theorem dX12_isFull_0 : decode cX12_isFull 0 = .ok (.iload_n 1, 1) := by decide +kernel
theorem dX12_isFull_1 : decode cX12_isFull 1 = .ok (.tableswitch 115 0 4 #[35, 51, 67, 83, 99], 35) := by decide +kernel
theorem dX12_isFull_36 : decode cX12_isFull 36 = .ok (.aload_n 0, 1) := by decide +kernel
theorem dX12_isFull_37 : decode cX12_isFull 37 = .ok (.iconst 0, 1) := by decide +kernel
theorem dX12_isFull_38 : decode cX12_isFull 38 = .ok (.invokevirtual 218, 3) := by decide +kernel
theorem dX12_isFull_41 : decode cX12_isFull 41 = .ok (.bipush 6, 2) := by decide +kernel
theorem dX12_isFull_43 : decode cX12_isFull 43 = .ok (.if_icmp .ne 7, 3) := by decide +kernel
theorem dX12_isFull_46 : decode cX12_isFull 46 = .ok (.iconst 1, 1) := by decide +kernel
theorem dX12_isFull_47 : decode cX12_isFull 47 = .ok (.goto 4, 3) := by decide +kernel
theorem dX12_isFull_50 : decode cX12_isFull 50 = .ok (.iconst 0, 1) := by decide +kernel
theorem dX12_isFull_51 : decode cX12_isFull 51 = .ok (.ireturn, 1) := by decide +kernel
theorem dX12_isFull_52 : decode cX12_isFull 52 = .ok (.aload_n 0, 1) := by decide +kernel
theorem dX12_isFull_53 : decode cX12_isFull 53 = .ok (.iconst 1, 1) := by decide +kernel
theorem dX12_isFull_54 : decode cX12_isFull 54 = .ok (.invokevirtual 218, 3) := by decide +kernel
theorem dX12_isFull_57 : decode cX12_isFull 57 = .ok (.bipush 12, 2) := by decide +kernel
theorem dX12_isFull_59 : decode cX12_isFull 59 = .ok (.if_icmp .ne 7, 3) := by decide +kernel
theorem dX12_isFull_62 : decode cX12_isFull 62 = .ok (.iconst 1, 1) := by decide +kernel
theorem dX12_isFull_63 : decode cX12_isFull 63 = .ok (.goto 4, 3) := by decide +kernel
theorem dX12_isFull_66 : decode cX12_isFull 66 = .ok (.iconst 0, 1) := by decide +kernel
theorem dX12_isFull_67 : decode cX12_isFull 67 = .ok (.ireturn, 1) := by decide +kernel
theorem dX12_isFull_68 : decode cX12_isFull 68 = .ok (.aload_n 0, 1) := by decide +kernel
theorem dX12_isFull_69 : decode cX12_isFull 69 = .ok (.iconst 2, 1) := by decide +kernel
theorem dX12_isFull_70 : decode cX12_isFull 70 = .ok (.invokevirtual 218, 3) := by decide +kernel
theorem dX12_isFull_73 : decode cX12_isFull 73 = .ok (.bipush 12, 2) := by decide +kernel
theorem dX12_isFull_75 : decode cX12_isFull 75 = .ok (.if_icmp .ne 7, 3) := by decide +kernel
theorem dX12_isFull_78 : decode cX12_isFull 78 = .ok (.iconst 1, 1) := by decide +kernel
theorem dX12_isFull_79 : decode cX12_isFull 79 = .ok (.goto 4, 3) := by decide +kernel
theorem dX12_isFull_82 : decode cX12_isFull 82 = .ok (.iconst 0, 1) := by decide +kernel
theorem dX12_isFull_83 : decode cX12_isFull 83 = .ok (.ireturn, 1) := by decide +kernel
theorem dX12_isFull_84 : decode cX12_isFull 84 = .ok (.aload_n 0, 1) := by decide +kernel
theorem dX12_isFull_85 : decode cX12_isFull 85 = .ok (.iconst 3, 1) := by decide +kernel
theorem dX12_isFull_86 : decode cX12_isFull 86 = .ok (.invokevirtual 218, 3) := by decide +kernel
theorem dX12_isFull_89 : decode cX12_isFull 89 = .ok (.bipush 8, 2) := by decide +kernel
theorem dX12_isFull_91 : decode cX12_isFull 91 = .ok (.if_icmp .ne 7, 3) := by decide +kernel
theorem dX12_isFull_94 : decode cX12_isFull 94 = .ok (.iconst 1, 1) := by decide +kernel
theorem dX12_isFull_95 : decode cX12_isFull 95 = .ok (.goto 4, 3) := by decide +kernel
theorem dX12_isFull_98 : decode cX12_isFull 98 = .ok (.iconst 0, 1) := by decide +kernel
theorem dX12_isFull_99 : decode cX12_isFull 99 = .ok (.ireturn, 1) := by decide +kernel
theorem dX12_isFull_100 : decode cX12_isFull 100 = .ok (.aload_n 0, 1) := by decide +kernel
theorem dX12_isFull_101 : decode cX12_isFull 101 = .ok (.iconst 4, 1) := by decide +kernel
theorem dX12_isFull_102 : decode cX12_isFull 102 = .ok (.invokevirtual 218, 3) := by decide +kernel
theorem dX12_isFull_105 : decode cX12_isFull 105 = .ok (.bipush 8, 2) := by decide +kernel
theorem dX12_isFull_107 : decode cX12_isFull 107 = .ok (.if_icmp .ne 7, 3) := by decide +kernel
theorem dX12_isFull_110 : decode cX12_isFull 110 = .ok (.iconst 1, 1) := by decide +kernel
theorem dX12_isFull_111 : decode cX12_isFull 111 = .ok (.goto 4, 3) := by decide +kernel
theorem dX12_isFull_114 : decode cX12_isFull 114 = .ok (.iconst 0, 1) := by decide +kernel
theorem dX12_isFull_115 : decode cX12_isFull 115 = .ok (.ireturn, 1) := by decide +kernel
theorem dX12_isFull_116 : decode cX12_isFull 116 = .ok (.iconst 0, 1) := by decide +kernel
theorem dX12_isFull_117 : decode cX12_isFull 117 = .ok (.ireturn, 1) := by decide +kernel
theorem dX12_line_0 : decode cX12_line 0 = .ok (.aload_n 0, 1) := by decide +kernel
theorem dX12_line_1 : decode cX12_line 1 = .ok (.getfield 167, 3) := by decide +kernel
theorem dX12_line_4 : decode cX12_line 4 = .ok (.ifCond .ne 12, 3) := by decide +kernel
theorem dX12_line_7 : decode cX12_line 7 = .ok (.aload_n 0, 1) := by decide +kernel
theorem dX12_line_8 : decode cX12_line 8 = .ok (.getfield 177, 3) := by decide +kernel
theorem dX12_line_11 : decode cX12_line 11 = .ok (.bipush 7, 2) := by decide +kernel
theorem dX12_line_13 : decode cX12_line 13 = .ok (.if_icmp .le 9, 3) := by decide +kernel
theorem dX12_line_16 : decode cX12_line 16 = .ok (.aload_n 0, 1) := by decide +kernel
theorem dX12_line_17 : decode cX12_line 17 = .ok (.iconst 1, 1) := by decide +kernel
theorem dX12_line_18 : decode cX12_line 18 = .ok (.invokevirtual 211, 3) := by decide +kernel
theorem dX12_line_21 : decode cX12_line 21 = .ok (.return_, 1) := by decide +kernel
theorem dX12_line_22 : decode cX12_line 22 = .ok (.aload_n 0, 1) := by decide +kernel
theorem dX12_line_23 : decode cX12_line 23 = .ok (.getfield 177, 3) := by decide +kernel
theorem dX12_line_26 : decode cX12_line 26 = .ok (.istore_n 1, 1) := by decide +kernel
theorem dX12_line_27 : decode cX12_line 27 = .ok (.aload_n 0, 1) := by decide +kernel
theorem dX12_line_28 : decode cX12_line 28 = .ok (.iload_n 1, 1) := by decide +kernel
theorem dX12_line_29 : decode cX12_line 29 = .ok (.invokevirtual 228, 3) := by decide +kernel
theorem dX12_line_32 : decode cX12_line 32 = .ok (.ifCond .eq 11, 3) := by decide +kernel
theorem dX12_line_35 : decode cX12_line 35 = .ok (.aload_n 0, 1) := by decide +kernel
theorem dX12_line_36 : decode cX12_line 36 = .ok (.iconst 2, 1) := by decide +kernel
theorem dX12_line_37 : decode cX12_line 37 = .ok (.invokevirtual 211, 3) := by decide +kernel
theorem dX12_line_40 : decode cX12_line 40 = .ok (.goto 31, 3) := by decide +kernel
theorem dX12_line_43 : decode cX12_line 43 = .ok (.iload_n 1, 1) := by decide +kernel
theorem dX12_line_44 : decode cX12_line 44 = .ok (.iconst 5, 1) := by decide +kernel
theorem dX12_line_45 : decode cX12_line 45 = .ok (.if_icmp .eq 9, 3) := by decide +kernel
theorem dX12_line_48 : decode cX12_line 48 = .ok (.iload_n 1, 1) := by decide +kernel
theorem dX12_line_49 : decode cX12_line 49 = .ok (.bipush 6, 2) := by decide +kernel
theorem dX12_line_51 : decode cX12_line 51 = .ok (.if_icmp .ne 20, 3) := by decide +kernel
theorem dX12_line_54 : decode cX12_line 54 = .ok (.aload_n 0, 1) := by decide +kernel
theorem dX12_line_55 : decode cX12_line 55 = .ok (.getfield 231, 3) := by decide +kernel
theorem dX12_line_58 : decode cX12_line 58 = .ok (.iload_n 1, 1) := by decide +kernel
theorem dX12_line_59 : decode cX12_line 59 = .ok (.ishr, 1) := by decide +kernel
theorem dX12_line_60 : decode cX12_line 60 = .ok (.iconst 1, 1) := by decide +kernel
theorem dX12_line_61 : decode cX12_line 61 = .ok (.iand, 1) := by decide +kernel
theorem dX12_line_62 : decode cX12_line 62 = .ok (.iconst 1, 1) := by decide +kernel
theorem dX12_line_63 : decode cX12_line 63 = .ok (.if_icmp .ne 8, 3) := by decide +kernel
theorem dX12_line_66 : decode cX12_line 66 = .ok (.aload_n 0, 1) := by decide +kernel
theorem dX12_line_67 : decode cX12_line 67 = .ok (.iconst 3, 1) := by decide +kernel
theorem dX12_line_68 : decode cX12_line 68 = .ok (.invokevirtual 211, 3) := by decide +kernel
theorem dX12_line_71 : decode cX12_line 71 = .ok (.aload_n 0, 1) := by decide +kernel
theorem dX12_line_72 : decode cX12_line 72 = .ok (.getfield 202, 3) := by decide +kernel
theorem dX12_line_75 : decode cX12_line 75 = .ok (.ifCond .eq 4, 3) := by decide +kernel
theorem dX12_line_78 : decode cX12_line 78 = .ok (.return_, 1) := by decide +kernel
theorem dX12_line_79 : decode cX12_line 79 = .ok (.aload_n 0, 1) := by decide +kernel
theorem dX12_line_80 : decode cX12_line 80 = .ok (.dup, 1) := by decide +kernel
theorem dX12_line_81 : decode cX12_line 81 = .ok (.getfield 231, 3) := by decide +kernel
theorem dX12_line_84 : decode cX12_line 84 = .ok (.iconst 1, 1) := by decide +kernel
theorem dX12_line_85 : decode cX12_line 85 = .ok (.iload_n 1, 1) := by decide +kernel
theorem dX12_line_86 : decode cX12_line 86 = .ok (.ishl, 1) := by decide +kernel
theorem dX12_line_87 : decode cX12_line 87 = .ok (.ior, 1) := by decide +kernel
theorem dX12_line_88 : decode cX12_line 88 = .ok (.putfield 231, 3) := by decide +kernel
theorem dX12_line_91 : decode cX12_line 91 = .ok (.aload_n 0, 1) := by decide +kernel
theorem dX12_line_92 : decode cX12_line 92 = .ok (.invokevirtual 208, 3) := by decide +kernel
theorem dX12_line_95 : decode cX12_line 95 = .ok (.iload_n 1, 1) := by decide +kernel
theorem dX12_line_96 : decode cX12_line 96 = .ok (.tableswitch 269 0 6 #[44, 102, 109, 168, 231, 238, 253], 44) := by decide +kernel
theorem dX12_line_140 : decode cX12_line 140 = .ok (.bipush 6, 2) := by decide +kernel
theorem dX12_line_142 : decode cX12_line 142 = .ok (.aload_n 0, 1) := by decide +kernel
theorem dX12_line_143 : decode cX12_line 143 = .ok (.iconst 0, 1) := by decide +kernel
theorem dX12_line_144 : decode cX12_line 144 = .ok (.invokevirtual 218, 3) := by decide +kernel
theorem dX12_line_147 : decode cX12_line 147 = .ok (.iadd, 1) := by decide +kernel
theorem dX12_line_148 : decode cX12_line 148 = .ok (.istore_n 2, 1) := by decide +kernel
theorem dX12_line_149 : decode cX12_line 149 = .ok (.aload_n 0, 1) := by decide +kernel
theorem dX12_line_150 : decode cX12_line 150 = .ok (.getfield 16, 3) := by decide +kernel
theorem dX12_line_153 : decode cX12_line 153 = .ok (.iload_n 2, 1) := by decide +kernel
theorem dX12_line_154 : decode cX12_line 154 = .ok (.aload_n 0, 1) := by decide +kernel
theorem dX12_line_155 : decode cX12_line 155 = .ok (.aload_n 0, 1) := by decide +kernel
theorem dX12_line_156 : decode cX12_line 156 = .ok (.getfield 16, 3) := by decide +kernel
theorem dX12_line_159 : decode cX12_line 159 = .ok (.bipush 6, 2) := by decide +kernel
theorem dX12_line_161 : decode cX12_line 161 = .ok (.aload_n 0, 1) := by decide +kernel
theorem dX12_line_162 : decode cX12_line 162 = .ok (.iconst 0, 1) := by decide +kernel
theorem dX12_line_163 : decode cX12_line 163 = .ok (.invokevirtual 218, 3) := by decide +kernel
theorem dX12_line_166 : decode cX12_line 166 = .ok (.invokevirtual 234, 3) := by decide +kernel
theorem dX12_line_169 : decode cX12_line 169 = .ok (.iastore, 1) := by decide +kernel
theorem dX12_line_170 : decode cX12_line 170 = .ok (.aload_n 0, 1) := by decide +kernel
theorem dX12_line_171 : decode cX12_line 171 = .ok (.getfield 19, 3) := by decide +kernel
theorem dX12_line_174 : decode cX12_line 174 = .ok (.iload_n 2, 1) := by decide +kernel
theorem dX12_line_175 : decode cX12_line 175 = .ok (.aload_n 0, 1) := by decide +kernel
theorem dX12_line_176 : decode cX12_line 176 = .ok (.iconst 1, 1) := by decide +kernel
theorem dX12_line_177 : decode cX12_line 177 = .ok (.bipush 60, 2) := by decide +kernel
theorem dX12_line_179 : decode cX12_line 179 = .ok (.invokevirtual 238, 3) := by decide +kernel
theorem dX12_line_182 : decode cX12_line 182 = .ok (.iastore, 1) := by decide +kernel
theorem dX12_line_183 : decode cX12_line 183 = .ok (.aload_n 0, 1) := by decide +kernel
theorem dX12_line_184 : decode cX12_line 184 = .ok (.iconst 0, 1) := by decide +kernel
theorem dX12_line_185 : decode cX12_line 185 = .ok (.aload_n 0, 1) := by decide +kernel
theorem dX12_line_186 : decode cX12_line 186 = .ok (.iconst 0, 1) := by decide +kernel
theorem dX12_line_187 : decode cX12_line 187 = .ok (.invokevirtual 218, 3) := by decide +kernel
theorem dX12_line_190 : decode cX12_line 190 = .ok (.iconst 1, 1) := by decide +kernel
theorem dX12_line_191 : decode cX12_line 191 = .ok (.iadd, 1) := by decide +kernel
theorem dX12_line_192 : decode cX12_line 192 = .ok (.invokevirtual 242, 3) := by decide +kernel
theorem dX12_line_195 : decode cX12_line 195 = .ok (.goto 174, 3) := by decide +kernel
theorem dX12_line_198 : decode cX12_line 198 = .ok (.aload_n 0, 1) := by decide +kernel
theorem dX12_line_199 : decode cX12_line 199 = .ok (.invokevirtual 246, 3) := by decide +kernel
theorem dX12_line_202 : decode cX12_line 202 = .ok (.goto 167, 3) := by decide +kernel
theorem dX12_line_205 : decode cX12_line 205 = .ok (.bipush 12, 2) := by decide +kernel
theorem dX12_line_207 : decode cX12_line 207 = .ok (.aload_n 0, 1) := by decide +kernel
theorem dX12_line_208 : decode cX12_line 208 = .ok (.iconst 2, 1) := by decide +kernel
theorem dX12_line_209 : decode cX12_line 209 = .ok (.invokevirtual 218, 3) := by decide +kernel
theorem dX12_line_212 : decode cX12_line 212 = .ok (.iadd, 1) := by decide +kernel
theorem dX12_line_213 : decode cX12_line 213 = .ok (.istore_n 3, 1) := by decide +kernel
theorem dX12_line_214 : decode cX12_line 214 = .ok (.aload_n 0, 1) := by decide +kernel
theorem dX12_line_215 : decode cX12_line 215 = .ok (.getfield 28, 3) := by decide +kernel
theorem dX12_line_218 : decode cX12_line 218 = .ok (.iload_n 3, 1) := by decide +kernel
theorem dX12_line_219 : decode cX12_line 219 = .ok (.aload_n 0, 1) := by decide +kernel
theorem dX12_line_220 : decode cX12_line 220 = .ok (.invokevirtual 249, 3) := by decide +kernel
theorem dX12_line_223 : decode cX12_line 223 = .ok (.iastore, 1) := by decide +kernel
theorem dX12_line_224 : decode cX12_line 224 = .ok (.aload_n 0, 1) := by decide +kernel
theorem dX12_line_225 : decode cX12_line 225 = .ok (.getfield 31, 3) := by decide +kernel
theorem dX12_line_228 : decode cX12_line 228 = .ok (.iload_n 3, 1) := by decide +kernel
theorem dX12_line_229 : decode cX12_line 229 = .ok (.aload_n 0, 1) := by decide +kernel
theorem dX12_line_230 : decode cX12_line 230 = .ok (.iconst 0, 1) := by decide +kernel
theorem dX12_line_231 : decode cX12_line 231 = .ok (.iconst 1, 1) := by decide +kernel
theorem dX12_line_232 : decode cX12_line 232 = .ok (.invokevirtual 238, 3) := by decide +kernel
theorem dX12_line_235 : decode cX12_line 235 = .ok (.iastore, 1) := by decide +kernel
theorem dX12_line_236 : decode cX12_line 236 = .ok (.aload_n 0, 1) := by decide +kernel
theorem dX12_line_237 : decode cX12_line 237 = .ok (.getfield 34, 3) := by decide +kernel
theorem dX12_line_240 : decode cX12_line 240 = .ok (.iload_n 3, 1) := by decide +kernel
theorem dX12_line_241 : decode cX12_line 241 = .ok (.aload_n 0, 1) := by decide +kernel
theorem dX12_line_242 : decode cX12_line 242 = .ok (.iconst 0, 1) := by decide +kernel
theorem dX12_line_243 : decode cX12_line 243 = .ok (.bipush 99, 2) := by decide +kernel
theorem dX12_line_245 : decode cX12_line 245 = .ok (.invokevirtual 238, 3) := by decide +kernel
theorem dX12_line_248 : decode cX12_line 248 = .ok (.iastore, 1) := by decide +kernel
theorem dX12_line_249 : decode cX12_line 249 = .ok (.aload_n 0, 1) := by decide +kernel
theorem dX12_line_250 : decode cX12_line 250 = .ok (.iconst 2, 1) := by decide +kernel
theorem dX12_line_251 : decode cX12_line 251 = .ok (.aload_n 0, 1) := by decide +kernel
theorem dX12_line_252 : decode cX12_line 252 = .ok (.iconst 2, 1) := by decide +kernel
theorem dX12_line_253 : decode cX12_line 253 = .ok (.invokevirtual 218, 3) := by decide +kernel
theorem dX12_line_256 : decode cX12_line 256 = .ok (.iconst 1, 1) := by decide +kernel
theorem dX12_line_257 : decode cX12_line 257 = .ok (.iadd, 1) := by decide +kernel
theorem dX12_line_258 : decode cX12_line 258 = .ok (.invokevirtual 242, 3) := by decide +kernel
theorem dX12_line_261 : decode cX12_line 261 = .ok (.goto 108, 3) := by decide +kernel
theorem dX12_line_264 : decode cX12_line 264 = .ok (.bipush 8, 2) := by decide +kernel
theorem dX12_line_266 : decode cX12_line 266 = .ok (.aload_n 0, 1) := by decide +kernel
theorem dX12_line_267 : decode cX12_line 267 = .ok (.iconst 3, 1) := by decide +kernel
theorem dX12_line_268 : decode cX12_line 268 = .ok (.invokevirtual 218, 3) := by decide +kernel
theorem dX12_line_271 : decode cX12_line 271 = .ok (.iadd, 1) := by decide +kernel
theorem dX12_line_272 : decode cX12_line 272 = .ok (.istore 4, 2) := by decide +kernel
theorem dX12_line_274 : decode cX12_line 274 = .ok (.aload_n 0, 1) := by decide +kernel
theorem dX12_line_275 : decode cX12_line 275 = .ok (.getfield 37, 3) := by decide +kernel
theorem dX12_line_278 : decode cX12_line 278 = .ok (.iload 4, 2) := by decide +kernel
theorem dX12_line_280 : decode cX12_line 280 = .ok (.aload_n 0, 1) := by decide +kernel
theorem dX12_line_281 : decode cX12_line 281 = .ok (.invokevirtual 249, 3) := by decide +kernel
theorem dX12_line_284 : decode cX12_line 284 = .ok (.iastore, 1) := by decide +kernel
theorem dX12_line_285 : decode cX12_line 285 = .ok (.aload_n 0, 1) := by decide +kernel
theorem dX12_line_286 : decode cX12_line 286 = .ok (.getfield 40, 3) := by decide +kernel
theorem dX12_line_289 : decode cX12_line 289 = .ok (.iload 4, 2) := by decide +kernel
theorem dX12_line_291 : decode cX12_line 291 = .ok (.aload_n 0, 1) := by decide +kernel
theorem dX12_line_292 : decode cX12_line 292 = .ok (.iconst 0, 1) := by decide +kernel
theorem dX12_line_293 : decode cX12_line 293 = .ok (.iconst 1, 1) := by decide +kernel
theorem dX12_line_294 : decode cX12_line 294 = .ok (.invokevirtual 238, 3) := by decide +kernel
theorem dX12_line_297 : decode cX12_line 297 = .ok (.iastore, 1) := by decide +kernel
theorem dX12_line_298 : decode cX12_line 298 = .ok (.aload_n 0, 1) := by decide +kernel
theorem dX12_line_299 : decode cX12_line 299 = .ok (.getfield 43, 3) := by decide +kernel
theorem dX12_line_302 : decode cX12_line 302 = .ok (.iload 4, 2) := by decide +kernel
theorem dX12_line_304 : decode cX12_line 304 = .ok (.aload_n 0, 1) := by decide +kernel
theorem dX12_line_305 : decode cX12_line 305 = .ok (.iconst 0, 1) := by decide +kernel
theorem dX12_line_306 : decode cX12_line 306 = .ok (.bipush 99, 2) := by decide +kernel
theorem dX12_line_308 : decode cX12_line 308 = .ok (.invokevirtual 238, 3) := by decide +kernel
theorem dX12_line_311 : decode cX12_line 311 = .ok (.iastore, 1) := by decide +kernel
theorem dX12_line_312 : decode cX12_line 312 = .ok (.aload_n 0, 1) := by decide +kernel
theorem dX12_line_313 : decode cX12_line 313 = .ok (.iconst 3, 1) := by decide +kernel
theorem dX12_line_314 : decode cX12_line 314 = .ok (.aload_n 0, 1) := by decide +kernel
theorem dX12_line_315 : decode cX12_line 315 = .ok (.iconst 3, 1) := by decide +kernel
theorem dX12_line_316 : decode cX12_line 316 = .ok (.invokevirtual 218, 3) := by decide +kernel
theorem dX12_line_319 : decode cX12_line 319 = .ok (.iconst 1, 1) := by decide +kernel
theorem dX12_line_320 : decode cX12_line 320 = .ok (.iadd, 1) := by decide +kernel
theorem dX12_line_321 : decode cX12_line 321 = .ok (.invokevirtual 242, 3) := by decide +kernel
theorem dX12_line_324 : decode cX12_line 324 = .ok (.goto 45, 3) := by decide +kernel
theorem dX12_line_327 : decode cX12_line 327 = .ok (.aload_n 0, 1) := by decide +kernel
theorem dX12_line_328 : decode cX12_line 328 = .ok (.invokevirtual 252, 3) := by decide +kernel
theorem dX12_line_331 : decode cX12_line 331 = .ok (.goto 38, 3) := by decide +kernel
theorem dX12_line_334 : decode cX12_line 334 = .ok (.aload_n 0, 1) := by decide +kernel
theorem dX12_line_335 : decode cX12_line 335 = .ok (.iconst 5, 1) := by decide +kernel
theorem dX12_line_336 : decode cX12_line 336 = .ok (.aload_n 0, 1) := by decide +kernel
theorem dX12_line_337 : decode cX12_line 337 = .ok (.iconst 0, 1) := by decide +kernel
theorem dX12_line_338 : decode cX12_line 338 = .ok (.bipush 100, 2) := by decide +kernel
theorem dX12_line_340 : decode cX12_line 340 = .ok (.invokevirtual 238, 3) := by decide +kernel
theorem dX12_line_343 : decode cX12_line 343 = .ok (.invokevirtual 242, 3) := by decide +kernel
theorem dX12_line_346 : decode cX12_line 346 = .ok (.goto 23, 3) := by decide +kernel
theorem dX12_line_349 : decode cX12_line 349 = .ok (.aload_n 0, 1) := by decide +kernel
theorem dX12_line_350 : decode cX12_line 350 = .ok (.bipush 6, 2) := by decide +kernel
theorem dX12_line_352 : decode cX12_line 352 = .ok (.aload_n 0, 1) := by decide +kernel
theorem dX12_line_353 : decode cX12_line 353 = .ok (.iconst 0, 1) := by decide +kernel
theorem dX12_line_354 : decode cX12_line 354 = .ok (.ldc 186, 2) := by decide +kernel
theorem dX12_line_356 : decode cX12_line 356 = .ok (.invokevirtual 238, 3) := by decide +kernel
theorem dX12_line_359 : decode cX12_line 359 = .ok (.invokevirtual 242, 3) := by decide +kernel
theorem dX12_line_362 : decode cX12_line 362 = .ok (.goto 7, 3) := by decide +kernel
theorem dX12_line_365 : decode cX12_line 365 = .ok (.aload_n 0, 1) := by decide +kernel
theorem dX12_line_366 : decode cX12_line 366 = .ok (.invokevirtual 255, 3) := by decide +kernel
theorem dX12_line_369 : decode cX12_line 369 = .ok (.aload_n 0, 1) := by decide +kernel
theorem dX12_line_370 : decode cX12_line 370 = .ok (.getfield 202, 3) := by decide +kernel
theorem dX12_line_373 : decode cX12_line 373 = .ok (.ifCond .eq 4, 3) := by decide +kernel
theorem dX12_line_376 : decode cX12_line 376 = .ok (.return_, 1) := by decide +kernel
theorem dX12_line_377 : decode cX12_line 377 = .ok (.aload_n 0, 1) := by decide +kernel
theorem dX12_line_378 : decode cX12_line 378 = .ok (.bipush 59, 2) := by decide +kernel
theorem dX12_line_380 : decode cX12_line 380 = .ok (.invokevirtual 258, 3) := by decide +kernel
theorem dX12_line_383 : decode cX12_line 383 = .ok (.ifCond .ne 11, 3) := by decide +kernel
theorem dX12_line_386 : decode cX12_line 386 = .ok (.aload_n 0, 1) := by decide +kernel
theorem dX12_line_387 : decode cX12_line 387 = .ok (.iconst 1, 1) := by decide +kernel
theorem dX12_line_388 : decode cX12_line 388 = .ok (.invokevirtual 211, 3) := by decide +kernel
theorem dX12_line_391 : decode cX12_line 391 = .ok (.goto 7, 3) := by decide +kernel
theorem dX12_line_394 : decode cX12_line 394 = .ok (.aload_n 0, 1) := by decide +kernel
theorem dX12_line_395 : decode cX12_line 395 = .ok (.invokevirtual 208, 3) := by decide +kernel
theorem dX12_line_398 : decode cX12_line 398 = .ok (.aload_n 0, 1) := by decide +kernel
theorem dX12_line_399 : decode cX12_line 399 = .ok (.dup, 1) := by decide +kernel
theorem dX12_line_400 : decode cX12_line 400 = .ok (.getfield 261, 3) := by decide +kernel
theorem dX12_line_403 : decode cX12_line 403 = .ok (.iconst 1, 1) := by decide +kernel
theorem dX12_line_404 : decode cX12_line 404 = .ok (.iadd, 1) := by decide +kernel
theorem dX12_line_405 : decode cX12_line 405 = .ok (.putfield 261, 3) := by decide +kernel
theorem dX12_line_408 : decode cX12_line 408 = .ok (.return_, 1) := by decide +kernel
theorem dX12_juneLine_0 : decode cX12_juneLine 0 = .ok (.bipush 12, 2) := by decide +kernel
theorem dX12_juneLine_2 : decode cX12_juneLine 2 = .ok (.aload_n 0, 1) := by decide +kernel
theorem dX12_juneLine_3 : decode cX12_juneLine 3 = .ok (.iconst 1, 1) := by decide +kernel
theorem dX12_juneLine_4 : decode cX12_juneLine 4 = .ok (.invokevirtual 218, 3) := by decide +kernel
theorem dX12_juneLine_7 : decode cX12_juneLine 7 = .ok (.iadd, 1) := by decide +kernel
theorem dX12_juneLine_8 : decode cX12_juneLine 8 = .ok (.istore_n 1, 1) := by decide +kernel
theorem dX12_juneLine_9 : decode cX12_juneLine 9 = .ok (.aload_n 0, 1) := by decide +kernel
theorem dX12_juneLine_10 : decode cX12_juneLine 10 = .ok (.getfield 22, 3) := by decide +kernel
theorem dX12_juneLine_13 : decode cX12_juneLine 13 = .ok (.iload_n 1, 1) := by decide +kernel
theorem dX12_juneLine_14 : decode cX12_juneLine 14 = .ok (.aload_n 0, 1) := by decide +kernel
theorem dX12_juneLine_15 : decode cX12_juneLine 15 = .ok (.invokevirtual 249, 3) := by decide +kernel
theorem dX12_juneLine_18 : decode cX12_juneLine 18 = .ok (.iastore, 1) := by decide +kernel
theorem dX12_juneLine_19 : decode cX12_juneLine 19 = .ok (.bipush 12, 2) := by decide +kernel
theorem dX12_juneLine_21 : decode cX12_juneLine 21 = .ok (.istore_n 2, 1) := by decide +kernel
theorem dX12_juneLine_22 : decode cX12_juneLine 22 = .ok (.iload_n 2, 1) := by decide +kernel
theorem dX12_juneLine_23 : decode cX12_juneLine 23 = .ok (.iload_n 1, 1) := by decide +kernel
theorem dX12_juneLine_24 : decode cX12_juneLine 24 = .ok (.if_icmp .ge 57, 3) := by decide +kernel
theorem dX12_juneLine_27 : decode cX12_juneLine 27 = .ok (.aload_n 0, 1) := by decide +kernel
theorem dX12_juneLine_28 : decode cX12_juneLine 28 = .ok (.getfield 202, 3) := by decide +kernel
theorem dX12_juneLine_31 : decode cX12_juneLine 31 = .ok (.ifCond .ne 44, 3) := by decide +kernel
theorem dX12_juneLine_34 : decode cX12_juneLine 34 = .ok (.aload_n 0, 1) := by decide +kernel
theorem dX12_juneLine_35 : decode cX12_juneLine 35 = .ok (.getfield 167, 3) := by decide +kernel
theorem dX12_juneLine_38 : decode cX12_juneLine 38 = .ok (.iconst 2, 1) := by decide +kernel
theorem dX12_juneLine_39 : decode cX12_juneLine 39 = .ok (.if_icmp .ne 36, 3) := by decide +kernel
theorem dX12_juneLine_42 : decode cX12_juneLine 42 = .ok (.aload_n 0, 1) := by decide +kernel
theorem dX12_juneLine_43 : decode cX12_juneLine 43 = .ok (.getfield 22, 3) := by decide +kernel
theorem dX12_juneLine_46 : decode cX12_juneLine 46 = .ok (.iload_n 2, 1) := by decide +kernel
theorem dX12_juneLine_47 : decode cX12_juneLine 47 = .ok (.iaload, 1) := by decide +kernel
theorem dX12_juneLine_48 : decode cX12_juneLine 48 = .ok (.aload_n 0, 1) := by decide +kernel
theorem dX12_juneLine_49 : decode cX12_juneLine 49 = .ok (.getfield 22, 3) := by decide +kernel
theorem dX12_juneLine_52 : decode cX12_juneLine 52 = .ok (.iload_n 1, 1) := by decide +kernel
theorem dX12_juneLine_53 : decode cX12_juneLine 53 = .ok (.iaload, 1) := by decide +kernel
theorem dX12_juneLine_54 : decode cX12_juneLine 54 = .ok (.if_icmp .ne 21, 3) := by decide +kernel
theorem dX12_juneLine_57 : decode cX12_juneLine 57 = .ok (.aload_n 0, 1) := by decide +kernel
theorem dX12_juneLine_58 : decode cX12_juneLine 58 = .ok (.getfield 25, 3) := by decide +kernel
theorem dX12_juneLine_61 : decode cX12_juneLine 61 = .ok (.iload_n 2, 1) := by decide +kernel
theorem dX12_juneLine_62 : decode cX12_juneLine 62 = .ok (.iaload, 1) := by decide +kernel
theorem dX12_juneLine_63 : decode cX12_juneLine 63 = .ok (.aload_n 0, 1) := by decide +kernel
theorem dX12_juneLine_64 : decode cX12_juneLine 64 = .ok (.getfield 177, 3) := by decide +kernel
theorem dX12_juneLine_67 : decode cX12_juneLine 67 = .ok (.if_icmp .ne 8, 3) := by decide +kernel
theorem dX12_juneLine_70 : decode cX12_juneLine 70 = .ok (.aload_n 0, 1) := by decide +kernel
theorem dX12_juneLine_71 : decode cX12_juneLine 71 = .ok (.iconst 3, 1) := by decide +kernel
theorem dX12_juneLine_72 : decode cX12_juneLine 72 = .ok (.invokevirtual 211, 3) := by decide +kernel
theorem dX12_juneLine_75 : decode cX12_juneLine 75 = .ok (.iinc 2 1, 3) := by decide +kernel
theorem dX12_juneLine_78 : decode cX12_juneLine 78 = .ok (.goto (-56), 3) := by decide +kernel
theorem dX12_juneLine_81 : decode cX12_juneLine 81 = .ok (.aload_n 0, 1) := by decide +kernel
theorem dX12_juneLine_82 : decode cX12_juneLine 82 = .ok (.getfield 25, 3) := by decide +kernel
theorem dX12_juneLine_85 : decode cX12_juneLine 85 = .ok (.iload_n 1, 1) := by decide +kernel
theorem dX12_juneLine_86 : decode cX12_juneLine 86 = .ok (.aload_n 0, 1) := by decide +kernel
theorem dX12_juneLine_87 : decode cX12_juneLine 87 = .ok (.iconst 0, 1) := by decide +kernel
theorem dX12_juneLine_88 : decode cX12_juneLine 88 = .ok (.bipush 59, 2) := by decide +kernel
theorem dX12_juneLine_90 : decode cX12_juneLine 90 = .ok (.invokevirtual 238, 3) := by decide +kernel
theorem dX12_juneLine_93 : decode cX12_juneLine 93 = .ok (.iastore, 1) := by decide +kernel
theorem dX12_juneLine_94 : decode cX12_juneLine 94 = .ok (.aload_n 0, 1) := by decide +kernel
theorem dX12_juneLine_95 : decode cX12_juneLine 95 = .ok (.iconst 1, 1) := by decide +kernel
theorem dX12_juneLine_96 : decode cX12_juneLine 96 = .ok (.aload_n 0, 1) := by decide +kernel
theorem dX12_juneLine_97 : decode cX12_juneLine 97 = .ok (.iconst 1, 1) := by decide +kernel
theorem dX12_juneLine_98 : decode cX12_juneLine 98 = .ok (.invokevirtual 218, 3) := by decide +kernel
theorem dX12_juneLine_101 : decode cX12_juneLine 101 = .ok (.iconst 1, 1) := by decide +kernel
theorem dX12_juneLine_102 : decode cX12_juneLine 102 = .ok (.iadd, 1) := by decide +kernel
theorem dX12_juneLine_103 : decode cX12_juneLine 103 = .ok (.invokevirtual 242, 3) := by decide +kernel
theorem dX12_juneLine_106 : decode cX12_juneLine 106 = .ok (.return_, 1) := by decide +kernel
theorem dX12_lendLine_0 : decode cX12_lendLine 0 = .ok (.bipush 8, 2) := by decide +kernel
theorem dX12_lendLine_2 : decode cX12_lendLine 2 = .ok (.aload_n 0, 1) := by decide +kernel
theorem dX12_lendLine_3 : decode cX12_lendLine 3 = .ok (.iconst 4, 1) := by decide +kernel
theorem dX12_lendLine_4 : decode cX12_lendLine 4 = .ok (.invokevirtual 218, 3) := by decide +kernel
theorem dX12_lendLine_7 : decode cX12_lendLine 7 = .ok (.iadd, 1) := by decide +kernel
theorem dX12_lendLine_8 : decode cX12_lendLine 8 = .ok (.istore_n 1, 1) := by decide +kernel
theorem dX12_lendLine_9 : decode cX12_lendLine 9 = .ok (.aload_n 0, 1) := by decide +kernel
theorem dX12_lendLine_10 : decode cX12_lendLine 10 = .ok (.getfield 46, 3) := by decide +kernel
theorem dX12_lendLine_13 : decode cX12_lendLine 13 = .ok (.iload_n 1, 1) := by decide +kernel
theorem dX12_lendLine_14 : decode cX12_lendLine 14 = .ok (.aload_n 0, 1) := by decide +kernel
theorem dX12_lendLine_15 : decode cX12_lendLine 15 = .ok (.invokevirtual 249, 3) := by decide +kernel
theorem dX12_lendLine_18 : decode cX12_lendLine 18 = .ok (.iastore, 1) := by decide +kernel
theorem dX12_lendLine_19 : decode cX12_lendLine 19 = .ok (.aload_n 0, 1) := by decide +kernel
theorem dX12_lendLine_20 : decode cX12_lendLine 20 = .ok (.getfield 49, 3) := by decide +kernel
theorem dX12_lendLine_23 : decode cX12_lendLine 23 = .ok (.iload_n 1, 1) := by decide +kernel
theorem dX12_lendLine_24 : decode cX12_lendLine 24 = .ok (.aload_n 0, 1) := by decide +kernel
theorem dX12_lendLine_25 : decode cX12_lendLine 25 = .ok (.invokevirtual 222, 3) := by decide +kernel
theorem dX12_lendLine_28 : decode cX12_lendLine 28 = .ok (.iastore, 1) := by decide +kernel
theorem dX12_lendLine_29 : decode cX12_lendLine 29 = .ok (.aload_n 0, 1) := by decide +kernel
theorem dX12_lendLine_30 : decode cX12_lendLine 30 = .ok (.getfield 202, 3) := by decide +kernel
theorem dX12_lendLine_33 : decode cX12_lendLine 33 = .ok (.ifCond .ne 23, 3) := by decide +kernel
theorem dX12_lendLine_36 : decode cX12_lendLine 36 = .ok (.aload_n 0, 1) := by decide +kernel
theorem dX12_lendLine_37 : decode cX12_lendLine 37 = .ok (.getfield 46, 3) := by decide +kernel
theorem dX12_lendLine_40 : decode cX12_lendLine 40 = .ok (.iload_n 1, 1) := by decide +kernel
theorem dX12_lendLine_41 : decode cX12_lendLine 41 = .ok (.iaload, 1) := by decide +kernel
theorem dX12_lendLine_42 : decode cX12_lendLine 42 = .ok (.aload_n 0, 1) := by decide +kernel
theorem dX12_lendLine_43 : decode cX12_lendLine 43 = .ok (.getfield 49, 3) := by decide +kernel
theorem dX12_lendLine_46 : decode cX12_lendLine 46 = .ok (.iload_n 1, 1) := by decide +kernel
theorem dX12_lendLine_47 : decode cX12_lendLine 47 = .ok (.iaload, 1) := by decide +kernel
theorem dX12_lendLine_48 : decode cX12_lendLine 48 = .ok (.if_icmp .ne 8, 3) := by decide +kernel
theorem dX12_lendLine_51 : decode cX12_lendLine 51 = .ok (.aload_n 0, 1) := by decide +kernel
theorem dX12_lendLine_52 : decode cX12_lendLine 52 = .ok (.iconst 5, 1) := by decide +kernel
theorem dX12_lendLine_53 : decode cX12_lendLine 53 = .ok (.invokevirtual 211, 3) := by decide +kernel
theorem dX12_lendLine_56 : decode cX12_lendLine 56 = .ok (.bipush 8, 2) := by decide +kernel
theorem dX12_lendLine_58 : decode cX12_lendLine 58 = .ok (.istore_n 2, 1) := by decide +kernel
theorem dX12_lendLine_59 : decode cX12_lendLine 59 = .ok (.iload_n 2, 1) := by decide +kernel
theorem dX12_lendLine_60 : decode cX12_lendLine 60 = .ok (.iload_n 1, 1) := by decide +kernel
theorem dX12_lendLine_61 : decode cX12_lendLine 61 = .ok (.if_icmp .ge 51, 3) := by decide +kernel
theorem dX12_lendLine_64 : decode cX12_lendLine 64 = .ok (.aload_n 0, 1) := by decide +kernel
theorem dX12_lendLine_65 : decode cX12_lendLine 65 = .ok (.getfield 202, 3) := by decide +kernel
theorem dX12_lendLine_68 : decode cX12_lendLine 68 = .ok (.ifCond .ne 38, 3) := by decide +kernel
theorem dX12_lendLine_71 : decode cX12_lendLine 71 = .ok (.aload_n 0, 1) := by decide +kernel
theorem dX12_lendLine_72 : decode cX12_lendLine 72 = .ok (.getfield 46, 3) := by decide +kernel
theorem dX12_lendLine_75 : decode cX12_lendLine 75 = .ok (.iload_n 2, 1) := by decide +kernel
theorem dX12_lendLine_76 : decode cX12_lendLine 76 = .ok (.iaload, 1) := by decide +kernel
theorem dX12_lendLine_77 : decode cX12_lendLine 77 = .ok (.aload_n 0, 1) := by decide +kernel
theorem dX12_lendLine_78 : decode cX12_lendLine 78 = .ok (.getfield 46, 3) := by decide +kernel
theorem dX12_lendLine_81 : decode cX12_lendLine 81 = .ok (.iload_n 1, 1) := by decide +kernel
theorem dX12_lendLine_82 : decode cX12_lendLine 82 = .ok (.iaload, 1) := by decide +kernel
theorem dX12_lendLine_83 : decode cX12_lendLine 83 = .ok (.if_icmp .ne 23, 3) := by decide +kernel
theorem dX12_lendLine_86 : decode cX12_lendLine 86 = .ok (.aload_n 0, 1) := by decide +kernel
theorem dX12_lendLine_87 : decode cX12_lendLine 87 = .ok (.getfield 49, 3) := by decide +kernel
theorem dX12_lendLine_90 : decode cX12_lendLine 90 = .ok (.iload_n 2, 1) := by decide +kernel
theorem dX12_lendLine_91 : decode cX12_lendLine 91 = .ok (.iaload, 1) := by decide +kernel
theorem dX12_lendLine_92 : decode cX12_lendLine 92 = .ok (.aload_n 0, 1) := by decide +kernel
theorem dX12_lendLine_93 : decode cX12_lendLine 93 = .ok (.getfield 49, 3) := by decide +kernel
theorem dX12_lendLine_96 : decode cX12_lendLine 96 = .ok (.iload_n 1, 1) := by decide +kernel
theorem dX12_lendLine_97 : decode cX12_lendLine 97 = .ok (.iaload, 1) := by decide +kernel
theorem dX12_lendLine_98 : decode cX12_lendLine 98 = .ok (.if_icmp .ne 8, 3) := by decide +kernel
theorem dX12_lendLine_101 : decode cX12_lendLine 101 = .ok (.aload_n 0, 1) := by decide +kernel
theorem dX12_lendLine_102 : decode cX12_lendLine 102 = .ok (.iconst 3, 1) := by decide +kernel
theorem dX12_lendLine_103 : decode cX12_lendLine 103 = .ok (.invokevirtual 211, 3) := by decide +kernel
theorem dX12_lendLine_106 : decode cX12_lendLine 106 = .ok (.iinc 2 1, 3) := by decide +kernel
theorem dX12_lendLine_109 : decode cX12_lendLine 109 = .ok (.goto (-50), 3) := by decide +kernel
theorem dX12_lendLine_112 : decode cX12_lendLine 112 = .ok (.aload_n 0, 1) := by decide +kernel
theorem dX12_lendLine_113 : decode cX12_lendLine 113 = .ok (.invokevirtual 225, 3) := by decide +kernel
theorem dX12_lendLine_116 : decode cX12_lendLine 116 = .ok (.aload_n 0, 1) := by decide +kernel
theorem dX12_lendLine_117 : decode cX12_lendLine 117 = .ok (.iconst 4, 1) := by decide +kernel
theorem dX12_lendLine_118 : decode cX12_lendLine 118 = .ok (.aload_n 0, 1) := by decide +kernel
theorem dX12_lendLine_119 : decode cX12_lendLine 119 = .ok (.iconst 4, 1) := by decide +kernel
theorem dX12_lendLine_120 : decode cX12_lendLine 120 = .ok (.invokevirtual 218, 3) := by decide +kernel
theorem dX12_lendLine_123 : decode cX12_lendLine 123 = .ok (.iconst 1, 1) := by decide +kernel
theorem dX12_lendLine_124 : decode cX12_lendLine 124 = .ok (.iadd, 1) := by decide +kernel
theorem dX12_lendLine_125 : decode cX12_lendLine 125 = .ok (.invokevirtual 242, 3) := by decide +kernel
theorem dX12_lendLine_128 : decode cX12_lendLine 128 = .ok (.return_, 1) := by decide +kernel
theorem dX12_lawLine_0 : decode cX12_lawLine 0 = .ok (.aload_n 0, 1) := by decide +kernel
theorem dX12_lawLine_1 : decode cX12_lawLine 1 = .ok (.getfield 167, 3) := by decide +kernel
theorem dX12_lawLine_4 : decode cX12_lawLine 4 = .ok (.ifCond .ne 21, 3) := by decide +kernel
theorem dX12_lawLine_7 : decode cX12_lawLine 7 = .ok (.aload_n 0, 1) := by decide +kernel
theorem dX12_lawLine_8 : decode cX12_lawLine 8 = .ok (.getfield 177, 3) := by decide +kernel
theorem dX12_lawLine_11 : decode cX12_lawLine 11 = .ok (.bipush 8, 2) := by decide +kernel
theorem dX12_lawLine_13 : decode cX12_lawLine 13 = .ok (.if_icmp .lt 12, 3) := by decide +kernel
theorem dX12_lawLine_16 : decode cX12_lawLine 16 = .ok (.aload_n 0, 1) := by decide +kernel
theorem dX12_lawLine_17 : decode cX12_lawLine 17 = .ok (.getfield 177, 3) := by decide +kernel
theorem dX12_lawLine_20 : decode cX12_lawLine 20 = .ok (.bipush 10, 2) := by decide +kernel
theorem dX12_lawLine_22 : decode cX12_lawLine 22 = .ok (.if_icmp .le 8, 3) := by decide +kernel
theorem dX12_lawLine_25 : decode cX12_lawLine 25 = .ok (.aload_n 0, 1) := by decide +kernel
theorem dX12_lawLine_26 : decode cX12_lawLine 26 = .ok (.iconst 1, 1) := by decide +kernel
theorem dX12_lawLine_27 : decode cX12_lawLine 27 = .ok (.invokevirtual 211, 3) := by decide +kernel
theorem dX12_lawLine_30 : decode cX12_lawLine 30 = .ok (.aload_n 0, 1) := by decide +kernel
theorem dX12_lawLine_31 : decode cX12_lawLine 31 = .ok (.getfield 177, 3) := by decide +kernel
theorem dX12_lawLine_34 : decode cX12_lawLine 34 = .ok (.bipush 8, 2) := by decide +kernel
theorem dX12_lawLine_36 : decode cX12_lawLine 36 = .ok (.isub, 1) := by decide +kernel
theorem dX12_lawLine_37 : decode cX12_lawLine 37 = .ok (.istore_n 1, 1) := by decide +kernel
theorem dX12_lawLine_38 : decode cX12_lawLine 38 = .ok (.aload_n 0, 1) := by decide +kernel
theorem dX12_lawLine_39 : decode cX12_lawLine 39 = .ok (.getfield 202, 3) := by decide +kernel
theorem dX12_lawLine_42 : decode cX12_lawLine 42 = .ok (.ifCond .ne 23, 3) := by decide +kernel
theorem dX12_lawLine_45 : decode cX12_lawLine 45 = .ok (.aload_n 0, 1) := by decide +kernel
theorem dX12_lawLine_46 : decode cX12_lawLine 46 = .ok (.getfield 231, 3) := by decide +kernel
theorem dX12_lawLine_49 : decode cX12_lawLine 49 = .ok (.bipush 16, 2) := by decide +kernel
theorem dX12_lawLine_51 : decode cX12_lawLine 51 = .ok (.iload_n 1, 1) := by decide +kernel
theorem dX12_lawLine_52 : decode cX12_lawLine 52 = .ok (.iadd, 1) := by decide +kernel
theorem dX12_lawLine_53 : decode cX12_lawLine 53 = .ok (.ishr, 1) := by decide +kernel
theorem dX12_lawLine_54 : decode cX12_lawLine 54 = .ok (.iconst 1, 1) := by decide +kernel
theorem dX12_lawLine_55 : decode cX12_lawLine 55 = .ok (.iand, 1) := by decide +kernel
theorem dX12_lawLine_56 : decode cX12_lawLine 56 = .ok (.iconst 1, 1) := by decide +kernel
theorem dX12_lawLine_57 : decode cX12_lawLine 57 = .ok (.if_icmp .ne 8, 3) := by decide +kernel
theorem dX12_lawLine_60 : decode cX12_lawLine 60 = .ok (.aload_n 0, 1) := by decide +kernel
theorem dX12_lawLine_61 : decode cX12_lawLine 61 = .ok (.iconst 3, 1) := by decide +kernel
theorem dX12_lawLine_62 : decode cX12_lawLine 62 = .ok (.invokevirtual 211, 3) := by decide +kernel
theorem dX12_lawLine_65 : decode cX12_lawLine 65 = .ok (.aload_n 0, 1) := by decide +kernel
theorem dX12_lawLine_66 : decode cX12_lawLine 66 = .ok (.getfield 202, 3) := by decide +kernel
theorem dX12_lawLine_69 : decode cX12_lawLine 69 = .ok (.ifCond .eq 4, 3) := by decide +kernel
theorem dX12_lawLine_72 : decode cX12_lawLine 72 = .ok (.return_, 1) := by decide +kernel
theorem dX12_lawLine_73 : decode cX12_lawLine 73 = .ok (.aload_n 0, 1) := by decide +kernel
theorem dX12_lawLine_74 : decode cX12_lawLine 74 = .ok (.dup, 1) := by decide +kernel
theorem dX12_lawLine_75 : decode cX12_lawLine 75 = .ok (.getfield 231, 3) := by decide +kernel
theorem dX12_lawLine_78 : decode cX12_lawLine 78 = .ok (.iconst 1, 1) := by decide +kernel
theorem dX12_lawLine_79 : decode cX12_lawLine 79 = .ok (.bipush 16, 2) := by decide +kernel
theorem dX12_lawLine_81 : decode cX12_lawLine 81 = .ok (.iload_n 1, 1) := by decide +kernel
theorem dX12_lawLine_82 : decode cX12_lawLine 82 = .ok (.iadd, 1) := by decide +kernel
theorem dX12_lawLine_83 : decode cX12_lawLine 83 = .ok (.ishl, 1) := by decide +kernel
theorem dX12_lawLine_84 : decode cX12_lawLine 84 = .ok (.ior, 1) := by decide +kernel
theorem dX12_lawLine_85 : decode cX12_lawLine 85 = .ok (.putfield 231, 3) := by decide +kernel
theorem dX12_lawLine_88 : decode cX12_lawLine 88 = .ok (.aload_n 0, 1) := by decide +kernel
theorem dX12_lawLine_89 : decode cX12_lawLine 89 = .ok (.invokevirtual 208, 3) := by decide +kernel
theorem dX12_lawLine_92 : decode cX12_lawLine 92 = .ok (.aload_n 0, 1) := by decide +kernel
theorem dX12_lawLine_93 : decode cX12_lawLine 93 = .ok (.getfield 52, 3) := by decide +kernel
theorem dX12_lawLine_96 : decode cX12_lawLine 96 = .ok (.iconst 3, 1) := by decide +kernel
theorem dX12_lawLine_97 : decode cX12_lawLine 97 = .ok (.iload_n 1, 1) := by decide +kernel
theorem dX12_lawLine_98 : decode cX12_lawLine 98 = .ok (.iadd, 1) := by decide +kernel
theorem dX12_lawLine_99 : decode cX12_lawLine 99 = .ok (.aload_n 0, 1) := by decide +kernel
theorem dX12_lawLine_100 : decode cX12_lawLine 100 = .ok (.bipush 7, 2) := by decide +kernel
theorem dX12_lawLine_102 : decode cX12_lawLine 102 = .ok (.invokevirtual 218, 3) := by decide +kernel
theorem dX12_lawLine_105 : decode cX12_lawLine 105 = .ok (.iastore, 1) := by decide +kernel
theorem dX12_lawLine_106 : decode cX12_lawLine 106 = .ok (.aload_n 0, 1) := by decide +kernel
theorem dX12_lawLine_107 : decode cX12_lawLine 107 = .ok (.invokevirtual 264, 3) := by decide +kernel
theorem dX12_lawLine_110 : decode cX12_lawLine 110 = .ok (.aload_n 0, 1) := by decide +kernel
theorem dX12_lawLine_111 : decode cX12_lawLine 111 = .ok (.getfield 55, 3) := by decide +kernel
theorem dX12_lawLine_114 : decode cX12_lawLine 114 = .ok (.iconst 3, 1) := by decide +kernel
theorem dX12_lawLine_115 : decode cX12_lawLine 115 = .ok (.iload_n 1, 1) := by decide +kernel
theorem dX12_lawLine_116 : decode cX12_lawLine 116 = .ok (.iadd, 1) := by decide +kernel
theorem dX12_lawLine_117 : decode cX12_lawLine 117 = .ok (.aload_n 0, 1) := by decide +kernel
theorem dX12_lawLine_118 : decode cX12_lawLine 118 = .ok (.bipush 7, 2) := by decide +kernel
theorem dX12_lawLine_120 : decode cX12_lawLine 120 = .ok (.invokevirtual 218, 3) := by decide +kernel
theorem dX12_lawLine_123 : decode cX12_lawLine 123 = .ok (.iastore, 1) := by decide +kernel
theorem dX12_lawLine_124 : decode cX12_lawLine 124 = .ok (.return_, 1) := by decide +kernel
theorem dX12_puts_0 : decode cX12_puts 0 = .ok (.aload_n 0, 1) := by decide +kernel
theorem dX12_puts_1 : decode cX12_puts 1 = .ok (.getfield 202, 3) := by decide +kernel
theorem dX12_puts_4 : decode cX12_puts 4 = .ok (.ifCond .eq 4, 3) := by decide +kernel
theorem dX12_puts_7 : decode cX12_puts 7 = .ok (.return_, 1) := by decide +kernel
theorem dX12_puts_8 : decode cX12_puts 8 = .ok (.aload_n 0, 1) := by decide +kernel
theorem dX12_puts_9 : decode cX12_puts 9 = .ok (.getfield 58, 3) := by decide +kernel
theorem dX12_puts_12 : decode cX12_puts 12 = .ok (.bipush 64, 2) := by decide +kernel
theorem dX12_puts_14 : decode cX12_puts 14 = .ok (.aload_n 0, 1) := by decide +kernel
theorem dX12_puts_15 : decode cX12_puts 15 = .ok (.bipush 7, 2) := by decide +kernel
theorem dX12_puts_17 : decode cX12_puts 17 = .ok (.invokevirtual 218, 3) := by decide +kernel
theorem dX12_puts_20 : decode cX12_puts 20 = .ok (.iadd, 1) := by decide +kernel
theorem dX12_puts_21 : decode cX12_puts 21 = .ok (.iload_n 1, 1) := by decide +kernel
theorem dX12_puts_22 : decode cX12_puts 22 = .ok (.iastore, 1) := by decide +kernel
theorem dX12_puts_23 : decode cX12_puts 23 = .ok (.aload_n 0, 1) := by decide +kernel
theorem dX12_puts_24 : decode cX12_puts 24 = .ok (.getfield 61, 3) := by decide +kernel
theorem dX12_puts_27 : decode cX12_puts 27 = .ok (.bipush 64, 2) := by decide +kernel
theorem dX12_puts_29 : decode cX12_puts 29 = .ok (.aload_n 0, 1) := by decide +kernel
theorem dX12_puts_30 : decode cX12_puts 30 = .ok (.bipush 7, 2) := by decide +kernel
theorem dX12_puts_32 : decode cX12_puts 32 = .ok (.invokevirtual 218, 3) := by decide +kernel
theorem dX12_puts_35 : decode cX12_puts 35 = .ok (.iadd, 1) := by decide +kernel
theorem dX12_puts_36 : decode cX12_puts 36 = .ok (.iload_n 2, 1) := by decide +kernel
theorem dX12_puts_37 : decode cX12_puts 37 = .ok (.iastore, 1) := by decide +kernel
theorem dX12_puts_38 : decode cX12_puts 38 = .ok (.aload_n 0, 1) := by decide +kernel
theorem dX12_puts_39 : decode cX12_puts 39 = .ok (.bipush 7, 2) := by decide +kernel
theorem dX12_puts_41 : decode cX12_puts 41 = .ok (.aload_n 0, 1) := by decide +kernel
theorem dX12_puts_42 : decode cX12_puts 42 = .ok (.bipush 7, 2) := by decide +kernel
theorem dX12_puts_44 : decode cX12_puts 44 = .ok (.invokevirtual 218, 3) := by decide +kernel
theorem dX12_puts_47 : decode cX12_puts 47 = .ok (.iconst 1, 1) := by decide +kernel
theorem dX12_puts_48 : decode cX12_puts 48 = .ok (.iadd, 1) := by decide +kernel
theorem dX12_puts_49 : decode cX12_puts 49 = .ok (.invokevirtual 242, 3) := by decide +kernel
theorem dX12_puts_52 : decode cX12_puts 52 = .ok (.return_, 1) := by decide +kernel
theorem dX12_knot_0 : decode cX12_knot 0 = .ok (.aload_n 0, 1) := by decide +kernel
theorem dX12_knot_1 : decode cX12_knot 1 = .ok (.getfield 202, 3) := by decide +kernel
theorem dX12_knot_4 : decode cX12_knot 4 = .ok (.ifCond .eq 4, 3) := by decide +kernel
theorem dX12_knot_7 : decode cX12_knot 7 = .ok (.return_, 1) := by decide +kernel
theorem dX12_knot_8 : decode cX12_knot 8 = .ok (.aload_n 0, 1) := by decide +kernel
theorem dX12_knot_9 : decode cX12_knot 9 = .ok (.getfield 267, 3) := by decide +kernel
theorem dX12_knot_12 : decode cX12_knot 12 = .ok (.bipush 64, 2) := by decide +kernel
theorem dX12_knot_14 : decode cX12_knot 14 = .ok (.if_icmp .ne 11, 3) := by decide +kernel
theorem dX12_knot_17 : decode cX12_knot 17 = .ok (.aload_n 0, 1) := by decide +kernel
theorem dX12_knot_18 : decode cX12_knot 18 = .ok (.iconst 2, 1) := by decide +kernel
theorem dX12_knot_19 : decode cX12_knot 19 = .ok (.invokevirtual 211, 3) := by decide +kernel
theorem dX12_knot_22 : decode cX12_knot 22 = .ok (.goto 13, 3) := by decide +kernel
theorem dX12_knot_25 : decode cX12_knot 25 = .ok (.aload_n 0, 1) := by decide +kernel
theorem dX12_knot_26 : decode cX12_knot 26 = .ok (.dup, 1) := by decide +kernel
theorem dX12_knot_27 : decode cX12_knot 27 = .ok (.getfield 267, 3) := by decide +kernel
theorem dX12_knot_30 : decode cX12_knot 30 = .ok (.iconst 1, 1) := by decide +kernel
theorem dX12_knot_31 : decode cX12_knot 31 = .ok (.iadd, 1) := by decide +kernel
theorem dX12_knot_32 : decode cX12_knot 32 = .ok (.putfield 267, 3) := by decide +kernel
theorem dX12_knot_35 : decode cX12_knot 35 = .ok (.return_, 1) := by decide +kernel
theorem dX12_expression_0 : decode cX12_expression 0 = .ok (.aload_n 0, 1) := by decide +kernel
theorem dX12_expression_1 : decode cX12_expression 1 = .ok (.invokevirtual 270, 3) := by decide +kernel
theorem dX12_expression_4 : decode cX12_expression 4 = .ok (.aload_n 0, 1) := by decide +kernel
theorem dX12_expression_5 : decode cX12_expression 5 = .ok (.bipush 11, 2) := by decide +kernel
theorem dX12_expression_7 : decode cX12_expression 7 = .ok (.invokevirtual 273, 3) := by decide +kernel
theorem dX12_expression_10 : decode cX12_expression 10 = .ok (.ifCond .eq 26, 3) := by decide +kernel
theorem dX12_expression_13 : decode cX12_expression 13 = .ok (.aload_n 0, 1) := by decide +kernel
theorem dX12_expression_14 : decode cX12_expression 14 = .ok (.invokevirtual 276, 3) := by decide +kernel
theorem dX12_expression_17 : decode cX12_expression 17 = .ok (.aload_n 0, 1) := by decide +kernel
theorem dX12_expression_18 : decode cX12_expression 18 = .ok (.invokevirtual 225, 3) := by decide +kernel
theorem dX12_expression_21 : decode cX12_expression 21 = .ok (.aload_n 0, 1) := by decide +kernel
theorem dX12_expression_22 : decode cX12_expression 22 = .ok (.invokevirtual 270, 3) := by decide +kernel
theorem dX12_expression_25 : decode cX12_expression 25 = .ok (.aload_n 0, 1) := by decide +kernel
theorem dX12_expression_26 : decode cX12_expression 26 = .ok (.iconst 2, 1) := by decide +kernel
theorem dX12_expression_27 : decode cX12_expression 27 = .ok (.sipush 262, 3) := by decide +kernel
theorem dX12_expression_30 : decode cX12_expression 30 = .ok (.invokevirtual 279, 3) := by decide +kernel
theorem dX12_expression_33 : decode cX12_expression 33 = .ok (.goto (-29), 3) := by decide +kernel
theorem dX12_expression_36 : decode cX12_expression 36 = .ok (.return_, 1) := by decide +kernel
theorem dX12_conjunction_0 : decode cX12_conjunction 0 = .ok (.aload_n 0, 1) := by decide +kernel
theorem dX12_conjunction_1 : decode cX12_conjunction 1 = .ok (.invokevirtual 282, 3) := by decide +kernel
theorem dX12_conjunction_4 : decode cX12_conjunction 4 = .ok (.aload_n 0, 1) := by decide +kernel
theorem dX12_conjunction_5 : decode cX12_conjunction 5 = .ok (.bipush 12, 2) := by decide +kernel
theorem dX12_conjunction_7 : decode cX12_conjunction 7 = .ok (.invokevirtual 273, 3) := by decide +kernel
theorem dX12_conjunction_10 : decode cX12_conjunction 10 = .ok (.ifCond .eq 26, 3) := by decide +kernel
theorem dX12_conjunction_13 : decode cX12_conjunction 13 = .ok (.aload_n 0, 1) := by decide +kernel
theorem dX12_conjunction_14 : decode cX12_conjunction 14 = .ok (.invokevirtual 276, 3) := by decide +kernel
theorem dX12_conjunction_17 : decode cX12_conjunction 17 = .ok (.aload_n 0, 1) := by decide +kernel
theorem dX12_conjunction_18 : decode cX12_conjunction 18 = .ok (.invokevirtual 225, 3) := by decide +kernel
theorem dX12_conjunction_21 : decode cX12_conjunction 21 = .ok (.aload_n 0, 1) := by decide +kernel
theorem dX12_conjunction_22 : decode cX12_conjunction 22 = .ok (.invokevirtual 282, 3) := by decide +kernel
theorem dX12_conjunction_25 : decode cX12_conjunction 25 = .ok (.aload_n 0, 1) := by decide +kernel
theorem dX12_conjunction_26 : decode cX12_conjunction 26 = .ok (.iconst 2, 1) := by decide +kernel
theorem dX12_conjunction_27 : decode cX12_conjunction 27 = .ok (.sipush 261, 3) := by decide +kernel
theorem dX12_conjunction_30 : decode cX12_conjunction 30 = .ok (.invokevirtual 279, 3) := by decide +kernel
theorem dX12_conjunction_33 : decode cX12_conjunction 33 = .ok (.goto (-29), 3) := by decide +kernel
theorem dX12_conjunction_36 : decode cX12_conjunction 36 = .ok (.return_, 1) := by decide +kernel
theorem dX12_negation_0 : decode cX12_negation 0 = .ok (.aload_n 0, 1) := by decide +kernel
theorem dX12_negation_1 : decode cX12_negation 1 = .ok (.bipush 13, 2) := by decide +kernel
theorem dX12_negation_3 : decode cX12_negation 3 = .ok (.invokevirtual 273, 3) := by decide +kernel
theorem dX12_negation_6 : decode cX12_negation 6 = .ok (.ifCond .eq 24, 3) := by decide +kernel
theorem dX12_negation_9 : decode cX12_negation 9 = .ok (.aload_n 0, 1) := by decide +kernel
theorem dX12_negation_10 : decode cX12_negation 10 = .ok (.invokevirtual 276, 3) := by decide +kernel
theorem dX12_negation_13 : decode cX12_negation 13 = .ok (.aload_n 0, 1) := by decide +kernel
theorem dX12_negation_14 : decode cX12_negation 14 = .ok (.invokevirtual 225, 3) := by decide +kernel
theorem dX12_negation_17 : decode cX12_negation 17 = .ok (.aload_n 0, 1) := by decide +kernel
theorem dX12_negation_18 : decode cX12_negation 18 = .ok (.invokevirtual 282, 3) := by decide +kernel
theorem dX12_negation_21 : decode cX12_negation 21 = .ok (.aload_n 0, 1) := by decide +kernel
theorem dX12_negation_22 : decode cX12_negation 22 = .ok (.iconst 2, 1) := by decide +kernel
theorem dX12_negation_23 : decode cX12_negation 23 = .ok (.sipush 260, 3) := by decide +kernel
theorem dX12_negation_26 : decode cX12_negation 26 = .ok (.invokevirtual 279, 3) := by decide +kernel
theorem dX12_negation_29 : decode cX12_negation 29 = .ok (.return_, 1) := by decide +kernel
theorem dX12_negation_30 : decode cX12_negation 30 = .ok (.aload_n 0, 1) := by decide +kernel
theorem dX12_negation_31 : decode cX12_negation 31 = .ok (.invokevirtual 285, 3) := by decide +kernel
theorem dX12_negation_34 : decode cX12_negation 34 = .ok (.aload_n 0, 1) := by decide +kernel
theorem dX12_negation_35 : decode cX12_negation 35 = .ok (.getfield 202, 3) := by decide +kernel
theorem dX12_negation_38 : decode cX12_negation 38 = .ok (.ifCond .ne 48, 3) := by decide +kernel
theorem dX12_negation_41 : decode cX12_negation 41 = .ok (.aload_n 0, 1) := by decide +kernel
theorem dX12_negation_42 : decode cX12_negation 42 = .ok (.getfield 167, 3) := by decide +kernel
theorem dX12_negation_45 : decode cX12_negation 45 = .ok (.iconst 3, 1) := by decide +kernel
theorem dX12_negation_46 : decode cX12_negation 46 = .ok (.if_icmp .ne 40, 3) := by decide +kernel
theorem dX12_negation_49 : decode cX12_negation 49 = .ok (.aload_n 0, 1) := by decide +kernel
theorem dX12_negation_50 : decode cX12_negation 50 = .ok (.getfield 177, 3) := by decide +kernel
theorem dX12_negation_53 : decode cX12_negation 53 = .ok (.bipush 60, 2) := by decide +kernel
theorem dX12_negation_55 : decode cX12_negation 55 = .ok (.if_icmp .eq 32, 3) := by decide +kernel
theorem dX12_negation_58 : decode cX12_negation 58 = .ok (.aload_n 0, 1) := by decide +kernel
theorem dX12_negation_59 : decode cX12_negation 59 = .ok (.getfield 177, 3) := by decide +kernel
theorem dX12_negation_62 : decode cX12_negation 62 = .ok (.bipush 62, 2) := by decide +kernel
theorem dX12_negation_64 : decode cX12_negation 64 = .ok (.if_icmp .eq 23, 3) := by decide +kernel
theorem dX12_negation_67 : decode cX12_negation 67 = .ok (.aload_n 0, 1) := by decide +kernel
theorem dX12_negation_68 : decode cX12_negation 68 = .ok (.getfield 177, 3) := by decide +kernel
theorem dX12_negation_71 : decode cX12_negation 71 = .ok (.bipush 61, 2) := by decide +kernel
theorem dX12_negation_73 : decode cX12_negation 73 = .ok (.if_icmp .eq 14, 3) := by decide +kernel
theorem dX12_negation_76 : decode cX12_negation 76 = .ok (.aload_n 0, 1) := by decide +kernel
theorem dX12_negation_77 : decode cX12_negation 77 = .ok (.getfield 177, 3) := by decide +kernel
theorem dX12_negation_80 : decode cX12_negation 80 = .ok (.sipush 256, 3) := by decide +kernel
theorem dX12_negation_83 : decode cX12_negation 83 = .ok (.if_icmp .ge 4, 3) := by decide +kernel
theorem dX12_negation_86 : decode cX12_negation 86 = .ok (.return_, 1) := by decide +kernel
theorem dX12_negation_87 : decode cX12_negation 87 = .ok (.aload_n 0, 1) := by decide +kernel
theorem dX12_negation_88 : decode cX12_negation 88 = .ok (.getfield 177, 3) := by decide +kernel
theorem dX12_negation_91 : decode cX12_negation 91 = .ok (.istore_n 1, 1) := by decide +kernel
theorem dX12_negation_92 : decode cX12_negation 92 = .ok (.aload_n 0, 1) := by decide +kernel
theorem dX12_negation_93 : decode cX12_negation 93 = .ok (.invokevirtual 276, 3) := by decide +kernel
theorem dX12_negation_96 : decode cX12_negation 96 = .ok (.aload_n 0, 1) := by decide +kernel
theorem dX12_negation_97 : decode cX12_negation 97 = .ok (.invokevirtual 225, 3) := by decide +kernel
theorem dX12_negation_100 : decode cX12_negation 100 = .ok (.aload_n 0, 1) := by decide +kernel
theorem dX12_negation_101 : decode cX12_negation 101 = .ok (.invokevirtual 285, 3) := by decide +kernel
theorem dX12_negation_104 : decode cX12_negation 104 = .ok (.aload_n 0, 1) := by decide +kernel
theorem dX12_negation_105 : decode cX12_negation 105 = .ok (.iconst 2, 1) := by decide +kernel
theorem dX12_negation_106 : decode cX12_negation 106 = .ok (.iload_n 1, 1) := by decide +kernel
theorem dX12_negation_107 : decode cX12_negation 107 = .ok (.invokevirtual 279, 3) := by decide +kernel
theorem dX12_negation_110 : decode cX12_negation 110 = .ok (.return_, 1) := by decide +kernel
theorem dX12_sum_0 : decode cX12_sum 0 = .ok (.aload_n 0, 1) := by decide +kernel
theorem dX12_sum_1 : decode cX12_sum 1 = .ok (.invokevirtual 288, 3) := by decide +kernel
theorem dX12_sum_4 : decode cX12_sum 4 = .ok (.aload_n 0, 1) := by decide +kernel
theorem dX12_sum_5 : decode cX12_sum 5 = .ok (.bipush 43, 2) := by decide +kernel
theorem dX12_sum_7 : decode cX12_sum 7 = .ok (.invokevirtual 258, 3) := by decide +kernel
theorem dX12_sum_10 : decode cX12_sum 10 = .ok (.ifCond .ne 12, 3) := by decide +kernel
theorem dX12_sum_13 : decode cX12_sum 13 = .ok (.aload_n 0, 1) := by decide +kernel
theorem dX12_sum_14 : decode cX12_sum 14 = .ok (.bipush 45, 2) := by decide +kernel
theorem dX12_sum_16 : decode cX12_sum 16 = .ok (.invokevirtual 258, 3) := by decide +kernel
theorem dX12_sum_19 : decode cX12_sum 19 = .ok (.ifCond .eq 29, 3) := by decide +kernel
theorem dX12_sum_22 : decode cX12_sum 22 = .ok (.aload_n 0, 1) := by decide +kernel
theorem dX12_sum_23 : decode cX12_sum 23 = .ok (.getfield 177, 3) := by decide +kernel
theorem dX12_sum_26 : decode cX12_sum 26 = .ok (.istore_n 1, 1) := by decide +kernel
theorem dX12_sum_27 : decode cX12_sum 27 = .ok (.aload_n 0, 1) := by decide +kernel
theorem dX12_sum_28 : decode cX12_sum 28 = .ok (.invokevirtual 276, 3) := by decide +kernel
theorem dX12_sum_31 : decode cX12_sum 31 = .ok (.aload_n 0, 1) := by decide +kernel
theorem dX12_sum_32 : decode cX12_sum 32 = .ok (.invokevirtual 225, 3) := by decide +kernel
theorem dX12_sum_35 : decode cX12_sum 35 = .ok (.aload_n 0, 1) := by decide +kernel
theorem dX12_sum_36 : decode cX12_sum 36 = .ok (.invokevirtual 288, 3) := by decide +kernel
theorem dX12_sum_39 : decode cX12_sum 39 = .ok (.aload_n 0, 1) := by decide +kernel
theorem dX12_sum_40 : decode cX12_sum 40 = .ok (.iconst 2, 1) := by decide +kernel
theorem dX12_sum_41 : decode cX12_sum 41 = .ok (.iload_n 1, 1) := by decide +kernel
theorem dX12_sum_42 : decode cX12_sum 42 = .ok (.invokevirtual 279, 3) := by decide +kernel
theorem dX12_sum_45 : decode cX12_sum 45 = .ok (.goto (-41), 3) := by decide +kernel
theorem dX12_sum_48 : decode cX12_sum 48 = .ok (.return_, 1) := by decide +kernel
theorem dX12_product_0 : decode cX12_product 0 = .ok (.aload_n 0, 1) := by decide +kernel
theorem dX12_product_1 : decode cX12_product 1 = .ok (.invokevirtual 291, 3) := by decide +kernel
theorem dX12_product_4 : decode cX12_product 4 = .ok (.aload_n 0, 1) := by decide +kernel
theorem dX12_product_5 : decode cX12_product 5 = .ok (.bipush 42, 2) := by decide +kernel
theorem dX12_product_7 : decode cX12_product 7 = .ok (.invokevirtual 258, 3) := by decide +kernel
theorem dX12_product_10 : decode cX12_product 10 = .ok (.ifCond .ne 12, 3) := by decide +kernel
theorem dX12_product_13 : decode cX12_product 13 = .ok (.aload_n 0, 1) := by decide +kernel
theorem dX12_product_14 : decode cX12_product 14 = .ok (.bipush 47, 2) := by decide +kernel
theorem dX12_product_16 : decode cX12_product 16 = .ok (.invokevirtual 258, 3) := by decide +kernel
theorem dX12_product_19 : decode cX12_product 19 = .ok (.ifCond .eq 29, 3) := by decide +kernel
theorem dX12_product_22 : decode cX12_product 22 = .ok (.aload_n 0, 1) := by decide +kernel
theorem dX12_product_23 : decode cX12_product 23 = .ok (.getfield 177, 3) := by decide +kernel
theorem dX12_product_26 : decode cX12_product 26 = .ok (.istore_n 1, 1) := by decide +kernel
theorem dX12_product_27 : decode cX12_product 27 = .ok (.aload_n 0, 1) := by decide +kernel
theorem dX12_product_28 : decode cX12_product 28 = .ok (.invokevirtual 276, 3) := by decide +kernel
theorem dX12_product_31 : decode cX12_product 31 = .ok (.aload_n 0, 1) := by decide +kernel
theorem dX12_product_32 : decode cX12_product 32 = .ok (.invokevirtual 225, 3) := by decide +kernel
theorem dX12_product_35 : decode cX12_product 35 = .ok (.aload_n 0, 1) := by decide +kernel
theorem dX12_product_36 : decode cX12_product 36 = .ok (.invokevirtual 291, 3) := by decide +kernel
theorem dX12_product_39 : decode cX12_product 39 = .ok (.aload_n 0, 1) := by decide +kernel
theorem dX12_product_40 : decode cX12_product 40 = .ok (.iconst 2, 1) := by decide +kernel
theorem dX12_product_41 : decode cX12_product 41 = .ok (.iload_n 1, 1) := by decide +kernel
theorem dX12_product_42 : decode cX12_product 42 = .ok (.invokevirtual 279, 3) := by decide +kernel
theorem dX12_product_45 : decode cX12_product 45 = .ok (.goto (-41), 3) := by decide +kernel
theorem dX12_product_48 : decode cX12_product 48 = .ok (.return_, 1) := by decide +kernel
theorem dX12_primary_0 : decode cX12_primary 0 = .ok (.aload_n 0, 1) := by decide +kernel
theorem dX12_primary_1 : decode cX12_primary 1 = .ok (.getfield 202, 3) := by decide +kernel
theorem dX12_primary_4 : decode cX12_primary 4 = .ok (.ifCond .eq 4, 3) := by decide +kernel
theorem dX12_primary_7 : decode cX12_primary 7 = .ok (.return_, 1) := by decide +kernel
theorem dX12_primary_8 : decode cX12_primary 8 = .ok (.aload_n 0, 1) := by decide +kernel
theorem dX12_primary_9 : decode cX12_primary 9 = .ok (.bipush 40, 2) := by decide +kernel
theorem dX12_primary_11 : decode cX12_primary 11 = .ok (.invokevirtual 258, 3) := by decide +kernel
theorem dX12_primary_14 : decode cX12_primary 14 = .ok (.ifCond .eq 87, 3) := by decide +kernel
theorem dX12_primary_17 : decode cX12_primary 17 = .ok (.aload_n 0, 1) := by decide +kernel
theorem dX12_primary_18 : decode cX12_primary 18 = .ok (.getfield 294, 3) := by decide +kernel
theorem dX12_primary_21 : decode cX12_primary 21 = .ok (.bipush 8, 2) := by decide +kernel
theorem dX12_primary_23 : decode cX12_primary 23 = .ok (.if_icmp .ne 8, 3) := by decide +kernel
theorem dX12_primary_26 : decode cX12_primary 26 = .ok (.aload_n 0, 1) := by decide +kernel
theorem dX12_primary_27 : decode cX12_primary 27 = .ok (.iconst 2, 1) := by decide +kernel
theorem dX12_primary_28 : decode cX12_primary 28 = .ok (.invokevirtual 211, 3) := by decide +kernel
theorem dX12_primary_31 : decode cX12_primary 31 = .ok (.aload_n 0, 1) := by decide +kernel
theorem dX12_primary_32 : decode cX12_primary 32 = .ok (.getfield 202, 3) := by decide +kernel
theorem dX12_primary_35 : decode cX12_primary 35 = .ok (.ifCond .eq 4, 3) := by decide +kernel
theorem dX12_primary_38 : decode cX12_primary 38 = .ok (.return_, 1) := by decide +kernel
theorem dX12_primary_39 : decode cX12_primary 39 = .ok (.aload_n 0, 1) := by decide +kernel
theorem dX12_primary_40 : decode cX12_primary 40 = .ok (.dup, 1) := by decide +kernel
theorem dX12_primary_41 : decode cX12_primary 41 = .ok (.getfield 294, 3) := by decide +kernel
theorem dX12_primary_44 : decode cX12_primary 44 = .ok (.iconst 1, 1) := by decide +kernel
theorem dX12_primary_45 : decode cX12_primary 45 = .ok (.iadd, 1) := by decide +kernel
theorem dX12_primary_46 : decode cX12_primary 46 = .ok (.putfield 294, 3) := by decide +kernel
theorem dX12_primary_49 : decode cX12_primary 49 = .ok (.aload_n 0, 1) := by decide +kernel
theorem dX12_primary_50 : decode cX12_primary 50 = .ok (.invokevirtual 208, 3) := by decide +kernel
theorem dX12_primary_53 : decode cX12_primary 53 = .ok (.aload_n 0, 1) := by decide +kernel
theorem dX12_primary_54 : decode cX12_primary 54 = .ok (.invokevirtual 264, 3) := by decide +kernel
theorem dX12_primary_57 : decode cX12_primary 57 = .ok (.aload_n 0, 1) := by decide +kernel
theorem dX12_primary_58 : decode cX12_primary 58 = .ok (.getfield 202, 3) := by decide +kernel
theorem dX12_primary_61 : decode cX12_primary 61 = .ok (.ifCond .ne 17, 3) := by decide +kernel
theorem dX12_primary_64 : decode cX12_primary 64 = .ok (.aload_n 0, 1) := by decide +kernel
theorem dX12_primary_65 : decode cX12_primary 65 = .ok (.bipush 41, 2) := by decide +kernel
theorem dX12_primary_67 : decode cX12_primary 67 = .ok (.invokevirtual 258, 3) := by decide +kernel
theorem dX12_primary_70 : decode cX12_primary 70 = .ok (.ifCond .ne 8, 3) := by decide +kernel
theorem dX12_primary_73 : decode cX12_primary 73 = .ok (.aload_n 0, 1) := by decide +kernel
theorem dX12_primary_74 : decode cX12_primary 74 = .ok (.iconst 1, 1) := by decide +kernel
theorem dX12_primary_75 : decode cX12_primary 75 = .ok (.invokevirtual 211, 3) := by decide +kernel
theorem dX12_primary_78 : decode cX12_primary 78 = .ok (.aload_n 0, 1) := by decide +kernel
theorem dX12_primary_79 : decode cX12_primary 79 = .ok (.getfield 202, 3) := by decide +kernel
theorem dX12_primary_82 : decode cX12_primary 82 = .ok (.ifCond .eq 4, 3) := by decide +kernel
theorem dX12_primary_85 : decode cX12_primary 85 = .ok (.return_, 1) := by decide +kernel
theorem dX12_primary_86 : decode cX12_primary 86 = .ok (.aload_n 0, 1) := by decide +kernel
theorem dX12_primary_87 : decode cX12_primary 87 = .ok (.dup, 1) := by decide +kernel
theorem dX12_primary_88 : decode cX12_primary 88 = .ok (.getfield 294, 3) := by decide +kernel
theorem dX12_primary_91 : decode cX12_primary 91 = .ok (.iconst 1, 1) := by decide +kernel
theorem dX12_primary_92 : decode cX12_primary 92 = .ok (.isub, 1) := by decide +kernel
theorem dX12_primary_93 : decode cX12_primary 93 = .ok (.putfield 294, 3) := by decide +kernel
theorem dX12_primary_96 : decode cX12_primary 96 = .ok (.aload_n 0, 1) := by decide +kernel
theorem dX12_primary_97 : decode cX12_primary 97 = .ok (.invokevirtual 208, 3) := by decide +kernel
theorem dX12_primary_100 : decode cX12_primary 100 = .ok (.return_, 1) := by decide +kernel
theorem dX12_primary_101 : decode cX12_primary 101 = .ok (.aload_n 0, 1) := by decide +kernel
theorem dX12_primary_102 : decode cX12_primary 102 = .ok (.getfield 167, 3) := by decide +kernel
theorem dX12_primary_105 : decode cX12_primary 105 = .ok (.iconst 2, 1) := by decide +kernel
theorem dX12_primary_106 : decode cX12_primary 106 = .ok (.if_icmp .ne 7, 3) := by decide +kernel
theorem dX12_primary_109 : decode cX12_primary 109 = .ok (.iconst 1, 1) := by decide +kernel
theorem dX12_primary_110 : decode cX12_primary 110 = .ok (.goto 4, 3) := by decide +kernel
theorem dX12_primary_113 : decode cX12_primary 113 = .ok (.iconst 0, 1) := by decide +kernel
theorem dX12_primary_114 : decode cX12_primary 114 = .ok (.istore_n 1, 1) := by decide +kernel
theorem dX12_primary_115 : decode cX12_primary 115 = .ok (.iload_n 1, 1) := by decide +kernel
theorem dX12_primary_116 : decode cX12_primary 116 = .ok (.ifCond .eq 21, 3) := by decide +kernel
theorem dX12_primary_119 : decode cX12_primary 119 = .ok (.aload_n 0, 1) := by decide +kernel
theorem dX12_primary_120 : decode cX12_primary 120 = .ok (.getfield 177, 3) := by decide +kernel
theorem dX12_primary_123 : decode cX12_primary 123 = .ok (.sipush 9999, 3) := by decide +kernel
theorem dX12_primary_126 : decode cX12_primary 126 = .ok (.if_icmp .le 11, 3) := by decide +kernel
theorem dX12_primary_129 : decode cX12_primary 129 = .ok (.aload_n 0, 1) := by decide +kernel
theorem dX12_primary_130 : decode cX12_primary 130 = .ok (.iconst 2, 1) := by decide +kernel
theorem dX12_primary_131 : decode cX12_primary 131 = .ok (.invokevirtual 211, 3) := by decide +kernel
theorem dX12_primary_134 : decode cX12_primary 134 = .ok (.goto 28, 3) := by decide +kernel
theorem dX12_primary_137 : decode cX12_primary 137 = .ok (.iload_n 1, 1) := by decide +kernel
theorem dX12_primary_138 : decode cX12_primary 138 = .ok (.ifCond .ne 24, 3) := by decide +kernel
theorem dX12_primary_141 : decode cX12_primary 141 = .ok (.aload_n 0, 1) := by decide +kernel
theorem dX12_primary_142 : decode cX12_primary 142 = .ok (.getfield 167, 3) := by decide +kernel
theorem dX12_primary_145 : decode cX12_primary 145 = .ok (.ifCond .ne 12, 3) := by decide +kernel
theorem dX12_primary_148 : decode cX12_primary 148 = .ok (.aload_n 0, 1) := by decide +kernel
theorem dX12_primary_149 : decode cX12_primary 149 = .ok (.getfield 177, 3) := by decide +kernel
theorem dX12_primary_152 : decode cX12_primary 152 = .ok (.bipush 14, 2) := by decide +kernel
theorem dX12_primary_154 : decode cX12_primary 154 = .ok (.if_icmp .ge 8, 3) := by decide +kernel
theorem dX12_primary_157 : decode cX12_primary 157 = .ok (.aload_n 0, 1) := by decide +kernel
theorem dX12_primary_158 : decode cX12_primary 158 = .ok (.iconst 1, 1) := by decide +kernel
theorem dX12_primary_159 : decode cX12_primary 159 = .ok (.invokevirtual 211, 3) := by decide +kernel
theorem dX12_primary_162 : decode cX12_primary 162 = .ok (.aload_n 0, 1) := by decide +kernel
theorem dX12_primary_163 : decode cX12_primary 163 = .ok (.invokevirtual 276, 3) := by decide +kernel
theorem dX12_primary_166 : decode cX12_primary 166 = .ok (.aload_n 0, 1) := by decide +kernel
theorem dX12_primary_167 : decode cX12_primary 167 = .ok (.iload_n 1, 1) := by decide +kernel
theorem dX12_primary_168 : decode cX12_primary 168 = .ok (.ifCond .eq 7, 3) := by decide +kernel
theorem dX12_primary_171 : decode cX12_primary 171 = .ok (.iconst 0, 1) := by decide +kernel
theorem dX12_primary_172 : decode cX12_primary 172 = .ok (.goto 4, 3) := by decide +kernel
theorem dX12_primary_175 : decode cX12_primary 175 = .ok (.iconst 1, 1) := by decide +kernel
theorem dX12_primary_176 : decode cX12_primary 176 = .ok (.iload_n 1, 1) := by decide +kernel
theorem dX12_primary_177 : decode cX12_primary 177 = .ok (.ifCond .eq 10, 3) := by decide +kernel
theorem dX12_primary_180 : decode cX12_primary 180 = .ok (.aload_n 0, 1) := by decide +kernel
theorem dX12_primary_181 : decode cX12_primary 181 = .ok (.getfield 177, 3) := by decide +kernel
theorem dX12_primary_184 : decode cX12_primary 184 = .ok (.goto 10, 3) := by decide +kernel
theorem dX12_primary_187 : decode cX12_primary 187 = .ok (.aload_n 0, 1) := by decide +kernel
theorem dX12_primary_188 : decode cX12_primary 188 = .ok (.getfield 177, 3) := by decide +kernel
theorem dX12_primary_191 : decode cX12_primary 191 = .ok (.bipush 14, 2) := by decide +kernel
theorem dX12_primary_193 : decode cX12_primary 193 = .ok (.isub, 1) := by decide +kernel
theorem dX12_primary_194 : decode cX12_primary 194 = .ok (.invokevirtual 279, 3) := by decide +kernel
theorem dX12_primary_197 : decode cX12_primary 197 = .ok (.aload_n 0, 1) := by decide +kernel
theorem dX12_primary_198 : decode cX12_primary 198 = .ok (.invokevirtual 225, 3) := by decide +kernel
theorem dX12_primary_201 : decode cX12_primary 201 = .ok (.return_, 1) := by decide +kernel
theorem dX12_half_0 : decode cX12_half 0 = .ok (.aload_n 0, 1) := by decide +kernel
theorem dX12_half_1 : decode cX12_half 1 = .ok (.arraylength, 1) := by decide +kernel
theorem dX12_half_2 : decode cX12_half 2 = .ok (.iconst 2, 1) := by decide +kernel
theorem dX12_half_3 : decode cX12_half 3 = .ok (.idiv, 1) := by decide +kernel
theorem dX12_half_4 : decode cX12_half 4 = .ok (.istore_n 1, 1) := by decide +kernel
theorem dX12_half_5 : decode cX12_half 5 = .ok (.iconst 0, 1) := by decide +kernel
theorem dX12_half_6 : decode cX12_half 6 = .ok (.istore_n 2, 1) := by decide +kernel
theorem dX12_half_7 : decode cX12_half 7 = .ok (.iload_n 2, 1) := by decide +kernel
theorem dX12_half_8 : decode cX12_half 8 = .ok (.iload_n 1, 1) := by decide +kernel
theorem dX12_half_9 : decode cX12_half 9 = .ok (.if_icmp .ge 17, 3) := by decide +kernel
theorem dX12_half_12 : decode cX12_half 12 = .ok (.aload_n 0, 1) := by decide +kernel
theorem dX12_half_13 : decode cX12_half 13 = .ok (.iload_n 2, 1) := by decide +kernel
theorem dX12_half_14 : decode cX12_half 14 = .ok (.aload_n 0, 1) := by decide +kernel
theorem dX12_half_15 : decode cX12_half 15 = .ok (.iload_n 1, 1) := by decide +kernel
theorem dX12_half_16 : decode cX12_half 16 = .ok (.iload_n 2, 1) := by decide +kernel
theorem dX12_half_17 : decode cX12_half 17 = .ok (.iadd, 1) := by decide +kernel
theorem dX12_half_18 : decode cX12_half 18 = .ok (.iaload, 1) := by decide +kernel
theorem dX12_half_19 : decode cX12_half 19 = .ok (.iastore, 1) := by decide +kernel
theorem dX12_half_20 : decode cX12_half 20 = .ok (.iinc 2 1, 3) := by decide +kernel
theorem dX12_half_23 : decode cX12_half 23 = .ok (.goto (-16), 3) := by decide +kernel
theorem dX12_half_26 : decode cX12_half 26 = .ok (.return_, 1) := by decide +kernel
theorem dX12_text_0 : decode cX12_text 0 = .ok (.aload_n 0, 1) := by decide +kernel
theorem dX12_text_1 : decode cX12_text 1 = .ok (.iconst 0, 1) := by decide +kernel
theorem dX12_text_2 : decode cX12_text 2 = .ok (.putfield 148, 3) := by decide +kernel
theorem dX12_text_5 : decode cX12_text 5 = .ok (.iload_n 1, 1) := by decide +kernel
theorem dX12_text_6 : decode cX12_text 6 = .ok (.ifCond .lt 11, 3) := by decide +kernel
theorem dX12_text_9 : decode cX12_text 9 = .ok (.iload_n 1, 1) := by decide +kernel
theorem dX12_text_10 : decode cX12_text 10 = .ok (.aload_n 0, 1) := by decide +kernel
theorem dX12_text_11 : decode cX12_text 11 = .ok (.getfield 151, 3) := by decide +kernel
theorem dX12_text_14 : decode cX12_text 14 = .ok (.if_icmp .le 6, 3) := by decide +kernel
theorem dX12_text_17 : decode cX12_text 17 = .ok (.bipush (-2), 2) := by decide +kernel
theorem dX12_text_19 : decode cX12_text 19 = .ok (.ireturn, 1) := by decide +kernel
theorem dX12_text_20 : decode cX12_text 20 = .ok (.aload_n 0, 1) := by decide +kernel
theorem dX12_text_21 : decode cX12_text 21 = .ok (.iload_n 1, 1) := by decide +kernel
theorem dX12_text_22 : decode cX12_text 22 = .ok (.putfield 157, 3) := by decide +kernel
theorem dX12_text_25 : decode cX12_text 25 = .ok (.aload_n 0, 1) := by decide +kernel
theorem dX12_text_26 : decode cX12_text 26 = .ok (.iconst 0, 1) := by decide +kernel
theorem dX12_text_27 : decode cX12_text 27 = .ok (.putfield 151, 3) := by decide +kernel
theorem dX12_text_30 : decode cX12_text 30 = .ok (.aload_n 0, 1) := by decide +kernel
theorem dX12_text_31 : decode cX12_text 31 = .ok (.iconst 0, 1) := by decide +kernel
theorem dX12_text_32 : decode cX12_text 32 = .ok (.putfield 154, 3) := by decide +kernel
theorem dX12_text_35 : decode cX12_text 35 = .ok (.aload_n 0, 1) := by decide +kernel
theorem dX12_text_36 : decode cX12_text 36 = .ok (.iconst 0, 1) := by decide +kernel
theorem dX12_text_37 : decode cX12_text 37 = .ok (.putfield 202, 3) := by decide +kernel
theorem dX12_text_40 : decode cX12_text 40 = .ok (.aload_n 0, 1) := by decide +kernel
theorem dX12_text_41 : decode cX12_text 41 = .ok (.iconst (-1), 1) := by decide +kernel
theorem dX12_text_42 : decode cX12_text 42 = .ok (.putfield 205, 3) := by decide +kernel
theorem dX12_text_45 : decode cX12_text 45 = .ok (.iconst 0, 1) := by decide +kernel
theorem dX12_text_46 : decode cX12_text 46 = .ok (.istore_n 2, 1) := by decide +kernel
theorem dX12_text_47 : decode cX12_text 47 = .ok (.iload_n 2, 1) := by decide +kernel
theorem dX12_text_48 : decode cX12_text 48 = .ok (.bipush 8, 2) := by decide +kernel
theorem dX12_text_50 : decode cX12_text 50 = .ok (.if_icmp .ge 15, 3) := by decide +kernel
theorem dX12_text_53 : decode cX12_text 53 = .ok (.aload_n 0, 1) := by decide +kernel
theorem dX12_text_54 : decode cX12_text 54 = .ok (.iload_n 2, 1) := by decide +kernel
theorem dX12_text_55 : decode cX12_text 55 = .ok (.iconst 0, 1) := by decide +kernel
theorem dX12_text_56 : decode cX12_text 56 = .ok (.invokevirtual 242, 3) := by decide +kernel
theorem dX12_text_59 : decode cX12_text 59 = .ok (.iinc 2 1, 3) := by decide +kernel
theorem dX12_text_62 : decode cX12_text 62 = .ok (.goto (-15), 3) := by decide +kernel
theorem dX12_text_65 : decode cX12_text 65 = .ok (.iconst 3, 1) := by decide +kernel
theorem dX12_text_66 : decode cX12_text 66 = .ok (.istore_n 2, 1) := by decide +kernel
theorem dX12_text_67 : decode cX12_text 67 = .ok (.iload_n 2, 1) := by decide +kernel
theorem dX12_text_68 : decode cX12_text 68 = .ok (.bipush 6, 2) := by decide +kernel
theorem dX12_text_70 : decode cX12_text 70 = .ok (.if_icmp .ge 23, 3) := by decide +kernel
theorem dX12_text_73 : decode cX12_text 73 = .ok (.aload_n 0, 1) := by decide +kernel
theorem dX12_text_74 : decode cX12_text 74 = .ok (.getfield 52, 3) := by decide +kernel
theorem dX12_text_77 : decode cX12_text 77 = .ok (.iload_n 2, 1) := by decide +kernel
theorem dX12_text_78 : decode cX12_text 78 = .ok (.iconst 0, 1) := by decide +kernel
theorem dX12_text_79 : decode cX12_text 79 = .ok (.iastore, 1) := by decide +kernel
theorem dX12_text_80 : decode cX12_text 80 = .ok (.aload_n 0, 1) := by decide +kernel
theorem dX12_text_81 : decode cX12_text 81 = .ok (.getfield 55, 3) := by decide +kernel
theorem dX12_text_84 : decode cX12_text 84 = .ok (.iload_n 2, 1) := by decide +kernel
theorem dX12_text_85 : decode cX12_text 85 = .ok (.iconst 0, 1) := by decide +kernel
theorem dX12_text_86 : decode cX12_text 86 = .ok (.iastore, 1) := by decide +kernel
theorem dX12_text_87 : decode cX12_text 87 = .ok (.iinc 2 1, 3) := by decide +kernel
theorem dX12_text_90 : decode cX12_text 90 = .ok (.goto (-23), 3) := by decide +kernel
theorem dX12_text_93 : decode cX12_text 93 = .ok (.aload_n 0, 1) := by decide +kernel
theorem dX12_text_94 : decode cX12_text 94 = .ok (.iconst 0, 1) := by decide +kernel
theorem dX12_text_95 : decode cX12_text 95 = .ok (.putfield 231, 3) := by decide +kernel
theorem dX12_text_98 : decode cX12_text 98 = .ok (.aload_n 0, 1) := by decide +kernel
theorem dX12_text_99 : decode cX12_text 99 = .ok (.iconst 0, 1) := by decide +kernel
theorem dX12_text_100 : decode cX12_text 100 = .ok (.putfield 261, 3) := by decide +kernel
theorem dX12_text_103 : decode cX12_text 103 = .ok (.aload_n 0, 1) := by decide +kernel
theorem dX12_text_104 : decode cX12_text 104 = .ok (.iconst 0, 1) := by decide +kernel
theorem dX12_text_105 : decode cX12_text 105 = .ok (.putfield 294, 3) := by decide +kernel
theorem dX12_text_108 : decode cX12_text 108 = .ok (.aload_n 0, 1) := by decide +kernel
theorem dX12_text_109 : decode cX12_text 109 = .ok (.iconst 0, 1) := by decide +kernel
theorem dX12_text_110 : decode cX12_text 110 = .ok (.putfield 267, 3) := by decide +kernel
theorem dX12_text_113 : decode cX12_text 113 = .ok (.aload_n 0, 1) := by decide +kernel
theorem dX12_text_114 : decode cX12_text 114 = .ok (.invokevirtual 208, 3) := by decide +kernel
theorem dX12_text_117 : decode cX12_text 117 = .ok (.aload_n 0, 1) := by decide +kernel
theorem dX12_text_118 : decode cX12_text 118 = .ok (.getfield 202, 3) := by decide +kernel
theorem dX12_text_121 : decode cX12_text 121 = .ok (.ifCond .ne 18, 3) := by decide +kernel
theorem dX12_text_124 : decode cX12_text 124 = .ok (.aload_n 0, 1) := by decide +kernel
theorem dX12_text_125 : decode cX12_text 125 = .ok (.getfield 167, 3) := by decide +kernel
theorem dX12_text_128 : decode cX12_text 128 = .ok (.iconst 4, 1) := by decide +kernel
theorem dX12_text_129 : decode cX12_text 129 = .ok (.if_icmp .eq 10, 3) := by decide +kernel
theorem dX12_text_132 : decode cX12_text 132 = .ok (.aload_n 0, 1) := by decide +kernel
theorem dX12_text_133 : decode cX12_text 133 = .ok (.invokevirtual 297, 3) := by decide +kernel
theorem dX12_text_136 : decode cX12_text 136 = .ok (.goto (-19), 3) := by decide +kernel
theorem dX12_text_139 : decode cX12_text 139 = .ok (.aload_n 0, 1) := by decide +kernel
theorem dX12_text_140 : decode cX12_text 140 = .ok (.aload_n 0, 1) := by decide +kernel
theorem dX12_text_141 : decode cX12_text 141 = .ok (.getfield 202, 3) := by decide +kernel
theorem dX12_text_144 : decode cX12_text 144 = .ok (.putfield 300, 3) := by decide +kernel
theorem dX12_text_147 : decode cX12_text 147 = .ok (.aload_n 0, 1) := by decide +kernel
theorem dX12_text_148 : decode cX12_text 148 = .ok (.aload_n 0, 1) := by decide +kernel
theorem dX12_text_149 : decode cX12_text 149 = .ok (.getfield 205, 3) := by decide +kernel
theorem dX12_text_152 : decode cX12_text 152 = .ok (.putfield 64, 3) := by decide +kernel
theorem dX12_text_155 : decode cX12_text 155 = .ok (.aload_n 0, 1) := by decide +kernel
theorem dX12_text_156 : decode cX12_text 156 = .ok (.getfield 202, 3) := by decide +kernel
theorem dX12_text_159 : decode cX12_text 159 = .ok (.ifCond .eq 5, 3) := by decide +kernel
theorem dX12_text_162 : decode cX12_text 162 = .ok (.iconst (-1), 1) := by decide +kernel
theorem dX12_text_163 : decode cX12_text 163 = .ok (.ireturn, 1) := by decide +kernel
theorem dX12_text_164 : decode cX12_text 164 = .ok (.aload_n 0, 1) := by decide +kernel
theorem dX12_text_165 : decode cX12_text 165 = .ok (.getfield 13, 3) := by decide +kernel
theorem dX12_text_168 : decode cX12_text 168 = .ok (.invokestatic 303, 3) := by decide +kernel
theorem dX12_text_171 : decode cX12_text 171 = .ok (.aload_n 0, 1) := by decide +kernel
theorem dX12_text_172 : decode cX12_text 172 = .ok (.getfield 16, 3) := by decide +kernel
theorem dX12_text_175 : decode cX12_text 175 = .ok (.invokestatic 303, 3) := by decide +kernel
theorem dX12_text_178 : decode cX12_text 178 = .ok (.aload_n 0, 1) := by decide +kernel
theorem dX12_text_179 : decode cX12_text 179 = .ok (.getfield 19, 3) := by decide +kernel
theorem dX12_text_182 : decode cX12_text 182 = .ok (.invokestatic 303, 3) := by decide +kernel
theorem dX12_text_185 : decode cX12_text 185 = .ok (.aload_n 0, 1) := by decide +kernel
theorem dX12_text_186 : decode cX12_text 186 = .ok (.getfield 22, 3) := by decide +kernel
theorem dX12_text_189 : decode cX12_text 189 = .ok (.invokestatic 303, 3) := by decide +kernel
theorem dX12_text_192 : decode cX12_text 192 = .ok (.aload_n 0, 1) := by decide +kernel
theorem dX12_text_193 : decode cX12_text 193 = .ok (.getfield 25, 3) := by decide +kernel
theorem dX12_text_196 : decode cX12_text 196 = .ok (.invokestatic 303, 3) := by decide +kernel
theorem dX12_text_199 : decode cX12_text 199 = .ok (.aload_n 0, 1) := by decide +kernel
theorem dX12_text_200 : decode cX12_text 200 = .ok (.getfield 28, 3) := by decide +kernel
theorem dX12_text_203 : decode cX12_text 203 = .ok (.invokestatic 303, 3) := by decide +kernel
theorem dX12_text_206 : decode cX12_text 206 = .ok (.aload_n 0, 1) := by decide +kernel
theorem dX12_text_207 : decode cX12_text 207 = .ok (.getfield 31, 3) := by decide +kernel
theorem dX12_text_210 : decode cX12_text 210 = .ok (.invokestatic 303, 3) := by decide +kernel
theorem dX12_text_213 : decode cX12_text 213 = .ok (.aload_n 0, 1) := by decide +kernel
theorem dX12_text_214 : decode cX12_text 214 = .ok (.getfield 34, 3) := by decide +kernel
theorem dX12_text_217 : decode cX12_text 217 = .ok (.invokestatic 303, 3) := by decide +kernel
theorem dX12_text_220 : decode cX12_text 220 = .ok (.aload_n 0, 1) := by decide +kernel
theorem dX12_text_221 : decode cX12_text 221 = .ok (.getfield 37, 3) := by decide +kernel
theorem dX12_text_224 : decode cX12_text 224 = .ok (.invokestatic 303, 3) := by decide +kernel
theorem dX12_text_227 : decode cX12_text 227 = .ok (.aload_n 0, 1) := by decide +kernel
theorem dX12_text_228 : decode cX12_text 228 = .ok (.getfield 40, 3) := by decide +kernel
theorem dX12_text_231 : decode cX12_text 231 = .ok (.invokestatic 303, 3) := by decide +kernel
theorem dX12_text_234 : decode cX12_text 234 = .ok (.aload_n 0, 1) := by decide +kernel
theorem dX12_text_235 : decode cX12_text 235 = .ok (.getfield 43, 3) := by decide +kernel
theorem dX12_text_238 : decode cX12_text 238 = .ok (.invokestatic 303, 3) := by decide +kernel
theorem dX12_text_241 : decode cX12_text 241 = .ok (.aload_n 0, 1) := by decide +kernel
theorem dX12_text_242 : decode cX12_text 242 = .ok (.getfield 46, 3) := by decide +kernel
theorem dX12_text_245 : decode cX12_text 245 = .ok (.invokestatic 303, 3) := by decide +kernel
theorem dX12_text_248 : decode cX12_text 248 = .ok (.aload_n 0, 1) := by decide +kernel
theorem dX12_text_249 : decode cX12_text 249 = .ok (.getfield 49, 3) := by decide +kernel
theorem dX12_text_252 : decode cX12_text 252 = .ok (.invokestatic 303, 3) := by decide +kernel
theorem dX12_text_255 : decode cX12_text 255 = .ok (.aload_n 0, 1) := by decide +kernel
theorem dX12_text_256 : decode cX12_text 256 = .ok (.getfield 52, 3) := by decide +kernel
theorem dX12_text_259 : decode cX12_text 259 = .ok (.invokestatic 303, 3) := by decide +kernel
theorem dX12_text_262 : decode cX12_text 262 = .ok (.aload_n 0, 1) := by decide +kernel
theorem dX12_text_263 : decode cX12_text 263 = .ok (.getfield 55, 3) := by decide +kernel
theorem dX12_text_266 : decode cX12_text 266 = .ok (.invokestatic 303, 3) := by decide +kernel
theorem dX12_text_269 : decode cX12_text 269 = .ok (.aload_n 0, 1) := by decide +kernel
theorem dX12_text_270 : decode cX12_text 270 = .ok (.getfield 58, 3) := by decide +kernel
theorem dX12_text_273 : decode cX12_text 273 = .ok (.invokestatic 303, 3) := by decide +kernel
theorem dX12_text_276 : decode cX12_text 276 = .ok (.aload_n 0, 1) := by decide +kernel
theorem dX12_text_277 : decode cX12_text 277 = .ok (.getfield 61, 3) := by decide +kernel
theorem dX12_text_280 : decode cX12_text 280 = .ok (.invokestatic 303, 3) := by decide +kernel
theorem dX12_text_283 : decode cX12_text 283 = .ok (.aload_n 0, 1) := by decide +kernel
theorem dX12_text_284 : decode cX12_text 284 = .ok (.iconst 0, 1) := by decide +kernel
theorem dX12_text_285 : decode cX12_text 285 = .ok (.putfield 307, 3) := by decide +kernel
theorem dX12_text_288 : decode cX12_text 288 = .ok (.aload_n 0, 1) := by decide +kernel
theorem dX12_text_289 : decode cX12_text 289 = .ok (.iconst (-1), 1) := by decide +kernel
theorem dX12_text_290 : decode cX12_text 290 = .ok (.putfield 117, 3) := by decide +kernel
theorem dX12_text_293 : decode cX12_text 293 = .ok (.aload_n 0, 1) := by decide +kernel
theorem dX12_text_294 : decode cX12_text 294 = .ok (.iconst 0, 1) := by decide +kernel
theorem dX12_text_295 : decode cX12_text 295 = .ok (.putfield 310, 3) := by decide +kernel
theorem dX12_text_298 : decode cX12_text 298 = .ok (.aload_n 0, 1) := by decide +kernel
theorem dX12_text_299 : decode cX12_text 299 = .ok (.iconst 0, 1) := by decide +kernel
theorem dX12_text_300 : decode cX12_text 300 = .ok (.putfield 314, 3) := by decide +kernel
theorem dX12_text_303 : decode cX12_text 303 = .ok (.aload_n 0, 1) := by decide +kernel
theorem dX12_text_304 : decode cX12_text 304 = .ok (.invokevirtual 145, 3) := by decide +kernel
theorem dX12_text_307 : decode cX12_text 307 = .ok (.aload_n 0, 1) := by decide +kernel
theorem dX12_text_308 : decode cX12_text 308 = .ok (.getfield 261, 3) := by decide +kernel
theorem dX12_text_311 : decode cX12_text 311 = .ok (.ireturn, 1) := by decide +kernel
theorem dX12_fault_0 : decode cX12_fault 0 = .ok (.aload_n 0, 1) := by decide +kernel
theorem dX12_fault_1 : decode cX12_fault 1 = .ok (.iconst 0, 1) := by decide +kernel
theorem dX12_fault_2 : decode cX12_fault 2 = .ok (.putfield 148, 3) := by decide +kernel
theorem dX12_fault_5 : decode cX12_fault 5 = .ok (.iload_n 1, 1) := by decide +kernel
theorem dX12_fault_6 : decode cX12_fault 6 = .ok (.ifCond .ne 10, 3) := by decide +kernel
theorem dX12_fault_9 : decode cX12_fault 9 = .ok (.aload_n 0, 1) := by decide +kernel
theorem dX12_fault_10 : decode cX12_fault 10 = .ok (.getfield 300, 3) := by decide +kernel
theorem dX12_fault_13 : decode cX12_fault 13 = .ok (.goto 16, 3) := by decide +kernel
theorem dX12_fault_16 : decode cX12_fault 16 = .ok (.iload_n 1, 1) := by decide +kernel
theorem dX12_fault_17 : decode cX12_fault 17 = .ok (.iconst 1, 1) := by decide +kernel
theorem dX12_fault_18 : decode cX12_fault 18 = .ok (.if_icmp .ne 10, 3) := by decide +kernel
theorem dX12_fault_21 : decode cX12_fault 21 = .ok (.aload_n 0, 1) := by decide +kernel
theorem dX12_fault_22 : decode cX12_fault 22 = .ok (.getfield 64, 3) := by decide +kernel
theorem dX12_fault_25 : decode cX12_fault 25 = .ok (.goto 4, 3) := by decide +kernel
theorem dX12_fault_28 : decode cX12_fault 28 = .ok (.iconst (-1), 1) := by decide +kernel
theorem dX12_fault_29 : decode cX12_fault 29 = .ok (.ireturn, 1) := by decide +kernel
theorem dX12_named_0 : decode cX12_named 0 = .ok (.aload_n 0, 1) := by decide +kernel
theorem dX12_named_1 : decode cX12_named 1 = .ok (.iconst 0, 1) := by decide +kernel
theorem dX12_named_2 : decode cX12_named 2 = .ok (.putfield 148, 3) := by decide +kernel
theorem dX12_named_5 : decode cX12_named 5 = .ok (.aload_n 0, 1) := by decide +kernel
theorem dX12_named_6 : decode cX12_named 6 = .ok (.getfield 16, 3) := by decide +kernel
theorem dX12_named_9 : decode cX12_named 9 = .ok (.iconst 0, 1) := by decide +kernel
theorem dX12_named_10 : decode cX12_named 10 = .ok (.aload_n 0, 1) := by decide +kernel
theorem dX12_named_11 : decode cX12_named 11 = .ok (.getfield 13, 3) := by decide +kernel
theorem dX12_named_14 : decode cX12_named 14 = .ok (.iconst 0, 1) := by decide +kernel
theorem dX12_named_15 : decode cX12_named 15 = .ok (.iaload, 1) := by decide +kernel
theorem dX12_named_16 : decode cX12_named 16 = .ok (.iload_n 1, 1) := by decide +kernel
theorem dX12_named_17 : decode cX12_named 17 = .ok (.invokestatic 214, 3) := by decide +kernel
theorem dX12_named_20 : decode cX12_named 20 = .ok (.ireturn, 1) := by decide +kernel
theorem dX12_is_0 : decode cX12_is 0 = .ok (.iload_n 0, 1) := by decide +kernel
theorem dX12_is_1 : decode cX12_is 1 = .ok (.ifCond .eq 7, 3) := by decide +kernel
theorem dX12_is_4 : decode cX12_is 4 = .ok (.lconst 1, 1) := by decide +kernel
theorem dX12_is_5 : decode cX12_is 5 = .ok (.goto 4, 3) := by decide +kernel
theorem dX12_is_8 : decode cX12_is 8 = .ok (.lconst 0, 1) := by decide +kernel
theorem dX12_is_9 : decode cX12_is 9 = .ok (.lreturn, 1) := by decide +kernel
theorem dX12_works_0 : decode cX12_works 0 = .ok (.aload_n 0, 1) := by decide +kernel
theorem dX12_works_1 : decode cX12_works 1 = .ok (.getfield 72, 3) := by decide +kernel
theorem dX12_works_4 : decode cX12_works 4 = .ok (.aload_n 0, 1) := by decide +kernel
theorem dX12_works_5 : decode cX12_works 5 = .ok (.getfield 317, 3) := by decide +kernel
theorem dX12_works_8 : decode cX12_works 8 = .ok (.iconst 1, 1) := by decide +kernel
theorem dX12_works_9 : decode cX12_works 9 = .ok (.isub, 1) := by decide +kernel
theorem dX12_works_10 : decode cX12_works 10 = .ok (.laload, 1) := by decide +kernel
theorem dX12_works_11 : decode cX12_works 11 = .ok (.lstore_n 2, 1) := by decide +kernel
theorem dX12_works_12 : decode cX12_works 12 = .ok (.iload_n 1, 1) := by decide +kernel
theorem dX12_works_13 : decode cX12_works 13 = .ok (.sipush 260, 3) := by decide +kernel
theorem dX12_works_16 : decode cX12_works 16 = .ok (.if_icmp .ne 30, 3) := by decide +kernel
theorem dX12_works_19 : decode cX12_works 19 = .ok (.aload_n 0, 1) := by decide +kernel
theorem dX12_works_20 : decode cX12_works 20 = .ok (.getfield 72, 3) := by decide +kernel
theorem dX12_works_23 : decode cX12_works 23 = .ok (.aload_n 0, 1) := by decide +kernel
theorem dX12_works_24 : decode cX12_works 24 = .ok (.getfield 317, 3) := by decide +kernel
theorem dX12_works_27 : decode cX12_works 27 = .ok (.iconst 1, 1) := by decide +kernel
theorem dX12_works_28 : decode cX12_works 28 = .ok (.isub, 1) := by decide +kernel
theorem dX12_works_29 : decode cX12_works 29 = .ok (.lload_n 2, 1) := by decide +kernel
theorem dX12_works_30 : decode cX12_works 30 = .ok (.lconst 0, 1) := by decide +kernel
theorem dX12_works_31 : decode cX12_works 31 = .ok (.lcmp, 1) := by decide +kernel
theorem dX12_works_32 : decode cX12_works 32 = .ok (.ifCond .ne 7, 3) := by decide +kernel
theorem dX12_works_35 : decode cX12_works 35 = .ok (.iconst 1, 1) := by decide +kernel
theorem dX12_works_36 : decode cX12_works 36 = .ok (.goto 4, 3) := by decide +kernel
theorem dX12_works_39 : decode cX12_works 39 = .ok (.iconst 0, 1) := by decide +kernel
theorem dX12_works_40 : decode cX12_works 40 = .ok (.invokestatic 320, 3) := by decide +kernel
theorem dX12_works_43 : decode cX12_works 43 = .ok (.lastore, 1) := by decide +kernel
theorem dX12_works_44 : decode cX12_works 44 = .ok (.iconst 1, 1) := by decide +kernel
theorem dX12_works_45 : decode cX12_works 45 = .ok (.ireturn, 1) := by decide +kernel
theorem dX12_works_46 : decode cX12_works 46 = .ok (.aload_n 0, 1) := by decide +kernel
theorem dX12_works_47 : decode cX12_works 47 = .ok (.getfield 72, 3) := by decide +kernel
theorem dX12_works_50 : decode cX12_works 50 = .ok (.aload_n 0, 1) := by decide +kernel
theorem dX12_works_51 : decode cX12_works 51 = .ok (.getfield 317, 3) := by decide +kernel
theorem dX12_works_54 : decode cX12_works 54 = .ok (.iconst 2, 1) := by decide +kernel
theorem dX12_works_55 : decode cX12_works 55 = .ok (.isub, 1) := by decide +kernel
theorem dX12_works_56 : decode cX12_works 56 = .ok (.laload, 1) := by decide +kernel
theorem dX12_works_57 : decode cX12_works 57 = .ok (.lstore 4, 2) := by decide +kernel
theorem dX12_works_59 : decode cX12_works 59 = .ok (.aload_n 0, 1) := by decide +kernel
theorem dX12_works_60 : decode cX12_works 60 = .ok (.dup, 1) := by decide +kernel
theorem dX12_works_61 : decode cX12_works 61 = .ok (.getfield 317, 3) := by decide +kernel
theorem dX12_works_64 : decode cX12_works 64 = .ok (.iconst 1, 1) := by decide +kernel
theorem dX12_works_65 : decode cX12_works 65 = .ok (.isub, 1) := by decide +kernel
theorem dX12_works_66 : decode cX12_works 66 = .ok (.putfield 317, 3) := by decide +kernel
theorem dX12_works_69 : decode cX12_works 69 = .ok (.iload_n 1, 1) := by decide +kernel
theorem dX12_works_70 : decode cX12_works 70 = .ok (.lookupswitch 314 #[(42, 116), (43, 98), (45, 107), (47, 151), (60, 168), (61, 208), (62, 188), (256, 228), (257, 268), (258, 248), (261, 288)], 98) := by decide +kernel
theorem dX12_works_168 : decode cX12_works 168 = .ok (.lload 4, 2) := by decide +kernel
theorem dX12_works_170 : decode cX12_works 170 = .ok (.lload_n 2, 1) := by decide +kernel
theorem dX12_works_171 : decode cX12_works 171 = .ok (.ladd, 1) := by decide +kernel
theorem dX12_works_172 : decode cX12_works 172 = .ok (.lstore 6, 2) := by decide +kernel
theorem dX12_works_174 : decode cX12_works 174 = .ok (.goto 233, 3) := by decide +kernel
theorem dX12_works_177 : decode cX12_works 177 = .ok (.lload 4, 2) := by decide +kernel
theorem dX12_works_179 : decode cX12_works 179 = .ok (.lload_n 2, 1) := by decide +kernel
theorem dX12_works_180 : decode cX12_works 180 = .ok (.lsub, 1) := by decide +kernel
theorem dX12_works_181 : decode cX12_works 181 = .ok (.lstore 6, 2) := by decide +kernel
theorem dX12_works_183 : decode cX12_works 183 = .ok (.goto 224, 3) := by decide +kernel
theorem dX12_works_186 : decode cX12_works 186 = .ok (.lload 4, 2) := by decide +kernel
theorem dX12_works_188 : decode cX12_works 188 = .ok (.lconst 0, 1) := by decide +kernel
theorem dX12_works_189 : decode cX12_works 189 = .ok (.lcmp, 1) := by decide +kernel
theorem dX12_works_190 : decode cX12_works 190 = .ok (.ifCond .eq 22, 3) := by decide +kernel
theorem dX12_works_193 : decode cX12_works 193 = .ok (.lload_n 2, 1) := by decide +kernel
theorem dX12_works_194 : decode cX12_works 194 = .ok (.invokestatic 324, 3) := by decide +kernel
theorem dX12_works_197 : decode cX12_works 197 = .ok (.ldc2_w 330, 3) := by decide +kernel
theorem dX12_works_200 : decode cX12_works 200 = .ok (.lload 4, 2) := by decide +kernel
theorem dX12_works_202 : decode cX12_works 202 = .ok (.invokestatic 324, 3) := by decide +kernel
theorem dX12_works_205 : decode cX12_works 205 = .ok (.ldiv, 1) := by decide +kernel
theorem dX12_works_206 : decode cX12_works 206 = .ok (.lcmp, 1) := by decide +kernel
theorem dX12_works_207 : decode cX12_works 207 = .ok (.ifCond .le 5, 3) := by decide +kernel
theorem dX12_works_210 : decode cX12_works 210 = .ok (.iconst 0, 1) := by decide +kernel
theorem dX12_works_211 : decode cX12_works 211 = .ok (.ireturn, 1) := by decide +kernel
theorem dX12_works_212 : decode cX12_works 212 = .ok (.lload 4, 2) := by decide +kernel
theorem dX12_works_214 : decode cX12_works 214 = .ok (.lload_n 2, 1) := by decide +kernel
theorem dX12_works_215 : decode cX12_works 215 = .ok (.lmul, 1) := by decide +kernel
theorem dX12_works_216 : decode cX12_works 216 = .ok (.lstore 6, 2) := by decide +kernel
theorem dX12_works_218 : decode cX12_works 218 = .ok (.goto 189, 3) := by decide +kernel
theorem dX12_works_221 : decode cX12_works 221 = .ok (.lload_n 2, 1) := by decide +kernel
theorem dX12_works_222 : decode cX12_works 222 = .ok (.lconst 0, 1) := by decide +kernel
theorem dX12_works_223 : decode cX12_works 223 = .ok (.lcmp, 1) := by decide +kernel
theorem dX12_works_224 : decode cX12_works 224 = .ok (.ifCond .ne 5, 3) := by decide +kernel
theorem dX12_works_227 : decode cX12_works 227 = .ok (.iconst 0, 1) := by decide +kernel
theorem dX12_works_228 : decode cX12_works 228 = .ok (.ireturn, 1) := by decide +kernel
theorem dX12_works_229 : decode cX12_works 229 = .ok (.lload 4, 2) := by decide +kernel
theorem dX12_works_231 : decode cX12_works 231 = .ok (.lload_n 2, 1) := by decide +kernel
theorem dX12_works_232 : decode cX12_works 232 = .ok (.ldiv, 1) := by decide +kernel
theorem dX12_works_233 : decode cX12_works 233 = .ok (.lstore 6, 2) := by decide +kernel
theorem dX12_works_235 : decode cX12_works 235 = .ok (.goto 172, 3) := by decide +kernel
theorem dX12_works_238 : decode cX12_works 238 = .ok (.lload 4, 2) := by decide +kernel
theorem dX12_works_240 : decode cX12_works 240 = .ok (.lload_n 2, 1) := by decide +kernel
theorem dX12_works_241 : decode cX12_works 241 = .ok (.lcmp, 1) := by decide +kernel
theorem dX12_works_242 : decode cX12_works 242 = .ok (.ifCond .ge 7, 3) := by decide +kernel
theorem dX12_works_245 : decode cX12_works 245 = .ok (.iconst 1, 1) := by decide +kernel
theorem dX12_works_246 : decode cX12_works 246 = .ok (.goto 4, 3) := by decide +kernel
theorem dX12_works_249 : decode cX12_works 249 = .ok (.iconst 0, 1) := by decide +kernel
theorem dX12_works_250 : decode cX12_works 250 = .ok (.invokestatic 320, 3) := by decide +kernel
theorem dX12_works_253 : decode cX12_works 253 = .ok (.lstore 6, 2) := by decide +kernel
theorem dX12_works_255 : decode cX12_works 255 = .ok (.goto 152, 3) := by decide +kernel
theorem dX12_works_258 : decode cX12_works 258 = .ok (.lload 4, 2) := by decide +kernel
theorem dX12_works_260 : decode cX12_works 260 = .ok (.lload_n 2, 1) := by decide +kernel
theorem dX12_works_261 : decode cX12_works 261 = .ok (.lcmp, 1) := by decide +kernel
theorem dX12_works_262 : decode cX12_works 262 = .ok (.ifCond .le 7, 3) := by decide +kernel
theorem dX12_works_265 : decode cX12_works 265 = .ok (.iconst 1, 1) := by decide +kernel
theorem dX12_works_266 : decode cX12_works 266 = .ok (.goto 4, 3) := by decide +kernel
theorem dX12_works_269 : decode cX12_works 269 = .ok (.iconst 0, 1) := by decide +kernel
theorem dX12_works_270 : decode cX12_works 270 = .ok (.invokestatic 320, 3) := by decide +kernel
theorem dX12_works_273 : decode cX12_works 273 = .ok (.lstore 6, 2) := by decide +kernel
theorem dX12_works_275 : decode cX12_works 275 = .ok (.goto 132, 3) := by decide +kernel
theorem dX12_works_278 : decode cX12_works 278 = .ok (.lload 4, 2) := by decide +kernel
theorem dX12_works_280 : decode cX12_works 280 = .ok (.lload_n 2, 1) := by decide +kernel
theorem dX12_works_281 : decode cX12_works 281 = .ok (.lcmp, 1) := by decide +kernel
theorem dX12_works_282 : decode cX12_works 282 = .ok (.ifCond .ne 7, 3) := by decide +kernel
theorem dX12_works_285 : decode cX12_works 285 = .ok (.iconst 1, 1) := by decide +kernel
theorem dX12_works_286 : decode cX12_works 286 = .ok (.goto 4, 3) := by decide +kernel
theorem dX12_works_289 : decode cX12_works 289 = .ok (.iconst 0, 1) := by decide +kernel
theorem dX12_works_290 : decode cX12_works 290 = .ok (.invokestatic 320, 3) := by decide +kernel
theorem dX12_works_293 : decode cX12_works 293 = .ok (.lstore 6, 2) := by decide +kernel
theorem dX12_works_295 : decode cX12_works 295 = .ok (.goto 112, 3) := by decide +kernel
theorem dX12_works_298 : decode cX12_works 298 = .ok (.lload 4, 2) := by decide +kernel
theorem dX12_works_300 : decode cX12_works 300 = .ok (.lload_n 2, 1) := by decide +kernel
theorem dX12_works_301 : decode cX12_works 301 = .ok (.lcmp, 1) := by decide +kernel
theorem dX12_works_302 : decode cX12_works 302 = .ok (.ifCond .gt 7, 3) := by decide +kernel
theorem dX12_works_305 : decode cX12_works 305 = .ok (.iconst 1, 1) := by decide +kernel
theorem dX12_works_306 : decode cX12_works 306 = .ok (.goto 4, 3) := by decide +kernel
theorem dX12_works_309 : decode cX12_works 309 = .ok (.iconst 0, 1) := by decide +kernel
theorem dX12_works_310 : decode cX12_works 310 = .ok (.invokestatic 320, 3) := by decide +kernel
theorem dX12_works_313 : decode cX12_works 313 = .ok (.lstore 6, 2) := by decide +kernel
theorem dX12_works_315 : decode cX12_works 315 = .ok (.goto 92, 3) := by decide +kernel
theorem dX12_works_318 : decode cX12_works 318 = .ok (.lload 4, 2) := by decide +kernel
theorem dX12_works_320 : decode cX12_works 320 = .ok (.lload_n 2, 1) := by decide +kernel
theorem dX12_works_321 : decode cX12_works 321 = .ok (.lcmp, 1) := by decide +kernel
theorem dX12_works_322 : decode cX12_works 322 = .ok (.ifCond .lt 7, 3) := by decide +kernel
theorem dX12_works_325 : decode cX12_works 325 = .ok (.iconst 1, 1) := by decide +kernel
theorem dX12_works_326 : decode cX12_works 326 = .ok (.goto 4, 3) := by decide +kernel
theorem dX12_works_329 : decode cX12_works 329 = .ok (.iconst 0, 1) := by decide +kernel
theorem dX12_works_330 : decode cX12_works 330 = .ok (.invokestatic 320, 3) := by decide +kernel
theorem dX12_works_333 : decode cX12_works 333 = .ok (.lstore 6, 2) := by decide +kernel
theorem dX12_works_335 : decode cX12_works 335 = .ok (.goto 72, 3) := by decide +kernel
theorem dX12_works_338 : decode cX12_works 338 = .ok (.lload 4, 2) := by decide +kernel
theorem dX12_works_340 : decode cX12_works 340 = .ok (.lload_n 2, 1) := by decide +kernel
theorem dX12_works_341 : decode cX12_works 341 = .ok (.lcmp, 1) := by decide +kernel
theorem dX12_works_342 : decode cX12_works 342 = .ok (.ifCond .eq 7, 3) := by decide +kernel
theorem dX12_works_345 : decode cX12_works 345 = .ok (.iconst 1, 1) := by decide +kernel
theorem dX12_works_346 : decode cX12_works 346 = .ok (.goto 4, 3) := by decide +kernel
theorem dX12_works_349 : decode cX12_works 349 = .ok (.iconst 0, 1) := by decide +kernel
theorem dX12_works_350 : decode cX12_works 350 = .ok (.invokestatic 320, 3) := by decide +kernel
theorem dX12_works_353 : decode cX12_works 353 = .ok (.lstore 6, 2) := by decide +kernel
theorem dX12_works_355 : decode cX12_works 355 = .ok (.goto 52, 3) := by decide +kernel
theorem dX12_works_358 : decode cX12_works 358 = .ok (.lload 4, 2) := by decide +kernel
theorem dX12_works_360 : decode cX12_works 360 = .ok (.lconst 0, 1) := by decide +kernel
theorem dX12_works_361 : decode cX12_works 361 = .ok (.lcmp, 1) := by decide +kernel
theorem dX12_works_362 : decode cX12_works 362 = .ok (.ifCond .eq 13, 3) := by decide +kernel
theorem dX12_works_365 : decode cX12_works 365 = .ok (.lload_n 2, 1) := by decide +kernel
theorem dX12_works_366 : decode cX12_works 366 = .ok (.lconst 0, 1) := by decide +kernel
theorem dX12_works_367 : decode cX12_works 367 = .ok (.lcmp, 1) := by decide +kernel
theorem dX12_works_368 : decode cX12_works 368 = .ok (.ifCond .eq 7, 3) := by decide +kernel
theorem dX12_works_371 : decode cX12_works 371 = .ok (.iconst 1, 1) := by decide +kernel
theorem dX12_works_372 : decode cX12_works 372 = .ok (.goto 4, 3) := by decide +kernel
theorem dX12_works_375 : decode cX12_works 375 = .ok (.iconst 0, 1) := by decide +kernel
theorem dX12_works_376 : decode cX12_works 376 = .ok (.invokestatic 320, 3) := by decide +kernel
theorem dX12_works_379 : decode cX12_works 379 = .ok (.lstore 6, 2) := by decide +kernel
theorem dX12_works_381 : decode cX12_works 381 = .ok (.goto 26, 3) := by decide +kernel
theorem dX12_works_384 : decode cX12_works 384 = .ok (.lload 4, 2) := by decide +kernel
theorem dX12_works_386 : decode cX12_works 386 = .ok (.lconst 0, 1) := by decide +kernel
theorem dX12_works_387 : decode cX12_works 387 = .ok (.lcmp, 1) := by decide +kernel
theorem dX12_works_388 : decode cX12_works 388 = .ok (.ifCond .ne 9, 3) := by decide +kernel
theorem dX12_works_391 : decode cX12_works 391 = .ok (.lload_n 2, 1) := by decide +kernel
theorem dX12_works_392 : decode cX12_works 392 = .ok (.lconst 0, 1) := by decide +kernel
theorem dX12_works_393 : decode cX12_works 393 = .ok (.lcmp, 1) := by decide +kernel
theorem dX12_works_394 : decode cX12_works 394 = .ok (.ifCond .eq 7, 3) := by decide +kernel
theorem dX12_works_397 : decode cX12_works 397 = .ok (.iconst 1, 1) := by decide +kernel
theorem dX12_works_398 : decode cX12_works 398 = .ok (.goto 4, 3) := by decide +kernel
theorem dX12_works_401 : decode cX12_works 401 = .ok (.iconst 0, 1) := by decide +kernel
theorem dX12_works_402 : decode cX12_works 402 = .ok (.invokestatic 320, 3) := by decide +kernel
theorem dX12_works_405 : decode cX12_works 405 = .ok (.lstore 6, 2) := by decide +kernel
theorem dX12_works_407 : decode cX12_works 407 = .ok (.aload_n 0, 1) := by decide +kernel
theorem dX12_works_408 : decode cX12_works 408 = .ok (.getfield 72, 3) := by decide +kernel
theorem dX12_works_411 : decode cX12_works 411 = .ok (.aload_n 0, 1) := by decide +kernel
theorem dX12_works_412 : decode cX12_works 412 = .ok (.getfield 317, 3) := by decide +kernel
theorem dX12_works_415 : decode cX12_works 415 = .ok (.iconst 1, 1) := by decide +kernel
theorem dX12_works_416 : decode cX12_works 416 = .ok (.isub, 1) := by decide +kernel
theorem dX12_works_417 : decode cX12_works 417 = .ok (.lload 6, 2) := by decide +kernel
theorem dX12_works_419 : decode cX12_works 419 = .ok (.lastore, 1) := by decide +kernel
theorem dX12_works_420 : decode cX12_works 420 = .ok (.lload 6, 2) := by decide +kernel
theorem dX12_works_422 : decode cX12_works 422 = .ok (.ldc2_w 330, 3) := by decide +kernel
theorem dX12_works_425 : decode cX12_works 425 = .ok (.lcmp, 1) := by decide +kernel
theorem dX12_works_426 : decode cX12_works 426 = .ok (.ifCond .gt 16, 3) := by decide +kernel
theorem dX12_works_429 : decode cX12_works 429 = .ok (.lload 6, 2) := by decide +kernel
theorem dX12_works_431 : decode cX12_works 431 = .ok (.ldc2_w 332, 3) := by decide +kernel
theorem dX12_works_434 : decode cX12_works 434 = .ok (.lcmp, 1) := by decide +kernel
theorem dX12_works_435 : decode cX12_works 435 = .ok (.ifCond .lt 7, 3) := by decide +kernel
theorem dX12_works_438 : decode cX12_works 438 = .ok (.iconst 1, 1) := by decide +kernel
theorem dX12_works_439 : decode cX12_works 439 = .ok (.goto 4, 3) := by decide +kernel
theorem dX12_works_442 : decode cX12_works 442 = .ok (.iconst 0, 1) := by decide +kernel
theorem dX12_works_443 : decode cX12_works 443 = .ok (.ireturn, 1) := by decide +kernel
theorem dX12_goes_0 : decode cX12_goes 0 = .ok (.aload_n 0, 1) := by decide +kernel
theorem dX12_goes_1 : decode cX12_goes 1 = .ok (.iconst 0, 1) := by decide +kernel
theorem dX12_goes_2 : decode cX12_goes 2 = .ok (.putfield 317, 3) := by decide +kernel
theorem dX12_goes_5 : decode cX12_goes 5 = .ok (.aload_n 0, 1) := by decide +kernel
theorem dX12_goes_6 : decode cX12_goes 6 = .ok (.getfield 52, 3) := by decide +kernel
theorem dX12_goes_9 : decode cX12_goes 9 = .ok (.iload_n 1, 1) := by decide +kernel
theorem dX12_goes_10 : decode cX12_goes 10 = .ok (.iaload, 1) := by decide +kernel
theorem dX12_goes_11 : decode cX12_goes 11 = .ok (.istore_n 2, 1) := by decide +kernel
theorem dX12_goes_12 : decode cX12_goes 12 = .ok (.iload_n 2, 1) := by decide +kernel
theorem dX12_goes_13 : decode cX12_goes 13 = .ok (.aload_n 0, 1) := by decide +kernel
theorem dX12_goes_14 : decode cX12_goes 14 = .ok (.getfield 55, 3) := by decide +kernel
theorem dX12_goes_17 : decode cX12_goes 17 = .ok (.iload_n 1, 1) := by decide +kernel
theorem dX12_goes_18 : decode cX12_goes 18 = .ok (.iaload, 1) := by decide +kernel
theorem dX12_goes_19 : decode cX12_goes 19 = .ok (.if_icmp .ge 83, 3) := by decide +kernel
theorem dX12_goes_22 : decode cX12_goes 22 = .ok (.aload_n 0, 1) := by decide +kernel
theorem dX12_goes_23 : decode cX12_goes 23 = .ok (.getfield 58, 3) := by decide +kernel
theorem dX12_goes_26 : decode cX12_goes 26 = .ok (.iload_n 2, 1) := by decide +kernel
theorem dX12_goes_27 : decode cX12_goes 27 = .ok (.iaload, 1) := by decide +kernel
theorem dX12_goes_28 : decode cX12_goes 28 = .ok (.iconst 2, 1) := by decide +kernel
theorem dX12_goes_29 : decode cX12_goes 29 = .ok (.if_icmp .ne 18, 3) := by decide +kernel
theorem dX12_goes_32 : decode cX12_goes 32 = .ok (.aload_n 0, 1) := by decide +kernel
theorem dX12_goes_33 : decode cX12_goes 33 = .ok (.aload_n 0, 1) := by decide +kernel
theorem dX12_goes_34 : decode cX12_goes 34 = .ok (.getfield 61, 3) := by decide +kernel
theorem dX12_goes_37 : decode cX12_goes 37 = .ok (.iload_n 2, 1) := by decide +kernel
theorem dX12_goes_38 : decode cX12_goes 38 = .ok (.iaload, 1) := by decide +kernel
theorem dX12_goes_39 : decode cX12_goes 39 = .ok (.invokevirtual 334, 3) := by decide +kernel
theorem dX12_goes_42 : decode cX12_goes 42 = .ok (.ifCond .ne 54, 3) := by decide +kernel
theorem dX12_goes_45 : decode cX12_goes 45 = .ok (.iconst 0, 1) := by decide +kernel
theorem dX12_goes_46 : decode cX12_goes 46 = .ok (.ireturn, 1) := by decide +kernel
theorem dX12_goes_47 : decode cX12_goes 47 = .ok (.aload_n 0, 1) := by decide +kernel
theorem dX12_goes_48 : decode cX12_goes 48 = .ok (.getfield 72, 3) := by decide +kernel
theorem dX12_goes_51 : decode cX12_goes 51 = .ok (.aload_n 0, 1) := by decide +kernel
theorem dX12_goes_52 : decode cX12_goes 52 = .ok (.getfield 317, 3) := by decide +kernel
theorem dX12_goes_55 : decode cX12_goes 55 = .ok (.aload_n 0, 1) := by decide +kernel
theorem dX12_goes_56 : decode cX12_goes 56 = .ok (.getfield 58, 3) := by decide +kernel
theorem dX12_goes_59 : decode cX12_goes 59 = .ok (.iload_n 2, 1) := by decide +kernel
theorem dX12_goes_60 : decode cX12_goes 60 = .ok (.iaload, 1) := by decide +kernel
theorem dX12_goes_61 : decode cX12_goes 61 = .ok (.ifCond .ne 13, 3) := by decide +kernel
theorem dX12_goes_64 : decode cX12_goes 64 = .ok (.aload_n 0, 1) := by decide +kernel
theorem dX12_goes_65 : decode cX12_goes 65 = .ok (.getfield 61, 3) := by decide +kernel
theorem dX12_goes_68 : decode cX12_goes 68 = .ok (.iload_n 2, 1) := by decide +kernel
theorem dX12_goes_69 : decode cX12_goes 69 = .ok (.iaload, 1) := by decide +kernel
theorem dX12_goes_70 : decode cX12_goes 70 = .ok (.i2l, 1) := by decide +kernel
theorem dX12_goes_71 : decode cX12_goes 71 = .ok (.goto 14, 3) := by decide +kernel
theorem dX12_goes_74 : decode cX12_goes 74 = .ok (.aload_n 0, 1) := by decide +kernel
theorem dX12_goes_75 : decode cX12_goes 75 = .ok (.getfield 68, 3) := by decide +kernel
theorem dX12_goes_78 : decode cX12_goes 78 = .ok (.aload_n 0, 1) := by decide +kernel
theorem dX12_goes_79 : decode cX12_goes 79 = .ok (.getfield 61, 3) := by decide +kernel
theorem dX12_goes_82 : decode cX12_goes 82 = .ok (.iload_n 2, 1) := by decide +kernel
theorem dX12_goes_83 : decode cX12_goes 83 = .ok (.iaload, 1) := by decide +kernel
theorem dX12_goes_84 : decode cX12_goes 84 = .ok (.laload, 1) := by decide +kernel
theorem dX12_goes_85 : decode cX12_goes 85 = .ok (.lastore, 1) := by decide +kernel
theorem dX12_goes_86 : decode cX12_goes 86 = .ok (.aload_n 0, 1) := by decide +kernel
theorem dX12_goes_87 : decode cX12_goes 87 = .ok (.dup, 1) := by decide +kernel
theorem dX12_goes_88 : decode cX12_goes 88 = .ok (.getfield 317, 3) := by decide +kernel
theorem dX12_goes_91 : decode cX12_goes 91 = .ok (.iconst 1, 1) := by decide +kernel
theorem dX12_goes_92 : decode cX12_goes 92 = .ok (.iadd, 1) := by decide +kernel
theorem dX12_goes_93 : decode cX12_goes 93 = .ok (.putfield 317, 3) := by decide +kernel
theorem dX12_goes_96 : decode cX12_goes 96 = .ok (.iinc 2 1, 3) := by decide +kernel
theorem dX12_goes_99 : decode cX12_goes 99 = .ok (.goto (-87), 3) := by decide +kernel
theorem dX12_goes_102 : decode cX12_goes 102 = .ok (.iconst 1, 1) := by decide +kernel
theorem dX12_goes_103 : decode cX12_goes 103 = .ok (.ireturn, 1) := by decide +kernel
theorem dX12_hasLaw_0 : decode cX12_hasLaw 0 = .ok (.aload_n 0, 1) := by decide +kernel
theorem dX12_hasLaw_1 : decode cX12_hasLaw 1 = .ok (.getfield 55, 3) := by decide +kernel
theorem dX12_hasLaw_4 : decode cX12_hasLaw 4 = .ok (.iload_n 1, 1) := by decide +kernel
theorem dX12_hasLaw_5 : decode cX12_hasLaw 5 = .ok (.iaload, 1) := by decide +kernel
theorem dX12_hasLaw_6 : decode cX12_hasLaw 6 = .ok (.aload_n 0, 1) := by decide +kernel
theorem dX12_hasLaw_7 : decode cX12_hasLaw 7 = .ok (.getfield 52, 3) := by decide +kernel
theorem dX12_hasLaw_10 : decode cX12_hasLaw 10 = .ok (.iload_n 1, 1) := by decide +kernel
theorem dX12_hasLaw_11 : decode cX12_hasLaw 11 = .ok (.iaload, 1) := by decide +kernel
theorem dX12_hasLaw_12 : decode cX12_hasLaw 12 = .ok (.if_icmp .le 7, 3) := by decide +kernel
theorem dX12_hasLaw_15 : decode cX12_hasLaw 15 = .ok (.iconst 1, 1) := by decide +kernel
theorem dX12_hasLaw_16 : decode cX12_hasLaw 16 = .ok (.goto 4, 3) := by decide +kernel
theorem dX12_hasLaw_19 : decode cX12_hasLaw 19 = .ok (.iconst 0, 1) := by decide +kernel
theorem dX12_hasLaw_20 : decode cX12_hasLaw 20 = .ok (.ireturn, 1) := by decide +kernel
theorem dX12_starts_0 : decode cX12_starts 0 = .ok (.aload_n 0, 1) := by decide +kernel
theorem dX12_starts_1 : decode cX12_starts 1 = .ok (.getfield 75, 3) := by decide +kernel
theorem dX12_starts_4 : decode cX12_starts 4 = .ok (.iload_n 1, 1) := by decide +kernel
theorem dX12_starts_5 : decode cX12_starts 5 = .ok (.iconst 0, 1) := by decide +kernel
theorem dX12_starts_6 : decode cX12_starts 6 = .ok (.iastore, 1) := by decide +kernel
theorem dX12_starts_7 : decode cX12_starts 7 = .ok (.aload_n 0, 1) := by decide +kernel
theorem dX12_starts_8 : decode cX12_starts 8 = .ok (.getfield 78, 3) := by decide +kernel
theorem dX12_starts_11 : decode cX12_starts 11 = .ok (.iload_n 1, 1) := by decide +kernel
theorem dX12_starts_12 : decode cX12_starts 12 = .ok (.aload_n 0, 1) := by decide +kernel
theorem dX12_starts_13 : decode cX12_starts 13 = .ok (.getfield 13, 3) := by decide +kernel
theorem dX12_starts_16 : decode cX12_starts 16 = .ok (.bipush 6, 2) := by decide +kernel
theorem dX12_starts_18 : decode cX12_starts 18 = .ok (.iaload, 1) := by decide +kernel
theorem dX12_starts_19 : decode cX12_starts 19 = .ok (.iastore, 1) := by decide +kernel
theorem dX12_starts_20 : decode cX12_starts 20 = .ok (.aload_n 0, 1) := by decide +kernel
theorem dX12_starts_21 : decode cX12_starts 21 = .ok (.getfield 81, 3) := by decide +kernel
theorem dX12_starts_24 : decode cX12_starts 24 = .ok (.iload_n 1, 1) := by decide +kernel
theorem dX12_starts_25 : decode cX12_starts 25 = .ok (.iconst 0, 1) := by decide +kernel
theorem dX12_starts_26 : decode cX12_starts 26 = .ok (.iastore, 1) := by decide +kernel
theorem dX12_starts_27 : decode cX12_starts 27 = .ok (.aload_n 0, 1) := by decide +kernel
theorem dX12_starts_28 : decode cX12_starts 28 = .ok (.getfield 84, 3) := by decide +kernel
theorem dX12_starts_31 : decode cX12_starts 31 = .ok (.iload_n 1, 1) := by decide +kernel
theorem dX12_starts_32 : decode cX12_starts 32 = .ok (.iconst 0, 1) := by decide +kernel
theorem dX12_starts_33 : decode cX12_starts 33 = .ok (.iastore, 1) := by decide +kernel
theorem dX12_starts_34 : decode cX12_starts 34 = .ok (.iconst 0, 1) := by decide +kernel
theorem dX12_starts_35 : decode cX12_starts 35 = .ok (.istore_n 2, 1) := by decide +kernel
theorem dX12_starts_36 : decode cX12_starts 36 = .ok (.iload_n 2, 1) := by decide +kernel
theorem dX12_starts_37 : decode cX12_starts 37 = .ok (.bipush 6, 2) := by decide +kernel
theorem dX12_starts_39 : decode cX12_starts 39 = .ok (.if_icmp .ge 57, 3) := by decide +kernel
theorem dX12_starts_42 : decode cX12_starts 42 = .ok (.aload_n 0, 1) := by decide +kernel
theorem dX12_starts_43 : decode cX12_starts 43 = .ok (.getfield 87, 3) := by decide +kernel
theorem dX12_starts_46 : decode cX12_starts 46 = .ok (.bipush 6, 2) := by decide +kernel
theorem dX12_starts_48 : decode cX12_starts 48 = .ok (.iload_n 1, 1) := by decide +kernel
theorem dX12_starts_49 : decode cX12_starts 49 = .ok (.imul, 1) := by decide +kernel
theorem dX12_starts_50 : decode cX12_starts 50 = .ok (.iload_n 2, 1) := by decide +kernel
theorem dX12_starts_51 : decode cX12_starts 51 = .ok (.iadd, 1) := by decide +kernel
theorem dX12_starts_52 : decode cX12_starts 52 = .ok (.iconst 0, 1) := by decide +kernel
theorem dX12_starts_53 : decode cX12_starts 53 = .ok (.iastore, 1) := by decide +kernel
theorem dX12_starts_54 : decode cX12_starts 54 = .ok (.aload_n 0, 1) := by decide +kernel
theorem dX12_starts_55 : decode cX12_starts 55 = .ok (.getfield 90, 3) := by decide +kernel
theorem dX12_starts_58 : decode cX12_starts 58 = .ok (.bipush 6, 2) := by decide +kernel
theorem dX12_starts_60 : decode cX12_starts 60 = .ok (.iload_n 1, 1) := by decide +kernel
theorem dX12_starts_61 : decode cX12_starts 61 = .ok (.imul, 1) := by decide +kernel
theorem dX12_starts_62 : decode cX12_starts 62 = .ok (.iload_n 2, 1) := by decide +kernel
theorem dX12_starts_63 : decode cX12_starts 63 = .ok (.iadd, 1) := by decide +kernel
theorem dX12_starts_64 : decode cX12_starts 64 = .ok (.iconst 0, 1) := by decide +kernel
theorem dX12_starts_65 : decode cX12_starts 65 = .ok (.iastore, 1) := by decide +kernel
theorem dX12_starts_66 : decode cX12_starts 66 = .ok (.aload_n 0, 1) := by decide +kernel
theorem dX12_starts_67 : decode cX12_starts 67 = .ok (.getfield 93, 3) := by decide +kernel
theorem dX12_starts_70 : decode cX12_starts 70 = .ok (.bipush 6, 2) := by decide +kernel
theorem dX12_starts_72 : decode cX12_starts 72 = .ok (.iload_n 1, 1) := by decide +kernel
theorem dX12_starts_73 : decode cX12_starts 73 = .ok (.imul, 1) := by decide +kernel
theorem dX12_starts_74 : decode cX12_starts 74 = .ok (.iload_n 2, 1) := by decide +kernel
theorem dX12_starts_75 : decode cX12_starts 75 = .ok (.iadd, 1) := by decide +kernel
theorem dX12_starts_76 : decode cX12_starts 76 = .ok (.iconst 0, 1) := by decide +kernel
theorem dX12_starts_77 : decode cX12_starts 77 = .ok (.iastore, 1) := by decide +kernel
theorem dX12_starts_78 : decode cX12_starts 78 = .ok (.aload_n 0, 1) := by decide +kernel
theorem dX12_starts_79 : decode cX12_starts 79 = .ok (.getfield 96, 3) := by decide +kernel
theorem dX12_starts_82 : decode cX12_starts 82 = .ok (.bipush 6, 2) := by decide +kernel
theorem dX12_starts_84 : decode cX12_starts 84 = .ok (.iload_n 1, 1) := by decide +kernel
theorem dX12_starts_85 : decode cX12_starts 85 = .ok (.imul, 1) := by decide +kernel
theorem dX12_starts_86 : decode cX12_starts 86 = .ok (.iload_n 2, 1) := by decide +kernel
theorem dX12_starts_87 : decode cX12_starts 87 = .ok (.iadd, 1) := by decide +kernel
theorem dX12_starts_88 : decode cX12_starts 88 = .ok (.iconst 0, 1) := by decide +kernel
theorem dX12_starts_89 : decode cX12_starts 89 = .ok (.iastore, 1) := by decide +kernel
theorem dX12_starts_90 : decode cX12_starts 90 = .ok (.iinc 2 1, 3) := by decide +kernel
theorem dX12_starts_93 : decode cX12_starts 93 = .ok (.goto (-57), 3) := by decide +kernel
theorem dX12_starts_96 : decode cX12_starts 96 = .ok (.return_, 1) := by decide +kernel
theorem dX12_begins_0 : decode cX12_begins 0 = .ok (.aload_n 0, 1) := by decide +kernel
theorem dX12_begins_1 : decode cX12_begins 1 = .ok (.iconst 0, 1) := by decide +kernel
theorem dX12_begins_2 : decode cX12_begins 2 = .ok (.invokevirtual 337, 3) := by decide +kernel
theorem dX12_begins_5 : decode cX12_begins 5 = .ok (.return_, 1) := by decide +kernel
theorem dX12_copies_0 : decode cX12_copies 0 = .ok (.aload_n 0, 1) := by decide +kernel
theorem dX12_copies_1 : decode cX12_copies 1 = .ok (.getfield 75, 3) := by decide +kernel
theorem dX12_copies_4 : decode cX12_copies 4 = .ok (.iload_n 1, 1) := by decide +kernel
theorem dX12_copies_5 : decode cX12_copies 5 = .ok (.aload_n 0, 1) := by decide +kernel
theorem dX12_copies_6 : decode cX12_copies 6 = .ok (.getfield 75, 3) := by decide +kernel
theorem dX12_copies_9 : decode cX12_copies 9 = .ok (.iload_n 2, 1) := by decide +kernel
theorem dX12_copies_10 : decode cX12_copies 10 = .ok (.iaload, 1) := by decide +kernel
theorem dX12_copies_11 : decode cX12_copies 11 = .ok (.iastore, 1) := by decide +kernel
theorem dX12_copies_12 : decode cX12_copies 12 = .ok (.aload_n 0, 1) := by decide +kernel
theorem dX12_copies_13 : decode cX12_copies 13 = .ok (.getfield 78, 3) := by decide +kernel
theorem dX12_copies_16 : decode cX12_copies 16 = .ok (.iload_n 1, 1) := by decide +kernel
theorem dX12_copies_17 : decode cX12_copies 17 = .ok (.aload_n 0, 1) := by decide +kernel
theorem dX12_copies_18 : decode cX12_copies 18 = .ok (.getfield 78, 3) := by decide +kernel
theorem dX12_copies_21 : decode cX12_copies 21 = .ok (.iload_n 2, 1) := by decide +kernel
theorem dX12_copies_22 : decode cX12_copies 22 = .ok (.iaload, 1) := by decide +kernel
theorem dX12_copies_23 : decode cX12_copies 23 = .ok (.iastore, 1) := by decide +kernel
theorem dX12_copies_24 : decode cX12_copies 24 = .ok (.aload_n 0, 1) := by decide +kernel
theorem dX12_copies_25 : decode cX12_copies 25 = .ok (.getfield 81, 3) := by decide +kernel
theorem dX12_copies_28 : decode cX12_copies 28 = .ok (.iload_n 1, 1) := by decide +kernel
theorem dX12_copies_29 : decode cX12_copies 29 = .ok (.aload_n 0, 1) := by decide +kernel
theorem dX12_copies_30 : decode cX12_copies 30 = .ok (.getfield 81, 3) := by decide +kernel
theorem dX12_copies_33 : decode cX12_copies 33 = .ok (.iload_n 2, 1) := by decide +kernel
theorem dX12_copies_34 : decode cX12_copies 34 = .ok (.iaload, 1) := by decide +kernel
theorem dX12_copies_35 : decode cX12_copies 35 = .ok (.iastore, 1) := by decide +kernel
theorem dX12_copies_36 : decode cX12_copies 36 = .ok (.aload_n 0, 1) := by decide +kernel
theorem dX12_copies_37 : decode cX12_copies 37 = .ok (.getfield 84, 3) := by decide +kernel
theorem dX12_copies_40 : decode cX12_copies 40 = .ok (.iload_n 1, 1) := by decide +kernel
theorem dX12_copies_41 : decode cX12_copies 41 = .ok (.aload_n 0, 1) := by decide +kernel
theorem dX12_copies_42 : decode cX12_copies 42 = .ok (.getfield 84, 3) := by decide +kernel
theorem dX12_copies_45 : decode cX12_copies 45 = .ok (.iload_n 2, 1) := by decide +kernel
theorem dX12_copies_46 : decode cX12_copies 46 = .ok (.iaload, 1) := by decide +kernel
theorem dX12_copies_47 : decode cX12_copies 47 = .ok (.iastore, 1) := by decide +kernel
theorem dX12_copies_48 : decode cX12_copies 48 = .ok (.iconst 0, 1) := by decide +kernel
theorem dX12_copies_49 : decode cX12_copies 49 = .ok (.istore_n 3, 1) := by decide +kernel
theorem dX12_copies_50 : decode cX12_copies 50 = .ok (.iload_n 3, 1) := by decide +kernel
theorem dX12_copies_51 : decode cX12_copies 51 = .ok (.bipush 6, 2) := by decide +kernel
theorem dX12_copies_53 : decode cX12_copies 53 = .ok (.if_icmp .ge 97, 3) := by decide +kernel
theorem dX12_copies_56 : decode cX12_copies 56 = .ok (.aload_n 0, 1) := by decide +kernel
theorem dX12_copies_57 : decode cX12_copies 57 = .ok (.getfield 87, 3) := by decide +kernel
theorem dX12_copies_60 : decode cX12_copies 60 = .ok (.bipush 6, 2) := by decide +kernel
theorem dX12_copies_62 : decode cX12_copies 62 = .ok (.iload_n 1, 1) := by decide +kernel
theorem dX12_copies_63 : decode cX12_copies 63 = .ok (.imul, 1) := by decide +kernel
theorem dX12_copies_64 : decode cX12_copies 64 = .ok (.iload_n 3, 1) := by decide +kernel
theorem dX12_copies_65 : decode cX12_copies 65 = .ok (.iadd, 1) := by decide +kernel
theorem dX12_copies_66 : decode cX12_copies 66 = .ok (.aload_n 0, 1) := by decide +kernel
theorem dX12_copies_67 : decode cX12_copies 67 = .ok (.getfield 87, 3) := by decide +kernel
theorem dX12_copies_70 : decode cX12_copies 70 = .ok (.bipush 6, 2) := by decide +kernel
theorem dX12_copies_72 : decode cX12_copies 72 = .ok (.iload_n 2, 1) := by decide +kernel
theorem dX12_copies_73 : decode cX12_copies 73 = .ok (.imul, 1) := by decide +kernel
theorem dX12_copies_74 : decode cX12_copies 74 = .ok (.iload_n 3, 1) := by decide +kernel
theorem dX12_copies_75 : decode cX12_copies 75 = .ok (.iadd, 1) := by decide +kernel
theorem dX12_copies_76 : decode cX12_copies 76 = .ok (.iaload, 1) := by decide +kernel
theorem dX12_copies_77 : decode cX12_copies 77 = .ok (.iastore, 1) := by decide +kernel
theorem dX12_copies_78 : decode cX12_copies 78 = .ok (.aload_n 0, 1) := by decide +kernel
theorem dX12_copies_79 : decode cX12_copies 79 = .ok (.getfield 90, 3) := by decide +kernel
theorem dX12_copies_82 : decode cX12_copies 82 = .ok (.bipush 6, 2) := by decide +kernel
theorem dX12_copies_84 : decode cX12_copies 84 = .ok (.iload_n 1, 1) := by decide +kernel
theorem dX12_copies_85 : decode cX12_copies 85 = .ok (.imul, 1) := by decide +kernel
theorem dX12_copies_86 : decode cX12_copies 86 = .ok (.iload_n 3, 1) := by decide +kernel
theorem dX12_copies_87 : decode cX12_copies 87 = .ok (.iadd, 1) := by decide +kernel
theorem dX12_copies_88 : decode cX12_copies 88 = .ok (.aload_n 0, 1) := by decide +kernel
theorem dX12_copies_89 : decode cX12_copies 89 = .ok (.getfield 90, 3) := by decide +kernel
theorem dX12_copies_92 : decode cX12_copies 92 = .ok (.bipush 6, 2) := by decide +kernel
theorem dX12_copies_94 : decode cX12_copies 94 = .ok (.iload_n 2, 1) := by decide +kernel
theorem dX12_copies_95 : decode cX12_copies 95 = .ok (.imul, 1) := by decide +kernel
theorem dX12_copies_96 : decode cX12_copies 96 = .ok (.iload_n 3, 1) := by decide +kernel
theorem dX12_copies_97 : decode cX12_copies 97 = .ok (.iadd, 1) := by decide +kernel
theorem dX12_copies_98 : decode cX12_copies 98 = .ok (.iaload, 1) := by decide +kernel
theorem dX12_copies_99 : decode cX12_copies 99 = .ok (.iastore, 1) := by decide +kernel
theorem dX12_copies_100 : decode cX12_copies 100 = .ok (.aload_n 0, 1) := by decide +kernel
theorem dX12_copies_101 : decode cX12_copies 101 = .ok (.getfield 93, 3) := by decide +kernel
theorem dX12_copies_104 : decode cX12_copies 104 = .ok (.bipush 6, 2) := by decide +kernel
theorem dX12_copies_106 : decode cX12_copies 106 = .ok (.iload_n 1, 1) := by decide +kernel
theorem dX12_copies_107 : decode cX12_copies 107 = .ok (.imul, 1) := by decide +kernel
theorem dX12_copies_108 : decode cX12_copies 108 = .ok (.iload_n 3, 1) := by decide +kernel
theorem dX12_copies_109 : decode cX12_copies 109 = .ok (.iadd, 1) := by decide +kernel
theorem dX12_copies_110 : decode cX12_copies 110 = .ok (.aload_n 0, 1) := by decide +kernel
theorem dX12_copies_111 : decode cX12_copies 111 = .ok (.getfield 93, 3) := by decide +kernel
theorem dX12_copies_114 : decode cX12_copies 114 = .ok (.bipush 6, 2) := by decide +kernel
theorem dX12_copies_116 : decode cX12_copies 116 = .ok (.iload_n 2, 1) := by decide +kernel
theorem dX12_copies_117 : decode cX12_copies 117 = .ok (.imul, 1) := by decide +kernel
theorem dX12_copies_118 : decode cX12_copies 118 = .ok (.iload_n 3, 1) := by decide +kernel
theorem dX12_copies_119 : decode cX12_copies 119 = .ok (.iadd, 1) := by decide +kernel
theorem dX12_copies_120 : decode cX12_copies 120 = .ok (.iaload, 1) := by decide +kernel
theorem dX12_copies_121 : decode cX12_copies 121 = .ok (.iastore, 1) := by decide +kernel
theorem dX12_copies_122 : decode cX12_copies 122 = .ok (.aload_n 0, 1) := by decide +kernel
theorem dX12_copies_123 : decode cX12_copies 123 = .ok (.getfield 96, 3) := by decide +kernel
theorem dX12_copies_126 : decode cX12_copies 126 = .ok (.bipush 6, 2) := by decide +kernel
theorem dX12_copies_128 : decode cX12_copies 128 = .ok (.iload_n 1, 1) := by decide +kernel
theorem dX12_copies_129 : decode cX12_copies 129 = .ok (.imul, 1) := by decide +kernel
theorem dX12_copies_130 : decode cX12_copies 130 = .ok (.iload_n 3, 1) := by decide +kernel
theorem dX12_copies_131 : decode cX12_copies 131 = .ok (.iadd, 1) := by decide +kernel
theorem dX12_copies_132 : decode cX12_copies 132 = .ok (.aload_n 0, 1) := by decide +kernel
theorem dX12_copies_133 : decode cX12_copies 133 = .ok (.getfield 96, 3) := by decide +kernel
theorem dX12_copies_136 : decode cX12_copies 136 = .ok (.bipush 6, 2) := by decide +kernel
theorem dX12_copies_138 : decode cX12_copies 138 = .ok (.iload_n 2, 1) := by decide +kernel
theorem dX12_copies_139 : decode cX12_copies 139 = .ok (.imul, 1) := by decide +kernel
theorem dX12_copies_140 : decode cX12_copies 140 = .ok (.iload_n 3, 1) := by decide +kernel
theorem dX12_copies_141 : decode cX12_copies 141 = .ok (.iadd, 1) := by decide +kernel
theorem dX12_copies_142 : decode cX12_copies 142 = .ok (.iaload, 1) := by decide +kernel
theorem dX12_copies_143 : decode cX12_copies 143 = .ok (.iastore, 1) := by decide +kernel
theorem dX12_copies_144 : decode cX12_copies 144 = .ok (.iinc 3 1, 3) := by decide +kernel
theorem dX12_copies_147 : decode cX12_copies 147 = .ok (.goto (-97), 3) := by decide +kernel
theorem dX12_copies_150 : decode cX12_copies 150 = .ok (.return_, 1) := by decide +kernel
theorem dX12_isMan_0 : decode cX12_isMan 0 = .ok (.iload_n 1, 1) := by decide +kernel
theorem dX12_isMan_1 : decode cX12_isMan 1 = .ok (.ifCond .lt 17, 3) := by decide +kernel
theorem dX12_isMan_4 : decode cX12_isMan 4 = .ok (.iload_n 1, 1) := by decide +kernel
theorem dX12_isMan_5 : decode cX12_isMan 5 = .ok (.aload_n 0, 1) := by decide +kernel
theorem dX12_isMan_6 : decode cX12_isMan 6 = .ok (.getfield 13, 3) := by decide +kernel
theorem dX12_isMan_9 : decode cX12_isMan 9 = .ok (.iconst 0, 1) := by decide +kernel
theorem dX12_isMan_10 : decode cX12_isMan 10 = .ok (.iaload, 1) := by decide +kernel
theorem dX12_isMan_11 : decode cX12_isMan 11 = .ok (.if_icmp .ge 7, 3) := by decide +kernel
theorem dX12_isMan_14 : decode cX12_isMan 14 = .ok (.iconst 1, 1) := by decide +kernel
theorem dX12_isMan_15 : decode cX12_isMan 15 = .ok (.goto 4, 3) := by decide +kernel
theorem dX12_isMan_18 : decode cX12_isMan 18 = .ok (.iconst 0, 1) := by decide +kernel
theorem dX12_isMan_19 : decode cX12_isMan 19 = .ok (.ireturn, 1) := by decide +kernel
theorem dX12_inchesOf_0 : decode cX12_inchesOf 0 = .ok (.iload_n 1, 1) := by decide +kernel
theorem dX12_inchesOf_1 : decode cX12_inchesOf 1 = .ok (.aload_n 0, 1) := by decide +kernel
theorem dX12_inchesOf_2 : decode cX12_inchesOf 2 = .ok (.getfield 102, 3) := by decide +kernel
theorem dX12_inchesOf_5 : decode cX12_inchesOf 5 = .ok (.if_icmp .ne 10, 3) := by decide +kernel
theorem dX12_inchesOf_8 : decode cX12_inchesOf 8 = .ok (.aload_n 0, 1) := by decide +kernel
theorem dX12_inchesOf_9 : decode cX12_inchesOf 9 = .ok (.getfield 340, 3) := by decide +kernel
theorem dX12_inchesOf_12 : decode cX12_inchesOf 12 = .ok (.goto 9, 3) := by decide +kernel
theorem dX12_inchesOf_15 : decode cX12_inchesOf 15 = .ok (.aload_n 0, 1) := by decide +kernel
theorem dX12_inchesOf_16 : decode cX12_inchesOf 16 = .ok (.getfield 19, 3) := by decide +kernel
theorem dX12_inchesOf_19 : decode cX12_inchesOf 19 = .ok (.iload_n 1, 1) := by decide +kernel
theorem dX12_inchesOf_20 : decode cX12_inchesOf 20 = .ok (.iaload, 1) := by decide +kernel
theorem dX12_inchesOf_21 : decode cX12_inchesOf 21 = .ok (.ireturn, 1) := by decide +kernel
theorem dX12_leftOf_0 : decode cX12_leftOf 0 = .ok (.aload_n 0, 1) := by decide +kernel
theorem dX12_leftOf_1 : decode cX12_leftOf 1 = .ok (.iload_n 2, 1) := by decide +kernel
theorem dX12_leftOf_2 : decode cX12_leftOf 2 = .ok (.invokevirtual 343, 3) := by decide +kernel
theorem dX12_leftOf_5 : decode cX12_leftOf 5 = .ok (.aload_n 0, 1) := by decide +kernel
theorem dX12_leftOf_6 : decode cX12_leftOf 6 = .ok (.getfield 87, 3) := by decide +kernel
theorem dX12_leftOf_9 : decode cX12_leftOf 9 = .ok (.bipush 6, 2) := by decide +kernel
theorem dX12_leftOf_11 : decode cX12_leftOf 11 = .ok (.iload_n 1, 1) := by decide +kernel
theorem dX12_leftOf_12 : decode cX12_leftOf 12 = .ok (.imul, 1) := by decide +kernel
theorem dX12_leftOf_13 : decode cX12_leftOf 13 = .ok (.iload_n 2, 1) := by decide +kernel
theorem dX12_leftOf_14 : decode cX12_leftOf 14 = .ok (.iadd, 1) := by decide +kernel
theorem dX12_leftOf_15 : decode cX12_leftOf 15 = .ok (.iaload, 1) := by decide +kernel
theorem dX12_leftOf_16 : decode cX12_leftOf 16 = .ok (.isub, 1) := by decide +kernel
theorem dX12_leftOf_17 : decode cX12_leftOf 17 = .ok (.aload_n 0, 1) := by decide +kernel
theorem dX12_leftOf_18 : decode cX12_leftOf 18 = .ok (.getfield 90, 3) := by decide +kernel
theorem dX12_leftOf_21 : decode cX12_leftOf 21 = .ok (.bipush 6, 2) := by decide +kernel
theorem dX12_leftOf_23 : decode cX12_leftOf 23 = .ok (.iload_n 1, 1) := by decide +kernel
theorem dX12_leftOf_24 : decode cX12_leftOf 24 = .ok (.imul, 1) := by decide +kernel
theorem dX12_leftOf_25 : decode cX12_leftOf 25 = .ok (.iload_n 2, 1) := by decide +kernel
theorem dX12_leftOf_26 : decode cX12_leftOf 26 = .ok (.iadd, 1) := by decide +kernel
theorem dX12_leftOf_27 : decode cX12_leftOf 27 = .ok (.iaload, 1) := by decide +kernel
theorem dX12_leftOf_28 : decode cX12_leftOf 28 = .ok (.isub, 1) := by decide +kernel
theorem dX12_leftOf_29 : decode cX12_leftOf 29 = .ok (.ireturn, 1) := by decide +kernel
theorem dX12_isLeft_0 : decode cX12_isLeft 0 = .ok (.iload_n 3, 1) := by decide +kernel
theorem dX12_isLeft_1 : decode cX12_isLeft 1 = .ok (.aload_n 0, 1) := by decide +kernel
theorem dX12_isLeft_2 : decode cX12_isLeft 2 = .ok (.getfield 87, 3) := by decide +kernel
theorem dX12_isLeft_5 : decode cX12_isLeft 5 = .ok (.bipush 6, 2) := by decide +kernel
theorem dX12_isLeft_7 : decode cX12_isLeft 7 = .ok (.iload_n 1, 1) := by decide +kernel
theorem dX12_isLeft_8 : decode cX12_isLeft 8 = .ok (.imul, 1) := by decide +kernel
theorem dX12_isLeft_9 : decode cX12_isLeft 9 = .ok (.iload_n 2, 1) := by decide +kernel
theorem dX12_isLeft_10 : decode cX12_isLeft 10 = .ok (.iadd, 1) := by decide +kernel
theorem dX12_isLeft_11 : decode cX12_isLeft 11 = .ok (.iaload, 1) := by decide +kernel
theorem dX12_isLeft_12 : decode cX12_isLeft 12 = .ok (.if_icmp .lt 28, 3) := by decide +kernel
theorem dX12_isLeft_15 : decode cX12_isLeft 15 = .ok (.iload_n 3, 1) := by decide +kernel
theorem dX12_isLeft_16 : decode cX12_isLeft 16 = .ok (.aload_n 0, 1) := by decide +kernel
theorem dX12_isLeft_17 : decode cX12_isLeft 17 = .ok (.iload_n 2, 1) := by decide +kernel
theorem dX12_isLeft_18 : decode cX12_isLeft 18 = .ok (.invokevirtual 343, 3) := by decide +kernel
theorem dX12_isLeft_21 : decode cX12_isLeft 21 = .ok (.aload_n 0, 1) := by decide +kernel
theorem dX12_isLeft_22 : decode cX12_isLeft 22 = .ok (.getfield 90, 3) := by decide +kernel
theorem dX12_isLeft_25 : decode cX12_isLeft 25 = .ok (.bipush 6, 2) := by decide +kernel
theorem dX12_isLeft_27 : decode cX12_isLeft 27 = .ok (.iload_n 1, 1) := by decide +kernel
theorem dX12_isLeft_28 : decode cX12_isLeft 28 = .ok (.imul, 1) := by decide +kernel
theorem dX12_isLeft_29 : decode cX12_isLeft 29 = .ok (.iload_n 2, 1) := by decide +kernel
theorem dX12_isLeft_30 : decode cX12_isLeft 30 = .ok (.iadd, 1) := by decide +kernel
theorem dX12_isLeft_31 : decode cX12_isLeft 31 = .ok (.iaload, 1) := by decide +kernel
theorem dX12_isLeft_32 : decode cX12_isLeft 32 = .ok (.isub, 1) := by decide +kernel
theorem dX12_isLeft_33 : decode cX12_isLeft 33 = .ok (.if_icmp .ge 7, 3) := by decide +kernel
theorem dX12_isLeft_36 : decode cX12_isLeft 36 = .ok (.iconst 1, 1) := by decide +kernel
theorem dX12_isLeft_37 : decode cX12_isLeft 37 = .ok (.goto 4, 3) := by decide +kernel
theorem dX12_isLeft_40 : decode cX12_isLeft 40 = .ok (.iconst 0, 1) := by decide +kernel
theorem dX12_isLeft_41 : decode cX12_isLeft 41 = .ok (.ireturn, 1) := by decide +kernel
theorem dX12_isJune_0 : decode cX12_isJune 0 = .ok (.iconst 0, 1) := by decide +kernel
theorem dX12_isJune_1 : decode cX12_isJune 1 = .ok (.istore_n 3, 1) := by decide +kernel
theorem dX12_isJune_2 : decode cX12_isJune 2 = .ok (.iload_n 3, 1) := by decide +kernel
theorem dX12_isJune_3 : decode cX12_isJune 3 = .ok (.aload_n 0, 1) := by decide +kernel
theorem dX12_isJune_4 : decode cX12_isJune 4 = .ok (.getfield 13, 3) := by decide +kernel
theorem dX12_isJune_7 : decode cX12_isJune 7 = .ok (.iconst 1, 1) := by decide +kernel
theorem dX12_isJune_8 : decode cX12_isJune 8 = .ok (.iaload, 1) := by decide +kernel
theorem dX12_isJune_9 : decode cX12_isJune 9 = .ok (.if_icmp .ge 31, 3) := by decide +kernel
theorem dX12_isJune_12 : decode cX12_isJune 12 = .ok (.aload_n 0, 1) := by decide +kernel
theorem dX12_isJune_13 : decode cX12_isJune 13 = .ok (.getfield 22, 3) := by decide +kernel
theorem dX12_isJune_16 : decode cX12_isJune 16 = .ok (.iload_n 3, 1) := by decide +kernel
theorem dX12_isJune_17 : decode cX12_isJune 17 = .ok (.iaload, 1) := by decide +kernel
theorem dX12_isJune_18 : decode cX12_isJune 18 = .ok (.iload_n 1, 1) := by decide +kernel
theorem dX12_isJune_19 : decode cX12_isJune 19 = .ok (.if_icmp .ne 15, 3) := by decide +kernel
theorem dX12_isJune_22 : decode cX12_isJune 22 = .ok (.aload_n 0, 1) := by decide +kernel
theorem dX12_isJune_23 : decode cX12_isJune 23 = .ok (.getfield 25, 3) := by decide +kernel
theorem dX12_isJune_26 : decode cX12_isJune 26 = .ok (.iload_n 3, 1) := by decide +kernel
theorem dX12_isJune_27 : decode cX12_isJune 27 = .ok (.iaload, 1) := by decide +kernel
theorem dX12_isJune_28 : decode cX12_isJune 28 = .ok (.iload_n 2, 1) := by decide +kernel
theorem dX12_isJune_29 : decode cX12_isJune 29 = .ok (.if_icmp .ne 5, 3) := by decide +kernel
theorem dX12_isJune_32 : decode cX12_isJune 32 = .ok (.iconst 1, 1) := by decide +kernel
theorem dX12_isJune_33 : decode cX12_isJune 33 = .ok (.ireturn, 1) := by decide +kernel
theorem dX12_isJune_34 : decode cX12_isJune 34 = .ok (.iinc 3 1, 3) := by decide +kernel
theorem dX12_isJune_37 : decode cX12_isJune 37 = .ok (.goto (-35), 3) := by decide +kernel
theorem dX12_isJune_40 : decode cX12_isJune 40 = .ok (.iconst 0, 1) := by decide +kernel
theorem dX12_isJune_41 : decode cX12_isJune 41 = .ok (.ireturn, 1) := by decide +kernel
theorem dX12_junesOf_0 : decode cX12_junesOf 0 = .ok (.iconst 0, 1) := by decide +kernel
theorem dX12_junesOf_1 : decode cX12_junesOf 1 = .ok (.istore_n 3, 1) := by decide +kernel
theorem dX12_junesOf_2 : decode cX12_junesOf 2 = .ok (.iconst 0, 1) := by decide +kernel
theorem dX12_junesOf_3 : decode cX12_junesOf 3 = .ok (.istore 4, 2) := by decide +kernel
theorem dX12_junesOf_5 : decode cX12_junesOf 5 = .ok (.iload 4, 2) := by decide +kernel
theorem dX12_junesOf_7 : decode cX12_junesOf 7 = .ok (.aload_n 0, 1) := by decide +kernel
theorem dX12_junesOf_8 : decode cX12_junesOf 8 = .ok (.getfield 13, 3) := by decide +kernel
theorem dX12_junesOf_11 : decode cX12_junesOf 11 = .ok (.iconst 1, 1) := by decide +kernel
theorem dX12_junesOf_12 : decode cX12_junesOf 12 = .ok (.iaload, 1) := by decide +kernel
theorem dX12_junesOf_13 : decode cX12_junesOf 13 = .ok (.if_icmp .ge 44, 3) := by decide +kernel
theorem dX12_junesOf_16 : decode cX12_junesOf 16 = .ok (.iload_n 3, 1) := by decide +kernel
theorem dX12_junesOf_17 : decode cX12_junesOf 17 = .ok (.aload_n 0, 1) := by decide +kernel
theorem dX12_junesOf_18 : decode cX12_junesOf 18 = .ok (.getfield 22, 3) := by decide +kernel
theorem dX12_junesOf_21 : decode cX12_junesOf 21 = .ok (.iload 4, 2) := by decide +kernel
theorem dX12_junesOf_23 : decode cX12_junesOf 23 = .ok (.iaload, 1) := by decide +kernel
theorem dX12_junesOf_24 : decode cX12_junesOf 24 = .ok (.iload_n 2, 1) := by decide +kernel
theorem dX12_junesOf_25 : decode cX12_junesOf 25 = .ok (.if_icmp .ne 23, 3) := by decide +kernel
theorem dX12_junesOf_28 : decode cX12_junesOf 28 = .ok (.aload_n 0, 1) := by decide +kernel
theorem dX12_junesOf_29 : decode cX12_junesOf 29 = .ok (.iload_n 1, 1) := by decide +kernel
theorem dX12_junesOf_30 : decode cX12_junesOf 30 = .ok (.iload_n 2, 1) := by decide +kernel
theorem dX12_junesOf_31 : decode cX12_junesOf 31 = .ok (.aload_n 0, 1) := by decide +kernel
theorem dX12_junesOf_32 : decode cX12_junesOf 32 = .ok (.getfield 25, 3) := by decide +kernel
theorem dX12_junesOf_35 : decode cX12_junesOf 35 = .ok (.iload 4, 2) := by decide +kernel
theorem dX12_junesOf_37 : decode cX12_junesOf 37 = .ok (.iaload, 1) := by decide +kernel
theorem dX12_junesOf_38 : decode cX12_junesOf 38 = .ok (.invokevirtual 346, 3) := by decide +kernel
theorem dX12_junesOf_41 : decode cX12_junesOf 41 = .ok (.ifCond .eq 7, 3) := by decide +kernel
theorem dX12_junesOf_44 : decode cX12_junesOf 44 = .ok (.iconst 1, 1) := by decide +kernel
theorem dX12_junesOf_45 : decode cX12_junesOf 45 = .ok (.goto 4, 3) := by decide +kernel
theorem dX12_junesOf_48 : decode cX12_junesOf 48 = .ok (.iconst 0, 1) := by decide +kernel
theorem dX12_junesOf_49 : decode cX12_junesOf 49 = .ok (.iadd, 1) := by decide +kernel
theorem dX12_junesOf_50 : decode cX12_junesOf 50 = .ok (.istore_n 3, 1) := by decide +kernel
theorem dX12_junesOf_51 : decode cX12_junesOf 51 = .ok (.iinc 4 1, 3) := by decide +kernel
theorem dX12_junesOf_54 : decode cX12_junesOf 54 = .ok (.goto (-49), 3) := by decide +kernel
theorem dX12_junesOf_57 : decode cX12_junesOf 57 = .ok (.iload_n 3, 1) := by decide +kernel
theorem dX12_junesOf_58 : decode cX12_junesOf 58 = .ok (.ireturn, 1) := by decide +kernel
theorem dX12_lendersOf_0 : decode cX12_lendersOf 0 = .ok (.iconst 0, 1) := by decide +kernel
theorem dX12_lendersOf_1 : decode cX12_lendersOf 1 = .ok (.istore_n 2, 1) := by decide +kernel
theorem dX12_lendersOf_2 : decode cX12_lendersOf 2 = .ok (.iconst 0, 1) := by decide +kernel
theorem dX12_lendersOf_3 : decode cX12_lendersOf 3 = .ok (.istore_n 3, 1) := by decide +kernel
theorem dX12_lendersOf_4 : decode cX12_lendersOf 4 = .ok (.iload_n 3, 1) := by decide +kernel
theorem dX12_lendersOf_5 : decode cX12_lendersOf 5 = .ok (.aload_n 0, 1) := by decide +kernel
theorem dX12_lendersOf_6 : decode cX12_lendersOf 6 = .ok (.getfield 13, 3) := by decide +kernel
theorem dX12_lendersOf_9 : decode cX12_lendersOf 9 = .ok (.iconst 4, 1) := by decide +kernel
theorem dX12_lendersOf_10 : decode cX12_lendersOf 10 = .ok (.iaload, 1) := by decide +kernel
theorem dX12_lendersOf_11 : decode cX12_lendersOf 11 = .ok (.if_icmp .ge 34, 3) := by decide +kernel
theorem dX12_lendersOf_14 : decode cX12_lendersOf 14 = .ok (.iload_n 2, 1) := by decide +kernel
theorem dX12_lendersOf_15 : decode cX12_lendersOf 15 = .ok (.aload_n 0, 1) := by decide +kernel
theorem dX12_lendersOf_16 : decode cX12_lendersOf 16 = .ok (.getfield 49, 3) := by decide +kernel
theorem dX12_lendersOf_19 : decode cX12_lendersOf 19 = .ok (.iload_n 3, 1) := by decide +kernel
theorem dX12_lendersOf_20 : decode cX12_lendersOf 20 = .ok (.iaload, 1) := by decide +kernel
theorem dX12_lendersOf_21 : decode cX12_lendersOf 21 = .ok (.iload_n 1, 1) := by decide +kernel
theorem dX12_lendersOf_22 : decode cX12_lendersOf 22 = .ok (.if_icmp .ne 14, 3) := by decide +kernel
theorem dX12_lendersOf_25 : decode cX12_lendersOf 25 = .ok (.iconst 1, 1) := by decide +kernel
theorem dX12_lendersOf_26 : decode cX12_lendersOf 26 = .ok (.aload_n 0, 1) := by decide +kernel
theorem dX12_lendersOf_27 : decode cX12_lendersOf 27 = .ok (.getfield 46, 3) := by decide +kernel
theorem dX12_lendersOf_30 : decode cX12_lendersOf 30 = .ok (.iload_n 3, 1) := by decide +kernel
theorem dX12_lendersOf_31 : decode cX12_lendersOf 31 = .ok (.iaload, 1) := by decide +kernel
theorem dX12_lendersOf_32 : decode cX12_lendersOf 32 = .ok (.ishl, 1) := by decide +kernel
theorem dX12_lendersOf_33 : decode cX12_lendersOf 33 = .ok (.goto 4, 3) := by decide +kernel
theorem dX12_lendersOf_36 : decode cX12_lendersOf 36 = .ok (.iconst 0, 1) := by decide +kernel
theorem dX12_lendersOf_37 : decode cX12_lendersOf 37 = .ok (.ior, 1) := by decide +kernel
theorem dX12_lendersOf_38 : decode cX12_lendersOf 38 = .ok (.istore_n 2, 1) := by decide +kernel
theorem dX12_lendersOf_39 : decode cX12_lendersOf 39 = .ok (.iinc 3 1, 3) := by decide +kernel
theorem dX12_lendersOf_42 : decode cX12_lendersOf 42 = .ok (.goto (-38), 3) := by decide +kernel
theorem dX12_lendersOf_45 : decode cX12_lendersOf 45 = .ok (.iload_n 2, 1) := by decide +kernel
theorem dX12_lendersOf_46 : decode cX12_lendersOf 46 = .ok (.ireturn, 1) := by decide +kernel
theorem dX12_bitsOf_0 : decode cX12_bitsOf 0 = .ok (.iconst 0, 1) := by decide +kernel
theorem dX12_bitsOf_1 : decode cX12_bitsOf 1 = .ok (.istore_n 1, 1) := by decide +kernel
theorem dX12_bitsOf_2 : decode cX12_bitsOf 2 = .ok (.iconst 0, 1) := by decide +kernel
theorem dX12_bitsOf_3 : decode cX12_bitsOf 3 = .ok (.istore_n 2, 1) := by decide +kernel
theorem dX12_bitsOf_4 : decode cX12_bitsOf 4 = .ok (.iload_n 2, 1) := by decide +kernel
theorem dX12_bitsOf_5 : decode cX12_bitsOf 5 = .ok (.bipush 30, 2) := by decide +kernel
theorem dX12_bitsOf_7 : decode cX12_bitsOf 7 = .ok (.if_icmp .ge 17, 3) := by decide +kernel
theorem dX12_bitsOf_10 : decode cX12_bitsOf 10 = .ok (.iload_n 1, 1) := by decide +kernel
theorem dX12_bitsOf_11 : decode cX12_bitsOf 11 = .ok (.iload_n 0, 1) := by decide +kernel
theorem dX12_bitsOf_12 : decode cX12_bitsOf 12 = .ok (.iload_n 2, 1) := by decide +kernel
theorem dX12_bitsOf_13 : decode cX12_bitsOf 13 = .ok (.ishr, 1) := by decide +kernel
theorem dX12_bitsOf_14 : decode cX12_bitsOf 14 = .ok (.iconst 1, 1) := by decide +kernel
theorem dX12_bitsOf_15 : decode cX12_bitsOf 15 = .ok (.iand, 1) := by decide +kernel
theorem dX12_bitsOf_16 : decode cX12_bitsOf 16 = .ok (.iadd, 1) := by decide +kernel
theorem dX12_bitsOf_17 : decode cX12_bitsOf 17 = .ok (.istore_n 1, 1) := by decide +kernel
theorem dX12_bitsOf_18 : decode cX12_bitsOf 18 = .ok (.iinc 2 1, 3) := by decide +kernel
theorem dX12_bitsOf_21 : decode cX12_bitsOf 21 = .ok (.goto (-17), 3) := by decide +kernel
theorem dX12_bitsOf_24 : decode cX12_bitsOf 24 = .ok (.iload_n 1, 1) := by decide +kernel
theorem dX12_bitsOf_25 : decode cX12_bitsOf 25 = .ok (.ireturn, 1) := by decide +kernel
theorem dX12_litOnes_0 : decode cX12_litOnes 0 = .ok (.iconst 0, 1) := by decide +kernel
theorem dX12_litOnes_1 : decode cX12_litOnes 1 = .ok (.istore_n 2, 1) := by decide +kernel
theorem dX12_litOnes_2 : decode cX12_litOnes 2 = .ok (.iconst 0, 1) := by decide +kernel
theorem dX12_litOnes_3 : decode cX12_litOnes 3 = .ok (.istore_n 3, 1) := by decide +kernel
theorem dX12_litOnes_4 : decode cX12_litOnes 4 = .ok (.iload_n 3, 1) := by decide +kernel
theorem dX12_litOnes_5 : decode cX12_litOnes 5 = .ok (.aload_n 0, 1) := by decide +kernel
theorem dX12_litOnes_6 : decode cX12_litOnes 6 = .ok (.getfield 13, 3) := by decide +kernel
theorem dX12_litOnes_9 : decode cX12_litOnes 9 = .ok (.iconst 0, 1) := by decide +kernel
theorem dX12_litOnes_10 : decode cX12_litOnes 10 = .ok (.iaload, 1) := by decide +kernel
theorem dX12_litOnes_11 : decode cX12_litOnes 11 = .ok (.if_icmp .ge 33, 3) := by decide +kernel
theorem dX12_litOnes_14 : decode cX12_litOnes 14 = .ok (.iload_n 2, 1) := by decide +kernel
theorem dX12_litOnes_15 : decode cX12_litOnes 15 = .ok (.aload_n 0, 1) := by decide +kernel
theorem dX12_litOnes_16 : decode cX12_litOnes 16 = .ok (.getfield 93, 3) := by decide +kernel
theorem dX12_litOnes_19 : decode cX12_litOnes 19 = .ok (.bipush 6, 2) := by decide +kernel
theorem dX12_litOnes_21 : decode cX12_litOnes 21 = .ok (.iload_n 1, 1) := by decide +kernel
theorem dX12_litOnes_22 : decode cX12_litOnes 22 = .ok (.imul, 1) := by decide +kernel
theorem dX12_litOnes_23 : decode cX12_litOnes 23 = .ok (.iload_n 3, 1) := by decide +kernel
theorem dX12_litOnes_24 : decode cX12_litOnes 24 = .ok (.iadd, 1) := by decide +kernel
theorem dX12_litOnes_25 : decode cX12_litOnes 25 = .ok (.iaload, 1) := by decide +kernel
theorem dX12_litOnes_26 : decode cX12_litOnes 26 = .ok (.ifCond .eq 9, 3) := by decide +kernel
theorem dX12_litOnes_29 : decode cX12_litOnes 29 = .ok (.iconst 1, 1) := by decide +kernel
theorem dX12_litOnes_30 : decode cX12_litOnes 30 = .ok (.iload_n 3, 1) := by decide +kernel
theorem dX12_litOnes_31 : decode cX12_litOnes 31 = .ok (.ishl, 1) := by decide +kernel
theorem dX12_litOnes_32 : decode cX12_litOnes 32 = .ok (.goto 4, 3) := by decide +kernel
theorem dX12_litOnes_35 : decode cX12_litOnes 35 = .ok (.iconst 0, 1) := by decide +kernel
theorem dX12_litOnes_36 : decode cX12_litOnes 36 = .ok (.ior, 1) := by decide +kernel
theorem dX12_litOnes_37 : decode cX12_litOnes 37 = .ok (.istore_n 2, 1) := by decide +kernel
theorem dX12_litOnes_38 : decode cX12_litOnes 38 = .ok (.iinc 3 1, 3) := by decide +kernel
theorem dX12_litOnes_41 : decode cX12_litOnes 41 = .ok (.goto (-37), 3) := by decide +kernel
theorem dX12_litOnes_44 : decode cX12_litOnes 44 = .ok (.iload_n 2, 1) := by decide +kernel
theorem dX12_litOnes_45 : decode cX12_litOnes 45 = .ok (.ireturn, 1) := by decide +kernel
theorem dX12_doesSee_0 : decode cX12_doesSee 0 = .ok (.aload_n 0, 1) := by decide +kernel
theorem dX12_doesSee_1 : decode cX12_doesSee 1 = .ok (.iload_n 1, 1) := by decide +kernel
theorem dX12_doesSee_2 : decode cX12_doesSee 2 = .ok (.invokevirtual 350, 3) := by decide +kernel
theorem dX12_doesSee_5 : decode cX12_doesSee 5 = .ok (.iconst 1, 1) := by decide +kernel
theorem dX12_doesSee_6 : decode cX12_doesSee 6 = .ok (.iload_n 1, 1) := by decide +kernel
theorem dX12_doesSee_7 : decode cX12_doesSee 7 = .ok (.ishl, 1) := by decide +kernel
theorem dX12_doesSee_8 : decode cX12_doesSee 8 = .ok (.ior, 1) := by decide +kernel
theorem dX12_doesSee_9 : decode cX12_doesSee 9 = .ok (.iload_n 2, 1) := by decide +kernel
theorem dX12_doesSee_10 : decode cX12_doesSee 10 = .ok (.iand, 1) := by decide +kernel
theorem dX12_doesSee_11 : decode cX12_doesSee 11 = .ok (.ifCond .eq 7, 3) := by decide +kernel
theorem dX12_doesSee_14 : decode cX12_doesSee 14 = .ok (.iconst 1, 1) := by decide +kernel
theorem dX12_doesSee_15 : decode cX12_doesSee 15 = .ok (.goto 4, 3) := by decide +kernel
theorem dX12_doesSee_18 : decode cX12_doesSee 18 = .ok (.iconst 0, 1) := by decide +kernel
theorem dX12_doesSee_19 : decode cX12_doesSee 19 = .ok (.ireturn, 1) := by decide +kernel
theorem dX12_calls_0 : decode cX12_calls 0 = .ok (.aload_n 0, 1) := by decide +kernel
theorem dX12_calls_1 : decode cX12_calls 1 = .ok (.getfield 68, 3) := by decide +kernel
theorem dX12_calls_4 : decode cX12_calls 4 = .ok (.iconst 0, 1) := by decide +kernel
theorem dX12_calls_5 : decode cX12_calls 5 = .ok (.aload_n 0, 1) := by decide +kernel
theorem dX12_calls_6 : decode cX12_calls 6 = .ok (.iload_n 1, 1) := by decide +kernel
theorem dX12_calls_7 : decode cX12_calls 7 = .ok (.iload_n 2, 1) := by decide +kernel
theorem dX12_calls_8 : decode cX12_calls 8 = .ok (.invokevirtual 353, 3) := by decide +kernel
theorem dX12_calls_11 : decode cX12_calls 11 = .ok (.i2l, 1) := by decide +kernel
theorem dX12_calls_12 : decode cX12_calls 12 = .ok (.lastore, 1) := by decide +kernel
theorem dX12_calls_13 : decode cX12_calls 13 = .ok (.aload_n 0, 1) := by decide +kernel
theorem dX12_calls_14 : decode cX12_calls 14 = .ok (.getfield 68, 3) := by decide +kernel
theorem dX12_calls_17 : decode cX12_calls 17 = .ok (.iconst 1, 1) := by decide +kernel
theorem dX12_calls_18 : decode cX12_calls 18 = .ok (.aload_n 0, 1) := by decide +kernel
theorem dX12_calls_19 : decode cX12_calls 19 = .ok (.getfield 93, 3) := by decide +kernel
theorem dX12_calls_22 : decode cX12_calls 22 = .ok (.bipush 6, 2) := by decide +kernel
theorem dX12_calls_24 : decode cX12_calls 24 = .ok (.iload_n 1, 1) := by decide +kernel
theorem dX12_calls_25 : decode cX12_calls 25 = .ok (.imul, 1) := by decide +kernel
theorem dX12_calls_26 : decode cX12_calls 26 = .ok (.iload_n 2, 1) := by decide +kernel
theorem dX12_calls_27 : decode cX12_calls 27 = .ok (.iadd, 1) := by decide +kernel
theorem dX12_calls_28 : decode cX12_calls 28 = .ok (.iaload, 1) := by decide +kernel
theorem dX12_calls_29 : decode cX12_calls 29 = .ok (.invokestatic 356, 3) := by decide +kernel
theorem dX12_calls_32 : decode cX12_calls 32 = .ok (.i2l, 1) := by decide +kernel
theorem dX12_calls_33 : decode cX12_calls 33 = .ok (.lastore, 1) := by decide +kernel
theorem dX12_calls_34 : decode cX12_calls 34 = .ok (.aload_n 0, 1) := by decide +kernel
theorem dX12_calls_35 : decode cX12_calls 35 = .ok (.getfield 68, 3) := by decide +kernel
theorem dX12_calls_38 : decode cX12_calls 38 = .ok (.iconst 2, 1) := by decide +kernel
theorem dX12_calls_39 : decode cX12_calls 39 = .ok (.aload_n 0, 1) := by decide +kernel
theorem dX12_calls_40 : decode cX12_calls 40 = .ok (.iload_n 1, 1) := by decide +kernel
theorem dX12_calls_41 : decode cX12_calls 41 = .ok (.iload_n 2, 1) := by decide +kernel
theorem dX12_calls_42 : decode cX12_calls 42 = .ok (.invokevirtual 359, 3) := by decide +kernel
theorem dX12_calls_45 : decode cX12_calls 45 = .ok (.i2l, 1) := by decide +kernel
theorem dX12_calls_46 : decode cX12_calls 46 = .ok (.lastore, 1) := by decide +kernel
theorem dX12_calls_47 : decode cX12_calls 47 = .ok (.aload_n 0, 1) := by decide +kernel
theorem dX12_calls_48 : decode cX12_calls 48 = .ok (.getfield 68, 3) := by decide +kernel
theorem dX12_calls_51 : decode cX12_calls 51 = .ok (.iconst 3, 1) := by decide +kernel
theorem dX12_calls_52 : decode cX12_calls 52 = .ok (.iload_n 3, 1) := by decide +kernel
theorem dX12_calls_53 : decode cX12_calls 53 = .ok (.ifCond .eq 7, 3) := by decide +kernel
theorem dX12_calls_56 : decode cX12_calls 56 = .ok (.lconst 1, 1) := by decide +kernel
theorem dX12_calls_57 : decode cX12_calls 57 = .ok (.goto 4, 3) := by decide +kernel
theorem dX12_calls_60 : decode cX12_calls 60 = .ok (.lconst 0, 1) := by decide +kernel
theorem dX12_calls_61 : decode cX12_calls 61 = .ok (.lastore, 1) := by decide +kernel
theorem dX12_calls_62 : decode cX12_calls 62 = .ok (.aload_n 0, 1) := by decide +kernel
theorem dX12_calls_63 : decode cX12_calls 63 = .ok (.getfield 68, 3) := by decide +kernel
theorem dX12_calls_66 : decode cX12_calls 66 = .ok (.iconst 4, 1) := by decide +kernel
theorem dX12_calls_67 : decode cX12_calls 67 = .ok (.aload_n 0, 1) := by decide +kernel
theorem dX12_calls_68 : decode cX12_calls 68 = .ok (.getfield 87, 3) := by decide +kernel
theorem dX12_calls_71 : decode cX12_calls 71 = .ok (.bipush 6, 2) := by decide +kernel
theorem dX12_calls_73 : decode cX12_calls 73 = .ok (.iload_n 1, 1) := by decide +kernel
theorem dX12_calls_74 : decode cX12_calls 74 = .ok (.imul, 1) := by decide +kernel
theorem dX12_calls_75 : decode cX12_calls 75 = .ok (.iload_n 2, 1) := by decide +kernel
theorem dX12_calls_76 : decode cX12_calls 76 = .ok (.iadd, 1) := by decide +kernel
theorem dX12_calls_77 : decode cX12_calls 77 = .ok (.iaload, 1) := by decide +kernel
theorem dX12_calls_78 : decode cX12_calls 78 = .ok (.i2l, 1) := by decide +kernel
theorem dX12_calls_79 : decode cX12_calls 79 = .ok (.lastore, 1) := by decide +kernel
theorem dX12_calls_80 : decode cX12_calls 80 = .ok (.aload_n 0, 1) := by decide +kernel
theorem dX12_calls_81 : decode cX12_calls 81 = .ok (.getfield 68, 3) := by decide +kernel
theorem dX12_calls_84 : decode cX12_calls 84 = .ok (.iconst 5, 1) := by decide +kernel
theorem dX12_calls_85 : decode cX12_calls 85 = .ok (.aload_n 0, 1) := by decide +kernel
theorem dX12_calls_86 : decode cX12_calls 86 = .ok (.getfield 90, 3) := by decide +kernel
theorem dX12_calls_89 : decode cX12_calls 89 = .ok (.bipush 6, 2) := by decide +kernel
theorem dX12_calls_91 : decode cX12_calls 91 = .ok (.iload_n 1, 1) := by decide +kernel
theorem dX12_calls_92 : decode cX12_calls 92 = .ok (.imul, 1) := by decide +kernel
theorem dX12_calls_93 : decode cX12_calls 93 = .ok (.iload_n 2, 1) := by decide +kernel
theorem dX12_calls_94 : decode cX12_calls 94 = .ok (.iadd, 1) := by decide +kernel
theorem dX12_calls_95 : decode cX12_calls 95 = .ok (.iaload, 1) := by decide +kernel
theorem dX12_calls_96 : decode cX12_calls 96 = .ok (.i2l, 1) := by decide +kernel
theorem dX12_calls_97 : decode cX12_calls 97 = .ok (.lastore, 1) := by decide +kernel
theorem dX12_calls_98 : decode cX12_calls 98 = .ok (.aload_n 0, 1) := by decide +kernel
theorem dX12_calls_99 : decode cX12_calls 99 = .ok (.getfield 68, 3) := by decide +kernel
theorem dX12_calls_102 : decode cX12_calls 102 = .ok (.bipush 6, 2) := by decide +kernel
theorem dX12_calls_104 : decode cX12_calls 104 = .ok (.aload_n 0, 1) := by decide +kernel
theorem dX12_calls_105 : decode cX12_calls 105 = .ok (.getfield 75, 3) := by decide +kernel
theorem dX12_calls_108 : decode cX12_calls 108 = .ok (.iload_n 1, 1) := by decide +kernel
theorem dX12_calls_109 : decode cX12_calls 109 = .ok (.iaload, 1) := by decide +kernel
theorem dX12_calls_110 : decode cX12_calls 110 = .ok (.i2l, 1) := by decide +kernel
theorem dX12_calls_111 : decode cX12_calls 111 = .ok (.lastore, 1) := by decide +kernel
theorem dX12_calls_112 : decode cX12_calls 112 = .ok (.return_, 1) := by decide +kernel
theorem dX12_within_0 : decode cX12_within 0 = .ok (.aload_n 0, 1) := by decide +kernel
theorem dX12_within_1 : decode cX12_within 1 = .ok (.iload_n 1, 1) := by decide +kernel
theorem dX12_within_2 : decode cX12_within 2 = .ok (.invokevirtual 362, 3) := by decide +kernel
theorem dX12_within_5 : decode cX12_within 5 = .ok (.ifCond .eq 11, 3) := by decide +kernel
theorem dX12_within_8 : decode cX12_within 8 = .ok (.aload_n 0, 1) := by decide +kernel
theorem dX12_within_9 : decode cX12_within 9 = .ok (.iload_n 1, 1) := by decide +kernel
theorem dX12_within_10 : decode cX12_within 10 = .ok (.invokevirtual 365, 3) := by decide +kernel
theorem dX12_within_13 : decode cX12_within 13 = .ok (.ifCond .ne 5, 3) := by decide +kernel
theorem dX12_within_16 : decode cX12_within 16 = .ok (.iload_n 3, 1) := by decide +kernel
theorem dX12_within_17 : decode cX12_within 17 = .ok (.ireturn, 1) := by decide +kernel
theorem dX12_within_18 : decode cX12_within 18 = .ok (.lconst 0, 1) := by decide +kernel
theorem dX12_within_19 : decode cX12_within 19 = .ok (.iload_n 2, 1) := by decide +kernel
theorem dX12_within_20 : decode cX12_within 20 = .ok (.i2l, 1) := by decide +kernel
theorem dX12_within_21 : decode cX12_within 21 = .ok (.aload_n 0, 1) := by decide +kernel
theorem dX12_within_22 : decode cX12_within 22 = .ok (.getfield 72, 3) := by decide +kernel
theorem dX12_within_25 : decode cX12_within 25 = .ok (.iconst 0, 1) := by decide +kernel
theorem dX12_within_26 : decode cX12_within 26 = .ok (.laload, 1) := by decide +kernel
theorem dX12_within_27 : decode cX12_within 27 = .ok (.invokestatic 368, 3) := by decide +kernel
theorem dX12_within_30 : decode cX12_within 30 = .ok (.invokestatic 372, 3) := by decide +kernel
theorem dX12_within_33 : decode cX12_within 33 = .ok (.l2i, 1) := by decide +kernel
theorem dX12_within_34 : decode cX12_within 34 = .ok (.ireturn, 1) := by decide +kernel
theorem dX12_windyAsItGoes_0 : decode cX12_windyAsItGoes 0 = .ok (.aload_n 0, 1) := by decide +kernel
theorem dX12_windyAsItGoes_1 : decode cX12_windyAsItGoes 1 = .ok (.getfield 375, 3) := by decide +kernel
theorem dX12_windyAsItGoes_4 : decode cX12_windyAsItGoes 4 = .ok (.iconst 1, 1) := by decide +kernel
theorem dX12_windyAsItGoes_5 : decode cX12_windyAsItGoes 5 = .ok (.if_icmp .eq 22, 3) := by decide +kernel
theorem dX12_windyAsItGoes_8 : decode cX12_windyAsItGoes 8 = .ok (.aload_n 0, 1) := by decide +kernel
theorem dX12_windyAsItGoes_9 : decode cX12_windyAsItGoes 9 = .ok (.getfield 375, 3) := by decide +kernel
theorem dX12_windyAsItGoes_12 : decode cX12_windyAsItGoes 12 = .ok (.iconst 5, 1) := by decide +kernel
theorem dX12_windyAsItGoes_13 : decode cX12_windyAsItGoes 13 = .ok (.if_icmp .eq 18, 3) := by decide +kernel
theorem dX12_windyAsItGoes_16 : decode cX12_windyAsItGoes 16 = .ok (.aload_n 0, 1) := by decide +kernel
theorem dX12_windyAsItGoes_17 : decode cX12_windyAsItGoes 17 = .ok (.getfield 13, 3) := by decide +kernel
theorem dX12_windyAsItGoes_20 : decode cX12_windyAsItGoes 20 = .ok (.iconst 5, 1) := by decide +kernel
theorem dX12_windyAsItGoes_21 : decode cX12_windyAsItGoes 21 = .ok (.iaload, 1) := by decide +kernel
theorem dX12_windyAsItGoes_22 : decode cX12_windyAsItGoes 22 = .ok (.bipush 50, 2) := by decide +kernel
theorem dX12_windyAsItGoes_24 : decode cX12_windyAsItGoes 24 = .ok (.if_icmp .lt 7, 3) := by decide +kernel
theorem dX12_windyAsItGoes_27 : decode cX12_windyAsItGoes 27 = .ok (.iconst 1, 1) := by decide +kernel
theorem dX12_windyAsItGoes_28 : decode cX12_windyAsItGoes 28 = .ok (.goto 4, 3) := by decide +kernel
theorem dX12_windyAsItGoes_31 : decode cX12_windyAsItGoes 31 = .ok (.iconst 0, 1) := by decide +kernel
theorem dX12_windyAsItGoes_32 : decode cX12_windyAsItGoes 32 = .ok (.ireturn, 1) := by decide +kernel
theorem dX12_recallOf_0 : decode cX12_recallOf 0 = .ok (.aload_n 0, 1) := by decide +kernel
theorem dX12_recallOf_1 : decode cX12_recallOf 1 = .ok (.iload_n 1, 1) := by decide +kernel
theorem dX12_recallOf_2 : decode cX12_recallOf 2 = .ok (.iload_n 2, 1) := by decide +kernel
theorem dX12_recallOf_3 : decode cX12_recallOf 3 = .ok (.aload_n 0, 1) := by decide +kernel
theorem dX12_recallOf_4 : decode cX12_recallOf 4 = .ok (.invokevirtual 378, 3) := by decide +kernel
theorem dX12_recallOf_7 : decode cX12_recallOf 7 = .ok (.invokevirtual 382, 3) := by decide +kernel
theorem dX12_recallOf_10 : decode cX12_recallOf 10 = .ok (.aload_n 0, 1) := by decide +kernel
theorem dX12_recallOf_11 : decode cX12_recallOf 11 = .ok (.iconst 2, 1) := by decide +kernel
theorem dX12_recallOf_12 : decode cX12_recallOf 12 = .ok (.sipush 9999, 3) := by decide +kernel
theorem dX12_recallOf_15 : decode cX12_recallOf 15 = .ok (.aload_n 0, 1) := by decide +kernel
theorem dX12_recallOf_16 : decode cX12_recallOf 16 = .ok (.iload_n 1, 1) := by decide +kernel
theorem dX12_recallOf_17 : decode cX12_recallOf 17 = .ok (.iload_n 2, 1) := by decide +kernel
theorem dX12_recallOf_18 : decode cX12_recallOf 18 = .ok (.invokevirtual 359, 3) := by decide +kernel
theorem dX12_recallOf_21 : decode cX12_recallOf 21 = .ok (.invokevirtual 386, 3) := by decide +kernel
theorem dX12_recallOf_24 : decode cX12_recallOf 24 = .ok (.ireturn, 1) := by decide +kernel
theorem dX12_lights_0 : decode cX12_lights 0 = .ok (.aload_n 0, 1) := by decide +kernel
theorem dX12_lights_1 : decode cX12_lights 1 = .ok (.getfield 93, 3) := by decide +kernel
theorem dX12_lights_4 : decode cX12_lights 4 = .ok (.bipush 6, 2) := by decide +kernel
theorem dX12_lights_6 : decode cX12_lights 6 = .ok (.iload_n 1, 1) := by decide +kernel
theorem dX12_lights_7 : decode cX12_lights 7 = .ok (.imul, 1) := by decide +kernel
theorem dX12_lights_8 : decode cX12_lights 8 = .ok (.iload_n 2, 1) := by decide +kernel
theorem dX12_lights_9 : decode cX12_lights 9 = .ok (.iadd, 1) := by decide +kernel
theorem dX12_lights_10 : decode cX12_lights 10 = .ok (.iaload, 1) := by decide +kernel
theorem dX12_lights_11 : decode cX12_lights 11 = .ok (.iload_n 3, 1) := by decide +kernel
theorem dX12_lights_12 : decode cX12_lights 12 = .ok (.ishr, 1) := by decide +kernel
theorem dX12_lights_13 : decode cX12_lights 13 = .ok (.iconst 1, 1) := by decide +kernel
theorem dX12_lights_14 : decode cX12_lights 14 = .ok (.iand, 1) := by decide +kernel
theorem dX12_lights_15 : decode cX12_lights 15 = .ok (.iconst 1, 1) := by decide +kernel
theorem dX12_lights_16 : decode cX12_lights 16 = .ok (.if_icmp .eq 12, 3) := by decide +kernel
theorem dX12_lights_19 : decode cX12_lights 19 = .ok (.aload_n 0, 1) := by decide +kernel
theorem dX12_lights_20 : decode cX12_lights 20 = .ok (.iload_n 1, 1) := by decide +kernel
theorem dX12_lights_21 : decode cX12_lights 21 = .ok (.iload_n 2, 1) := by decide +kernel
theorem dX12_lights_22 : decode cX12_lights 22 = .ok (.invokevirtual 353, 3) := by decide +kernel
theorem dX12_lights_25 : decode cX12_lights 25 = .ok (.ifCond .ne 5, 3) := by decide +kernel
theorem dX12_lights_28 : decode cX12_lights 28 = .ok (.iconst 0, 1) := by decide +kernel
theorem dX12_lights_29 : decode cX12_lights 29 = .ok (.ireturn, 1) := by decide +kernel
theorem dX12_lights_30 : decode cX12_lights 30 = .ok (.aload_n 0, 1) := by decide +kernel
theorem dX12_lights_31 : decode cX12_lights 31 = .ok (.getfield 93, 3) := by decide +kernel
theorem dX12_lights_34 : decode cX12_lights 34 = .ok (.bipush 6, 2) := by decide +kernel
theorem dX12_lights_36 : decode cX12_lights 36 = .ok (.iload_n 1, 1) := by decide +kernel
theorem dX12_lights_37 : decode cX12_lights 37 = .ok (.imul, 1) := by decide +kernel
theorem dX12_lights_38 : decode cX12_lights 38 = .ok (.iload_n 2, 1) := by decide +kernel
theorem dX12_lights_39 : decode cX12_lights 39 = .ok (.iadd, 1) := by decide +kernel
theorem dX12_lights_40 : decode cX12_lights 40 = .ok (.dup2, 1) := by decide +kernel
theorem dX12_lights_41 : decode cX12_lights 41 = .ok (.iaload, 1) := by decide +kernel
theorem dX12_lights_42 : decode cX12_lights 42 = .ok (.iconst 1, 1) := by decide +kernel
theorem dX12_lights_43 : decode cX12_lights 43 = .ok (.iload_n 3, 1) := by decide +kernel
theorem dX12_lights_44 : decode cX12_lights 44 = .ok (.ishl, 1) := by decide +kernel
theorem dX12_lights_45 : decode cX12_lights 45 = .ok (.ior, 1) := by decide +kernel
theorem dX12_lights_46 : decode cX12_lights 46 = .ok (.iastore, 1) := by decide +kernel
theorem dX12_lights_47 : decode cX12_lights 47 = .ok (.iconst 1, 1) := by decide +kernel
theorem dX12_lights_48 : decode cX12_lights 48 = .ok (.ireturn, 1) := by decide +kernel
theorem dX12_blows_0 : decode cX12_blows 0 = .ok (.aload_n 0, 1) := by decide +kernel
theorem dX12_blows_1 : decode cX12_blows 1 = .ok (.getfield 93, 3) := by decide +kernel
theorem dX12_blows_4 : decode cX12_blows 4 = .ok (.bipush 6, 2) := by decide +kernel
theorem dX12_blows_6 : decode cX12_blows 6 = .ok (.iload_n 1, 1) := by decide +kernel
theorem dX12_blows_7 : decode cX12_blows 7 = .ok (.imul, 1) := by decide +kernel
theorem dX12_blows_8 : decode cX12_blows 8 = .ok (.iload_n 2, 1) := by decide +kernel
theorem dX12_blows_9 : decode cX12_blows 9 = .ok (.iadd, 1) := by decide +kernel
theorem dX12_blows_10 : decode cX12_blows 10 = .ok (.iaload, 1) := by decide +kernel
theorem dX12_blows_11 : decode cX12_blows 11 = .ok (.iload_n 3, 1) := by decide +kernel
theorem dX12_blows_12 : decode cX12_blows 12 = .ok (.ishr, 1) := by decide +kernel
theorem dX12_blows_13 : decode cX12_blows 13 = .ok (.iconst 1, 1) := by decide +kernel
theorem dX12_blows_14 : decode cX12_blows 14 = .ok (.iand, 1) := by decide +kernel
theorem dX12_blows_15 : decode cX12_blows 15 = .ok (.ifCond .ne 5, 3) := by decide +kernel
theorem dX12_blows_18 : decode cX12_blows 18 = .ok (.iconst 0, 1) := by decide +kernel
theorem dX12_blows_19 : decode cX12_blows 19 = .ok (.ireturn, 1) := by decide +kernel
theorem dX12_blows_20 : decode cX12_blows 20 = .ok (.aload_n 0, 1) := by decide +kernel
theorem dX12_blows_21 : decode cX12_blows 21 = .ok (.getfield 93, 3) := by decide +kernel
theorem dX12_blows_24 : decode cX12_blows 24 = .ok (.bipush 6, 2) := by decide +kernel
theorem dX12_blows_26 : decode cX12_blows 26 = .ok (.iload_n 1, 1) := by decide +kernel
theorem dX12_blows_27 : decode cX12_blows 27 = .ok (.imul, 1) := by decide +kernel
theorem dX12_blows_28 : decode cX12_blows 28 = .ok (.iload_n 2, 1) := by decide +kernel
theorem dX12_blows_29 : decode cX12_blows 29 = .ok (.iadd, 1) := by decide +kernel
theorem dX12_blows_30 : decode cX12_blows 30 = .ok (.dup2, 1) := by decide +kernel
theorem dX12_blows_31 : decode cX12_blows 31 = .ok (.iaload, 1) := by decide +kernel
theorem dX12_blows_32 : decode cX12_blows 32 = .ok (.iconst 1, 1) := by decide +kernel
theorem dX12_blows_33 : decode cX12_blows 33 = .ok (.iload_n 3, 1) := by decide +kernel
theorem dX12_blows_34 : decode cX12_blows 34 = .ok (.ishl, 1) := by decide +kernel
theorem dX12_blows_35 : decode cX12_blows 35 = .ok (.iconst (-1), 1) := by decide +kernel
theorem dX12_blows_36 : decode cX12_blows 36 = .ok (.ixor, 1) := by decide +kernel
theorem dX12_blows_37 : decode cX12_blows 37 = .ok (.iand, 1) := by decide +kernel
theorem dX12_blows_38 : decode cX12_blows 38 = .ok (.iastore, 1) := by decide +kernel
theorem dX12_blows_39 : decode cX12_blows 39 = .ok (.iconst 1, 1) := by decide +kernel
theorem dX12_blows_40 : decode cX12_blows 40 = .ok (.ireturn, 1) := by decide +kernel
theorem dX12_cuts_0 : decode cX12_cuts 0 = .ok (.iload 4, 2) := by decide +kernel
theorem dX12_cuts_2 : decode cX12_cuts 2 = .ok (.aload_n 0, 1) := by decide +kernel
theorem dX12_cuts_3 : decode cX12_cuts 3 = .ok (.iload_n 1, 1) := by decide +kernel
theorem dX12_cuts_4 : decode cX12_cuts 4 = .ok (.iload_n 2, 1) := by decide +kernel
theorem dX12_cuts_5 : decode cX12_cuts 5 = .ok (.invokevirtual 353, 3) := by decide +kernel
theorem dX12_cuts_8 : decode cX12_cuts 8 = .ok (.invokestatic 390, 3) := by decide +kernel
theorem dX12_cuts_11 : decode cX12_cuts 11 = .ok (.istore 5, 2) := by decide +kernel
theorem dX12_cuts_13 : decode cX12_cuts 13 = .ok (.iload_n 3, 1) := by decide +kernel
theorem dX12_cuts_14 : decode cX12_cuts 14 = .ok (.ifCond .ne 22, 3) := by decide +kernel
theorem dX12_cuts_17 : decode cX12_cuts 17 = .ok (.aload_n 0, 1) := by decide +kernel
theorem dX12_cuts_18 : decode cX12_cuts 18 = .ok (.getfield 87, 3) := by decide +kernel
theorem dX12_cuts_21 : decode cX12_cuts 21 = .ok (.bipush 6, 2) := by decide +kernel
theorem dX12_cuts_23 : decode cX12_cuts 23 = .ok (.iload_n 1, 1) := by decide +kernel
theorem dX12_cuts_24 : decode cX12_cuts 24 = .ok (.imul, 1) := by decide +kernel
theorem dX12_cuts_25 : decode cX12_cuts 25 = .ok (.iload_n 2, 1) := by decide +kernel
theorem dX12_cuts_26 : decode cX12_cuts 26 = .ok (.iadd, 1) := by decide +kernel
theorem dX12_cuts_27 : decode cX12_cuts 27 = .ok (.dup2, 1) := by decide +kernel
theorem dX12_cuts_28 : decode cX12_cuts 28 = .ok (.iaload, 1) := by decide +kernel
theorem dX12_cuts_29 : decode cX12_cuts 29 = .ok (.iload 5, 2) := by decide +kernel
theorem dX12_cuts_31 : decode cX12_cuts 31 = .ok (.iadd, 1) := by decide +kernel
theorem dX12_cuts_32 : decode cX12_cuts 32 = .ok (.iastore, 1) := by decide +kernel
theorem dX12_cuts_33 : decode cX12_cuts 33 = .ok (.goto 19, 3) := by decide +kernel
theorem dX12_cuts_36 : decode cX12_cuts 36 = .ok (.aload_n 0, 1) := by decide +kernel
theorem dX12_cuts_37 : decode cX12_cuts 37 = .ok (.getfield 90, 3) := by decide +kernel
theorem dX12_cuts_40 : decode cX12_cuts 40 = .ok (.bipush 6, 2) := by decide +kernel
theorem dX12_cuts_42 : decode cX12_cuts 42 = .ok (.iload_n 1, 1) := by decide +kernel
theorem dX12_cuts_43 : decode cX12_cuts 43 = .ok (.imul, 1) := by decide +kernel
theorem dX12_cuts_44 : decode cX12_cuts 44 = .ok (.iload_n 2, 1) := by decide +kernel
theorem dX12_cuts_45 : decode cX12_cuts 45 = .ok (.iadd, 1) := by decide +kernel
theorem dX12_cuts_46 : decode cX12_cuts 46 = .ok (.dup2, 1) := by decide +kernel
theorem dX12_cuts_47 : decode cX12_cuts 47 = .ok (.iaload, 1) := by decide +kernel
theorem dX12_cuts_48 : decode cX12_cuts 48 = .ok (.iload 5, 2) := by decide +kernel
theorem dX12_cuts_50 : decode cX12_cuts 50 = .ok (.iadd, 1) := by decide +kernel
theorem dX12_cuts_51 : decode cX12_cuts 51 = .ok (.iastore, 1) := by decide +kernel
theorem dX12_cuts_52 : decode cX12_cuts 52 = .ok (.aload_n 0, 1) := by decide +kernel
theorem dX12_cuts_53 : decode cX12_cuts 53 = .ok (.iload_n 1, 1) := by decide +kernel
theorem dX12_cuts_54 : decode cX12_cuts 54 = .ok (.iload_n 2, 1) := by decide +kernel
theorem dX12_cuts_55 : decode cX12_cuts 55 = .ok (.invokevirtual 353, 3) := by decide +kernel
theorem dX12_cuts_58 : decode cX12_cuts 58 = .ok (.ifCond .ne 15, 3) := by decide +kernel
theorem dX12_cuts_61 : decode cX12_cuts 61 = .ok (.aload_n 0, 1) := by decide +kernel
theorem dX12_cuts_62 : decode cX12_cuts 62 = .ok (.getfield 93, 3) := by decide +kernel
theorem dX12_cuts_65 : decode cX12_cuts 65 = .ok (.bipush 6, 2) := by decide +kernel
theorem dX12_cuts_67 : decode cX12_cuts 67 = .ok (.iload_n 1, 1) := by decide +kernel
theorem dX12_cuts_68 : decode cX12_cuts 68 = .ok (.imul, 1) := by decide +kernel
theorem dX12_cuts_69 : decode cX12_cuts 69 = .ok (.iload_n 2, 1) := by decide +kernel
theorem dX12_cuts_70 : decode cX12_cuts 70 = .ok (.iadd, 1) := by decide +kernel
theorem dX12_cuts_71 : decode cX12_cuts 71 = .ok (.iconst 0, 1) := by decide +kernel
theorem dX12_cuts_72 : decode cX12_cuts 72 = .ok (.iastore, 1) := by decide +kernel
theorem dX12_cuts_73 : decode cX12_cuts 73 = .ok (.return_, 1) := by decide +kernel
theorem dX12_burns_0 : decode cX12_burns 0 = .ok (.aload_n 0, 1) := by decide +kernel
theorem dX12_burns_1 : decode cX12_burns 1 = .ok (.getfield 93, 3) := by decide +kernel
theorem dX12_burns_4 : decode cX12_burns 4 = .ok (.bipush 6, 2) := by decide +kernel
theorem dX12_burns_6 : decode cX12_burns 6 = .ok (.iload_n 1, 1) := by decide +kernel
theorem dX12_burns_7 : decode cX12_burns 7 = .ok (.imul, 1) := by decide +kernel
theorem dX12_burns_8 : decode cX12_burns 8 = .ok (.iload_n 2, 1) := by decide +kernel
theorem dX12_burns_9 : decode cX12_burns 9 = .ok (.iadd, 1) := by decide +kernel
theorem dX12_burns_10 : decode cX12_burns 10 = .ok (.iaload, 1) := by decide +kernel
theorem dX12_burns_11 : decode cX12_burns 11 = .ok (.iload_n 3, 1) := by decide +kernel
theorem dX12_burns_12 : decode cX12_burns 12 = .ok (.ishr, 1) := by decide +kernel
theorem dX12_burns_13 : decode cX12_burns 13 = .ok (.iconst 1, 1) := by decide +kernel
theorem dX12_burns_14 : decode cX12_burns 14 = .ok (.iand, 1) := by decide +kernel
theorem dX12_burns_15 : decode cX12_burns 15 = .ok (.ifCond .eq 19, 3) := by decide +kernel
theorem dX12_burns_18 : decode cX12_burns 18 = .ok (.aload_n 0, 1) := by decide +kernel
theorem dX12_burns_19 : decode cX12_burns 19 = .ok (.getfield 375, 3) := by decide +kernel
theorem dX12_burns_22 : decode cX12_burns 22 = .ok (.iconst 2, 1) := by decide +kernel
theorem dX12_burns_23 : decode cX12_burns 23 = .ok (.if_icmp .ne 12, 3) := by decide +kernel
theorem dX12_burns_26 : decode cX12_burns 26 = .ok (.iload_n 2, 1) := by decide +kernel
theorem dX12_burns_27 : decode cX12_burns 27 = .ok (.aload_n 0, 1) := by decide +kernel
theorem dX12_burns_28 : decode cX12_burns 28 = .ok (.getfield 99, 3) := by decide +kernel
theorem dX12_burns_31 : decode cX12_burns 31 = .ok (.if_icmp .ne 4, 3) := by decide +kernel
theorem dX12_burns_34 : decode cX12_burns 34 = .ok (.return_, 1) := by decide +kernel
theorem dX12_burns_35 : decode cX12_burns 35 = .ok (.iload 4, 2) := by decide +kernel
theorem dX12_burns_37 : decode cX12_burns 37 = .ok (.ifCond .eq 7, 3) := by decide +kernel
theorem dX12_burns_40 : decode cX12_burns 40 = .ok (.iconst 2, 1) := by decide +kernel
theorem dX12_burns_41 : decode cX12_burns 41 = .ok (.goto 4, 3) := by decide +kernel
theorem dX12_burns_44 : decode cX12_burns 44 = .ok (.iconst 1, 1) := by decide +kernel
theorem dX12_burns_45 : decode cX12_burns 45 = .ok (.istore 5, 2) := by decide +kernel
theorem dX12_burns_47 : decode cX12_burns 47 = .ok (.aload_n 0, 1) := by decide +kernel
theorem dX12_burns_48 : decode cX12_burns 48 = .ok (.iload_n 1, 1) := by decide +kernel
theorem dX12_burns_49 : decode cX12_burns 49 = .ok (.iload_n 2, 1) := by decide +kernel
theorem dX12_burns_50 : decode cX12_burns 50 = .ok (.iload 4, 2) := by decide +kernel
theorem dX12_burns_52 : decode cX12_burns 52 = .ok (.invokevirtual 382, 3) := by decide +kernel
theorem dX12_burns_55 : decode cX12_burns 55 = .ok (.aload_n 0, 1) := by decide +kernel
theorem dX12_burns_56 : decode cX12_burns 56 = .ok (.iload_n 1, 1) := by decide +kernel
theorem dX12_burns_57 : decode cX12_burns 57 = .ok (.iload_n 2, 1) := by decide +kernel
theorem dX12_burns_58 : decode cX12_burns 58 = .ok (.iload_n 3, 1) := by decide +kernel
theorem dX12_burns_59 : decode cX12_burns 59 = .ok (.aload_n 0, 1) := by decide +kernel
theorem dX12_burns_60 : decode cX12_burns 60 = .ok (.getfield 375, 3) := by decide +kernel
theorem dX12_burns_63 : decode cX12_burns 63 = .ok (.iconst 4, 1) := by decide +kernel
theorem dX12_burns_64 : decode cX12_burns 64 = .ok (.if_icmp .ne 8, 3) := by decide +kernel
theorem dX12_burns_67 : decode cX12_burns 67 = .ok (.iload 5, 2) := by decide +kernel
theorem dX12_burns_69 : decode cX12_burns 69 = .ok (.goto 12, 3) := by decide +kernel
theorem dX12_burns_72 : decode cX12_burns 72 = .ok (.aload_n 0, 1) := by decide +kernel
theorem dX12_burns_73 : decode cX12_burns 73 = .ok (.iconst 0, 1) := by decide +kernel
theorem dX12_burns_74 : decode cX12_burns 74 = .ok (.bipush 9, 2) := by decide +kernel
theorem dX12_burns_76 : decode cX12_burns 76 = .ok (.iload 5, 2) := by decide +kernel
theorem dX12_burns_78 : decode cX12_burns 78 = .ok (.invokevirtual 386, 3) := by decide +kernel
theorem dX12_burns_81 : decode cX12_burns 81 = .ok (.invokevirtual 392, 3) := by decide +kernel
theorem dX12_burns_84 : decode cX12_burns 84 = .ok (.return_, 1) := by decide +kernel
theorem dX12_isWindy_0 : decode cX12_isWindy 0 = .ok (.aload_n 0, 1) := by decide +kernel
theorem dX12_isWindy_1 : decode cX12_isWindy 1 = .ok (.getfield 13, 3) := by decide +kernel
theorem dX12_isWindy_4 : decode cX12_isWindy 4 = .ok (.iconst 5, 1) := by decide +kernel
theorem dX12_isWindy_5 : decode cX12_isWindy 5 = .ok (.iaload, 1) := by decide +kernel
theorem dX12_isWindy_6 : decode cX12_isWindy 6 = .ok (.istore_n 3, 1) := by decide +kernel
theorem dX12_isWindy_7 : decode cX12_isWindy 7 = .ok (.iload_n 2, 1) := by decide +kernel
theorem dX12_isWindy_8 : decode cX12_isWindy 8 = .ok (.ifCond .eq 13, 3) := by decide +kernel
theorem dX12_isWindy_11 : decode cX12_isWindy 11 = .ok (.iload_n 3, 1) := by decide +kernel
theorem dX12_isWindy_12 : decode cX12_isWindy 12 = .ok (.ifCond .eq 9, 3) := by decide +kernel
theorem dX12_isWindy_15 : decode cX12_isWindy 15 = .ok (.iload_n 3, 1) := by decide +kernel
theorem dX12_isWindy_16 : decode cX12_isWindy 16 = .ok (.bipush 100, 2) := by decide +kernel
theorem dX12_isWindy_18 : decode cX12_isWindy 18 = .ok (.if_icmp .ne 8, 3) := by decide +kernel
theorem dX12_isWindy_21 : decode cX12_isWindy 21 = .ok (.aload_n 0, 1) := by decide +kernel
theorem dX12_isWindy_22 : decode cX12_isWindy 22 = .ok (.invokevirtual 378, 3) := by decide +kernel
theorem dX12_isWindy_25 : decode cX12_isWindy 25 = .ok (.ireturn, 1) := by decide +kernel
theorem dX12_isWindy_26 : decode cX12_isWindy 26 = .ok (.aload_n 0, 1) := by decide +kernel
theorem dX12_isWindy_27 : decode cX12_isWindy 27 = .ok (.getfield 78, 3) := by decide +kernel
theorem dX12_isWindy_30 : decode cX12_isWindy 30 = .ok (.iload_n 1, 1) := by decide +kernel
theorem dX12_isWindy_31 : decode cX12_isWindy 31 = .ok (.aload_n 0, 1) := by decide +kernel
theorem dX12_isWindy_32 : decode cX12_isWindy 32 = .ok (.getfield 78, 3) := by decide +kernel
theorem dX12_isWindy_35 : decode cX12_isWindy 35 = .ok (.iload_n 1, 1) := by decide +kernel
theorem dX12_isWindy_36 : decode cX12_isWindy 36 = .ok (.iaload, 1) := by decide +kernel
theorem dX12_isWindy_37 : decode cX12_isWindy 37 = .ok (.ldc_w 396, 3) := by decide +kernel
theorem dX12_isWindy_40 : decode cX12_isWindy 40 = .ok (.imul, 1) := by decide +kernel
theorem dX12_isWindy_41 : decode cX12_isWindy 41 = .ok (.sipush 12345, 3) := by decide +kernel
theorem dX12_isWindy_44 : decode cX12_isWindy 44 = .ok (.iadd, 1) := by decide +kernel
theorem dX12_isWindy_45 : decode cX12_isWindy 45 = .ok (.ldc_w 399, 3) := by decide +kernel
theorem dX12_isWindy_48 : decode cX12_isWindy 48 = .ok (.iand, 1) := by decide +kernel
theorem dX12_isWindy_49 : decode cX12_isWindy 49 = .ok (.iastore, 1) := by decide +kernel
theorem dX12_isWindy_50 : decode cX12_isWindy 50 = .ok (.aload_n 0, 1) := by decide +kernel
theorem dX12_isWindy_51 : decode cX12_isWindy 51 = .ok (.getfield 78, 3) := by decide +kernel
theorem dX12_isWindy_54 : decode cX12_isWindy 54 = .ok (.iload_n 1, 1) := by decide +kernel
theorem dX12_isWindy_55 : decode cX12_isWindy 55 = .ok (.iaload, 1) := by decide +kernel
theorem dX12_isWindy_56 : decode cX12_isWindy 56 = .ok (.bipush 16, 2) := by decide +kernel
theorem dX12_isWindy_58 : decode cX12_isWindy 58 = .ok (.ishr, 1) := by decide +kernel
theorem dX12_isWindy_59 : decode cX12_isWindy 59 = .ok (.bipush 100, 2) := by decide +kernel
theorem dX12_isWindy_61 : decode cX12_isWindy 61 = .ok (.irem, 1) := by decide +kernel
theorem dX12_isWindy_62 : decode cX12_isWindy 62 = .ok (.iload_n 3, 1) := by decide +kernel
theorem dX12_isWindy_63 : decode cX12_isWindy 63 = .ok (.if_icmp .ge 7, 3) := by decide +kernel
theorem dX12_isWindy_66 : decode cX12_isWindy 66 = .ok (.iconst 1, 1) := by decide +kernel
theorem dX12_isWindy_67 : decode cX12_isWindy 67 = .ok (.goto 4, 3) := by decide +kernel
theorem dX12_isWindy_70 : decode cX12_isWindy 70 = .ok (.iconst 0, 1) := by decide +kernel
theorem dX12_isWindy_71 : decode cX12_isWindy 71 = .ok (.ireturn, 1) := by decide +kernel
theorem dX12_passes_0 : decode cX12_passes 0 = .ok (.iconst 0, 1) := by decide +kernel
theorem dX12_passes_1 : decode cX12_passes 1 = .ok (.istore_n 3, 1) := by decide +kernel
theorem dX12_passes_2 : decode cX12_passes 2 = .ok (.iload_n 3, 1) := by decide +kernel
theorem dX12_passes_3 : decode cX12_passes 3 = .ok (.aload_n 0, 1) := by decide +kernel
theorem dX12_passes_4 : decode cX12_passes 4 = .ok (.getfield 13, 3) := by decide +kernel
theorem dX12_passes_7 : decode cX12_passes 7 = .ok (.iconst 2, 1) := by decide +kernel
theorem dX12_passes_8 : decode cX12_passes 8 = .ok (.iaload, 1) := by decide +kernel
theorem dX12_passes_9 : decode cX12_passes 9 = .ok (.if_icmp .ge 54, 3) := by decide +kernel
theorem dX12_passes_12 : decode cX12_passes 12 = .ok (.aload_n 0, 1) := by decide +kernel
theorem dX12_passes_13 : decode cX12_passes 13 = .ok (.getfield 34, 3) := by decide +kernel
theorem dX12_passes_16 : decode cX12_passes 16 = .ok (.iload_n 3, 1) := by decide +kernel
theorem dX12_passes_17 : decode cX12_passes 17 = .ok (.iaload, 1) := by decide +kernel
theorem dX12_passes_18 : decode cX12_passes 18 = .ok (.aload_n 0, 1) := by decide +kernel
theorem dX12_passes_19 : decode cX12_passes 19 = .ok (.getfield 75, 3) := by decide +kernel
theorem dX12_passes_22 : decode cX12_passes 22 = .ok (.iload_n 1, 1) := by decide +kernel
theorem dX12_passes_23 : decode cX12_passes 23 = .ok (.iaload, 1) := by decide +kernel
theorem dX12_passes_24 : decode cX12_passes 24 = .ok (.if_icmp .ne 33, 3) := by decide +kernel
theorem dX12_passes_27 : decode cX12_passes 27 = .ok (.aload_n 0, 1) := by decide +kernel
theorem dX12_passes_28 : decode cX12_passes 28 = .ok (.iload_n 1, 1) := by decide +kernel
theorem dX12_passes_29 : decode cX12_passes 29 = .ok (.aload_n 0, 1) := by decide +kernel
theorem dX12_passes_30 : decode cX12_passes 30 = .ok (.getfield 28, 3) := by decide +kernel
theorem dX12_passes_33 : decode cX12_passes 33 = .ok (.iload_n 3, 1) := by decide +kernel
theorem dX12_passes_34 : decode cX12_passes 34 = .ok (.iaload, 1) := by decide +kernel
theorem dX12_passes_35 : decode cX12_passes 35 = .ok (.aload_n 0, 1) := by decide +kernel
theorem dX12_passes_36 : decode cX12_passes 36 = .ok (.getfield 31, 3) := by decide +kernel
theorem dX12_passes_39 : decode cX12_passes 39 = .ok (.iload_n 3, 1) := by decide +kernel
theorem dX12_passes_40 : decode cX12_passes 40 = .ok (.iaload, 1) := by decide +kernel
theorem dX12_passes_41 : decode cX12_passes 41 = .ok (.invokevirtual 400, 3) := by decide +kernel
theorem dX12_passes_44 : decode cX12_passes 44 = .ok (.ifCond .ne 13, 3) := by decide +kernel
theorem dX12_passes_47 : decode cX12_passes 47 = .ok (.aload_n 0, 1) := by decide +kernel
theorem dX12_passes_48 : decode cX12_passes 48 = .ok (.getfield 84, 3) := by decide +kernel
theorem dX12_passes_51 : decode cX12_passes 51 = .ok (.iload_n 1, 1) := by decide +kernel
theorem dX12_passes_52 : decode cX12_passes 52 = .ok (.dup2, 1) := by decide +kernel
theorem dX12_passes_53 : decode cX12_passes 53 = .ok (.iaload, 1) := by decide +kernel
theorem dX12_passes_54 : decode cX12_passes 54 = .ok (.iconst 1, 1) := by decide +kernel
theorem dX12_passes_55 : decode cX12_passes 55 = .ok (.iadd, 1) := by decide +kernel
theorem dX12_passes_56 : decode cX12_passes 56 = .ok (.iastore, 1) := by decide +kernel
theorem dX12_passes_57 : decode cX12_passes 57 = .ok (.iinc 3 1, 3) := by decide +kernel
theorem dX12_passes_60 : decode cX12_passes 60 = .ok (.goto (-58), 3) := by decide +kernel
theorem dX12_passes_63 : decode cX12_passes 63 = .ok (.iconst 0, 1) := by decide +kernel
theorem dX12_passes_64 : decode cX12_passes 64 = .ok (.istore_n 3, 1) := by decide +kernel
theorem dX12_passes_65 : decode cX12_passes 65 = .ok (.iload_n 3, 1) := by decide +kernel
theorem dX12_passes_66 : decode cX12_passes 66 = .ok (.aload_n 0, 1) := by decide +kernel
theorem dX12_passes_67 : decode cX12_passes 67 = .ok (.getfield 13, 3) := by decide +kernel
theorem dX12_passes_70 : decode cX12_passes 70 = .ok (.iconst 3, 1) := by decide +kernel
theorem dX12_passes_71 : decode cX12_passes 71 = .ok (.iaload, 1) := by decide +kernel
theorem dX12_passes_72 : decode cX12_passes 72 = .ok (.if_icmp .ge 62, 3) := by decide +kernel
theorem dX12_passes_75 : decode cX12_passes 75 = .ok (.aload_n 0, 1) := by decide +kernel
theorem dX12_passes_76 : decode cX12_passes 76 = .ok (.getfield 375, 3) := by decide +kernel
theorem dX12_passes_79 : decode cX12_passes 79 = .ok (.iconst 3, 1) := by decide +kernel
theorem dX12_passes_80 : decode cX12_passes 80 = .ok (.if_icmp .eq 54, 3) := by decide +kernel
theorem dX12_passes_83 : decode cX12_passes 83 = .ok (.aload_n 0, 1) := by decide +kernel
theorem dX12_passes_84 : decode cX12_passes 84 = .ok (.getfield 43, 3) := by decide +kernel
theorem dX12_passes_87 : decode cX12_passes 87 = .ok (.iload_n 3, 1) := by decide +kernel
theorem dX12_passes_88 : decode cX12_passes 88 = .ok (.iaload, 1) := by decide +kernel
theorem dX12_passes_89 : decode cX12_passes 89 = .ok (.aload_n 0, 1) := by decide +kernel
theorem dX12_passes_90 : decode cX12_passes 90 = .ok (.getfield 75, 3) := by decide +kernel
theorem dX12_passes_93 : decode cX12_passes 93 = .ok (.iload_n 1, 1) := by decide +kernel
theorem dX12_passes_94 : decode cX12_passes 94 = .ok (.iaload, 1) := by decide +kernel
theorem dX12_passes_95 : decode cX12_passes 95 = .ok (.if_icmp .ne 33, 3) := by decide +kernel
theorem dX12_passes_98 : decode cX12_passes 98 = .ok (.aload_n 0, 1) := by decide +kernel
theorem dX12_passes_99 : decode cX12_passes 99 = .ok (.iload_n 1, 1) := by decide +kernel
theorem dX12_passes_100 : decode cX12_passes 100 = .ok (.aload_n 0, 1) := by decide +kernel
theorem dX12_passes_101 : decode cX12_passes 101 = .ok (.getfield 37, 3) := by decide +kernel
theorem dX12_passes_104 : decode cX12_passes 104 = .ok (.iload_n 3, 1) := by decide +kernel
theorem dX12_passes_105 : decode cX12_passes 105 = .ok (.iaload, 1) := by decide +kernel
theorem dX12_passes_106 : decode cX12_passes 106 = .ok (.aload_n 0, 1) := by decide +kernel
theorem dX12_passes_107 : decode cX12_passes 107 = .ok (.getfield 40, 3) := by decide +kernel
theorem dX12_passes_110 : decode cX12_passes 110 = .ok (.iload_n 3, 1) := by decide +kernel
theorem dX12_passes_111 : decode cX12_passes 111 = .ok (.iaload, 1) := by decide +kernel
theorem dX12_passes_112 : decode cX12_passes 112 = .ok (.invokevirtual 403, 3) := by decide +kernel
theorem dX12_passes_115 : decode cX12_passes 115 = .ok (.ifCond .ne 13, 3) := by decide +kernel
theorem dX12_passes_118 : decode cX12_passes 118 = .ok (.aload_n 0, 1) := by decide +kernel
theorem dX12_passes_119 : decode cX12_passes 119 = .ok (.getfield 84, 3) := by decide +kernel
theorem dX12_passes_122 : decode cX12_passes 122 = .ok (.iload_n 1, 1) := by decide +kernel
theorem dX12_passes_123 : decode cX12_passes 123 = .ok (.dup2, 1) := by decide +kernel
theorem dX12_passes_124 : decode cX12_passes 124 = .ok (.iaload, 1) := by decide +kernel
theorem dX12_passes_125 : decode cX12_passes 125 = .ok (.iconst 1, 1) := by decide +kernel
theorem dX12_passes_126 : decode cX12_passes 126 = .ok (.iadd, 1) := by decide +kernel
theorem dX12_passes_127 : decode cX12_passes 127 = .ok (.iastore, 1) := by decide +kernel
theorem dX12_passes_128 : decode cX12_passes 128 = .ok (.iinc 3 1, 3) := by decide +kernel
theorem dX12_passes_131 : decode cX12_passes 131 = .ok (.goto (-66), 3) := by decide +kernel
theorem dX12_passes_134 : decode cX12_passes 134 = .ok (.aload_n 0, 1) := by decide +kernel
theorem dX12_passes_135 : decode cX12_passes 135 = .ok (.iload_n 1, 1) := by decide +kernel
theorem dX12_passes_136 : decode cX12_passes 136 = .ok (.iload_n 2, 1) := by decide +kernel
theorem dX12_passes_137 : decode cX12_passes 137 = .ok (.invokevirtual 406, 3) := by decide +kernel
theorem dX12_passes_140 : decode cX12_passes 140 = .ok (.istore_n 3, 1) := by decide +kernel
theorem dX12_passes_141 : decode cX12_passes 141 = .ok (.aload_n 0, 1) := by decide +kernel
theorem dX12_passes_142 : decode cX12_passes 142 = .ok (.iload_n 1, 1) := by decide +kernel
theorem dX12_passes_143 : decode cX12_passes 143 = .ok (.invokevirtual 410, 3) := by decide +kernel
theorem dX12_passes_146 : decode cX12_passes 146 = .ok (.istore 4, 2) := by decide +kernel
theorem dX12_passes_148 : decode cX12_passes 148 = .ok (.iconst 0, 1) := by decide +kernel
theorem dX12_passes_149 : decode cX12_passes 149 = .ok (.istore 5, 2) := by decide +kernel
theorem dX12_passes_151 : decode cX12_passes 151 = .ok (.iload 5, 2) := by decide +kernel
theorem dX12_passes_153 : decode cX12_passes 153 = .ok (.aload_n 0, 1) := by decide +kernel
theorem dX12_passes_154 : decode cX12_passes 154 = .ok (.getfield 13, 3) := by decide +kernel
theorem dX12_passes_157 : decode cX12_passes 157 = .ok (.iconst 0, 1) := by decide +kernel
theorem dX12_passes_158 : decode cX12_passes 158 = .ok (.iaload, 1) := by decide +kernel
theorem dX12_passes_159 : decode cX12_passes 159 = .ok (.if_icmp .ge 108, 3) := by decide +kernel
theorem dX12_passes_162 : decode cX12_passes 162 = .ok (.bipush 6, 2) := by decide +kernel
theorem dX12_passes_164 : decode cX12_passes 164 = .ok (.iload_n 1, 1) := by decide +kernel
theorem dX12_passes_165 : decode cX12_passes 165 = .ok (.imul, 1) := by decide +kernel
theorem dX12_passes_166 : decode cX12_passes 166 = .ok (.iload 5, 2) := by decide +kernel
theorem dX12_passes_168 : decode cX12_passes 168 = .ok (.iadd, 1) := by decide +kernel
theorem dX12_passes_169 : decode cX12_passes 169 = .ok (.istore 6, 2) := by decide +kernel
theorem dX12_passes_171 : decode cX12_passes 171 = .ok (.aload_n 0, 1) := by decide +kernel
theorem dX12_passes_172 : decode cX12_passes 172 = .ok (.iload 5, 2) := by decide +kernel
theorem dX12_passes_174 : decode cX12_passes 174 = .ok (.iload 4, 2) := by decide +kernel
theorem dX12_passes_176 : decode cX12_passes 176 = .ok (.invokevirtual 413, 3) := by decide +kernel
theorem dX12_passes_179 : decode cX12_passes 179 = .ok (.ifCond .eq 25, 3) := by decide +kernel
theorem dX12_passes_182 : decode cX12_passes 182 = .ok (.aload_n 0, 1) := by decide +kernel
theorem dX12_passes_183 : decode cX12_passes 183 = .ok (.getfield 96, 3) := by decide +kernel
theorem dX12_passes_186 : decode cX12_passes 186 = .ok (.iload 6, 2) := by decide +kernel
theorem dX12_passes_188 : decode cX12_passes 188 = .ok (.sipush 9999, 3) := by decide +kernel
theorem dX12_passes_191 : decode cX12_passes 191 = .ok (.aload_n 0, 1) := by decide +kernel
theorem dX12_passes_192 : decode cX12_passes 192 = .ok (.getfield 96, 3) := by decide +kernel
theorem dX12_passes_195 : decode cX12_passes 195 = .ok (.iload 6, 2) := by decide +kernel
theorem dX12_passes_197 : decode cX12_passes 197 = .ok (.iaload, 1) := by decide +kernel
theorem dX12_passes_198 : decode cX12_passes 198 = .ok (.iconst 1, 1) := by decide +kernel
theorem dX12_passes_199 : decode cX12_passes 199 = .ok (.iadd, 1) := by decide +kernel
theorem dX12_passes_200 : decode cX12_passes 200 = .ok (.invokestatic 390, 3) := by decide +kernel
theorem dX12_passes_203 : decode cX12_passes 203 = .ok (.iastore, 1) := by decide +kernel
theorem dX12_passes_204 : decode cX12_passes 204 = .ok (.aload_n 0, 1) := by decide +kernel
theorem dX12_passes_205 : decode cX12_passes 205 = .ok (.getfield 93, 3) := by decide +kernel
theorem dX12_passes_208 : decode cX12_passes 208 = .ok (.iload 6, 2) := by decide +kernel
theorem dX12_passes_210 : decode cX12_passes 210 = .ok (.iaload, 1) := by decide +kernel
theorem dX12_passes_211 : decode cX12_passes 211 = .ok (.ifCond .ne 6, 3) := by decide +kernel
theorem dX12_passes_214 : decode cX12_passes 214 = .ok (.goto 47, 3) := by decide +kernel
theorem dX12_passes_217 : decode cX12_passes 217 = .ok (.aload_n 0, 1) := by decide +kernel
theorem dX12_passes_218 : decode cX12_passes 218 = .ok (.iload_n 1, 1) := by decide +kernel
theorem dX12_passes_219 : decode cX12_passes 219 = .ok (.iload 5, 2) := by decide +kernel
theorem dX12_passes_221 : decode cX12_passes 221 = .ok (.iload_n 3, 1) := by decide +kernel
theorem dX12_passes_222 : decode cX12_passes 222 = .ok (.invokevirtual 382, 3) := by decide +kernel
theorem dX12_passes_225 : decode cX12_passes 225 = .ok (.aload_n 0, 1) := by decide +kernel
theorem dX12_passes_226 : decode cX12_passes 226 = .ok (.getfield 81, 3) := by decide +kernel
theorem dX12_passes_229 : decode cX12_passes 229 = .ok (.iload_n 1, 1) := by decide +kernel
theorem dX12_passes_230 : decode cX12_passes 230 = .ok (.ldc 186, 2) := by decide +kernel
theorem dX12_passes_232 : decode cX12_passes 232 = .ok (.aload_n 0, 1) := by decide +kernel
theorem dX12_passes_233 : decode cX12_passes 233 = .ok (.getfield 81, 3) := by decide +kernel
theorem dX12_passes_236 : decode cX12_passes 236 = .ok (.iload_n 1, 1) := by decide +kernel
theorem dX12_passes_237 : decode cX12_passes 237 = .ok (.iaload, 1) := by decide +kernel
theorem dX12_passes_238 : decode cX12_passes 238 = .ok (.aload_n 0, 1) := by decide +kernel
theorem dX12_passes_239 : decode cX12_passes 239 = .ok (.iconst 1, 1) := by decide +kernel
theorem dX12_passes_240 : decode cX12_passes 240 = .ok (.sipush 999, 3) := by decide +kernel
theorem dX12_passes_243 : decode cX12_passes 243 = .ok (.aload_n 0, 1) := by decide +kernel
theorem dX12_passes_244 : decode cX12_passes 244 = .ok (.getfield 93, 3) := by decide +kernel
theorem dX12_passes_247 : decode cX12_passes 247 = .ok (.iload 6, 2) := by decide +kernel
theorem dX12_passes_249 : decode cX12_passes 249 = .ok (.iaload, 1) := by decide +kernel
theorem dX12_passes_250 : decode cX12_passes 250 = .ok (.invokestatic 356, 3) := by decide +kernel
theorem dX12_passes_253 : decode cX12_passes 253 = .ok (.invokevirtual 386, 3) := by decide +kernel
theorem dX12_passes_256 : decode cX12_passes 256 = .ok (.iadd, 1) := by decide +kernel
theorem dX12_passes_257 : decode cX12_passes 257 = .ok (.invokestatic 390, 3) := by decide +kernel
theorem dX12_passes_260 : decode cX12_passes 260 = .ok (.iastore, 1) := by decide +kernel
theorem dX12_passes_261 : decode cX12_passes 261 = .ok (.iinc 5 1, 3) := by decide +kernel
theorem dX12_passes_264 : decode cX12_passes 264 = .ok (.goto (-113), 3) := by decide +kernel
theorem dX12_passes_267 : decode cX12_passes 267 = .ok (.iconst 0, 1) := by decide +kernel
theorem dX12_passes_268 : decode cX12_passes 268 = .ok (.istore 5, 2) := by decide +kernel
theorem dX12_passes_270 : decode cX12_passes 270 = .ok (.iload 5, 2) := by decide +kernel
theorem dX12_passes_272 : decode cX12_passes 272 = .ok (.aload_n 0, 1) := by decide +kernel
theorem dX12_passes_273 : decode cX12_passes 273 = .ok (.getfield 13, 3) := by decide +kernel
theorem dX12_passes_276 : decode cX12_passes 276 = .ok (.iconst 0, 1) := by decide +kernel
theorem dX12_passes_277 : decode cX12_passes 277 = .ok (.iaload, 1) := by decide +kernel
theorem dX12_passes_278 : decode cX12_passes 278 = .ok (.if_icmp .ge 27, 3) := by decide +kernel
theorem dX12_passes_281 : decode cX12_passes 281 = .ok (.aload_n 0, 1) := by decide +kernel
theorem dX12_passes_282 : decode cX12_passes 282 = .ok (.iload_n 1, 1) := by decide +kernel
theorem dX12_passes_283 : decode cX12_passes 283 = .ok (.iload 5, 2) := by decide +kernel
theorem dX12_passes_285 : decode cX12_passes 285 = .ok (.iconst 0, 1) := by decide +kernel
theorem dX12_passes_286 : decode cX12_passes 286 = .ok (.iload_n 3, 1) := by decide +kernel
theorem dX12_passes_287 : decode cX12_passes 287 = .ok (.invokevirtual 417, 3) := by decide +kernel
theorem dX12_passes_290 : decode cX12_passes 290 = .ok (.aload_n 0, 1) := by decide +kernel
theorem dX12_passes_291 : decode cX12_passes 291 = .ok (.iload_n 1, 1) := by decide +kernel
theorem dX12_passes_292 : decode cX12_passes 292 = .ok (.iload 5, 2) := by decide +kernel
theorem dX12_passes_294 : decode cX12_passes 294 = .ok (.iconst 1, 1) := by decide +kernel
theorem dX12_passes_295 : decode cX12_passes 295 = .ok (.iload_n 3, 1) := by decide +kernel
theorem dX12_passes_296 : decode cX12_passes 296 = .ok (.invokevirtual 417, 3) := by decide +kernel
theorem dX12_passes_299 : decode cX12_passes 299 = .ok (.iinc 5 1, 3) := by decide +kernel
theorem dX12_passes_302 : decode cX12_passes 302 = .ok (.goto (-32), 3) := by decide +kernel
theorem dX12_passes_305 : decode cX12_passes 305 = .ok (.aload_n 0, 1) := by decide +kernel
theorem dX12_passes_306 : decode cX12_passes 306 = .ok (.getfield 75, 3) := by decide +kernel
theorem dX12_passes_309 : decode cX12_passes 309 = .ok (.iload_n 1, 1) := by decide +kernel
theorem dX12_passes_310 : decode cX12_passes 310 = .ok (.dup2, 1) := by decide +kernel
theorem dX12_passes_311 : decode cX12_passes 311 = .ok (.iaload, 1) := by decide +kernel
theorem dX12_passes_312 : decode cX12_passes 312 = .ok (.iconst 1, 1) := by decide +kernel
theorem dX12_passes_313 : decode cX12_passes 313 = .ok (.iadd, 1) := by decide +kernel
theorem dX12_passes_314 : decode cX12_passes 314 = .ok (.iastore, 1) := by decide +kernel
theorem dX12_passes_315 : decode cX12_passes 315 = .ok (.return_, 1) := by decide +kernel
theorem dX12_goesOn_0 : decode cX12_goesOn 0 = .ok (.iconst 0, 1) := by decide +kernel
theorem dX12_goesOn_1 : decode cX12_goesOn 1 = .ok (.istore_n 2, 1) := by decide +kernel
theorem dX12_goesOn_2 : decode cX12_goesOn 2 = .ok (.iload_n 2, 1) := by decide +kernel
theorem dX12_goesOn_3 : decode cX12_goesOn 3 = .ok (.iload_n 1, 1) := by decide +kernel
theorem dX12_goesOn_4 : decode cX12_goesOn 4 = .ok (.if_icmp .ge 15, 3) := by decide +kernel
theorem dX12_goesOn_7 : decode cX12_goesOn 7 = .ok (.aload_n 0, 1) := by decide +kernel
theorem dX12_goesOn_8 : decode cX12_goesOn 8 = .ok (.iconst 1, 1) := by decide +kernel
theorem dX12_goesOn_9 : decode cX12_goesOn 9 = .ok (.iconst 0, 1) := by decide +kernel
theorem dX12_goesOn_10 : decode cX12_goesOn 10 = .ok (.invokevirtual 421, 3) := by decide +kernel
theorem dX12_goesOn_13 : decode cX12_goesOn 13 = .ok (.iinc 2 1, 3) := by decide +kernel
theorem dX12_goesOn_16 : decode cX12_goesOn 16 = .ok (.goto (-14), 3) := by decide +kernel
theorem dX12_goesOn_19 : decode cX12_goesOn 19 = .ok (.return_, 1) := by decide +kernel
theorem dX12_leftAll_0 : decode cX12_leftAll 0 = .ok (.iconst 0, 1) := by decide +kernel
theorem dX12_leftAll_1 : decode cX12_leftAll 1 = .ok (.istore_n 2, 1) := by decide +kernel
theorem dX12_leftAll_2 : decode cX12_leftAll 2 = .ok (.iconst 0, 1) := by decide +kernel
theorem dX12_leftAll_3 : decode cX12_leftAll 3 = .ok (.istore_n 3, 1) := by decide +kernel
theorem dX12_leftAll_4 : decode cX12_leftAll 4 = .ok (.iload_n 3, 1) := by decide +kernel
theorem dX12_leftAll_5 : decode cX12_leftAll 5 = .ok (.aload_n 0, 1) := by decide +kernel
theorem dX12_leftAll_6 : decode cX12_leftAll 6 = .ok (.getfield 13, 3) := by decide +kernel
theorem dX12_leftAll_9 : decode cX12_leftAll 9 = .ok (.iconst 0, 1) := by decide +kernel
theorem dX12_leftAll_10 : decode cX12_leftAll 10 = .ok (.iaload, 1) := by decide +kernel
theorem dX12_leftAll_11 : decode cX12_leftAll 11 = .ok (.if_icmp .ge 18, 3) := by decide +kernel
theorem dX12_leftAll_14 : decode cX12_leftAll 14 = .ok (.iload_n 2, 1) := by decide +kernel
theorem dX12_leftAll_15 : decode cX12_leftAll 15 = .ok (.aload_n 0, 1) := by decide +kernel
theorem dX12_leftAll_16 : decode cX12_leftAll 16 = .ok (.iload_n 1, 1) := by decide +kernel
theorem dX12_leftAll_17 : decode cX12_leftAll 17 = .ok (.iload_n 3, 1) := by decide +kernel
theorem dX12_leftAll_18 : decode cX12_leftAll 18 = .ok (.invokevirtual 353, 3) := by decide +kernel
theorem dX12_leftAll_21 : decode cX12_leftAll 21 = .ok (.iadd, 1) := by decide +kernel
theorem dX12_leftAll_22 : decode cX12_leftAll 22 = .ok (.istore_n 2, 1) := by decide +kernel
theorem dX12_leftAll_23 : decode cX12_leftAll 23 = .ok (.iinc 3 1, 3) := by decide +kernel
theorem dX12_leftAll_26 : decode cX12_leftAll 26 = .ok (.goto (-22), 3) := by decide +kernel
theorem dX12_leftAll_29 : decode cX12_leftAll 29 = .ok (.iload_n 2, 1) := by decide +kernel
theorem dX12_leftAll_30 : decode cX12_leftAll 30 = .ok (.ireturn, 1) := by decide +kernel
theorem dX12_outAll_0 : decode cX12_outAll 0 = .ok (.iconst 0, 1) := by decide +kernel
theorem dX12_outAll_1 : decode cX12_outAll 1 = .ok (.istore_n 2, 1) := by decide +kernel
theorem dX12_outAll_2 : decode cX12_outAll 2 = .ok (.iconst 0, 1) := by decide +kernel
theorem dX12_outAll_3 : decode cX12_outAll 3 = .ok (.istore_n 3, 1) := by decide +kernel
theorem dX12_outAll_4 : decode cX12_outAll 4 = .ok (.iload_n 3, 1) := by decide +kernel
theorem dX12_outAll_5 : decode cX12_outAll 5 = .ok (.aload_n 0, 1) := by decide +kernel
theorem dX12_outAll_6 : decode cX12_outAll 6 = .ok (.getfield 13, 3) := by decide +kernel
theorem dX12_outAll_9 : decode cX12_outAll 9 = .ok (.iconst 0, 1) := by decide +kernel
theorem dX12_outAll_10 : decode cX12_outAll 10 = .ok (.iaload, 1) := by decide +kernel
theorem dX12_outAll_11 : decode cX12_outAll 11 = .ok (.if_icmp .ge 26, 3) := by decide +kernel
theorem dX12_outAll_14 : decode cX12_outAll 14 = .ok (.iload_n 2, 1) := by decide +kernel
theorem dX12_outAll_15 : decode cX12_outAll 15 = .ok (.aload_n 0, 1) := by decide +kernel
theorem dX12_outAll_16 : decode cX12_outAll 16 = .ok (.iload_n 1, 1) := by decide +kernel
theorem dX12_outAll_17 : decode cX12_outAll 17 = .ok (.iload_n 3, 1) := by decide +kernel
theorem dX12_outAll_18 : decode cX12_outAll 18 = .ok (.invokevirtual 353, 3) := by decide +kernel
theorem dX12_outAll_21 : decode cX12_outAll 21 = .ok (.ifCond .ne 7, 3) := by decide +kernel
theorem dX12_outAll_24 : decode cX12_outAll 24 = .ok (.iconst 1, 1) := by decide +kernel
theorem dX12_outAll_25 : decode cX12_outAll 25 = .ok (.goto 4, 3) := by decide +kernel
theorem dX12_outAll_28 : decode cX12_outAll 28 = .ok (.iconst 0, 1) := by decide +kernel
theorem dX12_outAll_29 : decode cX12_outAll 29 = .ok (.iadd, 1) := by decide +kernel
theorem dX12_outAll_30 : decode cX12_outAll 30 = .ok (.istore_n 2, 1) := by decide +kernel
theorem dX12_outAll_31 : decode cX12_outAll 31 = .ok (.iinc 3 1, 3) := by decide +kernel
theorem dX12_outAll_34 : decode cX12_outAll 34 = .ok (.goto (-30), 3) := by decide +kernel
theorem dX12_outAll_37 : decode cX12_outAll 37 = .ok (.iload_n 2, 1) := by decide +kernel
theorem dX12_outAll_38 : decode cX12_outAll 38 = .ok (.ireturn, 1) := by decide +kernel
theorem dX12_sumOf_0 : decode cX12_sumOf 0 = .ok (.iconst 0, 1) := by decide +kernel
theorem dX12_sumOf_1 : decode cX12_sumOf 1 = .ok (.istore_n 3, 1) := by decide +kernel
theorem dX12_sumOf_2 : decode cX12_sumOf 2 = .ok (.iconst 0, 1) := by decide +kernel
theorem dX12_sumOf_3 : decode cX12_sumOf 3 = .ok (.istore 4, 2) := by decide +kernel
theorem dX12_sumOf_5 : decode cX12_sumOf 5 = .ok (.iload 4, 2) := by decide +kernel
theorem dX12_sumOf_7 : decode cX12_sumOf 7 = .ok (.aload_n 0, 1) := by decide +kernel
theorem dX12_sumOf_8 : decode cX12_sumOf 8 = .ok (.getfield 13, 3) := by decide +kernel
theorem dX12_sumOf_11 : decode cX12_sumOf 11 = .ok (.iconst 0, 1) := by decide +kernel
theorem dX12_sumOf_12 : decode cX12_sumOf 12 = .ok (.iaload, 1) := by decide +kernel
theorem dX12_sumOf_13 : decode cX12_sumOf 13 = .ok (.if_icmp .ge 30, 3) := by decide +kernel
theorem dX12_sumOf_16 : decode cX12_sumOf 16 = .ok (.iload_n 3, 1) := by decide +kernel
theorem dX12_sumOf_17 : decode cX12_sumOf 17 = .ok (.iload_n 2, 1) := by decide +kernel
theorem dX12_sumOf_18 : decode cX12_sumOf 18 = .ok (.ifCond .eq 13, 3) := by decide +kernel
theorem dX12_sumOf_21 : decode cX12_sumOf 21 = .ok (.aload_n 1, 1) := by decide +kernel
theorem dX12_sumOf_22 : decode cX12_sumOf 22 = .ok (.iload 4, 2) := by decide +kernel
theorem dX12_sumOf_24 : decode cX12_sumOf 24 = .ok (.iaload, 1) := by decide +kernel
theorem dX12_sumOf_25 : decode cX12_sumOf 25 = .ok (.invokestatic 356, 3) := by decide +kernel
theorem dX12_sumOf_28 : decode cX12_sumOf 28 = .ok (.goto 7, 3) := by decide +kernel
theorem dX12_sumOf_31 : decode cX12_sumOf 31 = .ok (.aload_n 1, 1) := by decide +kernel
theorem dX12_sumOf_32 : decode cX12_sumOf 32 = .ok (.iload 4, 2) := by decide +kernel
theorem dX12_sumOf_34 : decode cX12_sumOf 34 = .ok (.iaload, 1) := by decide +kernel
theorem dX12_sumOf_35 : decode cX12_sumOf 35 = .ok (.iadd, 1) := by decide +kernel
theorem dX12_sumOf_36 : decode cX12_sumOf 36 = .ok (.istore_n 3, 1) := by decide +kernel
theorem dX12_sumOf_37 : decode cX12_sumOf 37 = .ok (.iinc 4 1, 3) := by decide +kernel
theorem dX12_sumOf_40 : decode cX12_sumOf 40 = .ok (.goto (-35), 3) := by decide +kernel
theorem dX12_sumOf_43 : decode cX12_sumOf 43 = .ok (.iload_n 3, 1) := by decide +kernel
theorem dX12_sumOf_44 : decode cX12_sumOf 44 = .ok (.ireturn, 1) := by decide +kernel
theorem dX12_man_0 : decode cX12_man 0 = .ok (.aload_n 0, 1) := by decide +kernel
theorem dX12_man_1 : decode cX12_man 1 = .ok (.aload_n 0, 1) := by decide +kernel
theorem dX12_man_2 : decode cX12_man 2 = .ok (.iload_n 1, 1) := by decide +kernel
theorem dX12_man_3 : decode cX12_man 3 = .ok (.invokevirtual 425, 3) := by decide +kernel
theorem dX12_man_6 : decode cX12_man 6 = .ok (.ifCond .ne 7, 3) := by decide +kernel
theorem dX12_man_9 : decode cX12_man 9 = .ok (.iconst 1, 1) := by decide +kernel
theorem dX12_man_10 : decode cX12_man 10 = .ok (.goto 18, 3) := by decide +kernel
theorem dX12_man_13 : decode cX12_man 13 = .ok (.iload_n 2, 1) := by decide +kernel
theorem dX12_man_14 : decode cX12_man 14 = .ok (.ifCond .lt 9, 3) := by decide +kernel
theorem dX12_man_17 : decode cX12_man 17 = .ok (.iload_n 2, 1) := by decide +kernel
theorem dX12_man_18 : decode cX12_man 18 = .ok (.bipush 7, 2) := by decide +kernel
theorem dX12_man_20 : decode cX12_man 20 = .ok (.if_icmp .le 7, 3) := by decide +kernel
theorem dX12_man_23 : decode cX12_man 23 = .ok (.iconst 2, 1) := by decide +kernel
theorem dX12_man_24 : decode cX12_man 24 = .ok (.goto 4, 3) := by decide +kernel
theorem dX12_man_27 : decode cX12_man 27 = .ok (.iconst 0, 1) := by decide +kernel
theorem dX12_man_28 : decode cX12_man 28 = .ok (.putfield 148, 3) := by decide +kernel
theorem dX12_man_31 : decode cX12_man 31 = .ok (.aload_n 0, 1) := by decide +kernel
theorem dX12_man_32 : decode cX12_man 32 = .ok (.getfield 148, 3) := by decide +kernel
theorem dX12_man_35 : decode cX12_man 35 = .ok (.ifCond .eq 5, 3) := by decide +kernel
theorem dX12_man_38 : decode cX12_man 38 = .ok (.iconst 0, 1) := by decide +kernel
theorem dX12_man_39 : decode cX12_man 39 = .ok (.ireturn, 1) := by decide +kernel
theorem dX12_man_40 : decode cX12_man 40 = .ok (.aload_n 0, 1) := by decide +kernel
theorem dX12_man_41 : decode cX12_man 41 = .ok (.iconst 0, 1) := by decide +kernel
theorem dX12_man_42 : decode cX12_man 42 = .ok (.iload_n 1, 1) := by decide +kernel
theorem dX12_man_43 : decode cX12_man 43 = .ok (.invokevirtual 353, 3) := by decide +kernel
theorem dX12_man_46 : decode cX12_man 46 = .ok (.ifCond .ne 7, 3) := by decide +kernel
theorem dX12_man_49 : decode cX12_man 49 = .ok (.iconst 1, 1) := by decide +kernel
theorem dX12_man_50 : decode cX12_man 50 = .ok (.goto 4, 3) := by decide +kernel
theorem dX12_man_53 : decode cX12_man 53 = .ok (.iconst 0, 1) := by decide +kernel
theorem dX12_man_54 : decode cX12_man 54 = .ok (.istore_n 3, 1) := by decide +kernel
theorem dX12_man_55 : decode cX12_man 55 = .ok (.iload_n 2, 1) := by decide +kernel
theorem dX12_man_56 : decode cX12_man 56 = .ok (.tableswitch 132 0 6 #[44, 51, 58, 74, 99, 106, 113], 44) := by decide +kernel
theorem dX12_man_100 : decode cX12_man 100 = .ok (.aload_n 0, 1) := by decide +kernel
theorem dX12_man_101 : decode cX12_man 101 = .ok (.getfield 19, 3) := by decide +kernel
theorem dX12_man_104 : decode cX12_man 104 = .ok (.iload_n 1, 1) := by decide +kernel
theorem dX12_man_105 : decode cX12_man 105 = .ok (.iaload, 1) := by decide +kernel
theorem dX12_man_106 : decode cX12_man 106 = .ok (.ireturn, 1) := by decide +kernel
theorem dX12_man_107 : decode cX12_man 107 = .ok (.aload_n 0, 1) := by decide +kernel
theorem dX12_man_108 : decode cX12_man 108 = .ok (.iconst 0, 1) := by decide +kernel
theorem dX12_man_109 : decode cX12_man 109 = .ok (.iload_n 1, 1) := by decide +kernel
theorem dX12_man_110 : decode cX12_man 110 = .ok (.invokevirtual 353, 3) := by decide +kernel
theorem dX12_man_113 : decode cX12_man 113 = .ok (.ireturn, 1) := by decide +kernel
theorem dX12_man_114 : decode cX12_man 114 = .ok (.iload_n 3, 1) := by decide +kernel
theorem dX12_man_115 : decode cX12_man 115 = .ok (.ifCond .eq 8, 3) := by decide +kernel
theorem dX12_man_118 : decode cX12_man 118 = .ok (.bipush (-2), 2) := by decide +kernel
theorem dX12_man_120 : decode cX12_man 120 = .ok (.goto 9, 3) := by decide +kernel
theorem dX12_man_123 : decode cX12_man 123 = .ok (.aload_n 0, 1) := by decide +kernel
theorem dX12_man_124 : decode cX12_man 124 = .ok (.getfield 87, 3) := by decide +kernel
theorem dX12_man_127 : decode cX12_man 127 = .ok (.iload_n 1, 1) := by decide +kernel
theorem dX12_man_128 : decode cX12_man 128 = .ok (.iaload, 1) := by decide +kernel
theorem dX12_man_129 : decode cX12_man 129 = .ok (.ireturn, 1) := by decide +kernel
theorem dX12_man_130 : decode cX12_man 130 = .ok (.iload_n 3, 1) := by decide +kernel
theorem dX12_man_131 : decode cX12_man 131 = .ok (.ifCond .eq 8, 3) := by decide +kernel
theorem dX12_man_134 : decode cX12_man 134 = .ok (.bipush (-2), 2) := by decide +kernel
theorem dX12_man_136 : decode cX12_man 136 = .ok (.goto 18, 3) := by decide +kernel
theorem dX12_man_139 : decode cX12_man 139 = .ok (.aload_n 0, 1) := by decide +kernel
theorem dX12_man_140 : decode cX12_man 140 = .ok (.getfield 19, 3) := by decide +kernel
theorem dX12_man_143 : decode cX12_man 143 = .ok (.iload_n 1, 1) := by decide +kernel
theorem dX12_man_144 : decode cX12_man 144 = .ok (.iaload, 1) := by decide +kernel
theorem dX12_man_145 : decode cX12_man 145 = .ok (.aload_n 0, 1) := by decide +kernel
theorem dX12_man_146 : decode cX12_man 146 = .ok (.getfield 90, 3) := by decide +kernel
theorem dX12_man_149 : decode cX12_man 149 = .ok (.iload_n 1, 1) := by decide +kernel
theorem dX12_man_150 : decode cX12_man 150 = .ok (.iaload, 1) := by decide +kernel
theorem dX12_man_151 : decode cX12_man 151 = .ok (.isub, 1) := by decide +kernel
theorem dX12_man_152 : decode cX12_man 152 = .ok (.iconst 1, 1) := by decide +kernel
theorem dX12_man_153 : decode cX12_man 153 = .ok (.isub, 1) := by decide +kernel
theorem dX12_man_154 : decode cX12_man 154 = .ok (.ireturn, 1) := by decide +kernel
theorem dX12_man_155 : decode cX12_man 155 = .ok (.aload_n 0, 1) := by decide +kernel
theorem dX12_man_156 : decode cX12_man 156 = .ok (.getfield 93, 3) := by decide +kernel
theorem dX12_man_159 : decode cX12_man 159 = .ok (.iload_n 1, 1) := by decide +kernel
theorem dX12_man_160 : decode cX12_man 160 = .ok (.iaload, 1) := by decide +kernel
theorem dX12_man_161 : decode cX12_man 161 = .ok (.ireturn, 1) := by decide +kernel
theorem dX12_man_162 : decode cX12_man 162 = .ok (.aload_n 0, 1) := by decide +kernel
theorem dX12_man_163 : decode cX12_man 163 = .ok (.iconst 0, 1) := by decide +kernel
theorem dX12_man_164 : decode cX12_man 164 = .ok (.iload_n 1, 1) := by decide +kernel
theorem dX12_man_165 : decode cX12_man 165 = .ok (.invokevirtual 359, 3) := by decide +kernel
theorem dX12_man_168 : decode cX12_man 168 = .ok (.ireturn, 1) := by decide +kernel
theorem dX12_man_169 : decode cX12_man 169 = .ok (.aload_n 0, 1) := by decide +kernel
theorem dX12_man_170 : decode cX12_man 170 = .ok (.iload_n 1, 1) := by decide +kernel
theorem dX12_man_171 : decode cX12_man 171 = .ok (.aload_n 0, 1) := by decide +kernel
theorem dX12_man_172 : decode cX12_man 172 = .ok (.iconst 0, 1) := by decide +kernel
theorem dX12_man_173 : decode cX12_man 173 = .ok (.invokevirtual 410, 3) := by decide +kernel
theorem dX12_man_176 : decode cX12_man 176 = .ok (.invokevirtual 413, 3) := by decide +kernel
theorem dX12_man_179 : decode cX12_man 179 = .ok (.ifCond .eq 7, 3) := by decide +kernel
theorem dX12_man_182 : decode cX12_man 182 = .ok (.iconst 1, 1) := by decide +kernel
theorem dX12_man_183 : decode cX12_man 183 = .ok (.goto 4, 3) := by decide +kernel
theorem dX12_man_186 : decode cX12_man 186 = .ok (.iconst 0, 1) := by decide +kernel
theorem dX12_man_187 : decode cX12_man 187 = .ok (.ireturn, 1) := by decide +kernel
theorem dX12_man_188 : decode cX12_man 188 = .ok (.aload_n 0, 1) := by decide +kernel
theorem dX12_man_189 : decode cX12_man 189 = .ok (.getfield 96, 3) := by decide +kernel
theorem dX12_man_192 : decode cX12_man 192 = .ok (.iload_n 1, 1) := by decide +kernel
theorem dX12_man_193 : decode cX12_man 193 = .ok (.iaload, 1) := by decide +kernel
theorem dX12_man_194 : decode cX12_man 194 = .ok (.ireturn, 1) := by decide +kernel
theorem dX12_isInch_0 : decode cX12_isInch 0 = .ok (.iload_n 0, 1) := by decide +kernel
theorem dX12_isInch_1 : decode cX12_isInch 1 = .ok (.ifCond .lt 13, 3) := by decide +kernel
theorem dX12_isInch_4 : decode cX12_isInch 4 = .ok (.iload_n 0, 1) := by decide +kernel
theorem dX12_isInch_5 : decode cX12_isInch 5 = .ok (.bipush 60, 2) := by decide +kernel
theorem dX12_isInch_7 : decode cX12_isInch 7 = .ok (.if_icmp .ge 7, 3) := by decide +kernel
theorem dX12_isInch_10 : decode cX12_isInch 10 = .ok (.iconst 1, 1) := by decide +kernel
theorem dX12_isInch_11 : decode cX12_isInch 11 = .ok (.goto 4, 3) := by decide +kernel
theorem dX12_isInch_14 : decode cX12_isInch 14 = .ok (.iconst 0, 1) := by decide +kernel
theorem dX12_isInch_15 : decode cX12_isInch 15 = .ok (.ireturn, 1) := by decide +kernel
theorem dX12_june_0 : decode cX12_june 0 = .ok (.aload_n 0, 1) := by decide +kernel
theorem dX12_june_1 : decode cX12_june 1 = .ok (.iconst 0, 1) := by decide +kernel
theorem dX12_june_2 : decode cX12_june 2 = .ok (.putfield 148, 3) := by decide +kernel
theorem dX12_june_5 : decode cX12_june 5 = .ok (.aload_n 0, 1) := by decide +kernel
theorem dX12_june_6 : decode cX12_june 6 = .ok (.iload_n 1, 1) := by decide +kernel
theorem dX12_june_7 : decode cX12_june 7 = .ok (.invokevirtual 425, 3) := by decide +kernel
theorem dX12_june_10 : decode cX12_june 10 = .ok (.ifCond .eq 10, 3) := by decide +kernel
theorem dX12_june_13 : decode cX12_june 13 = .ok (.iload_n 2, 1) := by decide +kernel
theorem dX12_june_14 : decode cX12_june 14 = .ok (.invokestatic 428, 3) := by decide +kernel
theorem dX12_june_17 : decode cX12_june 17 = .ok (.ifCond .ne 5, 3) := by decide +kernel
theorem dX12_june_20 : decode cX12_june 20 = .ok (.iconst (-1), 1) := by decide +kernel
theorem dX12_june_21 : decode cX12_june 21 = .ok (.ireturn, 1) := by decide +kernel
theorem dX12_june_22 : decode cX12_june 22 = .ok (.aload_n 0, 1) := by decide +kernel
theorem dX12_june_23 : decode cX12_june 23 = .ok (.iload_n 1, 1) := by decide +kernel
theorem dX12_june_24 : decode cX12_june 24 = .ok (.iload_n 2, 1) := by decide +kernel
theorem dX12_june_25 : decode cX12_june 25 = .ok (.invokevirtual 431, 3) := by decide +kernel
theorem dX12_june_28 : decode cX12_june 28 = .ok (.ifCond .ne 7, 3) := by decide +kernel
theorem dX12_june_31 : decode cX12_june 31 = .ok (.iconst 0, 1) := by decide +kernel
theorem dX12_june_32 : decode cX12_june 32 = .ok (.goto 18, 3) := by decide +kernel
theorem dX12_june_35 : decode cX12_june 35 = .ok (.aload_n 0, 1) := by decide +kernel
theorem dX12_june_36 : decode cX12_june 36 = .ok (.iconst 0, 1) := by decide +kernel
theorem dX12_june_37 : decode cX12_june 37 = .ok (.iload_n 1, 1) := by decide +kernel
theorem dX12_june_38 : decode cX12_june 38 = .ok (.iload_n 2, 1) := by decide +kernel
theorem dX12_june_39 : decode cX12_june 39 = .ok (.invokevirtual 346, 3) := by decide +kernel
theorem dX12_june_42 : decode cX12_june 42 = .ok (.ifCond .eq 7, 3) := by decide +kernel
theorem dX12_june_45 : decode cX12_june 45 = .ok (.iconst 2, 1) := by decide +kernel
theorem dX12_june_46 : decode cX12_june 46 = .ok (.goto 4, 3) := by decide +kernel
theorem dX12_june_49 : decode cX12_june 49 = .ok (.iconst 1, 1) := by decide +kernel
theorem dX12_june_50 : decode cX12_june 50 = .ok (.ireturn, 1) := by decide +kernel
theorem dX12_lenders_0 : decode cX12_lenders 0 = .ok (.aload_n 0, 1) := by decide +kernel
theorem dX12_lenders_1 : decode cX12_lenders 1 = .ok (.iconst 0, 1) := by decide +kernel
theorem dX12_lenders_2 : decode cX12_lenders 2 = .ok (.putfield 148, 3) := by decide +kernel
theorem dX12_lenders_5 : decode cX12_lenders 5 = .ok (.aload_n 0, 1) := by decide +kernel
theorem dX12_lenders_6 : decode cX12_lenders 6 = .ok (.iload_n 1, 1) := by decide +kernel
theorem dX12_lenders_7 : decode cX12_lenders 7 = .ok (.invokevirtual 425, 3) := by decide +kernel
theorem dX12_lenders_10 : decode cX12_lenders 10 = .ok (.ifCond .eq 11, 3) := by decide +kernel
theorem dX12_lenders_13 : decode cX12_lenders 13 = .ok (.aload_n 0, 1) := by decide +kernel
theorem dX12_lenders_14 : decode cX12_lenders 14 = .ok (.iload_n 1, 1) := by decide +kernel
theorem dX12_lenders_15 : decode cX12_lenders 15 = .ok (.invokevirtual 350, 3) := by decide +kernel
theorem dX12_lenders_18 : decode cX12_lenders 18 = .ok (.goto 4, 3) := by decide +kernel
theorem dX12_lenders_21 : decode cX12_lenders 21 = .ok (.iconst (-1), 1) := by decide +kernel
theorem dX12_lenders_22 : decode cX12_lenders 22 = .ok (.ireturn, 1) := by decide +kernel
theorem dX12_recall_0 : decode cX12_recall 0 = .ok (.aload_n 0, 1) := by decide +kernel
theorem dX12_recall_1 : decode cX12_recall 1 = .ok (.iconst 0, 1) := by decide +kernel
theorem dX12_recall_2 : decode cX12_recall 2 = .ok (.putfield 148, 3) := by decide +kernel
theorem dX12_recall_5 : decode cX12_recall 5 = .ok (.aload_n 0, 1) := by decide +kernel
theorem dX12_recall_6 : decode cX12_recall 6 = .ok (.iload_n 1, 1) := by decide +kernel
theorem dX12_recall_7 : decode cX12_recall 7 = .ok (.invokevirtual 425, 3) := by decide +kernel
theorem dX12_recall_10 : decode cX12_recall 10 = .ok (.ifCond .eq 12, 3) := by decide +kernel
theorem dX12_recall_13 : decode cX12_recall 13 = .ok (.aload_n 0, 1) := by decide +kernel
theorem dX12_recall_14 : decode cX12_recall 14 = .ok (.iconst 0, 1) := by decide +kernel
theorem dX12_recall_15 : decode cX12_recall 15 = .ok (.iload_n 1, 1) := by decide +kernel
theorem dX12_recall_16 : decode cX12_recall 16 = .ok (.invokevirtual 434, 3) := by decide +kernel
theorem dX12_recall_19 : decode cX12_recall 19 = .ok (.goto 4, 3) := by decide +kernel
theorem dX12_recall_22 : decode cX12_recall 22 = .ok (.iconst (-1), 1) := by decide +kernel
theorem dX12_recall_23 : decode cX12_recall 23 = .ok (.ireturn, 1) := by decide +kernel
theorem dX12_law_0 : decode cX12_law 0 = .ok (.aload_n 0, 1) := by decide +kernel
theorem dX12_law_1 : decode cX12_law 1 = .ok (.iconst 0, 1) := by decide +kernel
theorem dX12_law_2 : decode cX12_law 2 = .ok (.putfield 148, 3) := by decide +kernel
theorem dX12_law_5 : decode cX12_law 5 = .ok (.iload_n 1, 1) := by decide +kernel
theorem dX12_law_6 : decode cX12_law 6 = .ok (.ifCond .lt 24, 3) := by decide +kernel
theorem dX12_law_9 : decode cX12_law 9 = .ok (.iload_n 1, 1) := by decide +kernel
theorem dX12_law_10 : decode cX12_law 10 = .ok (.iconst 2, 1) := by decide +kernel
theorem dX12_law_11 : decode cX12_law 11 = .ok (.if_icmp .gt 19, 3) := by decide +kernel
theorem dX12_law_14 : decode cX12_law 14 = .ok (.aload_n 0, 1) := by decide +kernel
theorem dX12_law_15 : decode cX12_law 15 = .ok (.iload_n 1, 1) := by decide +kernel
theorem dX12_law_16 : decode cX12_law 16 = .ok (.invokevirtual 362, 3) := by decide +kernel
theorem dX12_law_19 : decode cX12_law 19 = .ok (.ifCond .eq 11, 3) := by decide +kernel
theorem dX12_law_22 : decode cX12_law 22 = .ok (.aload_n 0, 1) := by decide +kernel
theorem dX12_law_23 : decode cX12_law 23 = .ok (.iload_n 2, 1) := by decide +kernel
theorem dX12_law_24 : decode cX12_law 24 = .ok (.invokevirtual 425, 3) := by decide +kernel
theorem dX12_law_27 : decode cX12_law 27 = .ok (.ifCond .ne 7, 3) := by decide +kernel
theorem dX12_law_30 : decode cX12_law 30 = .ok (.ldc2_w 439, 3) := by decide +kernel
theorem dX12_law_33 : decode cX12_law 33 = .ok (.lreturn, 1) := by decide +kernel
theorem dX12_law_34 : decode cX12_law 34 = .ok (.aload_n 0, 1) := by decide +kernel
theorem dX12_law_35 : decode cX12_law 35 = .ok (.iconst 0, 1) := by decide +kernel
theorem dX12_law_36 : decode cX12_law 36 = .ok (.iload_n 2, 1) := by decide +kernel
theorem dX12_law_37 : decode cX12_law 37 = .ok (.aload_n 0, 1) := by decide +kernel
theorem dX12_law_38 : decode cX12_law 38 = .ok (.invokevirtual 378, 3) := by decide +kernel
theorem dX12_law_41 : decode cX12_law 41 = .ok (.invokevirtual 382, 3) := by decide +kernel
theorem dX12_law_44 : decode cX12_law 44 = .ok (.aload_n 0, 1) := by decide +kernel
theorem dX12_law_45 : decode cX12_law 45 = .ok (.iload_n 1, 1) := by decide +kernel
theorem dX12_law_46 : decode cX12_law 46 = .ok (.invokevirtual 365, 3) := by decide +kernel
theorem dX12_law_49 : decode cX12_law 49 = .ok (.ifCond .eq 12, 3) := by decide +kernel
theorem dX12_law_52 : decode cX12_law 52 = .ok (.aload_n 0, 1) := by decide +kernel
theorem dX12_law_53 : decode cX12_law 53 = .ok (.getfield 72, 3) := by decide +kernel
theorem dX12_law_56 : decode cX12_law 56 = .ok (.iconst 0, 1) := by decide +kernel
theorem dX12_law_57 : decode cX12_law 57 = .ok (.laload, 1) := by decide +kernel
theorem dX12_law_58 : decode cX12_law 58 = .ok (.goto 6, 3) := by decide +kernel
theorem dX12_law_61 : decode cX12_law 61 = .ok (.ldc2_w 439, 3) := by decide +kernel
theorem dX12_law_64 : decode cX12_law 64 = .ok (.lreturn, 1) := by decide +kernel
theorem dX12_keepNow_0 : decode cX12_keepNow 0 = .ok (.aload_n 0, 1) := by decide +kernel
theorem dX12_keepNow_1 : decode cX12_keepNow 1 = .ok (.getfield 314, 3) := by decide +kernel
theorem dX12_keepNow_4 : decode cX12_keepNow 4 = .ok (.bipush 20, 2) := by decide +kernel
theorem dX12_keepNow_6 : decode cX12_keepNow 6 = .ok (.if_icmp .ne 39, 3) := by decide +kernel
theorem dX12_keepNow_9 : decode cX12_keepNow 9 = .ok (.iconst 1, 1) := by decide +kernel
theorem dX12_keepNow_10 : decode cX12_keepNow 10 = .ok (.istore_n 1, 1) := by decide +kernel
theorem dX12_keepNow_11 : decode cX12_keepNow 11 = .ok (.iload_n 1, 1) := by decide +kernel
theorem dX12_keepNow_12 : decode cX12_keepNow 12 = .ok (.bipush 20, 2) := by decide +kernel
theorem dX12_keepNow_14 : decode cX12_keepNow 14 = .ok (.if_icmp .ge 21, 3) := by decide +kernel
theorem dX12_keepNow_17 : decode cX12_keepNow 17 = .ok (.aload_n 0, 1) := by decide +kernel
theorem dX12_keepNow_18 : decode cX12_keepNow 18 = .ok (.iconst 3, 1) := by decide +kernel
theorem dX12_keepNow_19 : decode cX12_keepNow 19 = .ok (.iload_n 1, 1) := by decide +kernel
theorem dX12_keepNow_20 : decode cX12_keepNow 20 = .ok (.iadd, 1) := by decide +kernel
theorem dX12_keepNow_21 : decode cX12_keepNow 21 = .ok (.iconst 1, 1) := by decide +kernel
theorem dX12_keepNow_22 : decode cX12_keepNow 22 = .ok (.isub, 1) := by decide +kernel
theorem dX12_keepNow_23 : decode cX12_keepNow 23 = .ok (.iconst 3, 1) := by decide +kernel
theorem dX12_keepNow_24 : decode cX12_keepNow 24 = .ok (.iload_n 1, 1) := by decide +kernel
theorem dX12_keepNow_25 : decode cX12_keepNow 25 = .ok (.iadd, 1) := by decide +kernel
theorem dX12_keepNow_26 : decode cX12_keepNow 26 = .ok (.invokevirtual 441, 3) := by decide +kernel
theorem dX12_keepNow_29 : decode cX12_keepNow 29 = .ok (.iinc 1 1, 3) := by decide +kernel
theorem dX12_keepNow_32 : decode cX12_keepNow 32 = .ok (.goto (-21), 3) := by decide +kernel
theorem dX12_keepNow_35 : decode cX12_keepNow 35 = .ok (.aload_n 0, 1) := by decide +kernel
theorem dX12_keepNow_36 : decode cX12_keepNow 36 = .ok (.dup, 1) := by decide +kernel
theorem dX12_keepNow_37 : decode cX12_keepNow 37 = .ok (.getfield 314, 3) := by decide +kernel
theorem dX12_keepNow_40 : decode cX12_keepNow 40 = .ok (.iconst 1, 1) := by decide +kernel
theorem dX12_keepNow_41 : decode cX12_keepNow 41 = .ok (.isub, 1) := by decide +kernel
theorem dX12_keepNow_42 : decode cX12_keepNow 42 = .ok (.putfield 314, 3) := by decide +kernel
theorem dX12_keepNow_45 : decode cX12_keepNow 45 = .ok (.aload_n 0, 1) := by decide +kernel
theorem dX12_keepNow_46 : decode cX12_keepNow 46 = .ok (.iconst 3, 1) := by decide +kernel
theorem dX12_keepNow_47 : decode cX12_keepNow 47 = .ok (.aload_n 0, 1) := by decide +kernel
theorem dX12_keepNow_48 : decode cX12_keepNow 48 = .ok (.getfield 314, 3) := by decide +kernel
theorem dX12_keepNow_51 : decode cX12_keepNow 51 = .ok (.iadd, 1) := by decide +kernel
theorem dX12_keepNow_52 : decode cX12_keepNow 52 = .ok (.iconst 0, 1) := by decide +kernel
theorem dX12_keepNow_53 : decode cX12_keepNow 53 = .ok (.invokevirtual 441, 3) := by decide +kernel
theorem dX12_keepNow_56 : decode cX12_keepNow 56 = .ok (.aload_n 0, 1) := by decide +kernel
theorem dX12_keepNow_57 : decode cX12_keepNow 57 = .ok (.dup, 1) := by decide +kernel
theorem dX12_keepNow_58 : decode cX12_keepNow 58 = .ok (.getfield 314, 3) := by decide +kernel
theorem dX12_keepNow_61 : decode cX12_keepNow 61 = .ok (.iconst 1, 1) := by decide +kernel
theorem dX12_keepNow_62 : decode cX12_keepNow 62 = .ok (.iadd, 1) := by decide +kernel
theorem dX12_keepNow_63 : decode cX12_keepNow 63 = .ok (.putfield 314, 3) := by decide +kernel
theorem dX12_keepNow_66 : decode cX12_keepNow 66 = .ok (.return_, 1) := by decide +kernel
theorem dX12_isEnd_0 : decode cX12_isEnd 0 = .ok (.aload_n 0, 1) := by decide +kernel
theorem dX12_isEnd_1 : decode cX12_isEnd 1 = .ok (.iload_n 1, 1) := by decide +kernel
theorem dX12_isEnd_2 : decode cX12_isEnd 2 = .ok (.invokevirtual 425, 3) := by decide +kernel
theorem dX12_isEnd_5 : decode cX12_isEnd 5 = .ok (.ifCond .eq 16, 3) := by decide +kernel
theorem dX12_isEnd_8 : decode cX12_isEnd 8 = .ok (.iload_n 2, 1) := by decide +kernel
theorem dX12_isEnd_9 : decode cX12_isEnd 9 = .ok (.ifCond .eq 8, 3) := by decide +kernel
theorem dX12_isEnd_12 : decode cX12_isEnd 12 = .ok (.iload_n 2, 1) := by decide +kernel
theorem dX12_isEnd_13 : decode cX12_isEnd 13 = .ok (.iconst 1, 1) := by decide +kernel
theorem dX12_isEnd_14 : decode cX12_isEnd 14 = .ok (.if_icmp .ne 7, 3) := by decide +kernel
theorem dX12_isEnd_17 : decode cX12_isEnd 17 = .ok (.iconst 1, 1) := by decide +kernel
theorem dX12_isEnd_18 : decode cX12_isEnd 18 = .ok (.goto 4, 3) := by decide +kernel
theorem dX12_isEnd_21 : decode cX12_isEnd 21 = .ok (.iconst 0, 1) := by decide +kernel
theorem dX12_isEnd_22 : decode cX12_isEnd 22 = .ok (.ireturn, 1) := by decide +kernel
theorem dX12_light_0 : decode cX12_light 0 = .ok (.aload_n 0, 1) := by decide +kernel
theorem dX12_light_1 : decode cX12_light 1 = .ok (.iconst 0, 1) := by decide +kernel
theorem dX12_light_2 : decode cX12_light 2 = .ok (.putfield 148, 3) := by decide +kernel
theorem dX12_light_5 : decode cX12_light 5 = .ok (.aload_n 0, 1) := by decide +kernel
theorem dX12_light_6 : decode cX12_light 6 = .ok (.iload_n 1, 1) := by decide +kernel
theorem dX12_light_7 : decode cX12_light 7 = .ok (.iload_n 2, 1) := by decide +kernel
theorem dX12_light_8 : decode cX12_light 8 = .ok (.invokevirtual 444, 3) := by decide +kernel
theorem dX12_light_11 : decode cX12_light 11 = .ok (.ifCond .eq 26, 3) := by decide +kernel
theorem dX12_light_14 : decode cX12_light 14 = .ok (.aload_n 0, 1) := by decide +kernel
theorem dX12_light_15 : decode cX12_light 15 = .ok (.getfield 93, 3) := by decide +kernel
theorem dX12_light_18 : decode cX12_light 18 = .ok (.iload_n 1, 1) := by decide +kernel
theorem dX12_light_19 : decode cX12_light 19 = .ok (.iaload, 1) := by decide +kernel
theorem dX12_light_20 : decode cX12_light 20 = .ok (.iload_n 2, 1) := by decide +kernel
theorem dX12_light_21 : decode cX12_light 21 = .ok (.ishr, 1) := by decide +kernel
theorem dX12_light_22 : decode cX12_light 22 = .ok (.iconst 1, 1) := by decide +kernel
theorem dX12_light_23 : decode cX12_light 23 = .ok (.iand, 1) := by decide +kernel
theorem dX12_light_24 : decode cX12_light 24 = .ok (.iconst 1, 1) := by decide +kernel
theorem dX12_light_25 : decode cX12_light 25 = .ok (.if_icmp .eq 12, 3) := by decide +kernel
theorem dX12_light_28 : decode cX12_light 28 = .ok (.aload_n 0, 1) := by decide +kernel
theorem dX12_light_29 : decode cX12_light 29 = .ok (.iconst 0, 1) := by decide +kernel
theorem dX12_light_30 : decode cX12_light 30 = .ok (.iload_n 1, 1) := by decide +kernel
theorem dX12_light_31 : decode cX12_light 31 = .ok (.invokevirtual 353, 3) := by decide +kernel
theorem dX12_light_34 : decode cX12_light 34 = .ok (.ifCond .ne 5, 3) := by decide +kernel
theorem dX12_light_37 : decode cX12_light 37 = .ok (.iconst 0, 1) := by decide +kernel
theorem dX12_light_38 : decode cX12_light 38 = .ok (.ireturn, 1) := by decide +kernel
theorem dX12_light_39 : decode cX12_light 39 = .ok (.aload_n 0, 1) := by decide +kernel
theorem dX12_light_40 : decode cX12_light 40 = .ok (.invokevirtual 447, 3) := by decide +kernel
theorem dX12_light_43 : decode cX12_light 43 = .ok (.aload_n 0, 1) := by decide +kernel
theorem dX12_light_44 : decode cX12_light 44 = .ok (.iconst 0, 1) := by decide +kernel
theorem dX12_light_45 : decode cX12_light 45 = .ok (.iload_n 1, 1) := by decide +kernel
theorem dX12_light_46 : decode cX12_light 46 = .ok (.iload_n 2, 1) := by decide +kernel
theorem dX12_light_47 : decode cX12_light 47 = .ok (.invokevirtual 400, 3) := by decide +kernel
theorem dX12_light_50 : decode cX12_light 50 = .ok (.ireturn, 1) := by decide +kernel
theorem dX12_blow_0 : decode cX12_blow 0 = .ok (.aload_n 0, 1) := by decide +kernel
theorem dX12_blow_1 : decode cX12_blow 1 = .ok (.iconst 0, 1) := by decide +kernel
theorem dX12_blow_2 : decode cX12_blow 2 = .ok (.putfield 148, 3) := by decide +kernel
theorem dX12_blow_5 : decode cX12_blow 5 = .ok (.aload_n 0, 1) := by decide +kernel
theorem dX12_blow_6 : decode cX12_blow 6 = .ok (.iload_n 1, 1) := by decide +kernel
theorem dX12_blow_7 : decode cX12_blow 7 = .ok (.iload_n 2, 1) := by decide +kernel
theorem dX12_blow_8 : decode cX12_blow 8 = .ok (.invokevirtual 444, 3) := by decide +kernel
theorem dX12_blow_11 : decode cX12_blow 11 = .ok (.ifCond .eq 16, 3) := by decide +kernel
theorem dX12_blow_14 : decode cX12_blow 14 = .ok (.aload_n 0, 1) := by decide +kernel
theorem dX12_blow_15 : decode cX12_blow 15 = .ok (.getfield 93, 3) := by decide +kernel
theorem dX12_blow_18 : decode cX12_blow 18 = .ok (.iload_n 1, 1) := by decide +kernel
theorem dX12_blow_19 : decode cX12_blow 19 = .ok (.iaload, 1) := by decide +kernel
theorem dX12_blow_20 : decode cX12_blow 20 = .ok (.iload_n 2, 1) := by decide +kernel
theorem dX12_blow_21 : decode cX12_blow 21 = .ok (.ishr, 1) := by decide +kernel
theorem dX12_blow_22 : decode cX12_blow 22 = .ok (.iconst 1, 1) := by decide +kernel
theorem dX12_blow_23 : decode cX12_blow 23 = .ok (.iand, 1) := by decide +kernel
theorem dX12_blow_24 : decode cX12_blow 24 = .ok (.ifCond .ne 5, 3) := by decide +kernel
theorem dX12_blow_27 : decode cX12_blow 27 = .ok (.iconst 0, 1) := by decide +kernel
theorem dX12_blow_28 : decode cX12_blow 28 = .ok (.ireturn, 1) := by decide +kernel
theorem dX12_blow_29 : decode cX12_blow 29 = .ok (.aload_n 0, 1) := by decide +kernel
theorem dX12_blow_30 : decode cX12_blow 30 = .ok (.invokevirtual 447, 3) := by decide +kernel
theorem dX12_blow_33 : decode cX12_blow 33 = .ok (.aload_n 0, 1) := by decide +kernel
theorem dX12_blow_34 : decode cX12_blow 34 = .ok (.iconst 0, 1) := by decide +kernel
theorem dX12_blow_35 : decode cX12_blow 35 = .ok (.iload_n 1, 1) := by decide +kernel
theorem dX12_blow_36 : decode cX12_blow 36 = .ok (.iload_n 2, 1) := by decide +kernel
theorem dX12_blow_37 : decode cX12_blow 37 = .ok (.invokevirtual 403, 3) := by decide +kernel
theorem dX12_blow_40 : decode cX12_blow 40 = .ok (.ireturn, 1) := by decide +kernel
theorem dX12_cut_0 : decode cX12_cut 0 = .ok (.aload_n 0, 1) := by decide +kernel
theorem dX12_cut_1 : decode cX12_cut 1 = .ok (.iconst 0, 1) := by decide +kernel
theorem dX12_cut_2 : decode cX12_cut 2 = .ok (.putfield 148, 3) := by decide +kernel
theorem dX12_cut_5 : decode cX12_cut 5 = .ok (.aload_n 0, 1) := by decide +kernel
theorem dX12_cut_6 : decode cX12_cut 6 = .ok (.iload_n 1, 1) := by decide +kernel
theorem dX12_cut_7 : decode cX12_cut 7 = .ok (.iload_n 2, 1) := by decide +kernel
theorem dX12_cut_8 : decode cX12_cut 8 = .ok (.invokevirtual 444, 3) := by decide +kernel
theorem dX12_cut_11 : decode cX12_cut 11 = .ok (.ifCond .eq 14, 3) := by decide +kernel
theorem dX12_cut_14 : decode cX12_cut 14 = .ok (.iload_n 3, 1) := by decide +kernel
theorem dX12_cut_15 : decode cX12_cut 15 = .ok (.iconst 1, 1) := by decide +kernel
theorem dX12_cut_16 : decode cX12_cut 16 = .ok (.if_icmp .lt 9, 3) := by decide +kernel
theorem dX12_cut_19 : decode cX12_cut 19 = .ok (.iload_n 3, 1) := by decide +kernel
theorem dX12_cut_20 : decode cX12_cut 20 = .ok (.bipush 60, 2) := by decide +kernel
theorem dX12_cut_22 : decode cX12_cut 22 = .ok (.if_icmp .le 5, 3) := by decide +kernel
theorem dX12_cut_25 : decode cX12_cut 25 = .ok (.iconst (-1), 1) := by decide +kernel
theorem dX12_cut_26 : decode cX12_cut 26 = .ok (.ireturn, 1) := by decide +kernel
theorem dX12_cut_27 : decode cX12_cut 27 = .ok (.iload_n 3, 1) := by decide +kernel
theorem dX12_cut_28 : decode cX12_cut 28 = .ok (.aload_n 0, 1) := by decide +kernel
theorem dX12_cut_29 : decode cX12_cut 29 = .ok (.iconst 0, 1) := by decide +kernel
theorem dX12_cut_30 : decode cX12_cut 30 = .ok (.iload_n 1, 1) := by decide +kernel
theorem dX12_cut_31 : decode cX12_cut 31 = .ok (.invokevirtual 353, 3) := by decide +kernel
theorem dX12_cut_34 : decode cX12_cut 34 = .ok (.if_icmp .le 6, 3) := by decide +kernel
theorem dX12_cut_37 : decode cX12_cut 37 = .ok (.bipush (-2), 2) := by decide +kernel
theorem dX12_cut_39 : decode cX12_cut 39 = .ok (.ireturn, 1) := by decide +kernel
theorem dX12_cut_40 : decode cX12_cut 40 = .ok (.aload_n 0, 1) := by decide +kernel
theorem dX12_cut_41 : decode cX12_cut 41 = .ok (.invokevirtual 447, 3) := by decide +kernel
theorem dX12_cut_44 : decode cX12_cut 44 = .ok (.aload_n 0, 1) := by decide +kernel
theorem dX12_cut_45 : decode cX12_cut 45 = .ok (.iconst 0, 1) := by decide +kernel
theorem dX12_cut_46 : decode cX12_cut 46 = .ok (.iload_n 1, 1) := by decide +kernel
theorem dX12_cut_47 : decode cX12_cut 47 = .ok (.iload_n 2, 1) := by decide +kernel
theorem dX12_cut_48 : decode cX12_cut 48 = .ok (.iload_n 3, 1) := by decide +kernel
theorem dX12_cut_49 : decode cX12_cut 49 = .ok (.invokevirtual 392, 3) := by decide +kernel
theorem dX12_cut_52 : decode cX12_cut 52 = .ok (.aload_n 0, 1) := by decide +kernel
theorem dX12_cut_53 : decode cX12_cut 53 = .ok (.iconst 0, 1) := by decide +kernel
theorem dX12_cut_54 : decode cX12_cut 54 = .ok (.iload_n 1, 1) := by decide +kernel
theorem dX12_cut_55 : decode cX12_cut 55 = .ok (.invokevirtual 353, 3) := by decide +kernel
theorem dX12_cut_58 : decode cX12_cut 58 = .ok (.ireturn, 1) := by decide +kernel
theorem dX12_go_0 : decode cX12_go 0 = .ok (.aload_n 0, 1) := by decide +kernel
theorem dX12_go_1 : decode cX12_go 1 = .ok (.iconst 0, 1) := by decide +kernel
theorem dX12_go_2 : decode cX12_go 2 = .ok (.putfield 148, 3) := by decide +kernel
theorem dX12_go_5 : decode cX12_go 5 = .ok (.iload_n 1, 1) := by decide +kernel
theorem dX12_go_6 : decode cX12_go 6 = .ok (.ifCond .lt 24, 3) := by decide +kernel
theorem dX12_go_9 : decode cX12_go 9 = .ok (.iload_n 1, 1) := by decide +kernel
theorem dX12_go_10 : decode cX12_go 10 = .ok (.sipush 200, 3) := by decide +kernel
theorem dX12_go_13 : decode cX12_go 13 = .ok (.if_icmp .gt 17, 3) := by decide +kernel
theorem dX12_go_16 : decode cX12_go 16 = .ok (.aload_n 0, 1) := by decide +kernel
theorem dX12_go_17 : decode cX12_go 17 = .ok (.getfield 75, 3) := by decide +kernel
theorem dX12_go_20 : decode cX12_go 20 = .ok (.iconst 0, 1) := by decide +kernel
theorem dX12_go_21 : decode cX12_go 21 = .ok (.iaload, 1) := by decide +kernel
theorem dX12_go_22 : decode cX12_go 22 = .ok (.iload_n 1, 1) := by decide +kernel
theorem dX12_go_23 : decode cX12_go 23 = .ok (.iadd, 1) := by decide +kernel
theorem dX12_go_24 : decode cX12_go 24 = .ok (.sipush 9800, 3) := by decide +kernel
theorem dX12_go_27 : decode cX12_go 27 = .ok (.if_icmp .le 5, 3) := by decide +kernel
theorem dX12_go_30 : decode cX12_go 30 = .ok (.iconst (-1), 1) := by decide +kernel
theorem dX12_go_31 : decode cX12_go 31 = .ok (.ireturn, 1) := by decide +kernel
theorem dX12_go_32 : decode cX12_go 32 = .ok (.iload_n 1, 1) := by decide +kernel
theorem dX12_go_33 : decode cX12_go 33 = .ok (.ifCond .le 8, 3) := by decide +kernel
theorem dX12_go_36 : decode cX12_go 36 = .ok (.aload_n 0, 1) := by decide +kernel
theorem dX12_go_37 : decode cX12_go 37 = .ok (.iconst 0, 1) := by decide +kernel
theorem dX12_go_38 : decode cX12_go 38 = .ok (.putfield 314, 3) := by decide +kernel
theorem dX12_go_41 : decode cX12_go 41 = .ok (.iconst 0, 1) := by decide +kernel
theorem dX12_go_42 : decode cX12_go 42 = .ok (.istore_n 2, 1) := by decide +kernel
theorem dX12_go_43 : decode cX12_go 43 = .ok (.iload_n 2, 1) := by decide +kernel
theorem dX12_go_44 : decode cX12_go 44 = .ok (.iload_n 1, 1) := by decide +kernel
theorem dX12_go_45 : decode cX12_go 45 = .ok (.if_icmp .ge 15, 3) := by decide +kernel
theorem dX12_go_48 : decode cX12_go 48 = .ok (.aload_n 0, 1) := by decide +kernel
theorem dX12_go_49 : decode cX12_go 49 = .ok (.iconst 0, 1) := by decide +kernel
theorem dX12_go_50 : decode cX12_go 50 = .ok (.iconst 1, 1) := by decide +kernel
theorem dX12_go_51 : decode cX12_go 51 = .ok (.invokevirtual 421, 3) := by decide +kernel
theorem dX12_go_54 : decode cX12_go 54 = .ok (.iinc 2 1, 3) := by decide +kernel
theorem dX12_go_57 : decode cX12_go 57 = .ok (.goto (-14), 3) := by decide +kernel
theorem dX12_go_60 : decode cX12_go 60 = .ok (.aload_n 0, 1) := by decide +kernel
theorem dX12_go_61 : decode cX12_go 61 = .ok (.getfield 75, 3) := by decide +kernel
theorem dX12_go_64 : decode cX12_go 64 = .ok (.iconst 0, 1) := by decide +kernel
theorem dX12_go_65 : decode cX12_go 65 = .ok (.iaload, 1) := by decide +kernel
theorem dX12_go_66 : decode cX12_go 66 = .ok (.ireturn, 1) := by decide +kernel
theorem dX12_ahead_0 : decode cX12_ahead 0 = .ok (.aload_n 0, 1) := by decide +kernel
theorem dX12_ahead_1 : decode cX12_ahead 1 = .ok (.iconst 0, 1) := by decide +kernel
theorem dX12_ahead_2 : decode cX12_ahead 2 = .ok (.putfield 148, 3) := by decide +kernel
theorem dX12_ahead_5 : decode cX12_ahead 5 = .ok (.iload_n 2, 1) := by decide +kernel
theorem dX12_ahead_6 : decode cX12_ahead 6 = .ok (.ifCond .eq 13, 3) := by decide +kernel
theorem dX12_ahead_9 : decode cX12_ahead 9 = .ok (.iload_n 2, 1) := by decide +kernel
theorem dX12_ahead_10 : decode cX12_ahead 10 = .ok (.iconst 1, 1) := by decide +kernel
theorem dX12_ahead_11 : decode cX12_ahead 11 = .ok (.if_icmp .eq 8, 3) := by decide +kernel
theorem dX12_ahead_14 : decode cX12_ahead 14 = .ok (.iload_n 2, 1) := by decide +kernel
theorem dX12_ahead_15 : decode cX12_ahead 15 = .ok (.iconst 4, 1) := by decide +kernel
theorem dX12_ahead_16 : decode cX12_ahead 16 = .ok (.if_icmp .ne 7, 3) := by decide +kernel
theorem dX12_ahead_19 : decode cX12_ahead 19 = .ok (.iconst 1, 1) := by decide +kernel
theorem dX12_ahead_20 : decode cX12_ahead 20 = .ok (.goto 4, 3) := by decide +kernel
theorem dX12_ahead_23 : decode cX12_ahead 23 = .ok (.iconst 0, 1) := by decide +kernel
theorem dX12_ahead_24 : decode cX12_ahead 24 = .ok (.istore 4, 2) := by decide +kernel
theorem dX12_ahead_26 : decode cX12_ahead 26 = .ok (.iload_n 1, 1) := by decide +kernel
theorem dX12_ahead_27 : decode cX12_ahead 27 = .ok (.ifCond .lt 32, 3) := by decide +kernel
theorem dX12_ahead_30 : decode cX12_ahead 30 = .ok (.iload_n 1, 1) := by decide +kernel
theorem dX12_ahead_31 : decode cX12_ahead 31 = .ok (.sipush 200, 3) := by decide +kernel
theorem dX12_ahead_34 : decode cX12_ahead 34 = .ok (.if_icmp .gt 25, 3) := by decide +kernel
theorem dX12_ahead_37 : decode cX12_ahead 37 = .ok (.iload_n 2, 1) := by decide +kernel
theorem dX12_ahead_38 : decode cX12_ahead 38 = .ok (.ifCond .lt 21, 3) := by decide +kernel
theorem dX12_ahead_41 : decode cX12_ahead 41 = .ok (.iload_n 2, 1) := by decide +kernel
theorem dX12_ahead_42 : decode cX12_ahead 42 = .ok (.iconst 4, 1) := by decide +kernel
theorem dX12_ahead_43 : decode cX12_ahead 43 = .ok (.if_icmp .gt 16, 3) := by decide +kernel
theorem dX12_ahead_46 : decode cX12_ahead 46 = .ok (.iload 4, 2) := by decide +kernel
theorem dX12_ahead_48 : decode cX12_ahead 48 = .ok (.ifCond .eq 13, 3) := by decide +kernel
theorem dX12_ahead_51 : decode cX12_ahead 51 = .ok (.aload_n 0, 1) := by decide +kernel
theorem dX12_ahead_52 : decode cX12_ahead 52 = .ok (.iload_n 3, 1) := by decide +kernel
theorem dX12_ahead_53 : decode cX12_ahead 53 = .ok (.invokevirtual 425, 3) := by decide +kernel
theorem dX12_ahead_56 : decode cX12_ahead 56 = .ok (.ifCond .ne 5, 3) := by decide +kernel
theorem dX12_ahead_59 : decode cX12_ahead 59 = .ok (.iconst (-1), 1) := by decide +kernel
theorem dX12_ahead_60 : decode cX12_ahead 60 = .ok (.ireturn, 1) := by decide +kernel
theorem dX12_ahead_61 : decode cX12_ahead 61 = .ok (.aload_n 0, 1) := by decide +kernel
theorem dX12_ahead_62 : decode cX12_ahead 62 = .ok (.iconst 1, 1) := by decide +kernel
theorem dX12_ahead_63 : decode cX12_ahead 63 = .ok (.iconst 0, 1) := by decide +kernel
theorem dX12_ahead_64 : decode cX12_ahead 64 = .ok (.invokevirtual 441, 3) := by decide +kernel
theorem dX12_ahead_67 : decode cX12_ahead 67 = .ok (.aload_n 0, 1) := by decide +kernel
theorem dX12_ahead_68 : decode cX12_ahead 68 = .ok (.iload_n 1, 1) := by decide +kernel
theorem dX12_ahead_69 : decode cX12_ahead 69 = .ok (.invokevirtual 450, 3) := by decide +kernel
theorem dX12_ahead_72 : decode cX12_ahead 72 = .ok (.iload_n 2, 1) := by decide +kernel
theorem dX12_ahead_73 : decode cX12_ahead 73 = .ok (.tableswitch 65 0 3 #[31, 38, 45, 51], 31) := by decide +kernel
theorem dX12_ahead_104 : decode cX12_ahead 104 = .ok (.aload_n 0, 1) := by decide +kernel
theorem dX12_ahead_105 : decode cX12_ahead 105 = .ok (.iconst 1, 1) := by decide +kernel
theorem dX12_ahead_106 : decode cX12_ahead 106 = .ok (.iload_n 3, 1) := by decide +kernel
theorem dX12_ahead_107 : decode cX12_ahead 107 = .ok (.invokevirtual 353, 3) := by decide +kernel
theorem dX12_ahead_110 : decode cX12_ahead 110 = .ok (.ireturn, 1) := by decide +kernel
theorem dX12_ahead_111 : decode cX12_ahead 111 = .ok (.aload_n 0, 1) := by decide +kernel
theorem dX12_ahead_112 : decode cX12_ahead 112 = .ok (.iconst 1, 1) := by decide +kernel
theorem dX12_ahead_113 : decode cX12_ahead 113 = .ok (.iload_n 3, 1) := by decide +kernel
theorem dX12_ahead_114 : decode cX12_ahead 114 = .ok (.invokevirtual 434, 3) := by decide +kernel
theorem dX12_ahead_117 : decode cX12_ahead 117 = .ok (.ireturn, 1) := by decide +kernel
theorem dX12_ahead_118 : decode cX12_ahead 118 = .ok (.aload_n 0, 1) := by decide +kernel
theorem dX12_ahead_119 : decode cX12_ahead 119 = .ok (.iconst 1, 1) := by decide +kernel
theorem dX12_ahead_120 : decode cX12_ahead 120 = .ok (.invokevirtual 453, 3) := by decide +kernel
theorem dX12_ahead_123 : decode cX12_ahead 123 = .ok (.ireturn, 1) := by decide +kernel
theorem dX12_ahead_124 : decode cX12_ahead 124 = .ok (.aload_n 0, 1) := by decide +kernel
theorem dX12_ahead_125 : decode cX12_ahead 125 = .ok (.getfield 81, 3) := by decide +kernel
theorem dX12_ahead_128 : decode cX12_ahead 128 = .ok (.iconst 1, 1) := by decide +kernel
theorem dX12_ahead_129 : decode cX12_ahead 129 = .ok (.iaload, 1) := by decide +kernel
theorem dX12_ahead_130 : decode cX12_ahead 130 = .ok (.aload_n 0, 1) := by decide +kernel
theorem dX12_ahead_131 : decode cX12_ahead 131 = .ok (.getfield 81, 3) := by decide +kernel
theorem dX12_ahead_134 : decode cX12_ahead 134 = .ok (.iconst 0, 1) := by decide +kernel
theorem dX12_ahead_135 : decode cX12_ahead 135 = .ok (.iaload, 1) := by decide +kernel
theorem dX12_ahead_136 : decode cX12_ahead 136 = .ok (.isub, 1) := by decide +kernel
theorem dX12_ahead_137 : decode cX12_ahead 137 = .ok (.ireturn, 1) := by decide +kernel
theorem dX12_ahead_138 : decode cX12_ahead 138 = .ok (.aload_n 0, 1) := by decide +kernel
theorem dX12_ahead_139 : decode cX12_ahead 139 = .ok (.getfield 96, 3) := by decide +kernel
theorem dX12_ahead_142 : decode cX12_ahead 142 = .ok (.bipush 6, 2) := by decide +kernel
theorem dX12_ahead_144 : decode cX12_ahead 144 = .ok (.iload_n 3, 1) := by decide +kernel
theorem dX12_ahead_145 : decode cX12_ahead 145 = .ok (.iadd, 1) := by decide +kernel
theorem dX12_ahead_146 : decode cX12_ahead 146 = .ok (.iaload, 1) := by decide +kernel
theorem dX12_ahead_147 : decode cX12_ahead 147 = .ok (.aload_n 0, 1) := by decide +kernel
theorem dX12_ahead_148 : decode cX12_ahead 148 = .ok (.getfield 96, 3) := by decide +kernel
theorem dX12_ahead_151 : decode cX12_ahead 151 = .ok (.iload_n 3, 1) := by decide +kernel
theorem dX12_ahead_152 : decode cX12_ahead 152 = .ok (.iaload, 1) := by decide +kernel
theorem dX12_ahead_153 : decode cX12_ahead 153 = .ok (.isub, 1) := by decide +kernel
theorem dX12_ahead_154 : decode cX12_ahead 154 = .ok (.ireturn, 1) := by decide +kernel
theorem dX12_ends_0 : decode cX12_ends 0 = .ok (.aload_n 0, 1) := by decide +kernel
theorem dX12_ends_1 : decode cX12_ends 1 = .ok (.iconst 0, 1) := by decide +kernel
theorem dX12_ends_2 : decode cX12_ends 2 = .ok (.putfield 148, 3) := by decide +kernel
theorem dX12_ends_5 : decode cX12_ends 5 = .ok (.aload_n 0, 1) := by decide +kernel
theorem dX12_ends_6 : decode cX12_ends 6 = .ok (.iload_n 1, 1) := by decide +kernel
theorem dX12_ends_7 : decode cX12_ends 7 = .ok (.invokevirtual 425, 3) := by decide +kernel
theorem dX12_ends_10 : decode cX12_ends 10 = .ok (.ifCond .ne 5, 3) := by decide +kernel
theorem dX12_ends_13 : decode cX12_ends 13 = .ok (.iconst (-1), 1) := by decide +kernel
theorem dX12_ends_14 : decode cX12_ends 14 = .ok (.ireturn, 1) := by decide +kernel
theorem dX12_ends_15 : decode cX12_ends 15 = .ok (.aload_n 0, 1) := by decide +kernel
theorem dX12_ends_16 : decode cX12_ends 16 = .ok (.iconst 1, 1) := by decide +kernel
theorem dX12_ends_17 : decode cX12_ends 17 = .ok (.iconst 0, 1) := by decide +kernel
theorem dX12_ends_18 : decode cX12_ends 18 = .ok (.invokevirtual 441, 3) := by decide +kernel
theorem dX12_ends_21 : decode cX12_ends 21 = .ok (.iconst 0, 1) := by decide +kernel
theorem dX12_ends_22 : decode cX12_ends 22 = .ok (.istore_n 2, 1) := by decide +kernel
theorem dX12_ends_23 : decode cX12_ends 23 = .ok (.iload_n 2, 1) := by decide +kernel
theorem dX12_ends_24 : decode cX12_ends 24 = .ok (.sipush 199, 3) := by decide +kernel
theorem dX12_ends_27 : decode cX12_ends 27 = .ok (.if_icmp .gt 26, 3) := by decide +kernel
theorem dX12_ends_30 : decode cX12_ends 30 = .ok (.aload_n 0, 1) := by decide +kernel
theorem dX12_ends_31 : decode cX12_ends 31 = .ok (.iconst 1, 1) := by decide +kernel
theorem dX12_ends_32 : decode cX12_ends 32 = .ok (.iload_n 1, 1) := by decide +kernel
theorem dX12_ends_33 : decode cX12_ends 33 = .ok (.invokevirtual 353, 3) := by decide +kernel
theorem dX12_ends_36 : decode cX12_ends 36 = .ok (.ifCond .ne 5, 3) := by decide +kernel
theorem dX12_ends_39 : decode cX12_ends 39 = .ok (.iload_n 2, 1) := by decide +kernel
theorem dX12_ends_40 : decode cX12_ends 40 = .ok (.ireturn, 1) := by decide +kernel
theorem dX12_ends_41 : decode cX12_ends 41 = .ok (.aload_n 0, 1) := by decide +kernel
theorem dX12_ends_42 : decode cX12_ends 42 = .ok (.iconst 1, 1) := by decide +kernel
theorem dX12_ends_43 : decode cX12_ends 43 = .ok (.iconst 0, 1) := by decide +kernel
theorem dX12_ends_44 : decode cX12_ends 44 = .ok (.invokevirtual 421, 3) := by decide +kernel
theorem dX12_ends_47 : decode cX12_ends 47 = .ok (.iinc 2 1, 3) := by decide +kernel
theorem dX12_ends_50 : decode cX12_ends 50 = .ok (.goto (-27), 3) := by decide +kernel
theorem dX12_ends_53 : decode cX12_ends 53 = .ok (.bipush (-2), 2) := by decide +kernel
theorem dX12_ends_55 : decode cX12_ends 55 = .ok (.ireturn, 1) := by decide +kernel
theorem dX12_areTwo_0 : decode cX12_areTwo 0 = .ok (.aload_n 0, 1) := by decide +kernel
theorem dX12_areTwo_1 : decode cX12_areTwo 1 = .ok (.iload_n 1, 1) := by decide +kernel
theorem dX12_areTwo_2 : decode cX12_areTwo 2 = .ok (.invokevirtual 425, 3) := by decide +kernel
theorem dX12_areTwo_5 : decode cX12_areTwo 5 = .ok (.ifCond .eq 20, 3) := by decide +kernel
