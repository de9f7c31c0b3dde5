theorem dX12_areTwo_8 : decode cX12_areTwo 8 = .ok (.aload_n 0, 1) := by decide +kernel
theorem dX12_areTwo_9 : decode cX12_areTwo 9 = .ok (.iload_n 2, 1) := by decide +kernel
theorem dX12_areTwo_10 : decode cX12_areTwo 10 = .ok (.invokevirtual 425, 3) := by decide +kernel
theorem dX12_areTwo_13 : decode cX12_areTwo 13 = .ok (.ifCond .eq 12, 3) := by decide +kernel
theorem dX12_areTwo_16 : decode cX12_areTwo 16 = .ok (.iload_n 1, 1) := by decide +kernel
theorem dX12_areTwo_17 : decode cX12_areTwo 17 = .ok (.iload_n 2, 1) := by decide +kernel
theorem dX12_areTwo_18 : decode cX12_areTwo 18 = .ok (.if_icmp .eq 7, 3) := by decide +kernel
theorem dX12_areTwo_21 : decode cX12_areTwo 21 = .ok (.iconst 1, 1) := by decide +kernel
theorem dX12_areTwo_22 : decode cX12_areTwo 22 = .ok (.goto 4, 3) := by decide +kernel
theorem dX12_areTwo_25 : decode cX12_areTwo 25 = .ok (.iconst 0, 1) := by decide +kernel
theorem dX12_areTwo_26 : decode cX12_areTwo 26 = .ok (.ireturn, 1) := by decide +kernel
theorem dX12_alike_0 : decode cX12_alike 0 = .ok (.aload_n 0, 1) := by decide +kernel
theorem dX12_alike_1 : decode cX12_alike 1 = .ok (.iconst 0, 1) := by decide +kernel
theorem dX12_alike_2 : decode cX12_alike 2 = .ok (.putfield 148, 3) := by decide +kernel
theorem dX12_alike_5 : decode cX12_alike 5 = .ok (.aload_n 0, 1) := by decide +kernel
theorem dX12_alike_6 : decode cX12_alike 6 = .ok (.iload_n 1, 1) := by decide +kernel
theorem dX12_alike_7 : decode cX12_alike 7 = .ok (.iload_n 2, 1) := by decide +kernel
theorem dX12_alike_8 : decode cX12_alike 8 = .ok (.invokevirtual 456, 3) := by decide +kernel
theorem dX12_alike_11 : decode cX12_alike 11 = .ok (.ifCond .ne 5, 3) := by decide +kernel
theorem dX12_alike_14 : decode cX12_alike 14 = .ok (.iconst (-1), 1) := by decide +kernel
theorem dX12_alike_15 : decode cX12_alike 15 = .ok (.ireturn, 1) := by decide +kernel
theorem dX12_alike_16 : decode cX12_alike 16 = .ok (.aload_n 0, 1) := by decide +kernel
theorem dX12_alike_17 : decode cX12_alike 17 = .ok (.iconst 1, 1) := by decide +kernel
theorem dX12_alike_18 : decode cX12_alike 18 = .ok (.iconst 0, 1) := by decide +kernel
theorem dX12_alike_19 : decode cX12_alike 19 = .ok (.invokevirtual 441, 3) := by decide +kernel
theorem dX12_alike_22 : decode cX12_alike 22 = .ok (.iconst 0, 1) := by decide +kernel
theorem dX12_alike_23 : decode cX12_alike 23 = .ok (.istore_n 3, 1) := by decide +kernel
theorem dX12_alike_24 : decode cX12_alike 24 = .ok (.iload_n 3, 1) := by decide +kernel
theorem dX12_alike_25 : decode cX12_alike 25 = .ok (.sipush 199, 3) := by decide +kernel
theorem dX12_alike_28 : decode cX12_alike 28 = .ok (.if_icmp .gt 32, 3) := by decide +kernel
theorem dX12_alike_31 : decode cX12_alike 31 = .ok (.aload_n 0, 1) := by decide +kernel
theorem dX12_alike_32 : decode cX12_alike 32 = .ok (.iconst 1, 1) := by decide +kernel
theorem dX12_alike_33 : decode cX12_alike 33 = .ok (.iload_n 1, 1) := by decide +kernel
theorem dX12_alike_34 : decode cX12_alike 34 = .ok (.invokevirtual 353, 3) := by decide +kernel
theorem dX12_alike_37 : decode cX12_alike 37 = .ok (.aload_n 0, 1) := by decide +kernel
theorem dX12_alike_38 : decode cX12_alike 38 = .ok (.iconst 1, 1) := by decide +kernel
theorem dX12_alike_39 : decode cX12_alike 39 = .ok (.iload_n 2, 1) := by decide +kernel
theorem dX12_alike_40 : decode cX12_alike 40 = .ok (.invokevirtual 353, 3) := by decide +kernel
theorem dX12_alike_43 : decode cX12_alike 43 = .ok (.if_icmp .ne 5, 3) := by decide +kernel
theorem dX12_alike_46 : decode cX12_alike 46 = .ok (.iload_n 3, 1) := by decide +kernel
theorem dX12_alike_47 : decode cX12_alike 47 = .ok (.ireturn, 1) := by decide +kernel
theorem dX12_alike_48 : decode cX12_alike 48 = .ok (.aload_n 0, 1) := by decide +kernel
theorem dX12_alike_49 : decode cX12_alike 49 = .ok (.iconst 1, 1) := by decide +kernel
theorem dX12_alike_50 : decode cX12_alike 50 = .ok (.iconst 0, 1) := by decide +kernel
theorem dX12_alike_51 : decode cX12_alike 51 = .ok (.invokevirtual 421, 3) := by decide +kernel
theorem dX12_alike_54 : decode cX12_alike 54 = .ok (.iinc 3 1, 3) := by decide +kernel
theorem dX12_alike_57 : decode cX12_alike 57 = .ok (.goto (-33), 3) := by decide +kernel
theorem dX12_alike_60 : decode cX12_alike 60 = .ok (.bipush (-2), 2) := by decide +kernel
theorem dX12_alike_62 : decode cX12_alike 62 = .ok (.ireturn, 1) := by decide +kernel
theorem dX12_keepInch_0 : decode cX12_keepInch 0 = .ok (.aload_n 0, 1) := by decide +kernel
theorem dX12_keepInch_1 : decode cX12_keepInch 1 = .ok (.iconst 0, 1) := by decide +kernel
theorem dX12_keepInch_2 : decode cX12_keepInch 2 = .ok (.putfield 148, 3) := by decide +kernel
theorem dX12_keepInch_5 : decode cX12_keepInch 5 = .ok (.aload_n 0, 1) := by decide +kernel
theorem dX12_keepInch_6 : decode cX12_keepInch 6 = .ok (.iload_n 1, 1) := by decide +kernel
theorem dX12_keepInch_7 : decode cX12_keepInch 7 = .ok (.invokevirtual 425, 3) := by decide +kernel
theorem dX12_keepInch_10 : decode cX12_keepInch 10 = .ok (.ifCond .eq 10, 3) := by decide +kernel
theorem dX12_keepInch_13 : decode cX12_keepInch 13 = .ok (.iload_n 2, 1) := by decide +kernel
theorem dX12_keepInch_14 : decode cX12_keepInch 14 = .ok (.invokestatic 428, 3) := by decide +kernel
theorem dX12_keepInch_17 : decode cX12_keepInch 17 = .ok (.ifCond .ne 5, 3) := by decide +kernel
theorem dX12_keepInch_20 : decode cX12_keepInch 20 = .ok (.iconst (-1), 1) := by decide +kernel
theorem dX12_keepInch_21 : decode cX12_keepInch 21 = .ok (.ireturn, 1) := by decide +kernel
theorem dX12_keepInch_22 : decode cX12_keepInch 22 = .ok (.aload_n 0, 1) := by decide +kernel
theorem dX12_keepInch_23 : decode cX12_keepInch 23 = .ok (.iconst 0, 1) := by decide +kernel
theorem dX12_keepInch_24 : decode cX12_keepInch 24 = .ok (.iload_n 1, 1) := by decide +kernel
theorem dX12_keepInch_25 : decode cX12_keepInch 25 = .ok (.iload_n 2, 1) := by decide +kernel
theorem dX12_keepInch_26 : decode cX12_keepInch 26 = .ok (.invokevirtual 346, 3) := by decide +kernel
theorem dX12_keepInch_29 : decode cX12_keepInch 29 = .ok (.ifCond .ne 6, 3) := by decide +kernel
theorem dX12_keepInch_32 : decode cX12_keepInch 32 = .ok (.bipush (-2), 2) := by decide +kernel
theorem dX12_keepInch_34 : decode cX12_keepInch 34 = .ok (.ireturn, 1) := by decide +kernel
theorem dX12_keepInch_35 : decode cX12_keepInch 35 = .ok (.iload_n 2, 1) := by decide +kernel
theorem dX12_keepInch_36 : decode cX12_keepInch 36 = .ok (.aload_n 0, 1) := by decide +kernel
theorem dX12_keepInch_37 : decode cX12_keepInch 37 = .ok (.getfield 87, 3) := by decide +kernel
theorem dX12_keepInch_40 : decode cX12_keepInch 40 = .ok (.iload_n 1, 1) := by decide +kernel
theorem dX12_keepInch_41 : decode cX12_keepInch 41 = .ok (.iaload, 1) := by decide +kernel
theorem dX12_keepInch_42 : decode cX12_keepInch 42 = .ok (.isub, 1) := by decide +kernel
theorem dX12_keepInch_43 : decode cX12_keepInch 43 = .ok (.aload_n 0, 1) := by decide +kernel
theorem dX12_keepInch_44 : decode cX12_keepInch 44 = .ok (.getfield 19, 3) := by decide +kernel
theorem dX12_keepInch_47 : decode cX12_keepInch 47 = .ok (.iload_n 1, 1) := by decide +kernel
theorem dX12_keepInch_48 : decode cX12_keepInch 48 = .ok (.iaload, 1) := by decide +kernel
theorem dX12_keepInch_49 : decode cX12_keepInch 49 = .ok (.aload_n 0, 1) := by decide +kernel
theorem dX12_keepInch_50 : decode cX12_keepInch 50 = .ok (.getfield 90, 3) := by decide +kernel
theorem dX12_keepInch_53 : decode cX12_keepInch 53 = .ok (.iload_n 1, 1) := by decide +kernel
theorem dX12_keepInch_54 : decode cX12_keepInch 54 = .ok (.iaload, 1) := by decide +kernel
theorem dX12_keepInch_55 : decode cX12_keepInch 55 = .ok (.isub, 1) := by decide +kernel
theorem dX12_keepInch_56 : decode cX12_keepInch 56 = .ok (.iconst 1, 1) := by decide +kernel
theorem dX12_keepInch_57 : decode cX12_keepInch 57 = .ok (.isub, 1) := by decide +kernel
theorem dX12_keepInch_58 : decode cX12_keepInch 58 = .ok (.iload_n 2, 1) := by decide +kernel
theorem dX12_keepInch_59 : decode cX12_keepInch 59 = .ok (.isub, 1) := by decide +kernel
theorem dX12_keepInch_60 : decode cX12_keepInch 60 = .ok (.invokestatic 459, 3) := by decide +kernel
theorem dX12_keepInch_63 : decode cX12_keepInch 63 = .ok (.ireturn, 1) := by decide +kernel
theorem dX12_tells_0 : decode cX12_tells 0 = .ok (.iload_n 1, 1) := by decide +kernel
theorem dX12_tells_1 : decode cX12_tells 1 = .ok (.iconst 1, 1) := by decide +kernel
theorem dX12_tells_2 : decode cX12_tells 2 = .ok (.if_icmp .lt 36, 3) := by decide +kernel
theorem dX12_tells_5 : decode cX12_tells 5 = .ok (.iload_n 1, 1) := by decide +kernel
theorem dX12_tells_6 : decode cX12_tells 6 = .ok (.bipush 60, 2) := by decide +kernel
theorem dX12_tells_8 : decode cX12_tells 8 = .ok (.if_icmp .gt 30, 3) := by decide +kernel
theorem dX12_tells_11 : decode cX12_tells 11 = .ok (.aload_n 0, 1) := by decide +kernel
theorem dX12_tells_12 : decode cX12_tells 12 = .ok (.getfield 105, 3) := by decide +kernel
theorem dX12_tells_15 : decode cX12_tells 15 = .ok (.iload_n 1, 1) := by decide +kernel
theorem dX12_tells_16 : decode cX12_tells 16 = .ok (.iaload, 1) := by decide +kernel
theorem dX12_tells_17 : decode cX12_tells 17 = .ok (.iconst (-1), 1) := by decide +kernel
theorem dX12_tells_18 : decode cX12_tells 18 = .ok (.if_icmp .eq 13, 3) := by decide +kernel
theorem dX12_tells_21 : decode cX12_tells 21 = .ok (.iload_n 2, 1) := by decide +kernel
theorem dX12_tells_22 : decode cX12_tells 22 = .ok (.aload_n 0, 1) := by decide +kernel
theorem dX12_tells_23 : decode cX12_tells 23 = .ok (.getfield 105, 3) := by decide +kernel
theorem dX12_tells_26 : decode cX12_tells 26 = .ok (.iload_n 1, 1) := by decide +kernel
theorem dX12_tells_27 : decode cX12_tells 27 = .ok (.iaload, 1) := by decide +kernel
theorem dX12_tells_28 : decode cX12_tells 28 = .ok (.if_icmp .ge 10, 3) := by decide +kernel
theorem dX12_tells_31 : decode cX12_tells 31 = .ok (.aload_n 0, 1) := by decide +kernel
theorem dX12_tells_32 : decode cX12_tells 32 = .ok (.getfield 105, 3) := by decide +kernel
theorem dX12_tells_35 : decode cX12_tells 35 = .ok (.iload_n 1, 1) := by decide +kernel
theorem dX12_tells_36 : decode cX12_tells 36 = .ok (.iload_n 2, 1) := by decide +kernel
theorem dX12_tells_37 : decode cX12_tells 37 = .ok (.iastore, 1) := by decide +kernel
theorem dX12_tells_38 : decode cX12_tells 38 = .ok (.return_, 1) := by decide +kernel
theorem dX12_hoursOf_0 : decode cX12_hoursOf 0 = .ok (.iload_n 0, 1) := by decide +kernel
theorem dX12_hoursOf_1 : decode cX12_hoursOf 1 = .ok (.iload_n 1, 1) := by decide +kernel
theorem dX12_hoursOf_2 : decode cX12_hoursOf 2 = .ok (.iadd, 1) := by decide +kernel
theorem dX12_hoursOf_3 : decode cX12_hoursOf 3 = .ok (.iconst 1, 1) := by decide +kernel
theorem dX12_hoursOf_4 : decode cX12_hoursOf 4 = .ok (.isub, 1) := by decide +kernel
theorem dX12_hoursOf_5 : decode cX12_hoursOf 5 = .ok (.iload_n 1, 1) := by decide +kernel
theorem dX12_hoursOf_6 : decode cX12_hoursOf 6 = .ok (.idiv, 1) := by decide +kernel
theorem dX12_hoursOf_7 : decode cX12_hoursOf 7 = .ok (.ireturn, 1) := by decide +kernel
theorem dX12_tellsOn_0 : decode cX12_tellsOn 0 = .ok (.aload_n 0, 1) := by decide +kernel
theorem dX12_tellsOn_1 : decode cX12_tellsOn 1 = .ok (.iload_n 1, 1) := by decide +kernel
theorem dX12_tellsOn_2 : decode cX12_tellsOn 2 = .ok (.iload_n 2, 1) := by decide +kernel
theorem dX12_tellsOn_3 : decode cX12_tellsOn 3 = .ok (.iload 4, 2) := by decide +kernel
theorem dX12_tellsOn_5 : decode cX12_tellsOn 5 = .ok (.iadd, 1) := by decide +kernel
theorem dX12_tellsOn_6 : decode cX12_tellsOn 6 = .ok (.invokevirtual 461, 3) := by decide +kernel
theorem dX12_tellsOn_9 : decode cX12_tellsOn 9 = .ok (.iload_n 3, 1) := by decide +kernel
theorem dX12_tellsOn_10 : decode cX12_tellsOn 10 = .ok (.iload 4, 2) := by decide +kernel
theorem dX12_tellsOn_12 : decode cX12_tellsOn 12 = .ok (.iload_n 1, 1) := by decide +kernel
theorem dX12_tellsOn_13 : decode cX12_tellsOn 13 = .ok (.imul, 1) := by decide +kernel
theorem dX12_tellsOn_14 : decode cX12_tellsOn 14 = .ok (.isub, 1) := by decide +kernel
theorem dX12_tellsOn_15 : decode cX12_tellsOn 15 = .ok (.istore 5, 2) := by decide +kernel
theorem dX12_tellsOn_17 : decode cX12_tellsOn 17 = .ok (.iload 5, 2) := by decide +kernel
theorem dX12_tellsOn_19 : decode cX12_tellsOn 19 = .ok (.ifCond .gt 4, 3) := by decide +kernel
theorem dX12_tellsOn_22 : decode cX12_tellsOn 22 = .ok (.return_, 1) := by decide +kernel
theorem dX12_tellsOn_23 : decode cX12_tellsOn 23 = .ok (.iconst 1, 1) := by decide +kernel
theorem dX12_tellsOn_24 : decode cX12_tellsOn 24 = .ok (.iload 4, 2) := by decide +kernel
theorem dX12_tellsOn_26 : decode cX12_tellsOn 26 = .ok (.invokestatic 459, 3) := by decide +kernel
theorem dX12_tellsOn_29 : decode cX12_tellsOn 29 = .ok (.istore 6, 2) := by decide +kernel
theorem dX12_tellsOn_31 : decode cX12_tellsOn 31 = .ok (.iload 6, 2) := by decide +kernel
theorem dX12_tellsOn_33 : decode cX12_tellsOn 33 = .ok (.iconst 2, 1) := by decide +kernel
theorem dX12_tellsOn_34 : decode cX12_tellsOn 34 = .ok (.if_icmp .gt 26, 3) := by decide +kernel
theorem dX12_tellsOn_37 : decode cX12_tellsOn 37 = .ok (.aload_n 0, 1) := by decide +kernel
theorem dX12_tellsOn_38 : decode cX12_tellsOn 38 = .ok (.iload_n 1, 1) := by decide +kernel
theorem dX12_tellsOn_39 : decode cX12_tellsOn 39 = .ok (.iload 5, 2) := by decide +kernel
theorem dX12_tellsOn_41 : decode cX12_tellsOn 41 = .ok (.iload 6, 2) := by decide +kernel
theorem dX12_tellsOn_43 : decode cX12_tellsOn 43 = .ok (.invokestatic 464, 3) := by decide +kernel
theorem dX12_tellsOn_46 : decode cX12_tellsOn 46 = .ok (.iadd, 1) := by decide +kernel
theorem dX12_tellsOn_47 : decode cX12_tellsOn 47 = .ok (.iload_n 2, 1) := by decide +kernel
theorem dX12_tellsOn_48 : decode cX12_tellsOn 48 = .ok (.iload 6, 2) := by decide +kernel
theorem dX12_tellsOn_50 : decode cX12_tellsOn 50 = .ok (.iadd, 1) := by decide +kernel
theorem dX12_tellsOn_51 : decode cX12_tellsOn 51 = .ok (.invokevirtual 461, 3) := by decide +kernel
theorem dX12_tellsOn_54 : decode cX12_tellsOn 54 = .ok (.iinc 6 1, 3) := by decide +kernel
theorem dX12_tellsOn_57 : decode cX12_tellsOn 57 = .ok (.goto (-26), 3) := by decide +kernel
theorem dX12_tellsOn_60 : decode cX12_tellsOn 60 = .ok (.return_, 1) := by decide +kernel
theorem dX12_lays_0 : decode cX12_lays 0 = .ok (.aload_n 0, 1) := by decide +kernel
theorem dX12_lays_1 : decode cX12_lays 1 = .ok (.iconst 0, 1) := by decide +kernel
theorem dX12_lays_2 : decode cX12_lays 2 = .ok (.iload_n 1, 1) := by decide +kernel
theorem dX12_lays_3 : decode cX12_lays 3 = .ok (.invokevirtual 353, 3) := by decide +kernel
theorem dX12_lays_6 : decode cX12_lays 6 = .ok (.istore_n 3, 1) := by decide +kernel
theorem dX12_lays_7 : decode cX12_lays 7 = .ok (.aload_n 0, 1) := by decide +kernel
theorem dX12_lays_8 : decode cX12_lays 8 = .ok (.iconst 0, 1) := by decide +kernel
theorem dX12_lays_9 : decode cX12_lays 9 = .ok (.iload_n 2, 1) := by decide +kernel
theorem dX12_lays_10 : decode cX12_lays 10 = .ok (.invokevirtual 353, 3) := by decide +kernel
theorem dX12_lays_13 : decode cX12_lays 13 = .ok (.istore 4, 2) := by decide +kernel
theorem dX12_lays_15 : decode cX12_lays 15 = .ok (.iconst 0, 1) := by decide +kernel
theorem dX12_lays_16 : decode cX12_lays 16 = .ok (.istore 5, 2) := by decide +kernel
theorem dX12_lays_18 : decode cX12_lays 18 = .ok (.iload 5, 2) := by decide +kernel
theorem dX12_lays_20 : decode cX12_lays 20 = .ok (.bipush 60, 2) := by decide +kernel
theorem dX12_lays_22 : decode cX12_lays 22 = .ok (.if_icmp .gt 17, 3) := by decide +kernel
theorem dX12_lays_25 : decode cX12_lays 25 = .ok (.aload_n 0, 1) := by decide +kernel
theorem dX12_lays_26 : decode cX12_lays 26 = .ok (.getfield 105, 3) := by decide +kernel
theorem dX12_lays_29 : decode cX12_lays 29 = .ok (.iload 5, 2) := by decide +kernel
theorem dX12_lays_31 : decode cX12_lays 31 = .ok (.iconst (-1), 1) := by decide +kernel
theorem dX12_lays_32 : decode cX12_lays 32 = .ok (.iastore, 1) := by decide +kernel
theorem dX12_lays_33 : decode cX12_lays 33 = .ok (.iinc 5 1, 3) := by decide +kernel
theorem dX12_lays_36 : decode cX12_lays 36 = .ok (.goto (-18), 3) := by decide +kernel
theorem dX12_lays_39 : decode cX12_lays 39 = .ok (.iconst 0, 1) := by decide +kernel
theorem dX12_lays_40 : decode cX12_lays 40 = .ok (.istore 5, 2) := by decide +kernel
theorem dX12_lays_42 : decode cX12_lays 42 = .ok (.iload 5, 2) := by decide +kernel
theorem dX12_lays_44 : decode cX12_lays 44 = .ok (.iconst 2, 1) := by decide +kernel
theorem dX12_lays_45 : decode cX12_lays 45 = .ok (.if_icmp .gt 138, 3) := by decide +kernel
theorem dX12_lays_48 : decode cX12_lays 48 = .ok (.iconst 0, 1) := by decide +kernel
theorem dX12_lays_49 : decode cX12_lays 49 = .ok (.istore 6, 2) := by decide +kernel
theorem dX12_lays_51 : decode cX12_lays 51 = .ok (.iload 6, 2) := by decide +kernel
theorem dX12_lays_53 : decode cX12_lays 53 = .ok (.iconst 2, 1) := by decide +kernel
theorem dX12_lays_54 : decode cX12_lays 54 = .ok (.if_icmp .gt 123, 3) := by decide +kernel
theorem dX12_lays_57 : decode cX12_lays 57 = .ok (.iload 5, 2) := by decide +kernel
theorem dX12_lays_59 : decode cX12_lays 59 = .ok (.ifCond .le 7, 3) := by decide +kernel
theorem dX12_lays_62 : decode cX12_lays 62 = .ok (.iload_n 3, 1) := by decide +kernel
theorem dX12_lays_63 : decode cX12_lays 63 = .ok (.ifCond .eq 108, 3) := by decide +kernel
theorem dX12_lays_66 : decode cX12_lays 66 = .ok (.iload 6, 2) := by decide +kernel
theorem dX12_lays_68 : decode cX12_lays 68 = .ok (.ifCond .le 11, 3) := by decide +kernel
theorem dX12_lays_71 : decode cX12_lays 71 = .ok (.iload 4, 2) := by decide +kernel
theorem dX12_lays_73 : decode cX12_lays 73 = .ok (.ifCond .ne 6, 3) := by decide +kernel
theorem dX12_lays_76 : decode cX12_lays 76 = .ok (.goto 95, 3) := by decide +kernel
theorem dX12_lays_79 : decode cX12_lays 79 = .ok (.iload 5, 2) := by decide +kernel
theorem dX12_lays_81 : decode cX12_lays 81 = .ok (.ifCond .ne 9, 3) := by decide +kernel
theorem dX12_lays_84 : decode cX12_lays 84 = .ok (.sipush 999, 3) := by decide +kernel
theorem dX12_lays_87 : decode cX12_lays 87 = .ok (.goto 9, 3) := by decide +kernel
theorem dX12_lays_90 : decode cX12_lays 90 = .ok (.iload_n 3, 1) := by decide +kernel
theorem dX12_lays_91 : decode cX12_lays 91 = .ok (.iload 5, 2) := by decide +kernel
theorem dX12_lays_93 : decode cX12_lays 93 = .ok (.invokestatic 464, 3) := by decide +kernel
theorem dX12_lays_96 : decode cX12_lays 96 = .ok (.istore 7, 2) := by decide +kernel
theorem dX12_lays_98 : decode cX12_lays 98 = .ok (.iload 6, 2) := by decide +kernel
theorem dX12_lays_100 : decode cX12_lays 100 = .ok (.ifCond .ne 9, 3) := by decide +kernel
theorem dX12_lays_103 : decode cX12_lays 103 = .ok (.sipush 999, 3) := by decide +kernel
theorem dX12_lays_106 : decode cX12_lays 106 = .ok (.goto 10, 3) := by decide +kernel
theorem dX12_lays_109 : decode cX12_lays 109 = .ok (.iload 4, 2) := by decide +kernel
theorem dX12_lays_111 : decode cX12_lays 111 = .ok (.iload 6, 2) := by decide +kernel
theorem dX12_lays_113 : decode cX12_lays 113 = .ok (.invokestatic 464, 3) := by decide +kernel
theorem dX12_lays_116 : decode cX12_lays 116 = .ok (.istore 8, 2) := by decide +kernel
theorem dX12_lays_118 : decode cX12_lays 118 = .ok (.iload 7, 2) := by decide +kernel
theorem dX12_lays_120 : decode cX12_lays 120 = .ok (.sipush 999, 3) := by decide +kernel
theorem dX12_lays_123 : decode cX12_lays 123 = .ok (.if_icmp .ge 22, 3) := by decide +kernel
theorem dX12_lays_126 : decode cX12_lays 126 = .ok (.iload 7, 2) := by decide +kernel
theorem dX12_lays_128 : decode cX12_lays 128 = .ok (.iload 8, 2) := by decide +kernel
theorem dX12_lays_130 : decode cX12_lays 130 = .ok (.if_icmp .gt 15, 3) := by decide +kernel
theorem dX12_lays_133 : decode cX12_lays 133 = .ok (.aload_n 0, 1) := by decide +kernel
theorem dX12_lays_134 : decode cX12_lays 134 = .ok (.iload 7, 2) := by decide +kernel
theorem dX12_lays_136 : decode cX12_lays 136 = .ok (.iload 5, 2) := by decide +kernel
theorem dX12_lays_138 : decode cX12_lays 138 = .ok (.iload 4, 2) := by decide +kernel
theorem dX12_lays_140 : decode cX12_lays 140 = .ok (.iload 6, 2) := by decide +kernel
theorem dX12_lays_142 : decode cX12_lays 142 = .ok (.invokevirtual 467, 3) := by decide +kernel
theorem dX12_lays_145 : decode cX12_lays 145 = .ok (.iload 8, 2) := by decide +kernel
theorem dX12_lays_147 : decode cX12_lays 147 = .ok (.sipush 999, 3) := by decide +kernel
theorem dX12_lays_150 : decode cX12_lays 150 = .ok (.if_icmp .ge 21, 3) := by decide +kernel
theorem dX12_lays_153 : decode cX12_lays 153 = .ok (.iload 8, 2) := by decide +kernel
theorem dX12_lays_155 : decode cX12_lays 155 = .ok (.iload 7, 2) := by decide +kernel
theorem dX12_lays_157 : decode cX12_lays 157 = .ok (.if_icmp .gt 14, 3) := by decide +kernel
theorem dX12_lays_160 : decode cX12_lays 160 = .ok (.aload_n 0, 1) := by decide +kernel
theorem dX12_lays_161 : decode cX12_lays 161 = .ok (.iload 8, 2) := by decide +kernel
theorem dX12_lays_163 : decode cX12_lays 163 = .ok (.iload 6, 2) := by decide +kernel
theorem dX12_lays_165 : decode cX12_lays 165 = .ok (.iload_n 3, 1) := by decide +kernel
theorem dX12_lays_166 : decode cX12_lays 166 = .ok (.iload 5, 2) := by decide +kernel
theorem dX12_lays_168 : decode cX12_lays 168 = .ok (.invokevirtual 467, 3) := by decide +kernel
theorem dX12_lays_171 : decode cX12_lays 171 = .ok (.iinc 6 1, 3) := by decide +kernel
theorem dX12_lays_174 : decode cX12_lays 174 = .ok (.goto (-123), 3) := by decide +kernel
theorem dX12_lays_177 : decode cX12_lays 177 = .ok (.iinc 5 1, 3) := by decide +kernel
theorem dX12_lays_180 : decode cX12_lays 180 = .ok (.goto (-138), 3) := by decide +kernel
theorem dX12_lays_183 : decode cX12_lays 183 = .ok (.return_, 1) := by decide +kernel
theorem dX12_times_0 : decode cX12_times 0 = .ok (.aload_n 0, 1) := by decide +kernel
theorem dX12_times_1 : decode cX12_times 1 = .ok (.iconst 0, 1) := by decide +kernel
theorem dX12_times_2 : decode cX12_times 2 = .ok (.putfield 148, 3) := by decide +kernel
theorem dX12_times_5 : decode cX12_times 5 = .ok (.aload_n 0, 1) := by decide +kernel
theorem dX12_times_6 : decode cX12_times 6 = .ok (.iload_n 1, 1) := by decide +kernel
theorem dX12_times_7 : decode cX12_times 7 = .ok (.iload_n 2, 1) := by decide +kernel
theorem dX12_times_8 : decode cX12_times 8 = .ok (.invokevirtual 456, 3) := by decide +kernel
theorem dX12_times_11 : decode cX12_times 11 = .ok (.ifCond .ne 7, 3) := by decide +kernel
theorem dX12_times_14 : decode cX12_times 14 = .ok (.ldc2_w 470, 3) := by decide +kernel
theorem dX12_times_17 : decode cX12_times 17 = .ok (.lreturn, 1) := by decide +kernel
theorem dX12_times_18 : decode cX12_times 18 = .ok (.aload_n 0, 1) := by decide +kernel
theorem dX12_times_19 : decode cX12_times 19 = .ok (.iload_n 1, 1) := by decide +kernel
theorem dX12_times_20 : decode cX12_times 20 = .ok (.iload_n 2, 1) := by decide +kernel
theorem dX12_times_21 : decode cX12_times 21 = .ok (.invokevirtual 472, 3) := by decide +kernel
theorem dX12_times_24 : decode cX12_times 24 = .ok (.lconst 0, 1) := by decide +kernel
theorem dX12_times_25 : decode cX12_times 25 = .ok (.lstore_n 3, 1) := by decide +kernel
theorem dX12_times_26 : decode cX12_times 26 = .ok (.iconst 1, 1) := by decide +kernel
theorem dX12_times_27 : decode cX12_times 27 = .ok (.istore 5, 2) := by decide +kernel
theorem dX12_times_29 : decode cX12_times 29 = .ok (.iload 5, 2) := by decide +kernel
theorem dX12_times_31 : decode cX12_times 31 = .ok (.bipush 60, 2) := by decide +kernel
theorem dX12_times_33 : decode cX12_times 33 = .ok (.if_icmp .gt 31, 3) := by decide +kernel
theorem dX12_times_36 : decode cX12_times 36 = .ok (.lload_n 3, 1) := by decide +kernel
theorem dX12_times_37 : decode cX12_times 37 = .ok (.aload_n 0, 1) := by decide +kernel
theorem dX12_times_38 : decode cX12_times 38 = .ok (.getfield 105, 3) := by decide +kernel
theorem dX12_times_41 : decode cX12_times 41 = .ok (.iload 5, 2) := by decide +kernel
theorem dX12_times_43 : decode cX12_times 43 = .ok (.iaload, 1) := by decide +kernel
theorem dX12_times_44 : decode cX12_times 44 = .ok (.iconst (-1), 1) := by decide +kernel
theorem dX12_times_45 : decode cX12_times 45 = .ok (.if_icmp .eq 10, 3) := by decide +kernel
theorem dX12_times_48 : decode cX12_times 48 = .ok (.lconst 1, 1) := by decide +kernel
theorem dX12_times_49 : decode cX12_times 49 = .ok (.iload 5, 2) := by decide +kernel
theorem dX12_times_51 : decode cX12_times 51 = .ok (.lshl, 1) := by decide +kernel
theorem dX12_times_52 : decode cX12_times 52 = .ok (.goto 4, 3) := by decide +kernel
theorem dX12_times_55 : decode cX12_times 55 = .ok (.lconst 0, 1) := by decide +kernel
theorem dX12_times_56 : decode cX12_times 56 = .ok (.lor, 1) := by decide +kernel
theorem dX12_times_57 : decode cX12_times 57 = .ok (.lstore_n 3, 1) := by decide +kernel
theorem dX12_times_58 : decode cX12_times 58 = .ok (.iinc 5 1, 3) := by decide +kernel
theorem dX12_times_61 : decode cX12_times 61 = .ok (.goto (-32), 3) := by decide +kernel
theorem dX12_times_64 : decode cX12_times 64 = .ok (.lload_n 3, 1) := by decide +kernel
theorem dX12_times_65 : decode cX12_times 65 = .ok (.lreturn, 1) := by decide +kernel
theorem dX12_lightings_0 : decode cX12_lightings 0 = .ok (.aload_n 0, 1) := by decide +kernel
theorem dX12_lightings_1 : decode cX12_lightings 1 = .ok (.iconst 0, 1) := by decide +kernel
theorem dX12_lightings_2 : decode cX12_lightings 2 = .ok (.putfield 148, 3) := by decide +kernel
theorem dX12_lightings_5 : decode cX12_lightings 5 = .ok (.aload_n 0, 1) := by decide +kernel
theorem dX12_lightings_6 : decode cX12_lightings 6 = .ok (.iload_n 1, 1) := by decide +kernel
theorem dX12_lightings_7 : decode cX12_lightings 7 = .ok (.iload_n 2, 1) := by decide +kernel
theorem dX12_lightings_8 : decode cX12_lightings 8 = .ok (.invokevirtual 456, 3) := by decide +kernel
theorem dX12_lightings_11 : decode cX12_lightings 11 = .ok (.ifCond .eq 14, 3) := by decide +kernel
theorem dX12_lightings_14 : decode cX12_lightings 14 = .ok (.iload_n 3, 1) := by decide +kernel
theorem dX12_lightings_15 : decode cX12_lightings 15 = .ok (.iconst 1, 1) := by decide +kernel
theorem dX12_lightings_16 : decode cX12_lightings 16 = .ok (.if_icmp .lt 9, 3) := by decide +kernel
theorem dX12_lightings_19 : decode cX12_lightings 19 = .ok (.iload_n 3, 1) := by decide +kernel
theorem dX12_lightings_20 : decode cX12_lightings 20 = .ok (.bipush 60, 2) := by decide +kernel
theorem dX12_lightings_22 : decode cX12_lightings 22 = .ok (.if_icmp .le 5, 3) := by decide +kernel
theorem dX12_lightings_25 : decode cX12_lightings 25 = .ok (.iconst (-1), 1) := by decide +kernel
theorem dX12_lightings_26 : decode cX12_lightings 26 = .ok (.ireturn, 1) := by decide +kernel
theorem dX12_lightings_27 : decode cX12_lightings 27 = .ok (.aload_n 0, 1) := by decide +kernel
theorem dX12_lightings_28 : decode cX12_lightings 28 = .ok (.iload_n 1, 1) := by decide +kernel
theorem dX12_lightings_29 : decode cX12_lightings 29 = .ok (.iload_n 2, 1) := by decide +kernel
theorem dX12_lightings_30 : decode cX12_lightings 30 = .ok (.invokevirtual 472, 3) := by decide +kernel
theorem dX12_lightings_33 : decode cX12_lightings 33 = .ok (.aload_n 0, 1) := by decide +kernel
theorem dX12_lightings_34 : decode cX12_lightings 34 = .ok (.getfield 105, 3) := by decide +kernel
theorem dX12_lightings_37 : decode cX12_lightings 37 = .ok (.iload_n 3, 1) := by decide +kernel
theorem dX12_lightings_38 : decode cX12_lightings 38 = .ok (.iaload, 1) := by decide +kernel
theorem dX12_lightings_39 : decode cX12_lightings 39 = .ok (.iconst (-1), 1) := by decide +kernel
theorem dX12_lightings_40 : decode cX12_lightings 40 = .ok (.if_icmp .ne 8, 3) := by decide +kernel
theorem dX12_lightings_43 : decode cX12_lightings 43 = .ok (.bipush (-2), 2) := by decide +kernel
theorem dX12_lightings_45 : decode cX12_lightings 45 = .ok (.goto 9, 3) := by decide +kernel
theorem dX12_lightings_48 : decode cX12_lightings 48 = .ok (.aload_n 0, 1) := by decide +kernel
theorem dX12_lightings_49 : decode cX12_lightings 49 = .ok (.getfield 105, 3) := by decide +kernel
theorem dX12_lightings_52 : decode cX12_lightings 52 = .ok (.iload_n 3, 1) := by decide +kernel
theorem dX12_lightings_53 : decode cX12_lightings 53 = .ok (.iaload, 1) := by decide +kernel
theorem dX12_lightings_54 : decode cX12_lightings 54 = .ok (.ireturn, 1) := by decide +kernel
theorem dX12_doAllSee_0 : decode cX12_doAllSee 0 = .ok (.iconst 0, 1) := by decide +kernel
theorem dX12_doAllSee_1 : decode cX12_doAllSee 1 = .ok (.istore_n 2, 1) := by decide +kernel
theorem dX12_doAllSee_2 : decode cX12_doAllSee 2 = .ok (.iload_n 2, 1) := by decide +kernel
theorem dX12_doAllSee_3 : decode cX12_doAllSee 3 = .ok (.aload_n 0, 1) := by decide +kernel
theorem dX12_doAllSee_4 : decode cX12_doAllSee 4 = .ok (.getfield 13, 3) := by decide +kernel
theorem dX12_doAllSee_7 : decode cX12_doAllSee 7 = .ok (.iconst 0, 1) := by decide +kernel
theorem dX12_doAllSee_8 : decode cX12_doAllSee 8 = .ok (.iaload, 1) := by decide +kernel
theorem dX12_doAllSee_9 : decode cX12_doAllSee 9 = .ok (.if_icmp .ge 38, 3) := by decide +kernel
theorem dX12_doAllSee_12 : decode cX12_doAllSee 12 = .ok (.iload_n 1, 1) := by decide +kernel
theorem dX12_doAllSee_13 : decode cX12_doAllSee 13 = .ok (.iload_n 2, 1) := by decide +kernel
theorem dX12_doAllSee_14 : decode cX12_doAllSee 14 = .ok (.ishr, 1) := by decide +kernel
theorem dX12_doAllSee_15 : decode cX12_doAllSee 15 = .ok (.iconst 1, 1) := by decide +kernel
theorem dX12_doAllSee_16 : decode cX12_doAllSee 16 = .ok (.iand, 1) := by decide +kernel
theorem dX12_doAllSee_17 : decode cX12_doAllSee 17 = .ok (.iconst 1, 1) := by decide +kernel
theorem dX12_doAllSee_18 : decode cX12_doAllSee 18 = .ok (.if_icmp .ne 12, 3) := by decide +kernel
theorem dX12_doAllSee_21 : decode cX12_doAllSee 21 = .ok (.aload_n 0, 1) := by decide +kernel
theorem dX12_doAllSee_22 : decode cX12_doAllSee 22 = .ok (.iconst 0, 1) := by decide +kernel
theorem dX12_doAllSee_23 : decode cX12_doAllSee 23 = .ok (.iload_n 2, 1) := by decide +kernel
theorem dX12_doAllSee_24 : decode cX12_doAllSee 24 = .ok (.invokevirtual 353, 3) := by decide +kernel
theorem dX12_doAllSee_27 : decode cX12_doAllSee 27 = .ok (.ifCond .eq 12, 3) := by decide +kernel
theorem dX12_doAllSee_30 : decode cX12_doAllSee 30 = .ok (.aload_n 0, 1) := by decide +kernel
theorem dX12_doAllSee_31 : decode cX12_doAllSee 31 = .ok (.iload_n 2, 1) := by decide +kernel
theorem dX12_doAllSee_32 : decode cX12_doAllSee 32 = .ok (.iload_n 1, 1) := by decide +kernel
theorem dX12_doAllSee_33 : decode cX12_doAllSee 33 = .ok (.invokevirtual 413, 3) := by decide +kernel
theorem dX12_doAllSee_36 : decode cX12_doAllSee 36 = .ok (.ifCond .ne 5, 3) := by decide +kernel
theorem dX12_doAllSee_39 : decode cX12_doAllSee 39 = .ok (.iconst 0, 1) := by decide +kernel
theorem dX12_doAllSee_40 : decode cX12_doAllSee 40 = .ok (.ireturn, 1) := by decide +kernel
theorem dX12_doAllSee_41 : decode cX12_doAllSee 41 = .ok (.iinc 2 1, 3) := by decide +kernel
theorem dX12_doAllSee_44 : decode cX12_doAllSee 44 = .ok (.goto (-42), 3) := by decide +kernel
theorem dX12_doAllSee_47 : decode cX12_doAllSee 47 = .ok (.iconst 1, 1) := by decide +kernel
theorem dX12_doAllSee_48 : decode cX12_doAllSee 48 = .ok (.ireturn, 1) := by decide +kernel
theorem dX12_cover_0 : decode cX12_cover 0 = .ok (.aload_n 0, 1) := by decide +kernel
theorem dX12_cover_1 : decode cX12_cover 1 = .ok (.iconst 0, 1) := by decide +kernel
theorem dX12_cover_2 : decode cX12_cover 2 = .ok (.putfield 148, 3) := by decide +kernel
theorem dX12_cover_5 : decode cX12_cover 5 = .ok (.bipush (-2), 2) := by decide +kernel
theorem dX12_cover_7 : decode cX12_cover 7 = .ok (.istore_n 1, 1) := by decide +kernel
theorem dX12_cover_8 : decode cX12_cover 8 = .ok (.iconst 0, 1) := by decide +kernel
theorem dX12_cover_9 : decode cX12_cover 9 = .ok (.istore_n 2, 1) := by decide +kernel
theorem dX12_cover_10 : decode cX12_cover 10 = .ok (.iload_n 2, 1) := by decide +kernel
theorem dX12_cover_11 : decode cX12_cover 11 = .ok (.iconst 1, 1) := by decide +kernel
theorem dX12_cover_12 : decode cX12_cover 12 = .ok (.aload_n 0, 1) := by decide +kernel
theorem dX12_cover_13 : decode cX12_cover 13 = .ok (.getfield 13, 3) := by decide +kernel
theorem dX12_cover_16 : decode cX12_cover 16 = .ok (.iconst 0, 1) := by decide +kernel
theorem dX12_cover_17 : decode cX12_cover 17 = .ok (.iaload, 1) := by decide +kernel
theorem dX12_cover_18 : decode cX12_cover 18 = .ok (.ishl, 1) := by decide +kernel
theorem dX12_cover_19 : decode cX12_cover 19 = .ok (.if_icmp .ge 34, 3) := by decide +kernel
theorem dX12_cover_22 : decode cX12_cover 22 = .ok (.iload_n 1, 1) := by decide +kernel
theorem dX12_cover_23 : decode cX12_cover 23 = .ok (.ifCond .lt 14, 3) := by decide +kernel
theorem dX12_cover_26 : decode cX12_cover 26 = .ok (.iload_n 2, 1) := by decide +kernel
theorem dX12_cover_27 : decode cX12_cover 27 = .ok (.invokestatic 356, 3) := by decide +kernel
theorem dX12_cover_30 : decode cX12_cover 30 = .ok (.iload_n 1, 1) := by decide +kernel
theorem dX12_cover_31 : decode cX12_cover 31 = .ok (.invokestatic 356, 3) := by decide +kernel
theorem dX12_cover_34 : decode cX12_cover 34 = .ok (.if_icmp .ge 13, 3) := by decide +kernel
theorem dX12_cover_37 : decode cX12_cover 37 = .ok (.aload_n 0, 1) := by decide +kernel
theorem dX12_cover_38 : decode cX12_cover 38 = .ok (.iload_n 2, 1) := by decide +kernel
theorem dX12_cover_39 : decode cX12_cover 39 = .ok (.invokevirtual 475, 3) := by decide +kernel
theorem dX12_cover_42 : decode cX12_cover 42 = .ok (.ifCond .eq 5, 3) := by decide +kernel
theorem dX12_cover_45 : decode cX12_cover 45 = .ok (.iload_n 2, 1) := by decide +kernel
theorem dX12_cover_46 : decode cX12_cover 46 = .ok (.istore_n 1, 1) := by decide +kernel
theorem dX12_cover_47 : decode cX12_cover 47 = .ok (.iinc 2 1, 3) := by decide +kernel
theorem dX12_cover_50 : decode cX12_cover 50 = .ok (.goto (-40), 3) := by decide +kernel
theorem dX12_cover_53 : decode cX12_cover 53 = .ok (.iload_n 1, 1) := by decide +kernel
theorem dX12_cover_54 : decode cX12_cover 54 = .ok (.ireturn, 1) := by decide +kernel
theorem dX12_last_0 : decode cX12_last 0 = .ok (.aload_n 0, 1) := by decide +kernel
theorem dX12_last_1 : decode cX12_last 1 = .ok (.iconst 0, 1) := by decide +kernel
theorem dX12_last_2 : decode cX12_last 2 = .ok (.putfield 148, 3) := by decide +kernel
theorem dX12_last_5 : decode cX12_last 5 = .ok (.iload_n 1, 1) := by decide +kernel
theorem dX12_last_6 : decode cX12_last 6 = .ok (.ifCond .lt 10, 3) := by decide +kernel
theorem dX12_last_9 : decode cX12_last 9 = .ok (.iload_n 1, 1) := by decide +kernel
theorem dX12_last_10 : decode cX12_last 10 = .ok (.sipush 360, 3) := by decide +kernel
theorem dX12_last_13 : decode cX12_last 13 = .ok (.if_icmp .le 5, 3) := by decide +kernel
theorem dX12_last_16 : decode cX12_last 16 = .ok (.iconst (-1), 1) := by decide +kernel
theorem dX12_last_17 : decode cX12_last 17 = .ok (.ireturn, 1) := by decide +kernel
theorem dX12_last_18 : decode cX12_last 18 = .ok (.bipush (-2), 2) := by decide +kernel
theorem dX12_last_20 : decode cX12_last 20 = .ok (.istore_n 2, 1) := by decide +kernel
theorem dX12_last_21 : decode cX12_last 21 = .ok (.iconst 0, 1) := by decide +kernel
theorem dX12_last_22 : decode cX12_last 22 = .ok (.istore_n 3, 1) := by decide +kernel
theorem dX12_last_23 : decode cX12_last 23 = .ok (.iload_n 3, 1) := by decide +kernel
theorem dX12_last_24 : decode cX12_last 24 = .ok (.iconst 1, 1) := by decide +kernel
theorem dX12_last_25 : decode cX12_last 25 = .ok (.aload_n 0, 1) := by decide +kernel
theorem dX12_last_26 : decode cX12_last 26 = .ok (.getfield 13, 3) := by decide +kernel
theorem dX12_last_29 : decode cX12_last 29 = .ok (.iconst 0, 1) := by decide +kernel
theorem dX12_last_30 : decode cX12_last 30 = .ok (.iaload, 1) := by decide +kernel
theorem dX12_last_31 : decode cX12_last 31 = .ok (.ishl, 1) := by decide +kernel
theorem dX12_last_32 : decode cX12_last 32 = .ok (.if_icmp .ge 81, 3) := by decide +kernel
theorem dX12_last_35 : decode cX12_last 35 = .ok (.iconst 0, 1) := by decide +kernel
theorem dX12_last_36 : decode cX12_last 36 = .ok (.istore 4, 2) := by decide +kernel
theorem dX12_last_38 : decode cX12_last 38 = .ok (.iconst 0, 1) := by decide +kernel
theorem dX12_last_39 : decode cX12_last 39 = .ok (.istore 5, 2) := by decide +kernel
theorem dX12_last_41 : decode cX12_last 41 = .ok (.iload 5, 2) := by decide +kernel
theorem dX12_last_43 : decode cX12_last 43 = .ok (.aload_n 0, 1) := by decide +kernel
theorem dX12_last_44 : decode cX12_last 44 = .ok (.getfield 13, 3) := by decide +kernel
theorem dX12_last_47 : decode cX12_last 47 = .ok (.iconst 0, 1) := by decide +kernel
theorem dX12_last_48 : decode cX12_last 48 = .ok (.iaload, 1) := by decide +kernel
theorem dX12_last_49 : decode cX12_last 49 = .ok (.if_icmp .ge 35, 3) := by decide +kernel
theorem dX12_last_52 : decode cX12_last 52 = .ok (.iload 4, 2) := by decide +kernel
theorem dX12_last_54 : decode cX12_last 54 = .ok (.iload_n 3, 1) := by decide +kernel
theorem dX12_last_55 : decode cX12_last 55 = .ok (.iload 5, 2) := by decide +kernel
theorem dX12_last_57 : decode cX12_last 57 = .ok (.ishr, 1) := by decide +kernel
theorem dX12_last_58 : decode cX12_last 58 = .ok (.iconst 1, 1) := by decide +kernel
theorem dX12_last_59 : decode cX12_last 59 = .ok (.iand, 1) := by decide +kernel
theorem dX12_last_60 : decode cX12_last 60 = .ok (.iconst 1, 1) := by decide +kernel
theorem dX12_last_61 : decode cX12_last 61 = .ok (.if_icmp .ne 13, 3) := by decide +kernel
theorem dX12_last_64 : decode cX12_last 64 = .ok (.aload_n 0, 1) := by decide +kernel
theorem dX12_last_65 : decode cX12_last 65 = .ok (.iconst 0, 1) := by decide +kernel
theorem dX12_last_66 : decode cX12_last 66 = .ok (.iload 5, 2) := by decide +kernel
theorem dX12_last_68 : decode cX12_last 68 = .ok (.invokevirtual 353, 3) := by decide +kernel
theorem dX12_last_71 : decode cX12_last 71 = .ok (.goto 4, 3) := by decide +kernel
theorem dX12_last_74 : decode cX12_last 74 = .ok (.iconst 0, 1) := by decide +kernel
theorem dX12_last_75 : decode cX12_last 75 = .ok (.iadd, 1) := by decide +kernel
theorem dX12_last_76 : decode cX12_last 76 = .ok (.istore 4, 2) := by decide +kernel
theorem dX12_last_78 : decode cX12_last 78 = .ok (.iinc 5 1, 3) := by decide +kernel
theorem dX12_last_81 : decode cX12_last 81 = .ok (.goto (-40), 3) := by decide +kernel
theorem dX12_last_84 : decode cX12_last 84 = .ok (.iload 4, 2) := by decide +kernel
theorem dX12_last_86 : decode cX12_last 86 = .ok (.iload_n 1, 1) := by decide +kernel
theorem dX12_last_87 : decode cX12_last 87 = .ok (.if_icmp .lt 20, 3) := by decide +kernel
theorem dX12_last_90 : decode cX12_last 90 = .ok (.iload_n 2, 1) := by decide +kernel
theorem dX12_last_91 : decode cX12_last 91 = .ok (.ifCond .lt 14, 3) := by decide +kernel
theorem dX12_last_94 : decode cX12_last 94 = .ok (.iload_n 3, 1) := by decide +kernel
theorem dX12_last_95 : decode cX12_last 95 = .ok (.invokestatic 356, 3) := by decide +kernel
theorem dX12_last_98 : decode cX12_last 98 = .ok (.iload_n 2, 1) := by decide +kernel
theorem dX12_last_99 : decode cX12_last 99 = .ok (.invokestatic 356, 3) := by decide +kernel
theorem dX12_last_102 : decode cX12_last 102 = .ok (.if_icmp .ge 5, 3) := by decide +kernel
theorem dX12_last_105 : decode cX12_last 105 = .ok (.iload_n 3, 1) := by decide +kernel
theorem dX12_last_106 : decode cX12_last 106 = .ok (.istore_n 2, 1) := by decide +kernel
theorem dX12_last_107 : decode cX12_last 107 = .ok (.iinc 3 1, 3) := by decide +kernel
theorem dX12_last_110 : decode cX12_last 110 = .ok (.goto (-87), 3) := by decide +kernel
theorem dX12_last_113 : decode cX12_last 113 = .ok (.iload_n 2, 1) := by decide +kernel
theorem dX12_last_114 : decode cX12_last 114 = .ok (.ireturn, 1) := by decide +kernel
theorem dX12_matches_0 : decode cX12_matches 0 = .ok (.iload_n 1, 1) := by decide +kernel
theorem dX12_matches_1 : decode cX12_matches 1 = .ok (.aload_n 0, 1) := by decide +kernel
theorem dX12_matches_2 : decode cX12_matches 2 = .ok (.getfield 13, 3) := by decide +kernel
theorem dX12_matches_5 : decode cX12_matches 5 = .ok (.iconst 0, 1) := by decide +kernel
theorem dX12_matches_6 : decode cX12_matches 6 = .ok (.iaload, 1) := by decide +kernel
theorem dX12_matches_7 : decode cX12_matches 7 = .ok (.if_icmp .ne 47, 3) := by decide +kernel
theorem dX12_matches_10 : decode cX12_matches 10 = .ok (.iload_n 3, 1) := by decide +kernel
theorem dX12_matches_11 : decode cX12_matches 11 = .ok (.aload_n 0, 1) := by decide +kernel
theorem dX12_matches_12 : decode cX12_matches 12 = .ok (.getfield 478, 3) := by decide +kernel
theorem dX12_matches_15 : decode cX12_matches 15 = .ok (.if_icmp .gt 4, 3) := by decide +kernel
theorem dX12_matches_18 : decode cX12_matches 18 = .ok (.return_, 1) := by decide +kernel
theorem dX12_matches_19 : decode cX12_matches 19 = .ok (.aload_n 0, 1) := by decide +kernel
theorem dX12_matches_20 : decode cX12_matches 20 = .ok (.iload_n 3, 1) := by decide +kernel
theorem dX12_matches_21 : decode cX12_matches 21 = .ok (.putfield 478, 3) := by decide +kernel
theorem dX12_matches_24 : decode cX12_matches 24 = .ok (.iconst 0, 1) := by decide +kernel
theorem dX12_matches_25 : decode cX12_matches 25 = .ok (.istore 4, 2) := by decide +kernel
theorem dX12_matches_27 : decode cX12_matches 27 = .ok (.iload 4, 2) := by decide +kernel
theorem dX12_matches_29 : decode cX12_matches 29 = .ok (.iload_n 1, 1) := by decide +kernel
theorem dX12_matches_30 : decode cX12_matches 30 = .ok (.if_icmp .ge 23, 3) := by decide +kernel
theorem dX12_matches_33 : decode cX12_matches 33 = .ok (.aload_n 0, 1) := by decide +kernel
theorem dX12_matches_34 : decode cX12_matches 34 = .ok (.getfield 111, 3) := by decide +kernel
theorem dX12_matches_37 : decode cX12_matches 37 = .ok (.iload 4, 2) := by decide +kernel
theorem dX12_matches_39 : decode cX12_matches 39 = .ok (.aload_n 0, 1) := by decide +kernel
theorem dX12_matches_40 : decode cX12_matches 40 = .ok (.getfield 108, 3) := by decide +kernel
theorem dX12_matches_43 : decode cX12_matches 43 = .ok (.iload 4, 2) := by decide +kernel
theorem dX12_matches_45 : decode cX12_matches 45 = .ok (.iaload, 1) := by decide +kernel
theorem dX12_matches_46 : decode cX12_matches 46 = .ok (.iastore, 1) := by decide +kernel
theorem dX12_matches_47 : decode cX12_matches 47 = .ok (.iinc 4 1, 3) := by decide +kernel
theorem dX12_matches_50 : decode cX12_matches 50 = .ok (.goto (-23), 3) := by decide +kernel
theorem dX12_matches_53 : decode cX12_matches 53 = .ok (.return_, 1) := by decide +kernel
theorem dX12_matches_54 : decode cX12_matches 54 = .ok (.aload_n 0, 1) := by decide +kernel
theorem dX12_matches_55 : decode cX12_matches 55 = .ok (.iload_n 1, 1) := by decide +kernel
theorem dX12_matches_56 : decode cX12_matches 56 = .ok (.aload_n 0, 1) := by decide +kernel
theorem dX12_matches_57 : decode cX12_matches 57 = .ok (.iconst 0, 1) := by decide +kernel
theorem dX12_matches_58 : decode cX12_matches 58 = .ok (.invokevirtual 410, 3) := by decide +kernel
theorem dX12_matches_61 : decode cX12_matches 61 = .ok (.invokevirtual 413, 3) := by decide +kernel
theorem dX12_matches_64 : decode cX12_matches 64 = .ok (.ifCond .eq 7, 3) := by decide +kernel
theorem dX12_matches_67 : decode cX12_matches 67 = .ok (.iconst 0, 1) := by decide +kernel
theorem dX12_matches_68 : decode cX12_matches 68 = .ok (.goto 12, 3) := by decide +kernel
theorem dX12_matches_71 : decode cX12_matches 71 = .ok (.aload_n 0, 1) := by decide +kernel
theorem dX12_matches_72 : decode cX12_matches 72 = .ok (.iload_n 1, 1) := by decide +kernel
theorem dX12_matches_73 : decode cX12_matches 73 = .ok (.invokevirtual 350, 3) := by decide +kernel
theorem dX12_matches_76 : decode cX12_matches 76 = .ok (.iload_n 2, 1) := by decide +kernel
theorem dX12_matches_77 : decode cX12_matches 77 = .ok (.iconst (-1), 1) := by decide +kernel
theorem dX12_matches_78 : decode cX12_matches 78 = .ok (.ixor, 1) := by decide +kernel
theorem dX12_matches_79 : decode cX12_matches 79 = .ok (.iand, 1) := by decide +kernel
theorem dX12_matches_80 : decode cX12_matches 80 = .ok (.istore 4, 2) := by decide +kernel
theorem dX12_matches_82 : decode cX12_matches 82 = .ok (.iconst 0, 1) := by decide +kernel
theorem dX12_matches_83 : decode cX12_matches 83 = .ok (.istore 5, 2) := by decide +kernel
theorem dX12_matches_85 : decode cX12_matches 85 = .ok (.iload 5, 2) := by decide +kernel
theorem dX12_matches_87 : decode cX12_matches 87 = .ok (.aload_n 0, 1) := by decide +kernel
theorem dX12_matches_88 : decode cX12_matches 88 = .ok (.getfield 13, 3) := by decide +kernel
theorem dX12_matches_91 : decode cX12_matches 91 = .ok (.iconst 0, 1) := by decide +kernel
theorem dX12_matches_92 : decode cX12_matches 92 = .ok (.iaload, 1) := by decide +kernel
theorem dX12_matches_93 : decode cX12_matches 93 = .ok (.if_icmp .ge 56, 3) := by decide +kernel
theorem dX12_matches_96 : decode cX12_matches 96 = .ok (.iload 4, 2) := by decide +kernel
theorem dX12_matches_98 : decode cX12_matches 98 = .ok (.iload 5, 2) := by decide +kernel
theorem dX12_matches_100 : decode cX12_matches 100 = .ok (.ishr, 1) := by decide +kernel
theorem dX12_matches_101 : decode cX12_matches 101 = .ok (.iconst 1, 1) := by decide +kernel
theorem dX12_matches_102 : decode cX12_matches 102 = .ok (.iand, 1) := by decide +kernel
theorem dX12_matches_103 : decode cX12_matches 103 = .ok (.ifCond .eq 40, 3) := by decide +kernel
theorem dX12_matches_106 : decode cX12_matches 106 = .ok (.aload_n 0, 1) := by decide +kernel
theorem dX12_matches_107 : decode cX12_matches 107 = .ok (.iconst 0, 1) := by decide +kernel
theorem dX12_matches_108 : decode cX12_matches 108 = .ok (.iload 5, 2) := by decide +kernel
theorem dX12_matches_110 : decode cX12_matches 110 = .ok (.invokevirtual 353, 3) := by decide +kernel
theorem dX12_matches_113 : decode cX12_matches 113 = .ok (.ifCond .ne 6, 3) := by decide +kernel
theorem dX12_matches_116 : decode cX12_matches 116 = .ok (.goto 27, 3) := by decide +kernel
theorem dX12_matches_119 : decode cX12_matches 119 = .ok (.aload_n 0, 1) := by decide +kernel
theorem dX12_matches_120 : decode cX12_matches 120 = .ok (.getfield 108, 3) := by decide +kernel
theorem dX12_matches_123 : decode cX12_matches 123 = .ok (.iload_n 1, 1) := by decide +kernel
theorem dX12_matches_124 : decode cX12_matches 124 = .ok (.iload 5, 2) := by decide +kernel
theorem dX12_matches_126 : decode cX12_matches 126 = .ok (.iastore, 1) := by decide +kernel
theorem dX12_matches_127 : decode cX12_matches 127 = .ok (.aload_n 0, 1) := by decide +kernel
theorem dX12_matches_128 : decode cX12_matches 128 = .ok (.iload_n 1, 1) := by decide +kernel
theorem dX12_matches_129 : decode cX12_matches 129 = .ok (.iconst 1, 1) := by decide +kernel
theorem dX12_matches_130 : decode cX12_matches 130 = .ok (.iadd, 1) := by decide +kernel
theorem dX12_matches_131 : decode cX12_matches 131 = .ok (.iload_n 2, 1) := by decide +kernel
theorem dX12_matches_132 : decode cX12_matches 132 = .ok (.iconst 1, 1) := by decide +kernel
theorem dX12_matches_133 : decode cX12_matches 133 = .ok (.iload 5, 2) := by decide +kernel
theorem dX12_matches_135 : decode cX12_matches 135 = .ok (.ishl, 1) := by decide +kernel
theorem dX12_matches_136 : decode cX12_matches 136 = .ok (.ior, 1) := by decide +kernel
theorem dX12_matches_137 : decode cX12_matches 137 = .ok (.iload_n 3, 1) := by decide +kernel
theorem dX12_matches_138 : decode cX12_matches 138 = .ok (.iconst 1, 1) := by decide +kernel
theorem dX12_matches_139 : decode cX12_matches 139 = .ok (.iadd, 1) := by decide +kernel
theorem dX12_matches_140 : decode cX12_matches 140 = .ok (.invokevirtual 481, 3) := by decide +kernel
theorem dX12_matches_143 : decode cX12_matches 143 = .ok (.iinc 5 1, 3) := by decide +kernel
theorem dX12_matches_146 : decode cX12_matches 146 = .ok (.goto (-61), 3) := by decide +kernel
theorem dX12_matches_149 : decode cX12_matches 149 = .ok (.aload_n 0, 1) := by decide +kernel
theorem dX12_matches_150 : decode cX12_matches 150 = .ok (.getfield 108, 3) := by decide +kernel
theorem dX12_matches_153 : decode cX12_matches 153 = .ok (.iload_n 1, 1) := by decide +kernel
theorem dX12_matches_154 : decode cX12_matches 154 = .ok (.bipush (-2), 2) := by decide +kernel
theorem dX12_matches_156 : decode cX12_matches 156 = .ok (.iastore, 1) := by decide +kernel
theorem dX12_matches_157 : decode cX12_matches 157 = .ok (.aload_n 0, 1) := by decide +kernel
theorem dX12_matches_158 : decode cX12_matches 158 = .ok (.iload_n 1, 1) := by decide +kernel
theorem dX12_matches_159 : decode cX12_matches 159 = .ok (.iconst 1, 1) := by decide +kernel
theorem dX12_matches_160 : decode cX12_matches 160 = .ok (.iadd, 1) := by decide +kernel
theorem dX12_matches_161 : decode cX12_matches 161 = .ok (.iload_n 2, 1) := by decide +kernel
theorem dX12_matches_162 : decode cX12_matches 162 = .ok (.iload_n 3, 1) := by decide +kernel
theorem dX12_matches_163 : decode cX12_matches 163 = .ok (.invokevirtual 481, 3) := by decide +kernel
theorem dX12_matches_166 : decode cX12_matches 166 = .ok (.return_, 1) := by decide +kernel
theorem dX12_match_0 : decode cX12_match 0 = .ok (.aload_n 0, 1) := by decide +kernel
theorem dX12_match_1 : decode cX12_match 1 = .ok (.iconst 0, 1) := by decide +kernel
theorem dX12_match_2 : decode cX12_match 2 = .ok (.putfield 148, 3) := by decide +kernel
theorem dX12_match_5 : decode cX12_match 5 = .ok (.iload_n 1, 1) := by decide +kernel
theorem dX12_match_6 : decode cX12_match 6 = .ok (.ifCond .lt 9, 3) := by decide +kernel
theorem dX12_match_9 : decode cX12_match 9 = .ok (.iload_n 1, 1) := by decide +kernel
theorem dX12_match_10 : decode cX12_match 10 = .ok (.bipush 6, 2) := by decide +kernel
theorem dX12_match_12 : decode cX12_match 12 = .ok (.if_icmp .le 5, 3) := by decide +kernel
theorem dX12_match_15 : decode cX12_match 15 = .ok (.iconst (-1), 1) := by decide +kernel
theorem dX12_match_16 : decode cX12_match 16 = .ok (.ireturn, 1) := by decide +kernel
theorem dX12_match_17 : decode cX12_match 17 = .ok (.aload_n 0, 1) := by decide +kernel
theorem dX12_match_18 : decode cX12_match 18 = .ok (.iconst (-1), 1) := by decide +kernel
theorem dX12_match_19 : decode cX12_match 19 = .ok (.putfield 478, 3) := by decide +kernel
theorem dX12_match_22 : decode cX12_match 22 = .ok (.aload_n 0, 1) := by decide +kernel
theorem dX12_match_23 : decode cX12_match 23 = .ok (.iconst 0, 1) := by decide +kernel
theorem dX12_match_24 : decode cX12_match 24 = .ok (.iconst 0, 1) := by decide +kernel
theorem dX12_match_25 : decode cX12_match 25 = .ok (.iconst 0, 1) := by decide +kernel
theorem dX12_match_26 : decode cX12_match 26 = .ok (.invokevirtual 481, 3) := by decide +kernel
theorem dX12_match_29 : decode cX12_match 29 = .ok (.iload_n 1, 1) := by decide +kernel
theorem dX12_match_30 : decode cX12_match 30 = .ok (.bipush 6, 2) := by decide +kernel
theorem dX12_match_32 : decode cX12_match 32 = .ok (.if_icmp .ne 10, 3) := by decide +kernel
theorem dX12_match_35 : decode cX12_match 35 = .ok (.aload_n 0, 1) := by decide +kernel
theorem dX12_match_36 : decode cX12_match 36 = .ok (.getfield 478, 3) := by decide +kernel
theorem dX12_match_39 : decode cX12_match 39 = .ok (.goto 24, 3) := by decide +kernel
theorem dX12_match_42 : decode cX12_match 42 = .ok (.iload_n 1, 1) := by decide +kernel
theorem dX12_match_43 : decode cX12_match 43 = .ok (.aload_n 0, 1) := by decide +kernel
theorem dX12_match_44 : decode cX12_match 44 = .ok (.getfield 13, 3) := by decide +kernel
theorem dX12_match_47 : decode cX12_match 47 = .ok (.iconst 0, 1) := by decide +kernel
theorem dX12_match_48 : decode cX12_match 48 = .ok (.iaload, 1) := by decide +kernel
theorem dX12_match_49 : decode cX12_match 49 = .ok (.if_icmp .ge 12, 3) := by decide +kernel
theorem dX12_match_52 : decode cX12_match 52 = .ok (.aload_n 0, 1) := by decide +kernel
theorem dX12_match_53 : decode cX12_match 53 = .ok (.getfield 111, 3) := by decide +kernel
theorem dX12_match_56 : decode cX12_match 56 = .ok (.iload_n 1, 1) := by decide +kernel
theorem dX12_match_57 : decode cX12_match 57 = .ok (.iaload, 1) := by decide +kernel
theorem dX12_match_58 : decode cX12_match 58 = .ok (.goto 5, 3) := by decide +kernel
theorem dX12_match_61 : decode cX12_match 61 = .ok (.bipush (-2), 2) := by decide +kernel
theorem dX12_match_63 : decode cX12_match 63 = .ok (.ireturn, 1) := by decide +kernel
theorem dX12_gains_0 : decode cX12_gains 0 = .ok (.iconst 0, 1) := by decide +kernel
theorem dX12_gains_1 : decode cX12_gains 1 = .ok (.istore 4, 2) := by decide +kernel
theorem dX12_gains_3 : decode cX12_gains 3 = .ok (.iconst 0, 1) := by decide +kernel
theorem dX12_gains_4 : decode cX12_gains 4 = .ok (.istore 5, 2) := by decide +kernel
theorem dX12_gains_6 : decode cX12_gains 6 = .ok (.iload 5, 2) := by decide +kernel
theorem dX12_gains_8 : decode cX12_gains 8 = .ok (.iload_n 3, 1) := by decide +kernel
theorem dX12_gains_9 : decode cX12_gains 9 = .ok (.if_icmp .ge 31, 3) := by decide +kernel
theorem dX12_gains_12 : decode cX12_gains 12 = .ok (.iload 4, 2) := by decide +kernel
theorem dX12_gains_14 : decode cX12_gains 14 = .ok (.aload_n 0, 1) := by decide +kernel
theorem dX12_gains_15 : decode cX12_gains 15 = .ok (.iload_n 1, 1) := by decide +kernel
theorem dX12_gains_16 : decode cX12_gains 16 = .ok (.iload_n 2, 1) := by decide +kernel
theorem dX12_gains_17 : decode cX12_gains 17 = .ok (.iload 5, 2) := by decide +kernel
theorem dX12_gains_19 : decode cX12_gains 19 = .ok (.iadd, 1) := by decide +kernel
theorem dX12_gains_20 : decode cX12_gains 20 = .ok (.invokevirtual 431, 3) := by decide +kernel
theorem dX12_gains_23 : decode cX12_gains 23 = .ok (.ifCond .eq 7, 3) := by decide +kernel
theorem dX12_gains_26 : decode cX12_gains 26 = .ok (.iconst 1, 1) := by decide +kernel
theorem dX12_gains_27 : decode cX12_gains 27 = .ok (.goto 4, 3) := by decide +kernel
theorem dX12_gains_30 : decode cX12_gains 30 = .ok (.iconst 0, 1) := by decide +kernel
theorem dX12_gains_31 : decode cX12_gains 31 = .ok (.iadd, 1) := by decide +kernel
theorem dX12_gains_32 : decode cX12_gains 32 = .ok (.istore 4, 2) := by decide +kernel
theorem dX12_gains_34 : decode cX12_gains 34 = .ok (.iinc 5 1, 3) := by decide +kernel
theorem dX12_gains_37 : decode cX12_gains 37 = .ok (.goto (-31), 3) := by decide +kernel
theorem dX12_gains_40 : decode cX12_gains 40 = .ok (.iload 4, 2) := by decide +kernel
theorem dX12_gains_42 : decode cX12_gains 42 = .ok (.ireturn, 1) := by decide +kernel
theorem dX12_takes_0 : decode cX12_takes 0 = .ok (.iload 4, 2) := by decide +kernel
theorem dX12_takes_2 : decode cX12_takes 2 = .ok (.ifCond .ne 7, 3) := by decide +kernel
theorem dX12_takes_5 : decode cX12_takes 5 = .ok (.iload_n 2, 1) := by decide +kernel
theorem dX12_takes_6 : decode cX12_takes 6 = .ok (.goto 9, 3) := by decide +kernel
theorem dX12_takes_9 : decode cX12_takes 9 = .ok (.iload_n 2, 1) := by decide +kernel
theorem dX12_takes_10 : decode cX12_takes 10 = .ok (.iload_n 3, 1) := by decide +kernel
theorem dX12_takes_11 : decode cX12_takes 11 = .ok (.iadd, 1) := by decide +kernel
theorem dX12_takes_12 : decode cX12_takes 12 = .ok (.iload 5, 2) := by decide +kernel
theorem dX12_takes_14 : decode cX12_takes 14 = .ok (.isub, 1) := by decide +kernel
theorem dX12_takes_15 : decode cX12_takes 15 = .ok (.istore 6, 2) := by decide +kernel
theorem dX12_takes_17 : decode cX12_takes 17 = .ok (.iload 4, 2) := by decide +kernel
theorem dX12_takes_19 : decode cX12_takes 19 = .ok (.ifCond .ne 10, 3) := by decide +kernel
theorem dX12_takes_22 : decode cX12_takes 22 = .ok (.iload_n 2, 1) := by decide +kernel
theorem dX12_takes_23 : decode cX12_takes 23 = .ok (.iload 5, 2) := by decide +kernel
theorem dX12_takes_25 : decode cX12_takes 25 = .ok (.iadd, 1) := by decide +kernel
theorem dX12_takes_26 : decode cX12_takes 26 = .ok (.goto 4, 3) := by decide +kernel
theorem dX12_takes_29 : decode cX12_takes 29 = .ok (.iload_n 2, 1) := by decide +kernel
theorem dX12_takes_30 : decode cX12_takes 30 = .ok (.istore 7, 2) := by decide +kernel
theorem dX12_takes_32 : decode cX12_takes 32 = .ok (.aload_n 0, 1) := by decide +kernel
theorem dX12_takes_33 : decode cX12_takes 33 = .ok (.iload_n 1, 1) := by decide +kernel
theorem dX12_takes_34 : decode cX12_takes 34 = .ok (.iload 6, 2) := by decide +kernel
theorem dX12_takes_36 : decode cX12_takes 36 = .ok (.iload 5, 2) := by decide +kernel
theorem dX12_takes_38 : decode cX12_takes 38 = .ok (.invokevirtual 485, 3) := by decide +kernel
theorem dX12_takes_41 : decode cX12_takes 41 = .ok (.aload_n 0, 1) := by decide +kernel
theorem dX12_takes_42 : decode cX12_takes 42 = .ok (.getfield 114, 3) := by decide +kernel
theorem dX12_takes_45 : decode cX12_takes 45 = .ok (.bipush 61, 2) := by decide +kernel
theorem dX12_takes_47 : decode cX12_takes 47 = .ok (.iload 7, 2) := by decide +kernel
theorem dX12_takes_49 : decode cX12_takes 49 = .ok (.imul, 1) := by decide +kernel
theorem dX12_takes_50 : decode cX12_takes 50 = .ok (.iload_n 3, 1) := by decide +kernel
theorem dX12_takes_51 : decode cX12_takes 51 = .ok (.iadd, 1) := by decide +kernel
theorem dX12_takes_52 : decode cX12_takes 52 = .ok (.iload 5, 2) := by decide +kernel
theorem dX12_takes_54 : decode cX12_takes 54 = .ok (.isub, 1) := by decide +kernel
theorem dX12_takes_55 : decode cX12_takes 55 = .ok (.iaload, 1) := by decide +kernel
theorem dX12_takes_56 : decode cX12_takes 56 = .ok (.isub, 1) := by decide +kernel
theorem dX12_takes_57 : decode cX12_takes 57 = .ok (.ireturn, 1) := by decide +kernel
theorem dX12_bestOf_0 : decode cX12_bestOf 0 = .ok (.bipush (-60), 2) := by decide +kernel
theorem dX12_bestOf_2 : decode cX12_bestOf 2 = .ok (.istore 4, 2) := by decide +kernel
theorem dX12_bestOf_4 : decode cX12_bestOf 4 = .ok (.iconst 0, 1) := by decide +kernel
theorem dX12_bestOf_5 : decode cX12_bestOf 5 = .ok (.istore 5, 2) := by decide +kernel
theorem dX12_bestOf_7 : decode cX12_bestOf 7 = .ok (.iload 5, 2) := by decide +kernel
theorem dX12_bestOf_9 : decode cX12_bestOf 9 = .ok (.iconst 2, 1) := by decide +kernel
theorem dX12_bestOf_10 : decode cX12_bestOf 10 = .ok (.if_icmp .ge 46, 3) := by decide +kernel
theorem dX12_bestOf_13 : decode cX12_bestOf 13 = .ok (.iconst 1, 1) := by decide +kernel
theorem dX12_bestOf_14 : decode cX12_bestOf 14 = .ok (.istore 6, 2) := by decide +kernel
theorem dX12_bestOf_16 : decode cX12_bestOf 16 = .ok (.iload 6, 2) := by decide +kernel
theorem dX12_bestOf_18 : decode cX12_bestOf 18 = .ok (.iconst 2, 1) := by decide +kernel
theorem dX12_bestOf_19 : decode cX12_bestOf 19 = .ok (.iload_n 3, 1) := by decide +kernel
theorem dX12_bestOf_20 : decode cX12_bestOf 20 = .ok (.invokestatic 390, 3) := by decide +kernel
theorem dX12_bestOf_23 : decode cX12_bestOf 23 = .ok (.if_icmp .gt 27, 3) := by decide +kernel
theorem dX12_bestOf_26 : decode cX12_bestOf 26 = .ok (.iload 4, 2) := by decide +kernel
theorem dX12_bestOf_28 : decode cX12_bestOf 28 = .ok (.aload_n 0, 1) := by decide +kernel
theorem dX12_bestOf_29 : decode cX12_bestOf 29 = .ok (.iload_n 1, 1) := by decide +kernel
theorem dX12_bestOf_30 : decode cX12_bestOf 30 = .ok (.iload_n 2, 1) := by decide +kernel
theorem dX12_bestOf_31 : decode cX12_bestOf 31 = .ok (.iload_n 3, 1) := by decide +kernel
theorem dX12_bestOf_32 : decode cX12_bestOf 32 = .ok (.iload 5, 2) := by decide +kernel
theorem dX12_bestOf_34 : decode cX12_bestOf 34 = .ok (.iload 6, 2) := by decide +kernel
theorem dX12_bestOf_36 : decode cX12_bestOf 36 = .ok (.invokevirtual 488, 3) := by decide +kernel
theorem dX12_bestOf_39 : decode cX12_bestOf 39 = .ok (.invokestatic 459, 3) := by decide +kernel
theorem dX12_bestOf_42 : decode cX12_bestOf 42 = .ok (.istore 4, 2) := by decide +kernel
theorem dX12_bestOf_44 : decode cX12_bestOf 44 = .ok (.iinc 6 1, 3) := by decide +kernel
theorem dX12_bestOf_47 : decode cX12_bestOf 47 = .ok (.goto (-31), 3) := by decide +kernel
theorem dX12_bestOf_50 : decode cX12_bestOf 50 = .ok (.iinc 5 1, 3) := by decide +kernel
theorem dX12_bestOf_53 : decode cX12_bestOf 53 = .ok (.goto (-46), 3) := by decide +kernel
theorem dX12_bestOf_56 : decode cX12_bestOf 56 = .ok (.iload 4, 2) := by decide +kernel
theorem dX12_bestOf_58 : decode cX12_bestOf 58 = .ok (.ireturn, 1) := by decide +kernel
theorem dX12_game_0 : decode cX12_game 0 = .ok (.aload_n 0, 1) := by decide +kernel
theorem dX12_game_1 : decode cX12_game 1 = .ok (.iconst 0, 1) := by decide +kernel
theorem dX12_game_2 : decode cX12_game 2 = .ok (.putfield 148, 3) := by decide +kernel
theorem dX12_game_5 : decode cX12_game 5 = .ok (.aload_n 0, 1) := by decide +kernel
theorem dX12_game_6 : decode cX12_game 6 = .ok (.iload_n 1, 1) := by decide +kernel
theorem dX12_game_7 : decode cX12_game 7 = .ok (.invokevirtual 425, 3) := by decide +kernel
theorem dX12_game_10 : decode cX12_game 10 = .ok (.ifCond .eq 12, 3) := by decide +kernel
theorem dX12_game_13 : decode cX12_game 13 = .ok (.iload_n 2, 1) := by decide +kernel
theorem dX12_game_14 : decode cX12_game 14 = .ok (.ifCond .lt 8, 3) := by decide +kernel
theorem dX12_game_17 : decode cX12_game 17 = .ok (.iload_n 2, 1) := by decide +kernel
theorem dX12_game_18 : decode cX12_game 18 = .ok (.iconst 1, 1) := by decide +kernel
theorem dX12_game_19 : decode cX12_game 19 = .ok (.if_icmp .le 7, 3) := by decide +kernel
theorem dX12_game_22 : decode cX12_game 22 = .ok (.ldc_w 492, 3) := by decide +kernel
theorem dX12_game_25 : decode cX12_game 25 = .ok (.ireturn, 1) := by decide +kernel
theorem dX12_game_26 : decode cX12_game 26 = .ok (.aload_n 0, 1) := by decide +kernel
theorem dX12_game_27 : decode cX12_game 27 = .ok (.iconst 0, 1) := by decide +kernel
theorem dX12_game_28 : decode cX12_game 28 = .ok (.iload_n 1, 1) := by decide +kernel
theorem dX12_game_29 : decode cX12_game 29 = .ok (.invokevirtual 353, 3) := by decide +kernel
theorem dX12_game_32 : decode cX12_game 32 = .ok (.istore_n 3, 1) := by decide +kernel
theorem dX12_game_33 : decode cX12_game 33 = .ok (.aload_n 0, 1) := by decide +kernel
theorem dX12_game_34 : decode cX12_game 34 = .ok (.getfield 87, 3) := by decide +kernel
theorem dX12_game_37 : decode cX12_game 37 = .ok (.iload_n 1, 1) := by decide +kernel
theorem dX12_game_38 : decode cX12_game 38 = .ok (.iaload, 1) := by decide +kernel
theorem dX12_game_39 : decode cX12_game 39 = .ok (.istore 4, 2) := by decide +kernel
theorem dX12_game_41 : decode cX12_game 41 = .ok (.iload_n 3, 1) := by decide +kernel
theorem dX12_game_42 : decode cX12_game 42 = .ok (.ifCond .ne 5, 3) := by decide +kernel
theorem dX12_game_45 : decode cX12_game 45 = .ok (.iconst 0, 1) := by decide +kernel
theorem dX12_game_46 : decode cX12_game 46 = .ok (.ireturn, 1) := by decide +kernel
theorem dX12_game_47 : decode cX12_game 47 = .ok (.iconst 0, 1) := by decide +kernel
theorem dX12_game_48 : decode cX12_game 48 = .ok (.istore 5, 2) := by decide +kernel
theorem dX12_game_50 : decode cX12_game 50 = .ok (.iload 5, 2) := by decide +kernel
theorem dX12_game_52 : decode cX12_game 52 = .ok (.iload_n 3, 1) := by decide +kernel
theorem dX12_game_53 : decode cX12_game 53 = .ok (.if_icmp .gt 62, 3) := by decide +kernel
theorem dX12_game_56 : decode cX12_game 56 = .ok (.iload 4, 2) := by decide +kernel
theorem dX12_game_58 : decode cX12_game 58 = .ok (.istore 6, 2) := by decide +kernel
theorem dX12_game_60 : decode cX12_game 60 = .ok (.iload 6, 2) := by decide +kernel
theorem dX12_game_62 : decode cX12_game 62 = .ok (.iload 5, 2) := by decide +kernel
theorem dX12_game_64 : decode cX12_game 64 = .ok (.iadd, 1) := by decide +kernel
theorem dX12_game_65 : decode cX12_game 65 = .ok (.iload 4, 2) := by decide +kernel
theorem dX12_game_67 : decode cX12_game 67 = .ok (.iload_n 3, 1) := by decide +kernel
theorem dX12_game_68 : decode cX12_game 68 = .ok (.iadd, 1) := by decide +kernel
theorem dX12_game_69 : decode cX12_game 69 = .ok (.if_icmp .gt 40, 3) := by decide +kernel
theorem dX12_game_72 : decode cX12_game 72 = .ok (.aload_n 0, 1) := by decide +kernel
theorem dX12_game_73 : decode cX12_game 73 = .ok (.getfield 114, 3) := by decide +kernel
theorem dX12_game_76 : decode cX12_game 76 = .ok (.bipush 61, 2) := by decide +kernel
theorem dX12_game_78 : decode cX12_game 78 = .ok (.iload 6, 2) := by decide +kernel
theorem dX12_game_80 : decode cX12_game 80 = .ok (.imul, 1) := by decide +kernel
theorem dX12_game_81 : decode cX12_game 81 = .ok (.iload 5, 2) := by decide +kernel
theorem dX12_game_83 : decode cX12_game 83 = .ok (.iadd, 1) := by decide +kernel
theorem dX12_game_84 : decode cX12_game 84 = .ok (.iload 5, 2) := by decide +kernel
theorem dX12_game_86 : decode cX12_game 86 = .ok (.ifCond .ne 7, 3) := by decide +kernel
theorem dX12_game_89 : decode cX12_game 89 = .ok (.iconst 0, 1) := by decide +kernel
theorem dX12_game_90 : decode cX12_game 90 = .ok (.goto 12, 3) := by decide +kernel
theorem dX12_game_93 : decode cX12_game 93 = .ok (.aload_n 0, 1) := by decide +kernel
theorem dX12_game_94 : decode cX12_game 94 = .ok (.iload_n 1, 1) := by decide +kernel
theorem dX12_game_95 : decode cX12_game 95 = .ok (.iload 6, 2) := by decide +kernel
theorem dX12_game_97 : decode cX12_game 97 = .ok (.iload 5, 2) := by decide +kernel
theorem dX12_game_99 : decode cX12_game 99 = .ok (.invokevirtual 493, 3) := by decide +kernel
theorem dX12_game_102 : decode cX12_game 102 = .ok (.iastore, 1) := by decide +kernel
theorem dX12_game_103 : decode cX12_game 103 = .ok (.iinc 6 1, 3) := by decide +kernel
theorem dX12_game_106 : decode cX12_game 106 = .ok (.goto (-46), 3) := by decide +kernel
theorem dX12_game_109 : decode cX12_game 109 = .ok (.iinc 5 1, 3) := by decide +kernel
theorem dX12_game_112 : decode cX12_game 112 = .ok (.goto (-62), 3) := by decide +kernel
theorem dX12_game_115 : decode cX12_game 115 = .ok (.aload_n 0, 1) := by decide +kernel
theorem dX12_game_116 : decode cX12_game 116 = .ok (.getfield 114, 3) := by decide +kernel
theorem dX12_game_119 : decode cX12_game 119 = .ok (.bipush 61, 2) := by decide +kernel
theorem dX12_game_121 : decode cX12_game 121 = .ok (.iload 4, 2) := by decide +kernel
theorem dX12_game_123 : decode cX12_game 123 = .ok (.imul, 1) := by decide +kernel
theorem dX12_game_124 : decode cX12_game 124 = .ok (.iload_n 3, 1) := by decide +kernel
theorem dX12_game_125 : decode cX12_game 125 = .ok (.iadd, 1) := by decide +kernel
theorem dX12_game_126 : decode cX12_game 126 = .ok (.iaload, 1) := by decide +kernel
theorem dX12_game_127 : decode cX12_game 127 = .ok (.istore 5, 2) := by decide +kernel
theorem dX12_game_129 : decode cX12_game 129 = .ok (.iload_n 2, 1) := by decide +kernel
theorem dX12_game_130 : decode cX12_game 130 = .ok (.ifCond .ne 6, 3) := by decide +kernel
theorem dX12_game_133 : decode cX12_game 133 = .ok (.iload 5, 2) := by decide +kernel
theorem dX12_game_135 : decode cX12_game 135 = .ok (.ireturn, 1) := by decide +kernel
theorem dX12_game_136 : decode cX12_game 136 = .ok (.iconst 0, 1) := by decide +kernel
theorem dX12_game_137 : decode cX12_game 137 = .ok (.istore 6, 2) := by decide +kernel
theorem dX12_game_139 : decode cX12_game 139 = .ok (.iload 6, 2) := by decide +kernel
theorem dX12_game_141 : decode cX12_game 141 = .ok (.iconst 2, 1) := by decide +kernel
theorem dX12_game_142 : decode cX12_game 142 = .ok (.if_icmp .ge 54, 3) := by decide +kernel
theorem dX12_game_145 : decode cX12_game 145 = .ok (.iconst 1, 1) := by decide +kernel
theorem dX12_game_146 : decode cX12_game 146 = .ok (.istore 7, 2) := by decide +kernel
theorem dX12_game_148 : decode cX12_game 148 = .ok (.iload 7, 2) := by decide +kernel
theorem dX12_game_150 : decode cX12_game 150 = .ok (.iconst 2, 1) := by decide +kernel
theorem dX12_game_151 : decode cX12_game 151 = .ok (.iload_n 3, 1) := by decide +kernel
theorem dX12_game_152 : decode cX12_game 152 = .ok (.invokestatic 390, 3) := by decide +kernel
theorem dX12_game_155 : decode cX12_game 155 = .ok (.if_icmp .gt 35, 3) := by decide +kernel
theorem dX12_game_158 : decode cX12_game 158 = .ok (.aload_n 0, 1) := by decide +kernel
theorem dX12_game_159 : decode cX12_game 159 = .ok (.iload_n 1, 1) := by decide +kernel
theorem dX12_game_160 : decode cX12_game 160 = .ok (.iload 4, 2) := by decide +kernel
theorem dX12_game_162 : decode cX12_game 162 = .ok (.iload_n 3, 1) := by decide +kernel
theorem dX12_game_163 : decode cX12_game 163 = .ok (.iload 6, 2) := by decide +kernel
theorem dX12_game_165 : decode cX12_game 165 = .ok (.iload 7, 2) := by decide +kernel
theorem dX12_game_167 : decode cX12_game 167 = .ok (.invokevirtual 488, 3) := by decide +kernel
theorem dX12_game_170 : decode cX12_game 170 = .ok (.iload 5, 2) := by decide +kernel
theorem dX12_game_172 : decode cX12_game 172 = .ok (.if_icmp .ne 12, 3) := by decide +kernel
theorem dX12_game_175 : decode cX12_game 175 = .ok (.bipush 10, 2) := by decide +kernel
theorem dX12_game_177 : decode cX12_game 177 = .ok (.iload 6, 2) := by decide +kernel
theorem dX12_game_179 : decode cX12_game 179 = .ok (.imul, 1) := by decide +kernel
theorem dX12_game_180 : decode cX12_game 180 = .ok (.iload 7, 2) := by decide +kernel
theorem dX12_game_182 : decode cX12_game 182 = .ok (.iadd, 1) := by decide +kernel
theorem dX12_game_183 : decode cX12_game 183 = .ok (.ireturn, 1) := by decide +kernel
theorem dX12_game_184 : decode cX12_game 184 = .ok (.iinc 7 1, 3) := by decide +kernel
theorem dX12_game_187 : decode cX12_game 187 = .ok (.goto (-39), 3) := by decide +kernel
theorem dX12_game_190 : decode cX12_game 190 = .ok (.iinc 6 1, 3) := by decide +kernel
theorem dX12_game_193 : decode cX12_game 193 = .ok (.goto (-54), 3) := by decide +kernel
theorem dX12_game_196 : decode cX12_game 196 = .ok (.iconst 0, 1) := by decide +kernel
theorem dX12_game_197 : decode cX12_game 197 = .ok (.ireturn, 1) := by decide +kernel
theorem dX12_hasOf_0 : decode cX12_hasOf 0 = .ok (.aload_n 0, 1) := by decide +kernel
theorem dX12_hasOf_1 : decode cX12_hasOf 1 = .ok (.iconst 0, 1) := by decide +kernel
theorem dX12_hasOf_2 : decode cX12_hasOf 2 = .ok (.iload_n 1, 1) := by decide +kernel
theorem dX12_hasOf_3 : decode cX12_hasOf 3 = .ok (.invokevirtual 359, 3) := by decide +kernel
theorem dX12_hasOf_6 : decode cX12_hasOf 6 = .ok (.istore 5, 2) := by decide +kernel
theorem dX12_hasOf_8 : decode cX12_hasOf 8 = .ok (.iload_n 3, 1) := by decide +kernel
theorem dX12_hasOf_9 : decode cX12_hasOf 9 = .ok (.ifCond .ne 20, 3) := by decide +kernel
theorem dX12_hasOf_12 : decode cX12_hasOf 12 = .ok (.iload 4, 2) := by decide +kernel
theorem dX12_hasOf_14 : decode cX12_hasOf 14 = .ok (.ifCond .ne 10, 3) := by decide +kernel
theorem dX12_hasOf_17 : decode cX12_hasOf 17 = .ok (.iload 5, 2) := by decide +kernel
theorem dX12_hasOf_19 : decode cX12_hasOf 19 = .ok (.iconst 2, 1) := by decide +kernel
theorem dX12_hasOf_20 : decode cX12_hasOf 20 = .ok (.idiv, 1) := by decide +kernel
theorem dX12_hasOf_21 : decode cX12_hasOf 21 = .ok (.goto 7, 3) := by decide +kernel
theorem dX12_hasOf_24 : decode cX12_hasOf 24 = .ok (.iload 5, 2) := by decide +kernel
theorem dX12_hasOf_26 : decode cX12_hasOf 26 = .ok (.iconst 2, 1) := by decide +kernel
theorem dX12_hasOf_27 : decode cX12_hasOf 27 = .ok (.iadd, 1) := by decide +kernel
theorem dX12_hasOf_28 : decode cX12_hasOf 28 = .ok (.ireturn, 1) := by decide +kernel
theorem dX12_hasOf_29 : decode cX12_hasOf 29 = .ok (.iload 4, 2) := by decide +kernel
theorem dX12_hasOf_31 : decode cX12_hasOf 31 = .ok (.ifCond .ne 15, 3) := by decide +kernel
theorem dX12_hasOf_34 : decode cX12_hasOf 34 = .ok (.iload 5, 2) := by decide +kernel
theorem dX12_hasOf_36 : decode cX12_hasOf 36 = .ok (.aload_n 0, 1) := by decide +kernel
theorem dX12_hasOf_37 : decode cX12_hasOf 37 = .ok (.iconst 0, 1) := by decide +kernel
theorem dX12_hasOf_38 : decode cX12_hasOf 38 = .ok (.iload_n 2, 1) := by decide +kernel
theorem dX12_hasOf_39 : decode cX12_hasOf 39 = .ok (.invokevirtual 359, 3) := by decide +kernel
theorem dX12_hasOf_42 : decode cX12_hasOf 42 = .ok (.iadd, 1) := by decide +kernel
theorem dX12_hasOf_43 : decode cX12_hasOf 43 = .ok (.goto 5, 3) := by decide +kernel
theorem dX12_hasOf_46 : decode cX12_hasOf 46 = .ok (.iload 5, 2) := by decide +kernel
theorem dX12_hasOf_48 : decode cX12_hasOf 48 = .ok (.ireturn, 1) := by decide +kernel
theorem dX12_isRest_0 : decode cX12_isRest 0 = .ok (.iload_n 3, 1) := by decide +kernel
theorem dX12_isRest_1 : decode cX12_isRest 1 = .ok (.iconst 2, 1) := by decide +kernel
theorem dX12_isRest_2 : decode cX12_isRest 2 = .ok (.idiv, 1) := by decide +kernel
theorem dX12_isRest_3 : decode cX12_isRest 3 = .ok (.istore 4, 2) := by decide +kernel
theorem dX12_isRest_5 : decode cX12_isRest 5 = .ok (.iload_n 3, 1) := by decide +kernel
theorem dX12_isRest_6 : decode cX12_isRest 6 = .ok (.iconst 2, 1) := by decide +kernel
theorem dX12_isRest_7 : decode cX12_isRest 7 = .ok (.irem, 1) := by decide +kernel
theorem dX12_isRest_8 : decode cX12_isRest 8 = .ok (.istore 5, 2) := by decide +kernel
theorem dX12_isRest_10 : decode cX12_isRest 10 = .ok (.aload_n 0, 1) := by decide +kernel
theorem dX12_isRest_11 : decode cX12_isRest 11 = .ok (.iload_n 1, 1) := by decide +kernel
theorem dX12_isRest_12 : decode cX12_isRest 12 = .ok (.iload_n 2, 1) := by decide +kernel
theorem dX12_isRest_13 : decode cX12_isRest 13 = .ok (.iconst 1, 1) := by decide +kernel
theorem dX12_isRest_14 : decode cX12_isRest 14 = .ok (.iload 4, 2) := by decide +kernel
theorem dX12_isRest_16 : decode cX12_isRest 16 = .ok (.isub, 1) := by decide +kernel
theorem dX12_isRest_17 : decode cX12_isRest 17 = .ok (.iload 5, 2) := by decide +kernel
theorem dX12_isRest_19 : decode cX12_isRest 19 = .ok (.invokevirtual 496, 3) := by decide +kernel
theorem dX12_isRest_22 : decode cX12_isRest 22 = .ok (.aload_n 0, 1) := by decide +kernel
theorem dX12_isRest_23 : decode cX12_isRest 23 = .ok (.iload_n 1, 1) := by decide +kernel
theorem dX12_isRest_24 : decode cX12_isRest 24 = .ok (.iload_n 2, 1) := by decide +kernel
theorem dX12_isRest_25 : decode cX12_isRest 25 = .ok (.iload 4, 2) := by decide +kernel
theorem dX12_isRest_27 : decode cX12_isRest 27 = .ok (.iload 5, 2) := by decide +kernel
theorem dX12_isRest_29 : decode cX12_isRest 29 = .ok (.invokevirtual 496, 3) := by decide +kernel
theorem dX12_isRest_32 : decode cX12_isRest 32 = .ok (.if_icmp .gt 32, 3) := by decide +kernel
theorem dX12_isRest_35 : decode cX12_isRest 35 = .ok (.aload_n 0, 1) := by decide +kernel
theorem dX12_isRest_36 : decode cX12_isRest 36 = .ok (.iload_n 2, 1) := by decide +kernel
theorem dX12_isRest_37 : decode cX12_isRest 37 = .ok (.iload_n 1, 1) := by decide +kernel
theorem dX12_isRest_38 : decode cX12_isRest 38 = .ok (.iconst 1, 1) := by decide +kernel
theorem dX12_isRest_39 : decode cX12_isRest 39 = .ok (.iload 5, 2) := by decide +kernel
theorem dX12_isRest_41 : decode cX12_isRest 41 = .ok (.isub, 1) := by decide +kernel
theorem dX12_isRest_42 : decode cX12_isRest 42 = .ok (.iload 4, 2) := by decide +kernel
theorem dX12_isRest_44 : decode cX12_isRest 44 = .ok (.invokevirtual 496, 3) := by decide +kernel
theorem dX12_isRest_47 : decode cX12_isRest 47 = .ok (.aload_n 0, 1) := by decide +kernel
theorem dX12_isRest_48 : decode cX12_isRest 48 = .ok (.iload_n 2, 1) := by decide +kernel
theorem dX12_isRest_49 : decode cX12_isRest 49 = .ok (.iload_n 1, 1) := by decide +kernel
theorem dX12_isRest_50 : decode cX12_isRest 50 = .ok (.iload 5, 2) := by decide +kernel
theorem dX12_isRest_52 : decode cX12_isRest 52 = .ok (.iload 4, 2) := by decide +kernel
theorem dX12_isRest_54 : decode cX12_isRest 54 = .ok (.invokevirtual 496, 3) := by decide +kernel
theorem dX12_isRest_57 : decode cX12_isRest 57 = .ok (.if_icmp .gt 7, 3) := by decide +kernel
theorem dX12_isRest_60 : decode cX12_isRest 60 = .ok (.iconst 1, 1) := by decide +kernel
theorem dX12_isRest_61 : decode cX12_isRest 61 = .ok (.goto 4, 3) := by decide +kernel
theorem dX12_isRest_64 : decode cX12_isRest 64 = .ok (.iconst 0, 1) := by decide +kernel
theorem dX12_isRest_65 : decode cX12_isRest 65 = .ok (.ireturn, 1) := by decide +kernel
theorem dX12_restOf_0 : decode cX12_restOf 0 = .ok (.iconst 0, 1) := by decide +kernel
theorem dX12_restOf_1 : decode cX12_restOf 1 = .ok (.istore 4, 2) := by decide +kernel
theorem dX12_restOf_3 : decode cX12_restOf 3 = .ok (.iconst 0, 1) := by decide +kernel
theorem dX12_restOf_4 : decode cX12_restOf 4 = .ok (.istore 5, 2) := by decide +kernel
theorem dX12_restOf_6 : decode cX12_restOf 6 = .ok (.iload 5, 2) := by decide +kernel
theorem dX12_restOf_8 : decode cX12_restOf 8 = .ok (.iconst 4, 1) := by decide +kernel
theorem dX12_restOf_9 : decode cX12_restOf 9 = .ok (.if_icmp .ge 45, 3) := by decide +kernel
theorem dX12_restOf_12 : decode cX12_restOf 12 = .ok (.aload_n 0, 1) := by decide +kernel
theorem dX12_restOf_13 : decode cX12_restOf 13 = .ok (.iload_n 1, 1) := by decide +kernel
theorem dX12_restOf_14 : decode cX12_restOf 14 = .ok (.iload_n 2, 1) := by decide +kernel
theorem dX12_restOf_15 : decode cX12_restOf 15 = .ok (.iload 5, 2) := by decide +kernel
theorem dX12_restOf_17 : decode cX12_restOf 17 = .ok (.invokevirtual 500, 3) := by decide +kernel
theorem dX12_restOf_20 : decode cX12_restOf 20 = .ok (.ifCond .ne 6, 3) := by decide +kernel
theorem dX12_restOf_23 : decode cX12_restOf 23 = .ok (.goto 25, 3) := by decide +kernel
theorem dX12_restOf_26 : decode cX12_restOf 26 = .ok (.iload 4, 2) := by decide +kernel
theorem dX12_restOf_28 : decode cX12_restOf 28 = .ok (.iload_n 3, 1) := by decide +kernel
theorem dX12_restOf_29 : decode cX12_restOf 29 = .ok (.if_icmp .ne 16, 3) := by decide +kernel
theorem dX12_restOf_32 : decode cX12_restOf 32 = .ok (.bipush 10, 2) := by decide +kernel
theorem dX12_restOf_34 : decode cX12_restOf 34 = .ok (.iload 5, 2) := by decide +kernel
theorem dX12_restOf_36 : decode cX12_restOf 36 = .ok (.iconst 2, 1) := by decide +kernel
theorem dX12_restOf_37 : decode cX12_restOf 37 = .ok (.idiv, 1) := by decide +kernel
theorem dX12_restOf_38 : decode cX12_restOf 38 = .ok (.imul, 1) := by decide +kernel
theorem dX12_restOf_39 : decode cX12_restOf 39 = .ok (.iload 5, 2) := by decide +kernel
theorem dX12_restOf_41 : decode cX12_restOf 41 = .ok (.iconst 2, 1) := by decide +kernel
theorem dX12_restOf_42 : decode cX12_restOf 42 = .ok (.irem, 1) := by decide +kernel
theorem dX12_restOf_43 : decode cX12_restOf 43 = .ok (.iadd, 1) := by decide +kernel
theorem dX12_restOf_44 : decode cX12_restOf 44 = .ok (.ireturn, 1) := by decide +kernel
theorem dX12_restOf_45 : decode cX12_restOf 45 = .ok (.iinc 4 1, 3) := by decide +kernel
theorem dX12_restOf_48 : decode cX12_restOf 48 = .ok (.iinc 5 1, 3) := by decide +kernel
theorem dX12_restOf_51 : decode cX12_restOf 51 = .ok (.goto (-45), 3) := by decide +kernel
theorem dX12_restOf_54 : decode cX12_restOf 54 = .ok (.iload_n 3, 1) := by decide +kernel
theorem dX12_restOf_55 : decode cX12_restOf 55 = .ok (.iconst (-1), 1) := by decide +kernel
theorem dX12_restOf_56 : decode cX12_restOf 56 = .ok (.if_icmp .ne 8, 3) := by decide +kernel
theorem dX12_restOf_59 : decode cX12_restOf 59 = .ok (.iload 4, 2) := by decide +kernel
theorem dX12_restOf_61 : decode cX12_restOf 61 = .ok (.goto 5, 3) := by decide +kernel
theorem dX12_restOf_64 : decode cX12_restOf 64 = .ok (.bipush (-2), 2) := by decide +kernel
theorem dX12_restOf_66 : decode cX12_restOf 66 = .ok (.ireturn, 1) := by decide +kernel
theorem dX12_rests_0 : decode cX12_rests 0 = .ok (.aload_n 0, 1) := by decide +kernel
theorem dX12_rests_1 : decode cX12_rests 1 = .ok (.iconst 0, 1) := by decide +kernel
theorem dX12_rests_2 : decode cX12_rests 2 = .ok (.putfield 148, 3) := by decide +kernel
theorem dX12_rests_5 : decode cX12_rests 5 = .ok (.aload_n 0, 1) := by decide +kernel
theorem dX12_rests_6 : decode cX12_rests 6 = .ok (.iload_n 1, 1) := by decide +kernel
theorem dX12_rests_7 : decode cX12_rests 7 = .ok (.iload_n 2, 1) := by decide +kernel
theorem dX12_rests_8 : decode cX12_rests 8 = .ok (.invokevirtual 456, 3) := by decide +kernel
theorem dX12_rests_11 : decode cX12_rests 11 = .ok (.ifCond .eq 13, 3) := by decide +kernel
theorem dX12_rests_14 : decode cX12_rests 14 = .ok (.aload_n 0, 1) := by decide +kernel
theorem dX12_rests_15 : decode cX12_rests 15 = .ok (.iload_n 1, 1) := by decide +kernel
theorem dX12_rests_16 : decode cX12_rests 16 = .ok (.iload_n 2, 1) := by decide +kernel
theorem dX12_rests_17 : decode cX12_rests 17 = .ok (.iconst (-1), 1) := by decide +kernel
theorem dX12_rests_18 : decode cX12_rests 18 = .ok (.invokevirtual 503, 3) := by decide +kernel
theorem dX12_rests_21 : decode cX12_rests 21 = .ok (.goto 4, 3) := by decide +kernel
theorem dX12_rests_24 : decode cX12_rests 24 = .ok (.iconst (-1), 1) := by decide +kernel
theorem dX12_rests_25 : decode cX12_rests 25 = .ok (.ireturn, 1) := by decide +kernel
theorem dX12_rest_0 : decode cX12_rest 0 = .ok (.aload_n 0, 1) := by decide +kernel
theorem dX12_rest_1 : decode cX12_rest 1 = .ok (.iconst 0, 1) := by decide +kernel
theorem dX12_rest_2 : decode cX12_rest 2 = .ok (.putfield 148, 3) := by decide +kernel
theorem dX12_rest_5 : decode cX12_rest 5 = .ok (.aload_n 0, 1) := by decide +kernel
theorem dX12_rest_6 : decode cX12_rest 6 = .ok (.iload_n 1, 1) := by decide +kernel
theorem dX12_rest_7 : decode cX12_rest 7 = .ok (.iload_n 2, 1) := by decide +kernel
theorem dX12_rest_8 : decode cX12_rest 8 = .ok (.invokevirtual 456, 3) := by decide +kernel
theorem dX12_rest_11 : decode cX12_rest 11 = .ok (.ifCond .eq 17, 3) := by decide +kernel
theorem dX12_rest_14 : decode cX12_rest 14 = .ok (.iload_n 3, 1) := by decide +kernel
theorem dX12_rest_15 : decode cX12_rest 15 = .ok (.ifCond .lt 13, 3) := by decide +kernel
theorem dX12_rest_18 : decode cX12_rest 18 = .ok (.aload_n 0, 1) := by decide +kernel
theorem dX12_rest_19 : decode cX12_rest 19 = .ok (.iload_n 1, 1) := by decide +kernel
theorem dX12_rest_20 : decode cX12_rest 20 = .ok (.iload_n 2, 1) := by decide +kernel
theorem dX12_rest_21 : decode cX12_rest 21 = .ok (.iload_n 3, 1) := by decide +kernel
theorem dX12_rest_22 : decode cX12_rest 22 = .ok (.invokevirtual 503, 3) := by decide +kernel
theorem dX12_rest_25 : decode cX12_rest 25 = .ok (.goto 4, 3) := by decide +kernel
theorem dX12_rest_28 : decode cX12_rest 28 = .ok (.iconst (-1), 1) := by decide +kernel
theorem dX12_rest_29 : decode cX12_rest 29 = .ok (.ireturn, 1) := by decide +kernel
theorem dX12_common_0 : decode cX12_common 0 = .ok (.lload_n 0, 1) := by decide +kernel
theorem dX12_common_1 : decode cX12_common 1 = .ok (.lstore 4, 2) := by decide +kernel
theorem dX12_common_3 : decode cX12_common 3 = .ok (.lload_n 2, 1) := by decide +kernel
theorem dX12_common_4 : decode cX12_common 4 = .ok (.lstore 6, 2) := by decide +kernel
theorem dX12_common_6 : decode cX12_common 6 = .ok (.lload 6, 2) := by decide +kernel
theorem dX12_common_8 : decode cX12_common 8 = .ok (.lconst 0, 1) := by decide +kernel
theorem dX12_common_9 : decode cX12_common 9 = .ok (.lcmp, 1) := by decide +kernel
theorem dX12_common_10 : decode cX12_common 10 = .ok (.ifCond .eq 21, 3) := by decide +kernel
theorem dX12_common_13 : decode cX12_common 13 = .ok (.lload 4, 2) := by decide +kernel
theorem dX12_common_15 : decode cX12_common 15 = .ok (.lload 6, 2) := by decide +kernel
theorem dX12_common_17 : decode cX12_common 17 = .ok (.lrem, 1) := by decide +kernel
theorem dX12_common_18 : decode cX12_common 18 = .ok (.lstore 8, 2) := by decide +kernel
theorem dX12_common_20 : decode cX12_common 20 = .ok (.lload 6, 2) := by decide +kernel
theorem dX12_common_22 : decode cX12_common 22 = .ok (.lstore 4, 2) := by decide +kernel
theorem dX12_common_24 : decode cX12_common 24 = .ok (.lload 8, 2) := by decide +kernel
theorem dX12_common_26 : decode cX12_common 26 = .ok (.lstore 6, 2) := by decide +kernel
theorem dX12_common_28 : decode cX12_common 28 = .ok (.goto (-22), 3) := by decide +kernel
theorem dX12_common_31 : decode cX12_common 31 = .ok (.lload 4, 2) := by decide +kernel
theorem dX12_common_33 : decode cX12_common 33 = .ok (.lreturn, 1) := by decide +kernel
theorem dX12_calm_0 : decode cX12_calm 0 = .ok (.aload_n 0, 1) := by decide +kernel
theorem dX12_calm_1 : decode cX12_calm 1 = .ok (.iconst 0, 1) := by decide +kernel
theorem dX12_calm_2 : decode cX12_calm 2 = .ok (.putfield 148, 3) := by decide +kernel
theorem dX12_calm_5 : decode cX12_calm 5 = .ok (.iload_n 1, 1) := by decide +kernel
theorem dX12_calm_6 : decode cX12_calm 6 = .ok (.ifCond .lt 18, 3) := by decide +kernel
theorem dX12_calm_9 : decode cX12_calm 9 = .ok (.iload_n 1, 1) := by decide +kernel
theorem dX12_calm_10 : decode cX12_calm 10 = .ok (.bipush 6, 2) := by decide +kernel
theorem dX12_calm_12 : decode cX12_calm 12 = .ok (.if_icmp .gt 12, 3) := by decide +kernel
theorem dX12_calm_15 : decode cX12_calm 15 = .ok (.iload_n 2, 1) := by decide +kernel
theorem dX12_calm_16 : decode cX12_calm 16 = .ok (.ifCond .lt 8, 3) := by decide +kernel
theorem dX12_calm_19 : decode cX12_calm 19 = .ok (.iload_n 2, 1) := by decide +kernel
theorem dX12_calm_20 : decode cX12_calm 20 = .ok (.iconst 1, 1) := by decide +kernel
theorem dX12_calm_21 : decode cX12_calm 21 = .ok (.if_icmp .le 7, 3) := by decide +kernel
theorem dX12_calm_24 : decode cX12_calm 24 = .ok (.ldc2_w 470, 3) := by decide +kernel
theorem dX12_calm_27 : decode cX12_calm 27 = .ok (.lreturn, 1) := by decide +kernel
theorem dX12_calm_28 : decode cX12_calm 28 = .ok (.lconst 1, 1) := by decide +kernel
theorem dX12_calm_29 : decode cX12_calm 29 = .ok (.lstore_n 3, 1) := by decide +kernel
theorem dX12_calm_30 : decode cX12_calm 30 = .ok (.lconst 1, 1) := by decide +kernel
theorem dX12_calm_31 : decode cX12_calm 31 = .ok (.lstore 5, 2) := by decide +kernel
theorem dX12_calm_33 : decode cX12_calm 33 = .ok (.iconst 0, 1) := by decide +kernel
theorem dX12_calm_34 : decode cX12_calm 34 = .ok (.istore 7, 2) := by decide +kernel
theorem dX12_calm_36 : decode cX12_calm 36 = .ok (.iload 7, 2) := by decide +kernel
theorem dX12_calm_38 : decode cX12_calm 38 = .ok (.iload_n 1, 1) := by decide +kernel
theorem dX12_calm_39 : decode cX12_calm 39 = .ok (.if_icmp .ge 31, 3) := by decide +kernel
theorem dX12_calm_42 : decode cX12_calm 42 = .ok (.lload_n 3, 1) := by decide +kernel
theorem dX12_calm_43 : decode cX12_calm 43 = .ok (.ldc2_w 506, 3) := by decide +kernel
theorem dX12_calm_46 : decode cX12_calm 46 = .ok (.aload_n 0, 1) := by decide +kernel
theorem dX12_calm_47 : decode cX12_calm 47 = .ok (.getfield 13, 3) := by decide +kernel
theorem dX12_calm_50 : decode cX12_calm 50 = .ok (.iconst 5, 1) := by decide +kernel
theorem dX12_calm_51 : decode cX12_calm 51 = .ok (.iaload, 1) := by decide +kernel
theorem dX12_calm_52 : decode cX12_calm 52 = .ok (.i2l, 1) := by decide +kernel
theorem dX12_calm_53 : decode cX12_calm 53 = .ok (.lsub, 1) := by decide +kernel
theorem dX12_calm_54 : decode cX12_calm 54 = .ok (.lmul, 1) := by decide +kernel
theorem dX12_calm_55 : decode cX12_calm 55 = .ok (.lstore_n 3, 1) := by decide +kernel
theorem dX12_calm_56 : decode cX12_calm 56 = .ok (.lload 5, 2) := by decide +kernel
theorem dX12_calm_58 : decode cX12_calm 58 = .ok (.ldc2_w 506, 3) := by decide +kernel
theorem dX12_calm_61 : decode cX12_calm 61 = .ok (.lmul, 1) := by decide +kernel
theorem dX12_calm_62 : decode cX12_calm 62 = .ok (.lstore 5, 2) := by decide +kernel
theorem dX12_calm_64 : decode cX12_calm 64 = .ok (.iinc 7 1, 3) := by decide +kernel
theorem dX12_calm_67 : decode cX12_calm 67 = .ok (.goto (-31), 3) := by decide +kernel
theorem dX12_calm_70 : decode cX12_calm 70 = .ok (.lload_n 3, 1) := by decide +kernel
theorem dX12_calm_71 : decode cX12_calm 71 = .ok (.lload 5, 2) := by decide +kernel
theorem dX12_calm_73 : decode cX12_calm 73 = .ok (.invokestatic 508, 3) := by decide +kernel
theorem dX12_calm_76 : decode cX12_calm 76 = .ok (.lstore 7, 2) := by decide +kernel
theorem dX12_calm_78 : decode cX12_calm 78 = .ok (.iload_n 2, 1) := by decide +kernel
theorem dX12_calm_79 : decode cX12_calm 79 = .ok (.ifCond .ne 10, 3) := by decide +kernel
theorem dX12_calm_82 : decode cX12_calm 82 = .ok (.lload_n 3, 1) := by decide +kernel
theorem dX12_calm_83 : decode cX12_calm 83 = .ok (.lload 7, 2) := by decide +kernel
theorem dX12_calm_85 : decode cX12_calm 85 = .ok (.ldiv, 1) := by decide +kernel
theorem dX12_calm_86 : decode cX12_calm 86 = .ok (.goto 8, 3) := by decide +kernel
theorem dX12_calm_89 : decode cX12_calm 89 = .ok (.lload 5, 2) := by decide +kernel
theorem dX12_calm_91 : decode cX12_calm 91 = .ok (.lload 7, 2) := by decide +kernel
theorem dX12_calm_93 : decode cX12_calm 93 = .ok (.ldiv, 1) := by decide +kernel
theorem dX12_calm_94 : decode cX12_calm 94 = .ok (.lreturn, 1) := by decide +kernel
theorem dX12_see_0 : decode cX12_see 0 = .ok (.aload_n 0, 1) := by decide +kernel
theorem dX12_see_1 : decode cX12_see 1 = .ok (.iconst 0, 1) := by decide +kernel
theorem dX12_see_2 : decode cX12_see 2 = .ok (.putfield 148, 3) := by decide +kernel
theorem dX12_see_5 : decode cX12_see 5 = .ok (.iload_n 1, 1) := by decide +kernel
theorem dX12_see_6 : decode cX12_see 6 = .ok (.iconst 1, 1) := by decide +kernel
theorem dX12_see_7 : decode cX12_see 7 = .ok (.if_icmp .lt 33, 3) := by decide +kernel
theorem dX12_see_10 : decode cX12_see 10 = .ok (.iload_n 1, 1) := by decide +kernel
theorem dX12_see_11 : decode cX12_see 11 = .ok (.bipush 60, 2) := by decide +kernel
theorem dX12_see_13 : decode cX12_see 13 = .ok (.if_icmp .gt 27, 3) := by decide +kernel
theorem dX12_see_16 : decode cX12_see 16 = .ok (.aload_n 0, 1) := by decide +kernel
theorem dX12_see_17 : decode cX12_see 17 = .ok (.iload_n 2, 1) := by decide +kernel
theorem dX12_see_18 : decode cX12_see 18 = .ok (.invokevirtual 425, 3) := by decide +kernel
theorem dX12_see_21 : decode cX12_see 21 = .ok (.ifCond .eq 19, 3) := by decide +kernel
theorem dX12_see_24 : decode cX12_see 24 = .ok (.iload_n 3, 1) := by decide +kernel
theorem dX12_see_25 : decode cX12_see 25 = .ok (.invokestatic 428, 3) := by decide +kernel
theorem dX12_see_28 : decode cX12_see 28 = .ok (.ifCond .eq 12, 3) := by decide +kernel
theorem dX12_see_31 : decode cX12_see 31 = .ok (.aload_n 0, 1) := by decide +kernel
theorem dX12_see_32 : decode cX12_see 32 = .ok (.getfield 307, 3) := by decide +kernel
theorem dX12_see_35 : decode cX12_see 35 = .ok (.bipush 24, 2) := by decide +kernel
theorem dX12_see_37 : decode cX12_see 37 = .ok (.if_icmp .ne 5, 3) := by decide +kernel
theorem dX12_see_40 : decode cX12_see 40 = .ok (.iconst (-1), 1) := by decide +kernel
theorem dX12_see_41 : decode cX12_see 41 = .ok (.ireturn, 1) := by decide +kernel
theorem dX12_see_42 : decode cX12_see 42 = .ok (.aload_n 0, 1) := by decide +kernel
theorem dX12_see_43 : decode cX12_see 43 = .ok (.getfield 120, 3) := by decide +kernel
theorem dX12_see_46 : decode cX12_see 46 = .ok (.aload_n 0, 1) := by decide +kernel
theorem dX12_see_47 : decode cX12_see 47 = .ok (.getfield 307, 3) := by decide +kernel
theorem dX12_see_50 : decode cX12_see 50 = .ok (.iload_n 1, 1) := by decide +kernel
theorem dX12_see_51 : decode cX12_see 51 = .ok (.iastore, 1) := by decide +kernel
theorem dX12_see_52 : decode cX12_see 52 = .ok (.aload_n 0, 1) := by decide +kernel
theorem dX12_see_53 : decode cX12_see 53 = .ok (.getfield 123, 3) := by decide +kernel
theorem dX12_see_56 : decode cX12_see 56 = .ok (.aload_n 0, 1) := by decide +kernel
theorem dX12_see_57 : decode cX12_see 57 = .ok (.getfield 307, 3) := by decide +kernel
theorem dX12_see_60 : decode cX12_see 60 = .ok (.iload_n 2, 1) := by decide +kernel
theorem dX12_see_61 : decode cX12_see 61 = .ok (.iastore, 1) := by decide +kernel
theorem dX12_see_62 : decode cX12_see 62 = .ok (.aload_n 0, 1) := by decide +kernel
theorem dX12_see_63 : decode cX12_see 63 = .ok (.getfield 126, 3) := by decide +kernel
theorem dX12_see_66 : decode cX12_see 66 = .ok (.aload_n 0, 1) := by decide +kernel
theorem dX12_see_67 : decode cX12_see 67 = .ok (.getfield 307, 3) := by decide +kernel
theorem dX12_see_70 : decode cX12_see 70 = .ok (.iload_n 3, 1) := by decide +kernel
theorem dX12_see_71 : decode cX12_see 71 = .ok (.iastore, 1) := by decide +kernel
theorem dX12_see_72 : decode cX12_see 72 = .ok (.aload_n 0, 1) := by decide +kernel
theorem dX12_see_73 : decode cX12_see 73 = .ok (.getfield 129, 3) := by decide +kernel
theorem dX12_see_76 : decode cX12_see 76 = .ok (.aload_n 0, 1) := by decide +kernel
theorem dX12_see_77 : decode cX12_see 77 = .ok (.getfield 307, 3) := by decide +kernel
theorem dX12_see_80 : decode cX12_see 80 = .ok (.iload 4, 2) := by decide +kernel
theorem dX12_see_82 : decode cX12_see 82 = .ok (.bastore, 1) := by decide +kernel
theorem dX12_see_83 : decode cX12_see 83 = .ok (.aload_n 0, 1) := by decide +kernel
theorem dX12_see_84 : decode cX12_see 84 = .ok (.getfield 133, 3) := by decide +kernel
theorem dX12_see_87 : decode cX12_see 87 = .ok (.aload_n 0, 1) := by decide +kernel
theorem dX12_see_88 : decode cX12_see 88 = .ok (.getfield 307, 3) := by decide +kernel
theorem dX12_see_91 : decode cX12_see 91 = .ok (.iconst (-1), 1) := by decide +kernel
theorem dX12_see_92 : decode cX12_see 92 = .ok (.iastore, 1) := by decide +kernel
theorem dX12_see_93 : decode cX12_see 93 = .ok (.aload_n 0, 1) := by decide +kernel
theorem dX12_see_94 : decode cX12_see 94 = .ok (.dup, 1) := by decide +kernel
theorem dX12_see_95 : decode cX12_see 95 = .ok (.getfield 307, 3) := by decide +kernel
theorem dX12_see_98 : decode cX12_see 98 = .ok (.iconst 1, 1) := by decide +kernel
theorem dX12_see_99 : decode cX12_see 99 = .ok (.iadd, 1) := by decide +kernel
theorem dX12_see_100 : decode cX12_see 100 = .ok (.putfield 307, 3) := by decide +kernel
theorem dX12_see_103 : decode cX12_see 103 = .ok (.aload_n 0, 1) := by decide +kernel
theorem dX12_see_104 : decode cX12_see 104 = .ok (.getfield 307, 3) := by decide +kernel
theorem dX12_see_107 : decode cX12_see 107 = .ok (.iconst 1, 1) := by decide +kernel
theorem dX12_see_108 : decode cX12_see 108 = .ok (.isub, 1) := by decide +kernel
theorem dX12_see_109 : decode cX12_see 109 = .ok (.ireturn, 1) := by decide +kernel
theorem dX12_strike_0 : decode cX12_strike 0 = .ok (.aload_n 0, 1) := by decide +kernel
theorem dX12_strike_1 : decode cX12_strike 1 = .ok (.iconst 0, 1) := by decide +kernel
theorem dX12_strike_2 : decode cX12_strike 2 = .ok (.putfield 148, 3) := by decide +kernel
theorem dX12_strike_5 : decode cX12_strike 5 = .ok (.iload_n 1, 1) := by decide +kernel
theorem dX12_strike_6 : decode cX12_strike 6 = .ok (.ifCond .lt 20, 3) := by decide +kernel
theorem dX12_strike_9 : decode cX12_strike 9 = .ok (.iload_n 1, 1) := by decide +kernel
theorem dX12_strike_10 : decode cX12_strike 10 = .ok (.aload_n 0, 1) := by decide +kernel
theorem dX12_strike_11 : decode cX12_strike 11 = .ok (.getfield 307, 3) := by decide +kernel
theorem dX12_strike_14 : decode cX12_strike 14 = .ok (.if_icmp .ge 12, 3) := by decide +kernel
theorem dX12_strike_17 : decode cX12_strike 17 = .ok (.aload_n 0, 1) := by decide +kernel
theorem dX12_strike_18 : decode cX12_strike 18 = .ok (.getfield 307, 3) := by decide +kernel
theorem dX12_strike_21 : decode cX12_strike 21 = .ok (.bipush 24, 2) := by decide +kernel
theorem dX12_strike_23 : decode cX12_strike 23 = .ok (.if_icmp .ne 5, 3) := by decide +kernel
theorem dX12_strike_26 : decode cX12_strike 26 = .ok (.iconst (-1), 1) := by decide +kernel
theorem dX12_strike_27 : decode cX12_strike 27 = .ok (.ireturn, 1) := by decide +kernel
theorem dX12_strike_28 : decode cX12_strike 28 = .ok (.aload_n 0, 1) := by decide +kernel
theorem dX12_strike_29 : decode cX12_strike 29 = .ok (.getfield 133, 3) := by decide +kernel
theorem dX12_strike_32 : decode cX12_strike 32 = .ok (.aload_n 0, 1) := by decide +kernel
theorem dX12_strike_33 : decode cX12_strike 33 = .ok (.getfield 307, 3) := by decide +kernel
theorem dX12_strike_36 : decode cX12_strike 36 = .ok (.iload_n 1, 1) := by decide +kernel
theorem dX12_strike_37 : decode cX12_strike 37 = .ok (.iastore, 1) := by decide +kernel
theorem dX12_strike_38 : decode cX12_strike 38 = .ok (.aload_n 0, 1) := by decide +kernel
theorem dX12_strike_39 : decode cX12_strike 39 = .ok (.dup, 1) := by decide +kernel
theorem dX12_strike_40 : decode cX12_strike 40 = .ok (.getfield 307, 3) := by decide +kernel
theorem dX12_strike_43 : decode cX12_strike 43 = .ok (.iconst 1, 1) := by decide +kernel
theorem dX12_strike_44 : decode cX12_strike 44 = .ok (.iadd, 1) := by decide +kernel
theorem dX12_strike_45 : decode cX12_strike 45 = .ok (.putfield 307, 3) := by decide +kernel
theorem dX12_strike_48 : decode cX12_strike 48 = .ok (.aload_n 0, 1) := by decide +kernel
theorem dX12_strike_49 : decode cX12_strike 49 = .ok (.getfield 307, 3) := by decide +kernel
theorem dX12_strike_52 : decode cX12_strike 52 = .ok (.iconst 1, 1) := by decide +kernel
theorem dX12_strike_53 : decode cX12_strike 53 = .ok (.isub, 1) := by decide +kernel
theorem dX12_strike_54 : decode cX12_strike 54 = .ok (.ireturn, 1) := by decide +kernel
theorem dX12_known_0 : decode cX12_known 0 = .ok (.aload_n 0, 1) := by decide +kernel
theorem dX12_known_1 : decode cX12_known 1 = .ok (.iconst 0, 1) := by decide +kernel
theorem dX12_known_2 : decode cX12_known 2 = .ok (.putfield 148, 3) := by decide +kernel
theorem dX12_known_5 : decode cX12_known 5 = .ok (.iload_n 1, 1) := by decide +kernel
theorem dX12_known_6 : decode cX12_known 6 = .ok (.iconst (-1), 1) := by decide +kernel
theorem dX12_known_7 : decode cX12_known 7 = .ok (.if_icmp .lt 11, 3) := by decide +kernel
theorem dX12_known_10 : decode cX12_known 10 = .ok (.iload_n 1, 1) := by decide +kernel
theorem dX12_known_11 : decode cX12_known 11 = .ok (.aload_n 0, 1) := by decide +kernel
theorem dX12_known_12 : decode cX12_known 12 = .ok (.getfield 307, 3) := by decide +kernel
theorem dX12_known_15 : decode cX12_known 15 = .ok (.if_icmp .le 5, 3) := by decide +kernel
theorem dX12_known_18 : decode cX12_known 18 = .ok (.iconst 0, 1) := by decide +kernel
theorem dX12_known_19 : decode cX12_known 19 = .ok (.ireturn, 1) := by decide +kernel
theorem dX12_known_20 : decode cX12_known 20 = .ok (.aload_n 0, 1) := by decide +kernel
theorem dX12_known_21 : decode cX12_known 21 = .ok (.iload_n 1, 1) := by decide +kernel
theorem dX12_known_22 : decode cX12_known 22 = .ok (.putfield 117, 3) := by decide +kernel
theorem dX12_known_25 : decode cX12_known 25 = .ok (.iconst 1, 1) := by decide +kernel
theorem dX12_known_26 : decode cX12_known 26 = .ok (.ireturn, 1) := by decide +kernel
theorem dX12_knownMany_0 : decode cX12_knownMany 0 = .ok (.aload_n 0, 1) := by decide +kernel
theorem dX12_knownMany_1 : decode cX12_knownMany 1 = .ok (.getfield 117, 3) := by decide +kernel
theorem dX12_knownMany_4 : decode cX12_knownMany 4 = .ok (.iconst (-1), 1) := by decide +kernel
theorem dX12_knownMany_5 : decode cX12_knownMany 5 = .ok (.if_icmp .ne 10, 3) := by decide +kernel
theorem dX12_knownMany_8 : decode cX12_knownMany 8 = .ok (.aload_n 0, 1) := by decide +kernel
theorem dX12_knownMany_9 : decode cX12_knownMany 9 = .ok (.getfield 307, 3) := by decide +kernel
theorem dX12_knownMany_12 : decode cX12_knownMany 12 = .ok (.goto 7, 3) := by decide +kernel
theorem dX12_knownMany_15 : decode cX12_knownMany 15 = .ok (.aload_n 0, 1) := by decide +kernel
theorem dX12_knownMany_16 : decode cX12_knownMany 16 = .ok (.getfield 117, 3) := by decide +kernel
theorem dX12_knownMany_19 : decode cX12_knownMany 19 = .ok (.ireturn, 1) := by decide +kernel
theorem dX12_isSo_0 : decode cX12_isSo 0 = .ok (.iconst 0, 1) := by decide +kernel
theorem dX12_isSo_1 : decode cX12_isSo 1 = .ok (.istore_n 2, 1) := by decide +kernel
theorem dX12_isSo_2 : decode cX12_isSo 2 = .ok (.iload_n 2, 1) := by decide +kernel
theorem dX12_isSo_3 : decode cX12_isSo 3 = .ok (.aload_n 0, 1) := by decide +kernel
theorem dX12_isSo_4 : decode cX12_isSo 4 = .ok (.invokevirtual 511, 3) := by decide +kernel
theorem dX12_isSo_7 : decode cX12_isSo 7 = .ok (.if_icmp .ge 69, 3) := by decide +kernel
theorem dX12_isSo_10 : decode cX12_isSo 10 = .ok (.aload_n 0, 1) := by decide +kernel
theorem dX12_isSo_11 : decode cX12_isSo 11 = .ok (.getfield 136, 3) := by decide +kernel
theorem dX12_isSo_14 : decode cX12_isSo 14 = .ok (.iload_n 2, 1) := by decide +kernel
theorem dX12_isSo_15 : decode cX12_isSo 15 = .ok (.baload, 1) := by decide +kernel
theorem dX12_isSo_16 : decode cX12_isSo 16 = .ok (.ifCond .ne 54, 3) := by decide +kernel
theorem dX12_isSo_19 : decode cX12_isSo 19 = .ok (.aload_n 0, 1) := by decide +kernel
theorem dX12_isSo_20 : decode cX12_isSo 20 = .ok (.getfield 133, 3) := by decide +kernel
theorem dX12_isSo_23 : decode cX12_isSo 23 = .ok (.iload_n 2, 1) := by decide +kernel
theorem dX12_isSo_24 : decode cX12_isSo 24 = .ok (.iaload, 1) := by decide +kernel
theorem dX12_isSo_25 : decode cX12_isSo 25 = .ok (.iconst (-1), 1) := by decide +kernel
theorem dX12_isSo_26 : decode cX12_isSo 26 = .ok (.if_icmp .ne 44, 3) := by decide +kernel
theorem dX12_isSo_29 : decode cX12_isSo 29 = .ok (.aload_n 0, 1) := by decide +kernel
theorem dX12_isSo_30 : decode cX12_isSo 30 = .ok (.getfield 120, 3) := by decide +kernel
theorem dX12_isSo_33 : decode cX12_isSo 33 = .ok (.iload_n 2, 1) := by decide +kernel
theorem dX12_isSo_34 : decode cX12_isSo 34 = .ok (.iaload, 1) := by decide +kernel
theorem dX12_isSo_35 : decode cX12_isSo 35 = .ok (.iload_n 1, 1) := by decide +kernel
theorem dX12_isSo_36 : decode cX12_isSo 36 = .ok (.if_icmp .eq 6, 3) := by decide +kernel
theorem dX12_isSo_39 : decode cX12_isSo 39 = .ok (.goto 31, 3) := by decide +kernel
theorem dX12_isSo_42 : decode cX12_isSo 42 = .ok (.aload_n 0, 1) := by decide +kernel
theorem dX12_isSo_43 : decode cX12_isSo 43 = .ok (.iconst 1, 1) := by decide +kernel
theorem dX12_isSo_44 : decode cX12_isSo 44 = .ok (.aload_n 0, 1) := by decide +kernel
theorem dX12_isSo_45 : decode cX12_isSo 45 = .ok (.getfield 123, 3) := by decide +kernel
theorem dX12_isSo_48 : decode cX12_isSo 48 = .ok (.iload_n 2, 1) := by decide +kernel
theorem dX12_isSo_49 : decode cX12_isSo 49 = .ok (.iaload, 1) := by decide +kernel
theorem dX12_isSo_50 : decode cX12_isSo 50 = .ok (.aload_n 0, 1) := by decide +kernel
theorem dX12_isSo_51 : decode cX12_isSo 51 = .ok (.getfield 126, 3) := by decide +kernel
theorem dX12_isSo_54 : decode cX12_isSo 54 = .ok (.iload_n 2, 1) := by decide +kernel
theorem dX12_isSo_55 : decode cX12_isSo 55 = .ok (.iaload, 1) := by decide +kernel
theorem dX12_isSo_56 : decode cX12_isSo 56 = .ok (.invokevirtual 346, 3) := by decide +kernel
theorem dX12_isSo_59 : decode cX12_isSo 59 = .ok (.aload_n 0, 1) := by decide +kernel
theorem dX12_isSo_60 : decode cX12_isSo 60 = .ok (.getfield 129, 3) := by decide +kernel
theorem dX12_isSo_63 : decode cX12_isSo 63 = .ok (.iload_n 2, 1) := by decide +kernel
theorem dX12_isSo_64 : decode cX12_isSo 64 = .ok (.baload, 1) := by decide +kernel
theorem dX12_isSo_65 : decode cX12_isSo 65 = .ok (.if_icmp .eq 5, 3) := by decide +kernel
theorem dX12_isSo_68 : decode cX12_isSo 68 = .ok (.iconst 0, 1) := by decide +kernel
theorem dX12_isSo_69 : decode cX12_isSo 69 = .ok (.ireturn, 1) := by decide +kernel
theorem dX12_isSo_70 : decode cX12_isSo 70 = .ok (.iinc 2 1, 3) := by decide +kernel
theorem dX12_isSo_73 : decode cX12_isSo 73 = .ok (.goto (-71), 3) := by decide +kernel
theorem dX12_isSo_76 : decode cX12_isSo 76 = .ok (.iconst 1, 1) := by decide +kernel
theorem dX12_isSo_77 : decode cX12_isSo 77 = .ok (.ireturn, 1) := by decide +kernel
theorem dX12_fitsLength_0 : decode cX12_fitsLength 0 = .ok (.aload_n 0, 1) := by decide +kernel
theorem dX12_fitsLength_1 : decode cX12_fitsLength 1 = .ok (.iconst 1, 1) := by decide +kernel
theorem dX12_fitsLength_2 : decode cX12_fitsLength 2 = .ok (.invokevirtual 337, 3) := by decide +kernel
theorem dX12_fitsLength_5 : decode cX12_fitsLength 5 = .ok (.iconst 1, 1) := by decide +kernel
theorem dX12_fitsLength_6 : decode cX12_fitsLength 6 = .ok (.istore_n 2, 1) := by decide +kernel
theorem dX12_fitsLength_7 : decode cX12_fitsLength 7 = .ok (.iload_n 2, 1) := by decide +kernel
theorem dX12_fitsLength_8 : decode cX12_fitsLength 8 = .ok (.iload_n 1, 1) := by decide +kernel
theorem dX12_fitsLength_9 : decode cX12_fitsLength 9 = .ok (.if_icmp .gt 25, 3) := by decide +kernel
theorem dX12_fitsLength_12 : decode cX12_fitsLength 12 = .ok (.aload_n 0, 1) := by decide +kernel
theorem dX12_fitsLength_13 : decode cX12_fitsLength 13 = .ok (.iconst 1, 1) := by decide +kernel
theorem dX12_fitsLength_14 : decode cX12_fitsLength 14 = .ok (.iconst 0, 1) := by decide +kernel
theorem dX12_fitsLength_15 : decode cX12_fitsLength 15 = .ok (.invokevirtual 421, 3) := by decide +kernel
theorem dX12_fitsLength_18 : decode cX12_fitsLength 18 = .ok (.aload_n 0, 1) := by decide +kernel
theorem dX12_fitsLength_19 : decode cX12_fitsLength 19 = .ok (.iload_n 2, 1) := by decide +kernel
theorem dX12_fitsLength_20 : decode cX12_fitsLength 20 = .ok (.invokevirtual 514, 3) := by decide +kernel
theorem dX12_fitsLength_23 : decode cX12_fitsLength 23 = .ok (.ifCond .ne 5, 3) := by decide +kernel
theorem dX12_fitsLength_26 : decode cX12_fitsLength 26 = .ok (.iconst 0, 1) := by decide +kernel
theorem dX12_fitsLength_27 : decode cX12_fitsLength 27 = .ok (.ireturn, 1) := by decide +kernel
theorem dX12_fitsLength_28 : decode cX12_fitsLength 28 = .ok (.iinc 2 1, 3) := by decide +kernel
theorem dX12_fitsLength_31 : decode cX12_fitsLength 31 = .ok (.goto (-24), 3) := by decide +kernel
theorem dX12_fitsLength_34 : decode cX12_fitsLength 34 = .ok (.iconst 1, 1) := by decide +kernel
theorem dX12_fitsLength_35 : decode cX12_fitsLength 35 = .ok (.ireturn, 1) := by decide +kernel
theorem dX12_lengthsOf_0 : decode cX12_lengthsOf 0 = .ok (.iconst 0, 1) := by decide +kernel
theorem dX12_lengthsOf_1 : decode cX12_lengthsOf 1 = .ok (.istore_n 2, 1) := by decide +kernel
theorem dX12_lengthsOf_2 : decode cX12_lengthsOf 2 = .ok (.iconst 0, 1) := by decide +kernel
theorem dX12_lengthsOf_3 : decode cX12_lengthsOf 3 = .ok (.istore_n 3, 1) := by decide +kernel
theorem dX12_lengthsOf_4 : decode cX12_lengthsOf 4 = .ok (.iload_n 3, 1) := by decide +kernel
theorem dX12_lengthsOf_5 : decode cX12_lengthsOf 5 = .ok (.aload_n 0, 1) := by decide +kernel
theorem dX12_lengthsOf_6 : decode cX12_lengthsOf 6 = .ok (.invokevirtual 511, 3) := by decide +kernel
theorem dX12_lengthsOf_9 : decode cX12_lengthsOf 9 = .ok (.if_icmp .ge 16, 3) := by decide +kernel
theorem dX12_lengthsOf_12 : decode cX12_lengthsOf 12 = .ok (.aload_n 0, 1) := by decide +kernel
theorem dX12_lengthsOf_13 : decode cX12_lengthsOf 13 = .ok (.getfield 136, 3) := by decide +kernel
theorem dX12_lengthsOf_16 : decode cX12_lengthsOf 16 = .ok (.iload_n 3, 1) := by decide +kernel
theorem dX12_lengthsOf_17 : decode cX12_lengthsOf 17 = .ok (.iconst 0, 1) := by decide +kernel
theorem dX12_lengthsOf_18 : decode cX12_lengthsOf 18 = .ok (.bastore, 1) := by decide +kernel
theorem dX12_lengthsOf_19 : decode cX12_lengthsOf 19 = .ok (.iinc 3 1, 3) := by decide +kernel
theorem dX12_lengthsOf_22 : decode cX12_lengthsOf 22 = .ok (.goto (-18), 3) := by decide +kernel
theorem dX12_lengthsOf_25 : decode cX12_lengthsOf 25 = .ok (.aload_n 0, 1) := by decide +kernel
theorem dX12_lengthsOf_26 : decode cX12_lengthsOf 26 = .ok (.invokevirtual 511, 3) := by decide +kernel
theorem dX12_lengthsOf_29 : decode cX12_lengthsOf 29 = .ok (.iconst 1, 1) := by decide +kernel
theorem dX12_lengthsOf_30 : decode cX12_lengthsOf 30 = .ok (.isub, 1) := by decide +kernel
theorem dX12_lengthsOf_31 : decode cX12_lengthsOf 31 = .ok (.istore_n 3, 1) := by decide +kernel
theorem dX12_lengthsOf_32 : decode cX12_lengthsOf 32 = .ok (.iload_n 3, 1) := by decide +kernel
theorem dX12_lengthsOf_33 : decode cX12_lengthsOf 33 = .ok (.ifCond .lt 40, 3) := by decide +kernel
theorem dX12_lengthsOf_36 : decode cX12_lengthsOf 36 = .ok (.aload_n 0, 1) := by decide +kernel
theorem dX12_lengthsOf_37 : decode cX12_lengthsOf 37 = .ok (.getfield 136, 3) := by decide +kernel
theorem dX12_lengthsOf_40 : decode cX12_lengthsOf 40 = .ok (.iload_n 3, 1) := by decide +kernel
theorem dX12_lengthsOf_41 : decode cX12_lengthsOf 41 = .ok (.baload, 1) := by decide +kernel
theorem dX12_lengthsOf_42 : decode cX12_lengthsOf 42 = .ok (.ifCond .ne 25, 3) := by decide +kernel
theorem dX12_lengthsOf_45 : decode cX12_lengthsOf 45 = .ok (.aload_n 0, 1) := by decide +kernel
theorem dX12_lengthsOf_46 : decode cX12_lengthsOf 46 = .ok (.getfield 133, 3) := by decide +kernel
theorem dX12_lengthsOf_49 : decode cX12_lengthsOf 49 = .ok (.iload_n 3, 1) := by decide +kernel
theorem dX12_lengthsOf_50 : decode cX12_lengthsOf 50 = .ok (.iaload, 1) := by decide +kernel
theorem dX12_lengthsOf_51 : decode cX12_lengthsOf 51 = .ok (.iconst (-1), 1) := by decide +kernel
theorem dX12_lengthsOf_52 : decode cX12_lengthsOf 52 = .ok (.if_icmp .eq 15, 3) := by decide +kernel
theorem dX12_lengthsOf_55 : decode cX12_lengthsOf 55 = .ok (.aload_n 0, 1) := by decide +kernel
theorem dX12_lengthsOf_56 : decode cX12_lengthsOf 56 = .ok (.getfield 136, 3) := by decide +kernel
theorem dX12_lengthsOf_59 : decode cX12_lengthsOf 59 = .ok (.aload_n 0, 1) := by decide +kernel
theorem dX12_lengthsOf_60 : decode cX12_lengthsOf 60 = .ok (.getfield 133, 3) := by decide +kernel
theorem dX12_lengthsOf_63 : decode cX12_lengthsOf 63 = .ok (.iload_n 3, 1) := by decide +kernel
theorem dX12_lengthsOf_64 : decode cX12_lengthsOf 64 = .ok (.iaload, 1) := by decide +kernel
theorem dX12_lengthsOf_65 : decode cX12_lengthsOf 65 = .ok (.iconst 1, 1) := by decide +kernel
theorem dX12_lengthsOf_66 : decode cX12_lengthsOf 66 = .ok (.bastore, 1) := by decide +kernel
theorem dX12_lengthsOf_67 : decode cX12_lengthsOf 67 = .ok (.iinc 3 (-1), 3) := by decide +kernel
theorem dX12_lengthsOf_70 : decode cX12_lengthsOf 70 = .ok (.goto (-38), 3) := by decide +kernel
theorem dX12_lengthsOf_73 : decode cX12_lengthsOf 73 = .ok (.iconst 0, 1) := by decide +kernel
theorem dX12_lengthsOf_74 : decode cX12_lengthsOf 74 = .ok (.istore_n 3, 1) := by decide +kernel
theorem dX12_lengthsOf_75 : decode cX12_lengthsOf 75 = .ok (.iload_n 3, 1) := by decide +kernel
theorem dX12_lengthsOf_76 : decode cX12_lengthsOf 76 = .ok (.aload_n 0, 1) := by decide +kernel
theorem dX12_lengthsOf_77 : decode cX12_lengthsOf 77 = .ok (.invokevirtual 511, 3) := by decide +kernel
theorem dX12_lengthsOf_80 : decode cX12_lengthsOf 80 = .ok (.if_icmp .ge 39, 3) := by decide +kernel
theorem dX12_lengthsOf_83 : decode cX12_lengthsOf 83 = .ok (.aload_n 0, 1) := by decide +kernel
theorem dX12_lengthsOf_84 : decode cX12_lengthsOf 84 = .ok (.getfield 136, 3) := by decide +kernel
theorem dX12_lengthsOf_87 : decode cX12_lengthsOf 87 = .ok (.iload_n 3, 1) := by decide +kernel
theorem dX12_lengthsOf_88 : decode cX12_lengthsOf 88 = .ok (.baload, 1) := by decide +kernel
theorem dX12_lengthsOf_89 : decode cX12_lengthsOf 89 = .ok (.ifCond .ne 24, 3) := by decide +kernel
theorem dX12_lengthsOf_92 : decode cX12_lengthsOf 92 = .ok (.aload_n 0, 1) := by decide +kernel
theorem dX12_lengthsOf_93 : decode cX12_lengthsOf 93 = .ok (.getfield 133, 3) := by decide +kernel
theorem dX12_lengthsOf_96 : decode cX12_lengthsOf 96 = .ok (.iload_n 3, 1) := by decide +kernel
theorem dX12_lengthsOf_97 : decode cX12_lengthsOf 97 = .ok (.iaload, 1) := by decide +kernel
theorem dX12_lengthsOf_98 : decode cX12_lengthsOf 98 = .ok (.iconst (-1), 1) := by decide +kernel
theorem dX12_lengthsOf_99 : decode cX12_lengthsOf 99 = .ok (.if_icmp .ne 14, 3) := by decide +kernel
theorem dX12_lengthsOf_102 : decode cX12_lengthsOf 102 = .ok (.iload_n 2, 1) := by decide +kernel
theorem dX12_lengthsOf_103 : decode cX12_lengthsOf 103 = .ok (.aload_n 0, 1) := by decide +kernel
theorem dX12_lengthsOf_104 : decode cX12_lengthsOf 104 = .ok (.getfield 120, 3) := by decide +kernel
theorem dX12_lengthsOf_107 : decode cX12_lengthsOf 107 = .ok (.iload_n 3, 1) := by decide +kernel
theorem dX12_lengthsOf_108 : decode cX12_lengthsOf 108 = .ok (.iaload, 1) := by decide +kernel
theorem dX12_lengthsOf_109 : decode cX12_lengthsOf 109 = .ok (.invokestatic 459, 3) := by decide +kernel
theorem dX12_lengthsOf_112 : decode cX12_lengthsOf 112 = .ok (.istore_n 2, 1) := by decide +kernel
theorem dX12_lengthsOf_113 : decode cX12_lengthsOf 113 = .ok (.iinc 3 1, 3) := by decide +kernel
theorem dX12_lengthsOf_116 : decode cX12_lengthsOf 116 = .ok (.goto (-41), 3) := by decide +kernel
theorem dX12_lengthsOf_119 : decode cX12_lengthsOf 119 = .ok (.iconst 0, 1) := by decide +kernel
theorem dX12_lengthsOf_120 : decode cX12_lengthsOf 120 = .ok (.istore_n 3, 1) := by decide +kernel
theorem dX12_lengthsOf_121 : decode cX12_lengthsOf 121 = .ok (.aload_n 0, 1) := by decide +kernel
theorem dX12_lengthsOf_122 : decode cX12_lengthsOf 122 = .ok (.iload_n 1, 1) := by decide +kernel
theorem dX12_lengthsOf_123 : decode cX12_lengthsOf 123 = .ok (.putfield 102, 3) := by decide +kernel
theorem dX12_lengthsOf_126 : decode cX12_lengthsOf 126 = .ok (.iconst 0, 1) := by decide +kernel
theorem dX12_lengthsOf_127 : decode cX12_lengthsOf 127 = .ok (.istore 4, 2) := by decide +kernel
theorem dX12_lengthsOf_129 : decode cX12_lengthsOf 129 = .ok (.iload 4, 2) := by decide +kernel
theorem dX12_lengthsOf_131 : decode cX12_lengthsOf 131 = .ok (.bipush 30, 2) := by decide +kernel
theorem dX12_lengthsOf_133 : decode cX12_lengthsOf 133 = .ok (.if_icmp .ge 36, 3) := by decide +kernel
theorem dX12_lengthsOf_136 : decode cX12_lengthsOf 136 = .ok (.aload_n 0, 1) := by decide +kernel
theorem dX12_lengthsOf_137 : decode cX12_lengthsOf 137 = .ok (.iload 4, 2) := by decide +kernel
theorem dX12_lengthsOf_139 : decode cX12_lengthsOf 139 = .ok (.iconst 1, 1) := by decide +kernel
theorem dX12_lengthsOf_140 : decode cX12_lengthsOf 140 = .ok (.iadd, 1) := by decide +kernel
theorem dX12_lengthsOf_141 : decode cX12_lengthsOf 141 = .ok (.putfield 340, 3) := by decide +kernel
theorem dX12_lengthsOf_144 : decode cX12_lengthsOf 144 = .ok (.iload_n 3, 1) := by decide +kernel
theorem dX12_lengthsOf_145 : decode cX12_lengthsOf 145 = .ok (.aload_n 0, 1) := by decide +kernel
theorem dX12_lengthsOf_146 : decode cX12_lengthsOf 146 = .ok (.iload_n 2, 1) := by decide +kernel
theorem dX12_lengthsOf_147 : decode cX12_lengthsOf 147 = .ok (.invokevirtual 517, 3) := by decide +kernel
theorem dX12_lengthsOf_150 : decode cX12_lengthsOf 150 = .ok (.ifCond .eq 10, 3) := by decide +kernel
theorem dX12_lengthsOf_153 : decode cX12_lengthsOf 153 = .ok (.iconst 1, 1) := by decide +kernel
theorem dX12_lengthsOf_154 : decode cX12_lengthsOf 154 = .ok (.iload 4, 2) := by decide +kernel
theorem dX12_lengthsOf_156 : decode cX12_lengthsOf 156 = .ok (.ishl, 1) := by decide +kernel
theorem dX12_lengthsOf_157 : decode cX12_lengthsOf 157 = .ok (.goto 4, 3) := by decide +kernel
theorem dX12_lengthsOf_160 : decode cX12_lengthsOf 160 = .ok (.iconst 0, 1) := by decide +kernel
theorem dX12_lengthsOf_161 : decode cX12_lengthsOf 161 = .ok (.ior, 1) := by decide +kernel
theorem dX12_lengthsOf_162 : decode cX12_lengthsOf 162 = .ok (.istore_n 3, 1) := by decide +kernel
theorem dX12_lengthsOf_163 : decode cX12_lengthsOf 163 = .ok (.iinc 4 1, 3) := by decide +kernel
theorem dX12_lengthsOf_166 : decode cX12_lengthsOf 166 = .ok (.goto (-37), 3) := by decide +kernel
theorem dX12_lengthsOf_169 : decode cX12_lengthsOf 169 = .ok (.aload_n 0, 1) := by decide +kernel
theorem dX12_lengthsOf_170 : decode cX12_lengthsOf 170 = .ok (.iconst (-1), 1) := by decide +kernel
theorem dX12_lengthsOf_171 : decode cX12_lengthsOf 171 = .ok (.putfield 102, 3) := by decide +kernel
theorem dX12_lengthsOf_174 : decode cX12_lengthsOf 174 = .ok (.iload_n 3, 1) := by decide +kernel
theorem dX12_lengthsOf_175 : decode cX12_lengthsOf 175 = .ok (.ireturn, 1) := by decide +kernel
theorem dX12_lengths_0 : decode cX12_lengths 0 = .ok (.aload_n 0, 1) := by decide +kernel
theorem dX12_lengths_1 : decode cX12_lengths 1 = .ok (.iconst 0, 1) := by decide +kernel
theorem dX12_lengths_2 : decode cX12_lengths 2 = .ok (.putfield 148, 3) := by decide +kernel
theorem dX12_lengths_5 : decode cX12_lengths 5 = .ok (.aload_n 0, 1) := by decide +kernel
theorem dX12_lengths_6 : decode cX12_lengths 6 = .ok (.iload_n 1, 1) := by decide +kernel
theorem dX12_lengths_7 : decode cX12_lengths 7 = .ok (.invokevirtual 425, 3) := by decide +kernel
theorem dX12_lengths_10 : decode cX12_lengths 10 = .ok (.ifCond .eq 11, 3) := by decide +kernel
theorem dX12_lengths_13 : decode cX12_lengths 13 = .ok (.aload_n 0, 1) := by decide +kernel
theorem dX12_lengths_14 : decode cX12_lengths 14 = .ok (.iload_n 1, 1) := by decide +kernel
theorem dX12_lengths_15 : decode cX12_lengths 15 = .ok (.invokevirtual 520, 3) := by decide +kernel
theorem dX12_lengths_18 : decode cX12_lengths 18 = .ok (.goto 4, 3) := by decide +kernel
theorem dX12_lengths_21 : decode cX12_lengths 21 = .ok (.iconst (-1), 1) := by decide +kernel
theorem dX12_lengths_22 : decode cX12_lengths 22 = .ok (.ireturn, 1) := by decide +kernel
theorem dX12_worstOf_0 : decode cX12_worstOf 0 = .ok (.iconst 0, 1) := by decide +kernel
theorem dX12_worstOf_1 : decode cX12_worstOf 1 = .ok (.istore_n 3, 1) := by decide +kernel
theorem dX12_worstOf_2 : decode cX12_worstOf 2 = .ok (.iconst 0, 1) := by decide +kernel
theorem dX12_worstOf_3 : decode cX12_worstOf 3 = .ok (.istore 4, 2) := by decide +kernel
theorem dX12_worstOf_5 : decode cX12_worstOf 5 = .ok (.iload 4, 2) := by decide +kernel
theorem dX12_worstOf_7 : decode cX12_worstOf 7 = .ok (.bipush 30, 2) := by decide +kernel
theorem dX12_worstOf_9 : decode cX12_worstOf 9 = .ok (.if_icmp .ge 49, 3) := by decide +kernel
theorem dX12_worstOf_12 : decode cX12_worstOf 12 = .ok (.iload_n 3, 1) := by decide +kernel
theorem dX12_worstOf_13 : decode cX12_worstOf 13 = .ok (.iload_n 1, 1) := by decide +kernel
theorem dX12_worstOf_14 : decode cX12_worstOf 14 = .ok (.iload 4, 2) := by decide +kernel
theorem dX12_worstOf_16 : decode cX12_worstOf 16 = .ok (.ishr, 1) := by decide +kernel
theorem dX12_worstOf_17 : decode cX12_worstOf 17 = .ok (.iconst 1, 1) := by decide +kernel
theorem dX12_worstOf_18 : decode cX12_worstOf 18 = .ok (.iand, 1) := by decide +kernel
theorem dX12_worstOf_19 : decode cX12_worstOf 19 = .ok (.iconst 1, 1) := by decide +kernel
theorem dX12_worstOf_20 : decode cX12_worstOf 20 = .ok (.if_icmp .ne 29, 3) := by decide +kernel
theorem dX12_worstOf_23 : decode cX12_worstOf 23 = .ok (.iload_n 2, 1) := by decide +kernel
theorem dX12_worstOf_24 : decode cX12_worstOf 24 = .ok (.aload_n 0, 1) := by decide +kernel
theorem dX12_worstOf_25 : decode cX12_worstOf 25 = .ok (.getfield 139, 3) := by decide +kernel
theorem dX12_worstOf_28 : decode cX12_worstOf 28 = .ok (.iload 4, 2) := by decide +kernel
theorem dX12_worstOf_30 : decode cX12_worstOf 30 = .ok (.iaload, 1) := by decide +kernel
theorem dX12_worstOf_31 : decode cX12_worstOf 31 = .ok (.if_icmp .lt 18, 3) := by decide +kernel
theorem dX12_worstOf_34 : decode cX12_worstOf 34 = .ok (.iload_n 2, 1) := by decide +kernel
theorem dX12_worstOf_35 : decode cX12_worstOf 35 = .ok (.aload_n 0, 1) := by decide +kernel
theorem dX12_worstOf_36 : decode cX12_worstOf 36 = .ok (.getfield 142, 3) := by decide +kernel
theorem dX12_worstOf_39 : decode cX12_worstOf 39 = .ok (.iload 4, 2) := by decide +kernel
theorem dX12_worstOf_41 : decode cX12_worstOf 41 = .ok (.iaload, 1) := by decide +kernel
theorem dX12_worstOf_42 : decode cX12_worstOf 42 = .ok (.if_icmp .ge 7, 3) := by decide +kernel
theorem dX12_worstOf_45 : decode cX12_worstOf 45 = .ok (.iconst 1, 1) := by decide +kernel
theorem dX12_worstOf_46 : decode cX12_worstOf 46 = .ok (.goto 4, 3) := by decide +kernel
theorem dX12_worstOf_49 : decode cX12_worstOf 49 = .ok (.iconst 0, 1) := by decide +kernel
theorem dX12_worstOf_50 : decode cX12_worstOf 50 = .ok (.iadd, 1) := by decide +kernel
theorem dX12_worstOf_51 : decode cX12_worstOf 51 = .ok (.istore_n 3, 1) := by decide +kernel
theorem dX12_worstOf_52 : decode cX12_worstOf 52 = .ok (.iinc 4 1, 3) := by decide +kernel
theorem dX12_worstOf_55 : decode cX12_worstOf 55 = .ok (.goto (-50), 3) := by decide +kernel
theorem dX12_worstOf_58 : decode cX12_worstOf 58 = .ok (.iload_n 3, 1) := by decide +kernel
theorem dX12_worstOf_59 : decode cX12_worstOf 59 = .ok (.iload_n 1, 1) := by decide +kernel
theorem dX12_worstOf_60 : decode cX12_worstOf 60 = .ok (.invokestatic 356, 3) := by decide +kernel
theorem dX12_worstOf_63 : decode cX12_worstOf 63 = .ok (.iload_n 3, 1) := by decide +kernel
theorem dX12_worstOf_64 : decode cX12_worstOf 64 = .ok (.isub, 1) := by decide +kernel
theorem dX12_worstOf_65 : decode cX12_worstOf 65 = .ok (.invokestatic 459, 3) := by decide +kernel
theorem dX12_worstOf_68 : decode cX12_worstOf 68 = .ok (.ireturn, 1) := by decide +kernel
theorem dX12_ask_0 : decode cX12_ask 0 = .ok (.aload_n 0, 1) := by decide +kernel
theorem dX12_ask_1 : decode cX12_ask 1 = .ok (.iconst 0, 1) := by decide +kernel
theorem dX12_ask_2 : decode cX12_ask 2 = .ok (.putfield 148, 3) := by decide +kernel
theorem dX12_ask_5 : decode cX12_ask 5 = .ok (.aload_n 0, 1) := by decide +kernel
theorem dX12_ask_6 : decode cX12_ask 6 = .ok (.iload_n 1, 1) := by decide +kernel
theorem dX12_ask_7 : decode cX12_ask 7 = .ok (.invokevirtual 425, 3) := by decide +kernel
theorem dX12_ask_10 : decode cX12_ask 10 = .ok (.ifCond .eq 12, 3) := by decide +kernel
theorem dX12_ask_13 : decode cX12_ask 13 = .ok (.iload_n 2, 1) := by decide +kernel
theorem dX12_ask_14 : decode cX12_ask 14 = .ok (.ifCond .lt 8, 3) := by decide +kernel
theorem dX12_ask_17 : decode cX12_ask 17 = .ok (.iload_n 2, 1) := by decide +kernel
theorem dX12_ask_18 : decode cX12_ask 18 = .ok (.iconst 1, 1) := by decide +kernel
theorem dX12_ask_19 : decode cX12_ask 19 = .ok (.if_icmp .le 5, 3) := by decide +kernel
theorem dX12_ask_22 : decode cX12_ask 22 = .ok (.iconst (-1), 1) := by decide +kernel
theorem dX12_ask_23 : decode cX12_ask 23 = .ok (.ireturn, 1) := by decide +kernel
theorem dX12_ask_24 : decode cX12_ask 24 = .ok (.aload_n 0, 1) := by decide +kernel
theorem dX12_ask_25 : decode cX12_ask 25 = .ok (.iload_n 1, 1) := by decide +kernel
theorem dX12_ask_26 : decode cX12_ask 26 = .ok (.invokevirtual 520, 3) := by decide +kernel
theorem dX12_ask_29 : decode cX12_ask 29 = .ok (.istore_n 3, 1) := by decide +kernel
theorem dX12_ask_30 : decode cX12_ask 30 = .ok (.aload_n 0, 1) := by decide +kernel
theorem dX12_ask_31 : decode cX12_ask 31 = .ok (.iload_n 1, 1) := by decide +kernel
theorem dX12_ask_32 : decode cX12_ask 32 = .ok (.putfield 102, 3) := by decide +kernel
theorem dX12_ask_35 : decode cX12_ask 35 = .ok (.iconst 0, 1) := by decide +kernel
theorem dX12_ask_36 : decode cX12_ask 36 = .ok (.istore 4, 2) := by decide +kernel
theorem dX12_ask_38 : decode cX12_ask 38 = .ok (.iload 4, 2) := by decide +kernel
theorem dX12_ask_40 : decode cX12_ask 40 = .ok (.bipush 30, 2) := by decide +kernel
theorem dX12_ask_42 : decode cX12_ask 42 = .ok (.if_icmp .ge 65, 3) := by decide +kernel
theorem dX12_ask_45 : decode cX12_ask 45 = .ok (.aload_n 0, 1) := by decide +kernel
theorem dX12_ask_46 : decode cX12_ask 46 = .ok (.iload 4, 2) := by decide +kernel
theorem dX12_ask_48 : decode cX12_ask 48 = .ok (.iconst 1, 1) := by decide +kernel
theorem dX12_ask_49 : decode cX12_ask 49 = .ok (.iadd, 1) := by decide +kernel
theorem dX12_ask_50 : decode cX12_ask 50 = .ok (.putfield 340, 3) := by decide +kernel
theorem dX12_ask_53 : decode cX12_ask 53 = .ok (.aload_n 0, 1) := by decide +kernel
theorem dX12_ask_54 : decode cX12_ask 54 = .ok (.iconst 1, 1) := by decide +kernel
theorem dX12_ask_55 : decode cX12_ask 55 = .ok (.invokevirtual 337, 3) := by decide +kernel
theorem dX12_ask_58 : decode cX12_ask 58 = .ok (.aload_n 0, 1) := by decide +kernel
theorem dX12_ask_59 : decode cX12_ask 59 = .ok (.bipush 20, 2) := by decide +kernel
theorem dX12_ask_61 : decode cX12_ask 61 = .ok (.invokevirtual 450, 3) := by decide +kernel
theorem dX12_ask_64 : decode cX12_ask 64 = .ok (.aload_n 0, 1) := by decide +kernel
theorem dX12_ask_65 : decode cX12_ask 65 = .ok (.getfield 139, 3) := by decide +kernel
theorem dX12_ask_68 : decode cX12_ask 68 = .ok (.iload 4, 2) := by decide +kernel
theorem dX12_ask_70 : decode cX12_ask 70 = .ok (.aload_n 0, 1) := by decide +kernel
theorem dX12_ask_71 : decode cX12_ask 71 = .ok (.getfield 87, 3) := by decide +kernel
theorem dX12_ask_74 : decode cX12_ask 74 = .ok (.bipush 6, 2) := by decide +kernel
theorem dX12_ask_76 : decode cX12_ask 76 = .ok (.iload_n 1, 1) := by decide +kernel
theorem dX12_ask_77 : decode cX12_ask 77 = .ok (.iadd, 1) := by decide +kernel
theorem dX12_ask_78 : decode cX12_ask 78 = .ok (.iaload, 1) := by decide +kernel
theorem dX12_ask_79 : decode cX12_ask 79 = .ok (.iastore, 1) := by decide +kernel
theorem dX12_ask_80 : decode cX12_ask 80 = .ok (.aload_n 0, 1) := by decide +kernel
theorem dX12_ask_81 : decode cX12_ask 81 = .ok (.getfield 142, 3) := by decide +kernel
theorem dX12_ask_84 : decode cX12_ask 84 = .ok (.iload 4, 2) := by decide +kernel
theorem dX12_ask_86 : decode cX12_ask 86 = .ok (.iload 4, 2) := by decide +kernel
theorem dX12_ask_88 : decode cX12_ask 88 = .ok (.iconst 1, 1) := by decide +kernel
theorem dX12_ask_89 : decode cX12_ask 89 = .ok (.iadd, 1) := by decide +kernel
theorem dX12_ask_90 : decode cX12_ask 90 = .ok (.aload_n 0, 1) := by decide +kernel
theorem dX12_ask_91 : decode cX12_ask 91 = .ok (.getfield 90, 3) := by decide +kernel
theorem dX12_ask_94 : decode cX12_ask 94 = .ok (.bipush 6, 2) := by decide +kernel
theorem dX12_ask_96 : decode cX12_ask 96 = .ok (.iload_n 1, 1) := by decide +kernel
theorem dX12_ask_97 : decode cX12_ask 97 = .ok (.iadd, 1) := by decide +kernel
theorem dX12_ask_98 : decode cX12_ask 98 = .ok (.iaload, 1) := by decide +kernel
theorem dX12_ask_99 : decode cX12_ask 99 = .ok (.isub, 1) := by decide +kernel
theorem dX12_ask_100 : decode cX12_ask 100 = .ok (.iastore, 1) := by decide +kernel
theorem dX12_ask_101 : decode cX12_ask 101 = .ok (.iinc 4 1, 3) := by decide +kernel
theorem dX12_ask_104 : decode cX12_ask 104 = .ok (.goto (-66), 3) := by decide +kernel
theorem dX12_ask_107 : decode cX12_ask 107 = .ok (.aload_n 0, 1) := by decide +kernel
theorem dX12_ask_108 : decode cX12_ask 108 = .ok (.iconst (-1), 1) := by decide +kernel
theorem dX12_ask_109 : decode cX12_ask 109 = .ok (.putfield 102, 3) := by decide +kernel
theorem dX12_ask_112 : decode cX12_ask 112 = .ok (.iconst 0, 1) := by decide +kernel
theorem dX12_ask_113 : decode cX12_ask 113 = .ok (.istore 4, 2) := by decide +kernel
theorem dX12_ask_115 : decode cX12_ask 115 = .ok (.iconst 1, 1) := by decide +kernel
theorem dX12_ask_116 : decode cX12_ask 116 = .ok (.istore 5, 2) := by decide +kernel
theorem dX12_ask_118 : decode cX12_ask 118 = .ok (.iload 5, 2) := by decide +kernel
theorem dX12_ask_120 : decode cX12_ask 120 = .ok (.bipush 60, 2) := by decide +kernel
theorem dX12_ask_122 : decode cX12_ask 122 = .ok (.if_icmp .ge 30, 3) := by decide +kernel
theorem dX12_ask_125 : decode cX12_ask 125 = .ok (.aload_n 0, 1) := by decide +kernel
theorem dX12_ask_126 : decode cX12_ask 126 = .ok (.iload_n 3, 1) := by decide +kernel
theorem dX12_ask_127 : decode cX12_ask 127 = .ok (.iload 5, 2) := by decide +kernel
theorem dX12_ask_129 : decode cX12_ask 129 = .ok (.invokevirtual 523, 3) := by decide +kernel
theorem dX12_ask_132 : decode cX12_ask 132 = .ok (.aload_n 0, 1) := by decide +kernel
theorem dX12_ask_133 : decode cX12_ask 133 = .ok (.iload_n 3, 1) := by decide +kernel
theorem dX12_ask_134 : decode cX12_ask 134 = .ok (.iload 4, 2) := by decide +kernel
theorem dX12_ask_136 : decode cX12_ask 136 = .ok (.invokevirtual 523, 3) := by decide +kernel
theorem dX12_ask_139 : decode cX12_ask 139 = .ok (.if_icmp .ge 7, 3) := by decide +kernel
theorem dX12_ask_142 : decode cX12_ask 142 = .ok (.iload 5, 2) := by decide +kernel
theorem dX12_ask_144 : decode cX12_ask 144 = .ok (.istore 4, 2) := by decide +kernel
theorem dX12_ask_146 : decode cX12_ask 146 = .ok (.iinc 5 1, 3) := by decide +kernel
theorem dX12_ask_149 : decode cX12_ask 149 = .ok (.goto (-31), 3) := by decide +kernel
theorem dX12_ask_152 : decode cX12_ask 152 = .ok (.iload_n 2, 1) := by decide +kernel
theorem dX12_ask_153 : decode cX12_ask 153 = .ok (.ifCond .ne 8, 3) := by decide +kernel
theorem dX12_ask_156 : decode cX12_ask 156 = .ok (.iload 4, 2) := by decide +kernel
theorem dX12_ask_158 : decode cX12_ask 158 = .ok (.goto 10, 3) := by decide +kernel
theorem dX12_ask_161 : decode cX12_ask 161 = .ok (.aload_n 0, 1) := by decide +kernel
theorem dX12_ask_162 : decode cX12_ask 162 = .ok (.iload_n 3, 1) := by decide +kernel
theorem dX12_ask_163 : decode cX12_ask 163 = .ok (.iload 4, 2) := by decide +kernel
theorem dX12_ask_165 : decode cX12_ask 165 = .ok (.invokevirtual 523, 3) := by decide +kernel
theorem dX12_ask_168 : decode cX12_ask 168 = .ok (.ireturn, 1) := by decide +kernel
theorem dX12_chance_0 : decode cX12_chance 0 = .ok (.aload_n 0, 1) := by decide +kernel
theorem dX12_chance_1 : decode cX12_chance 1 = .ok (.iconst 0, 1) := by decide +kernel
theorem dX12_chance_2 : decode cX12_chance 2 = .ok (.putfield 148, 3) := by decide +kernel
theorem dX12_chance_5 : decode cX12_chance 5 = .ok (.iload_n 1, 1) := by decide +kernel
theorem dX12_chance_6 : decode cX12_chance 6 = .ok (.ifCond .lt 34, 3) := by decide +kernel
theorem dX12_chance_9 : decode cX12_chance 9 = .ok (.iload_n 2, 1) := by decide +kernel
theorem dX12_chance_10 : decode cX12_chance 10 = .ok (.iconst 1, 1) := by decide +kernel
theorem dX12_chance_11 : decode cX12_chance 11 = .ok (.if_icmp .lt 29, 3) := by decide +kernel
theorem dX12_chance_14 : decode cX12_chance 14 = .ok (.iload_n 2, 1) := by decide +kernel
theorem dX12_chance_15 : decode cX12_chance 15 = .ok (.bipush 99, 2) := by decide +kernel
theorem dX12_chance_17 : decode cX12_chance 17 = .ok (.if_icmp .gt 23, 3) := by decide +kernel
theorem dX12_chance_20 : decode cX12_chance 20 = .ok (.aload_n 0, 1) := by decide +kernel
theorem dX12_chance_21 : decode cX12_chance 21 = .ok (.iload_n 3, 1) := by decide +kernel
theorem dX12_chance_22 : decode cX12_chance 22 = .ok (.invokevirtual 425, 3) := by decide +kernel
theorem dX12_chance_25 : decode cX12_chance 25 = .ok (.ifCond .eq 15, 3) := by decide +kernel
theorem dX12_chance_28 : decode cX12_chance 28 = .ok (.iload 4, 2) := by decide +kernel
theorem dX12_chance_30 : decode cX12_chance 30 = .ok (.ifCond .lt 10, 3) := by decide +kernel
theorem dX12_chance_33 : decode cX12_chance 33 = .ok (.iload 4, 2) := by decide +kernel
theorem dX12_chance_35 : decode cX12_chance 35 = .ok (.bipush 60, 2) := by decide +kernel
theorem dX12_chance_37 : decode cX12_chance 37 = .ok (.if_icmp .le 5, 3) := by decide +kernel
theorem dX12_chance_40 : decode cX12_chance 40 = .ok (.iconst (-1), 1) := by decide +kernel
theorem dX12_chance_41 : decode cX12_chance 41 = .ok (.ireturn, 1) := by decide +kernel
theorem dX12_chance_42 : decode cX12_chance 42 = .ok (.iload_n 1, 1) := by decide +kernel
theorem dX12_chance_43 : decode cX12_chance 43 = .ok (.istore 5, 2) := by decide +kernel
theorem dX12_chance_45 : decode cX12_chance 45 = .ok (.iconst 0, 1) := by decide +kernel
theorem dX12_chance_46 : decode cX12_chance 46 = .ok (.istore 6, 2) := by decide +kernel
theorem dX12_chance_48 : decode cX12_chance 48 = .ok (.iconst 0, 1) := by decide +kernel
theorem dX12_chance_49 : decode cX12_chance 49 = .ok (.istore 7, 2) := by decide +kernel
theorem dX12_chance_51 : decode cX12_chance 51 = .ok (.iload 7, 2) := by decide +kernel
theorem dX12_chance_53 : decode cX12_chance 53 = .ok (.bipush 10, 2) := by decide +kernel
theorem dX12_chance_55 : decode cX12_chance 55 = .ok (.if_icmp .ge 73, 3) := by decide +kernel
theorem dX12_chance_58 : decode cX12_chance 58 = .ok (.aload_n 0, 1) := by decide +kernel
theorem dX12_chance_59 : decode cX12_chance 59 = .ok (.iconst 1, 1) := by decide +kernel
theorem dX12_chance_60 : decode cX12_chance 60 = .ok (.iconst 0, 1) := by decide +kernel
theorem dX12_chance_61 : decode cX12_chance 61 = .ok (.invokevirtual 441, 3) := by decide +kernel
theorem dX12_chance_64 : decode cX12_chance 64 = .ok (.aload_n 0, 1) := by decide +kernel
theorem dX12_chance_65 : decode cX12_chance 65 = .ok (.getfield 78, 3) := by decide +kernel
theorem dX12_chance_68 : decode cX12_chance 68 = .ok (.iconst 1, 1) := by decide +kernel
theorem dX12_chance_69 : decode cX12_chance 69 = .ok (.iload 5, 2) := by decide +kernel
theorem dX12_chance_71 : decode cX12_chance 71 = .ok (.iastore, 1) := by decide +kernel
theorem dX12_chance_72 : decode cX12_chance 72 = .ok (.iconst 0, 1) := by decide +kernel
theorem dX12_chance_73 : decode cX12_chance 73 = .ok (.istore 8, 2) := by decide +kernel
theorem dX12_chance_75 : decode cX12_chance 75 = .ok (.iload 8, 2) := by decide +kernel
theorem dX12_chance_77 : decode cX12_chance 77 = .ok (.iload_n 2, 1) := by decide +kernel
theorem dX12_chance_78 : decode cX12_chance 78 = .ok (.if_icmp .ge 15, 3) := by decide +kernel
theorem dX12_chance_81 : decode cX12_chance 81 = .ok (.aload_n 0, 1) := by decide +kernel
theorem dX12_chance_82 : decode cX12_chance 82 = .ok (.iconst 1, 1) := by decide +kernel
theorem dX12_chance_83 : decode cX12_chance 83 = .ok (.iconst 1, 1) := by decide +kernel
theorem dX12_chance_84 : decode cX12_chance 84 = .ok (.invokevirtual 421, 3) := by decide +kernel
theorem dX12_chance_87 : decode cX12_chance 87 = .ok (.iinc 8 1, 3) := by decide +kernel
theorem dX12_chance_90 : decode cX12_chance 90 = .ok (.goto (-15), 3) := by decide +kernel
theorem dX12_chance_93 : decode cX12_chance 93 = .ok (.aload_n 0, 1) := by decide +kernel
theorem dX12_chance_94 : decode cX12_chance 94 = .ok (.getfield 78, 3) := by decide +kernel
theorem dX12_chance_97 : decode cX12_chance 97 = .ok (.iconst 1, 1) := by decide +kernel
theorem dX12_chance_98 : decode cX12_chance 98 = .ok (.iaload, 1) := by decide +kernel
theorem dX12_chance_99 : decode cX12_chance 99 = .ok (.istore 5, 2) := by decide +kernel
theorem dX12_chance_101 : decode cX12_chance 101 = .ok (.iload 6, 2) := by decide +kernel
theorem dX12_chance_103 : decode cX12_chance 103 = .ok (.aload_n 0, 1) := by decide +kernel
theorem dX12_chance_104 : decode cX12_chance 104 = .ok (.iconst 1, 1) := by decide +kernel
theorem dX12_chance_105 : decode cX12_chance 105 = .ok (.iload_n 3, 1) := by decide +kernel
theorem dX12_chance_106 : decode cX12_chance 106 = .ok (.invokevirtual 353, 3) := by decide +kernel
theorem dX12_chance_109 : decode cX12_chance 109 = .ok (.iload 4, 2) := by decide +kernel
theorem dX12_chance_111 : decode cX12_chance 111 = .ok (.if_icmp .lt 7, 3) := by decide +kernel
theorem dX12_chance_114 : decode cX12_chance 114 = .ok (.iconst 1, 1) := by decide +kernel
theorem dX12_chance_115 : decode cX12_chance 115 = .ok (.goto 4, 3) := by decide +kernel
theorem dX12_chance_118 : decode cX12_chance 118 = .ok (.iconst 0, 1) := by decide +kernel
theorem dX12_chance_119 : decode cX12_chance 119 = .ok (.iadd, 1) := by decide +kernel
theorem dX12_chance_120 : decode cX12_chance 120 = .ok (.istore 6, 2) := by decide +kernel
theorem dX12_chance_122 : decode cX12_chance 122 = .ok (.iinc 7 1, 3) := by decide +kernel
theorem dX12_chance_125 : decode cX12_chance 125 = .ok (.goto (-74), 3) := by decide +kernel
theorem dX12_chance_128 : decode cX12_chance 128 = .ok (.iload 6, 2) := by decide +kernel
theorem dX12_chance_130 : decode cX12_chance 130 = .ok (.ireturn, 1) := by decide +kernel
theorem dX12_tried_0 : decode cX12_tried 0 = .ok (.aload_n 0, 1) := by decide +kernel
theorem dX12_tried_1 : decode cX12_tried 1 = .ok (.iconst 0, 1) := by decide +kernel
theorem dX12_tried_2 : decode cX12_tried 2 = .ok (.putfield 148, 3) := by decide +kernel
theorem dX12_tried_5 : decode cX12_tried 5 = .ok (.iload_n 1, 1) := by decide +kernel
theorem dX12_tried_6 : decode cX12_tried 6 = .ok (.iconst 2, 1) := by decide +kernel
theorem dX12_tried_7 : decode cX12_tried 7 = .ok (.if_icmp .ne 11, 3) := by decide +kernel
theorem dX12_tried_10 : decode cX12_tried 10 = .ok (.aload_n 0, 1) := by decide +kernel
theorem dX12_tried_11 : decode cX12_tried 11 = .ok (.iload_n 2, 1) := by decide +kernel
theorem dX12_tried_12 : decode cX12_tried 12 = .ok (.invokevirtual 425, 3) := by decide +kernel
theorem dX12_tried_15 : decode cX12_tried 15 = .ok (.goto 21, 3) := by decide +kernel
theorem dX12_tried_18 : decode cX12_tried 18 = .ok (.iload_n 1, 1) := by decide +kernel
theorem dX12_tried_19 : decode cX12_tried 19 = .ok (.ifCond .lt 16, 3) := by decide +kernel
theorem dX12_tried_22 : decode cX12_tried 22 = .ok (.iload_n 1, 1) := by decide +kernel
theorem dX12_tried_23 : decode cX12_tried 23 = .ok (.iconst 4, 1) := by decide +kernel
theorem dX12_tried_24 : decode cX12_tried 24 = .ok (.if_icmp .gt 11, 3) := by decide +kernel
theorem dX12_tried_27 : decode cX12_tried 27 = .ok (.iload_n 2, 1) := by decide +kernel
theorem dX12_tried_28 : decode cX12_tried 28 = .ok (.ifCond .ne 7, 3) := by decide +kernel
theorem dX12_tried_31 : decode cX12_tried 31 = .ok (.iconst 1, 1) := by decide +kernel
theorem dX12_tried_32 : decode cX12_tried 32 = .ok (.goto 4, 3) := by decide +kernel
theorem dX12_tried_35 : decode cX12_tried 35 = .ok (.iconst 0, 1) := by decide +kernel
theorem dX12_tried_36 : decode cX12_tried 36 = .ok (.istore 4, 2) := by decide +kernel
theorem dX12_tried_38 : decode cX12_tried 38 = .ok (.iload 4, 2) := by decide +kernel
theorem dX12_tried_40 : decode cX12_tried 40 = .ok (.ifCond .eq 14, 3) := by decide +kernel
theorem dX12_tried_43 : decode cX12_tried 43 = .ok (.iload_n 3, 1) := by decide +kernel
theorem dX12_tried_44 : decode cX12_tried 44 = .ok (.ifCond .lt 10, 3) := by decide +kernel
theorem dX12_tried_47 : decode cX12_tried 47 = .ok (.iload_n 3, 1) := by decide +kernel
theorem dX12_tried_48 : decode cX12_tried 48 = .ok (.sipush 200, 3) := by decide +kernel
theorem dX12_tried_51 : decode cX12_tried 51 = .ok (.if_icmp .le 5, 3) := by decide +kernel
theorem dX12_tried_54 : decode cX12_tried 54 = .ok (.iconst (-1), 1) := by decide +kernel
theorem dX12_tried_55 : decode cX12_tried 55 = .ok (.ireturn, 1) := by decide +kernel
theorem dX12_tried_56 : decode cX12_tried 56 = .ok (.aload_n 0, 1) := by decide +kernel
theorem dX12_tried_57 : decode cX12_tried 57 = .ok (.iconst 1, 1) := by decide +kernel
theorem dX12_tried_58 : decode cX12_tried 58 = .ok (.iconst 0, 1) := by decide +kernel
theorem dX12_tried_59 : decode cX12_tried 59 = .ok (.invokevirtual 441, 3) := by decide +kernel
theorem dX12_tried_62 : decode cX12_tried 62 = .ok (.aload_n 0, 1) := by decide +kernel
theorem dX12_tried_63 : decode cX12_tried 63 = .ok (.iload_n 1, 1) := by decide +kernel
theorem dX12_tried_64 : decode cX12_tried 64 = .ok (.ifCond .ne 7, 3) := by decide +kernel
theorem dX12_tried_67 : decode cX12_tried 67 = .ok (.iconst 5, 1) := by decide +kernel
theorem dX12_tried_68 : decode cX12_tried 68 = .ok (.goto 4, 3) := by decide +kernel
theorem dX12_tried_71 : decode cX12_tried 71 = .ok (.iload_n 1, 1) := by decide +kernel
theorem dX12_tried_72 : decode cX12_tried 72 = .ok (.putfield 375, 3) := by decide +kernel
theorem dX12_tried_75 : decode cX12_tried 75 = .ok (.aload_n 0, 1) := by decide +kernel
theorem dX12_tried_76 : decode cX12_tried 76 = .ok (.iload_n 2, 1) := by decide +kernel
theorem dX12_tried_77 : decode cX12_tried 77 = .ok (.putfield 99, 3) := by decide +kernel
theorem dX12_tried_80 : decode cX12_tried 80 = .ok (.aload_n 0, 1) := by decide +kernel
theorem dX12_tried_81 : decode cX12_tried 81 = .ok (.iload_n 3, 1) := by decide +kernel
theorem dX12_tried_82 : decode cX12_tried 82 = .ok (.invokevirtual 450, 3) := by decide +kernel
theorem dX12_tried_85 : decode cX12_tried 85 = .ok (.aload_n 0, 1) := by decide +kernel
theorem dX12_tried_86 : decode cX12_tried 86 = .ok (.iconst 0, 1) := by decide +kernel
theorem dX12_tried_87 : decode cX12_tried 87 = .ok (.putfield 375, 3) := by decide +kernel
theorem dX12_tried_90 : decode cX12_tried 90 = .ok (.aload_n 0, 1) := by decide +kernel
theorem dX12_tried_91 : decode cX12_tried 91 = .ok (.iconst (-1), 1) := by decide +kernel
theorem dX12_tried_92 : decode cX12_tried 92 = .ok (.putfield 99, 3) := by decide +kernel
theorem dX12_tried_95 : decode cX12_tried 95 = .ok (.aload_n 0, 1) := by decide +kernel
theorem dX12_tried_96 : decode cX12_tried 96 = .ok (.iconst 1, 1) := by decide +kernel
theorem dX12_tried_97 : decode cX12_tried 97 = .ok (.invokevirtual 526, 3) := by decide +kernel
theorem dX12_tried_100 : decode cX12_tried 100 = .ok (.ireturn, 1) := by decide +kernel
theorem dX12_undo_0 : decode cX12_undo 0 = .ok (.aload_n 0, 1) := by decide +kernel
theorem dX12_undo_1 : decode cX12_undo 1 = .ok (.iconst 0, 1) := by decide +kernel
theorem dX12_undo_2 : decode cX12_undo 2 = .ok (.putfield 148, 3) := by decide +kernel
theorem dX12_undo_5 : decode cX12_undo 5 = .ok (.aload_n 0, 1) := by decide +kernel
theorem dX12_undo_6 : decode cX12_undo 6 = .ok (.getfield 314, 3) := by decide +kernel
theorem dX12_undo_9 : decode cX12_undo 9 = .ok (.ifCond .ne 5, 3) := by decide +kernel
theorem dX12_undo_12 : decode cX12_undo 12 = .ok (.iconst (-1), 1) := by decide +kernel
theorem dX12_undo_13 : decode cX12_undo 13 = .ok (.ireturn, 1) := by decide +kernel
theorem dX12_undo_14 : decode cX12_undo 14 = .ok (.aload_n 0, 1) := by decide +kernel
theorem dX12_undo_15 : decode cX12_undo 15 = .ok (.dup, 1) := by decide +kernel
theorem dX12_undo_16 : decode cX12_undo 16 = .ok (.getfield 314, 3) := by decide +kernel
theorem dX12_undo_19 : decode cX12_undo 19 = .ok (.iconst 1, 1) := by decide +kernel
theorem dX12_undo_20 : decode cX12_undo 20 = .ok (.isub, 1) := by decide +kernel
theorem dX12_undo_21 : decode cX12_undo 21 = .ok (.putfield 314, 3) := by decide +kernel
theorem dX12_undo_24 : decode cX12_undo 24 = .ok (.aload_n 0, 1) := by decide +kernel
theorem dX12_undo_25 : decode cX12_undo 25 = .ok (.iconst 0, 1) := by decide +kernel
theorem dX12_undo_26 : decode cX12_undo 26 = .ok (.iconst 3, 1) := by decide +kernel
theorem dX12_undo_27 : decode cX12_undo 27 = .ok (.aload_n 0, 1) := by decide +kernel
theorem dX12_undo_28 : decode cX12_undo 28 = .ok (.getfield 314, 3) := by decide +kernel
theorem dX12_undo_31 : decode cX12_undo 31 = .ok (.iadd, 1) := by decide +kernel
theorem dX12_undo_32 : decode cX12_undo 32 = .ok (.invokevirtual 441, 3) := by decide +kernel
theorem dX12_undo_35 : decode cX12_undo 35 = .ok (.aload_n 0, 1) := by decide +kernel
theorem dX12_undo_36 : decode cX12_undo 36 = .ok (.getfield 314, 3) := by decide +kernel
theorem dX12_undo_39 : decode cX12_undo 39 = .ok (.ireturn, 1) := by decide +kernel
theorem dX12_keep_0 : decode cX12_keep 0 = .ok (.aload_n 0, 1) := by decide +kernel
theorem dX12_keep_1 : decode cX12_keep 1 = .ok (.iconst 0, 1) := by decide +kernel
theorem dX12_keep_2 : decode cX12_keep 2 = .ok (.putfield 148, 3) := by decide +kernel
theorem dX12_keep_5 : decode cX12_keep 5 = .ok (.aload_n 0, 1) := by decide +kernel
theorem dX12_keep_6 : decode cX12_keep 6 = .ok (.iconst 2, 1) := by decide +kernel
theorem dX12_keep_7 : decode cX12_keep 7 = .ok (.iconst 0, 1) := by decide +kernel
theorem dX12_keep_8 : decode cX12_keep 8 = .ok (.invokevirtual 441, 3) := by decide +kernel
theorem dX12_keep_11 : decode cX12_keep 11 = .ok (.aload_n 0, 1) := by decide +kernel
theorem dX12_keep_12 : decode cX12_keep 12 = .ok (.iconst 1, 1) := by decide +kernel
theorem dX12_keep_13 : decode cX12_keep 13 = .ok (.putfield 310, 3) := by decide +kernel
theorem dX12_keep_16 : decode cX12_keep 16 = .ok (.aload_n 0, 1) := by decide +kernel
theorem dX12_keep_17 : decode cX12_keep 17 = .ok (.getfield 75, 3) := by decide +kernel
theorem dX12_keep_20 : decode cX12_keep 20 = .ok (.iconst 0, 1) := by decide +kernel
theorem dX12_keep_21 : decode cX12_keep 21 = .ok (.iaload, 1) := by decide +kernel
theorem dX12_keep_22 : decode cX12_keep 22 = .ok (.ireturn, 1) := by decide +kernel
theorem dX12_back_0 : decode cX12_back 0 = .ok (.aload_n 0, 1) := by decide +kernel
theorem dX12_back_1 : decode cX12_back 1 = .ok (.iconst 0, 1) := by decide +kernel
theorem dX12_back_2 : decode cX12_back 2 = .ok (.putfield 148, 3) := by decide +kernel
theorem dX12_back_5 : decode cX12_back 5 = .ok (.aload_n 0, 1) := by decide +kernel
theorem dX12_back_6 : decode cX12_back 6 = .ok (.getfield 310, 3) := by decide +kernel
theorem dX12_back_9 : decode cX12_back 9 = .ok (.ifCond .ne 5, 3) := by decide +kernel
theorem dX12_back_12 : decode cX12_back 12 = .ok (.iconst (-1), 1) := by decide +kernel
theorem dX12_back_13 : decode cX12_back 13 = .ok (.ireturn, 1) := by decide +kernel
theorem dX12_back_14 : decode cX12_back 14 = .ok (.aload_n 0, 1) := by decide +kernel
theorem dX12_back_15 : decode cX12_back 15 = .ok (.iconst 0, 1) := by decide +kernel
theorem dX12_back_16 : decode cX12_back 16 = .ok (.iconst 2, 1) := by decide +kernel
theorem dX12_back_17 : decode cX12_back 17 = .ok (.invokevirtual 441, 3) := by decide +kernel
theorem dX12_back_20 : decode cX12_back 20 = .ok (.aload_n 0, 1) := by decide +kernel
theorem dX12_back_21 : decode cX12_back 21 = .ok (.iconst 0, 1) := by decide +kernel
theorem dX12_back_22 : decode cX12_back 22 = .ok (.putfield 314, 3) := by decide +kernel
theorem dX12_back_25 : decode cX12_back 25 = .ok (.aload_n 0, 1) := by decide +kernel
theorem dX12_back_26 : decode cX12_back 26 = .ok (.getfield 75, 3) := by decide +kernel
theorem dX12_back_29 : decode cX12_back 29 = .ok (.iconst 0, 1) := by decide +kernel
theorem dX12_back_30 : decode cX12_back 30 = .ok (.iaload, 1) := by decide +kernel
theorem dX12_back_31 : decode cX12_back 31 = .ok (.ireturn, 1) := by decide +kernel
theorem dX12_count_0 : decode cX12_count 0 = .ok (.aload_n 0, 1) := by decide +kernel
theorem dX12_count_1 : decode cX12_count 1 = .ok (.iconst 0, 1) := by decide +kernel
theorem dX12_count_2 : decode cX12_count 2 = .ok (.putfield 148, 3) := by decide +kernel
theorem dX12_count_5 : decode cX12_count 5 = .ok (.iload_n 1, 1) := by decide +kernel
theorem dX12_count_6 : decode cX12_count 6 = .ok (.tableswitch 178 0 14 #[74, 81, 88, 95, 102, 110, 117, 123, 129, 139, 146, 153, 163, 168, 173], 74) := by decide +kernel
theorem dX12_count_80 : decode cX12_count 80 = .ok (.aload_n 0, 1) := by decide +kernel
theorem dX12_count_81 : decode cX12_count 81 = .ok (.getfield 13, 3) := by decide +kernel
theorem dX12_count_84 : decode cX12_count 84 = .ok (.iconst 0, 1) := by decide +kernel
theorem dX12_count_85 : decode cX12_count 85 = .ok (.iaload, 1) := by decide +kernel
theorem dX12_count_86 : decode cX12_count 86 = .ok (.ireturn, 1) := by decide +kernel
theorem dX12_count_87 : decode cX12_count 87 = .ok (.aload_n 0, 1) := by decide +kernel
theorem dX12_count_88 : decode cX12_count 88 = .ok (.getfield 13, 3) := by decide +kernel
theorem dX12_count_91 : decode cX12_count 91 = .ok (.iconst 1, 1) := by decide +kernel
theorem dX12_count_92 : decode cX12_count 92 = .ok (.iaload, 1) := by decide +kernel
theorem dX12_count_93 : decode cX12_count 93 = .ok (.ireturn, 1) := by decide +kernel
theorem dX12_count_94 : decode cX12_count 94 = .ok (.aload_n 0, 1) := by decide +kernel
theorem dX12_count_95 : decode cX12_count 95 = .ok (.getfield 13, 3) := by decide +kernel
theorem dX12_count_98 : decode cX12_count 98 = .ok (.iconst 2, 1) := by decide +kernel
theorem dX12_count_99 : decode cX12_count 99 = .ok (.iaload, 1) := by decide +kernel
theorem dX12_count_100 : decode cX12_count 100 = .ok (.ireturn, 1) := by decide +kernel
theorem dX12_count_101 : decode cX12_count 101 = .ok (.aload_n 0, 1) := by decide +kernel
theorem dX12_count_102 : decode cX12_count 102 = .ok (.getfield 13, 3) := by decide +kernel
theorem dX12_count_105 : decode cX12_count 105 = .ok (.iconst 3, 1) := by decide +kernel
theorem dX12_count_106 : decode cX12_count 106 = .ok (.iaload, 1) := by decide +kernel
theorem dX12_count_107 : decode cX12_count 107 = .ok (.ireturn, 1) := by decide +kernel
theorem dX12_count_108 : decode cX12_count 108 = .ok (.aload_n 0, 1) := by decide +kernel
theorem dX12_count_109 : decode cX12_count 109 = .ok (.getfield 13, 3) := by decide +kernel
theorem dX12_count_112 : decode cX12_count 112 = .ok (.bipush 7, 2) := by decide +kernel
theorem dX12_count_114 : decode cX12_count 114 = .ok (.iaload, 1) := by decide +kernel
theorem dX12_count_115 : decode cX12_count 115 = .ok (.ireturn, 1) := by decide +kernel
theorem dX12_count_116 : decode cX12_count 116 = .ok (.aload_n 0, 1) := by decide +kernel
theorem dX12_count_117 : decode cX12_count 117 = .ok (.getfield 75, 3) := by decide +kernel
theorem dX12_count_120 : decode cX12_count 120 = .ok (.iconst 0, 1) := by decide +kernel
theorem dX12_count_121 : decode cX12_count 121 = .ok (.iaload, 1) := by decide +kernel
theorem dX12_count_122 : decode cX12_count 122 = .ok (.ireturn, 1) := by decide +kernel
theorem dX12_count_123 : decode cX12_count 123 = .ok (.aload_n 0, 1) := by decide +kernel
theorem dX12_count_124 : decode cX12_count 124 = .ok (.iconst 0, 1) := by decide +kernel
theorem dX12_count_125 : decode cX12_count 125 = .ok (.invokevirtual 526, 3) := by decide +kernel
theorem dX12_count_128 : decode cX12_count 128 = .ok (.ireturn, 1) := by decide +kernel
theorem dX12_count_129 : decode cX12_count 129 = .ok (.aload_n 0, 1) := by decide +kernel
theorem dX12_count_130 : decode cX12_count 130 = .ok (.iconst 0, 1) := by decide +kernel
theorem dX12_count_131 : decode cX12_count 131 = .ok (.invokevirtual 453, 3) := by decide +kernel
theorem dX12_count_134 : decode cX12_count 134 = .ok (.ireturn, 1) := by decide +kernel
theorem dX12_count_135 : decode cX12_count 135 = .ok (.aload_n 0, 1) := by decide +kernel
theorem dX12_count_136 : decode cX12_count 136 = .ok (.aload_n 0, 1) := by decide +kernel
theorem dX12_count_137 : decode cX12_count 137 = .ok (.getfield 93, 3) := by decide +kernel
theorem dX12_count_140 : decode cX12_count 140 = .ok (.iconst 1, 1) := by decide +kernel
theorem dX12_count_141 : decode cX12_count 141 = .ok (.invokevirtual 529, 3) := by decide +kernel
theorem dX12_count_144 : decode cX12_count 144 = .ok (.ireturn, 1) := by decide +kernel
theorem dX12_count_145 : decode cX12_count 145 = .ok (.aload_n 0, 1) := by decide +kernel
theorem dX12_count_146 : decode cX12_count 146 = .ok (.getfield 81, 3) := by decide +kernel
theorem dX12_count_149 : decode cX12_count 149 = .ok (.iconst 0, 1) := by decide +kernel
theorem dX12_count_150 : decode cX12_count 150 = .ok (.iaload, 1) := by decide +kernel
theorem dX12_count_151 : decode cX12_count 151 = .ok (.ireturn, 1) := by decide +kernel
theorem dX12_count_152 : decode cX12_count 152 = .ok (.aload_n 0, 1) := by decide +kernel
theorem dX12_count_153 : decode cX12_count 153 = .ok (.getfield 84, 3) := by decide +kernel
theorem dX12_count_156 : decode cX12_count 156 = .ok (.iconst 0, 1) := by decide +kernel
theorem dX12_count_157 : decode cX12_count 157 = .ok (.iaload, 1) := by decide +kernel
theorem dX12_count_158 : decode cX12_count 158 = .ok (.ireturn, 1) := by decide +kernel
theorem dX12_count_159 : decode cX12_count 159 = .ok (.aload_n 0, 1) := by decide +kernel
theorem dX12_count_160 : decode cX12_count 160 = .ok (.aload_n 0, 1) := by decide +kernel
theorem dX12_count_161 : decode cX12_count 161 = .ok (.getfield 96, 3) := by decide +kernel
theorem dX12_count_164 : decode cX12_count 164 = .ok (.iconst 0, 1) := by decide +kernel
theorem dX12_count_165 : decode cX12_count 165 = .ok (.invokevirtual 529, 3) := by decide +kernel
theorem dX12_count_168 : decode cX12_count 168 = .ok (.ireturn, 1) := by decide +kernel
theorem dX12_count_169 : decode cX12_count 169 = .ok (.aload_n 0, 1) := by decide +kernel
theorem dX12_count_170 : decode cX12_count 170 = .ok (.getfield 307, 3) := by decide +kernel
theorem dX12_count_173 : decode cX12_count 173 = .ok (.ireturn, 1) := by decide +kernel
theorem dX12_count_174 : decode cX12_count 174 = .ok (.aload_n 0, 1) := by decide +kernel
theorem dX12_count_175 : decode cX12_count 175 = .ok (.invokevirtual 511, 3) := by decide +kernel
theorem dX12_count_178 : decode cX12_count 178 = .ok (.ireturn, 1) := by decide +kernel
theorem dX12_count_179 : decode cX12_count 179 = .ok (.aload_n 0, 1) := by decide +kernel
theorem dX12_count_180 : decode cX12_count 180 = .ok (.getfield 314, 3) := by decide +kernel
theorem dX12_count_183 : decode cX12_count 183 = .ok (.ireturn, 1) := by decide +kernel
theorem dX12_count_184 : decode cX12_count 184 = .ok (.iconst (-1), 1) := by decide +kernel
theorem dX12_count_185 : decode cX12_count 185 = .ok (.ireturn, 1) := by decide +kernel
theorem dJ6_bitCount_0f7a4_0 : decode cJ6_bitCount_0f7a4 0 = .ok (.iload_n 0, 1) := by decide +kernel
theorem dJ6_bitCount_0f7a4_1 : decode cJ6_bitCount_0f7a4 1 = .ok (.iload_n 0, 1) := by decide +kernel
theorem dJ6_bitCount_0f7a4_2 : decode cJ6_bitCount_0f7a4 2 = .ok (.iconst 1, 1) := by decide +kernel
theorem dJ6_bitCount_0f7a4_3 : decode cJ6_bitCount_0f7a4 3 = .ok (.iushr, 1) := by decide +kernel
theorem dJ6_bitCount_0f7a4_4 : decode cJ6_bitCount_0f7a4 4 = .ok (.ldc_w 265, 3) := by decide +kernel
theorem dJ6_bitCount_0f7a4_7 : decode cJ6_bitCount_0f7a4 7 = .ok (.iand, 1) := by decide +kernel
theorem dJ6_bitCount_0f7a4_8 : decode cJ6_bitCount_0f7a4 8 = .ok (.isub, 1) := by decide +kernel
theorem dJ6_bitCount_0f7a4_9 : decode cJ6_bitCount_0f7a4 9 = .ok (.istore_n 0, 1) := by decide +kernel
theorem dJ6_bitCount_0f7a4_10 : decode cJ6_bitCount_0f7a4 10 = .ok (.iload_n 0, 1) := by decide +kernel
theorem dJ6_bitCount_0f7a4_11 : decode cJ6_bitCount_0f7a4 11 = .ok (.ldc_w 266, 3) := by decide +kernel
theorem dJ6_bitCount_0f7a4_14 : decode cJ6_bitCount_0f7a4 14 = .ok (.iand, 1) := by decide +kernel
theorem dJ6_bitCount_0f7a4_15 : decode cJ6_bitCount_0f7a4 15 = .ok (.iload_n 0, 1) := by decide +kernel
theorem dJ6_bitCount_0f7a4_16 : decode cJ6_bitCount_0f7a4 16 = .ok (.iconst 2, 1) := by decide +kernel
theorem dJ6_bitCount_0f7a4_17 : decode cJ6_bitCount_0f7a4 17 = .ok (.iushr, 1) := by decide +kernel
theorem dJ6_bitCount_0f7a4_18 : decode cJ6_bitCount_0f7a4 18 = .ok (.ldc_w 266, 3) := by decide +kernel
theorem dJ6_bitCount_0f7a4_21 : decode cJ6_bitCount_0f7a4 21 = .ok (.iand, 1) := by decide +kernel
theorem dJ6_bitCount_0f7a4_22 : decode cJ6_bitCount_0f7a4 22 = .ok (.iadd, 1) := by decide +kernel
theorem dJ6_bitCount_0f7a4_23 : decode cJ6_bitCount_0f7a4 23 = .ok (.istore_n 0, 1) := by decide +kernel
theorem dJ6_bitCount_0f7a4_24 : decode cJ6_bitCount_0f7a4 24 = .ok (.iload_n 0, 1) := by decide +kernel
theorem dJ6_bitCount_0f7a4_25 : decode cJ6_bitCount_0f7a4 25 = .ok (.iload_n 0, 1) := by decide +kernel
theorem dJ6_bitCount_0f7a4_26 : decode cJ6_bitCount_0f7a4 26 = .ok (.iconst 4, 1) := by decide +kernel
theorem dJ6_bitCount_0f7a4_27 : decode cJ6_bitCount_0f7a4 27 = .ok (.iushr, 1) := by decide +kernel
theorem dJ6_bitCount_0f7a4_28 : decode cJ6_bitCount_0f7a4 28 = .ok (.iadd, 1) := by decide +kernel
theorem dJ6_bitCount_0f7a4_29 : decode cJ6_bitCount_0f7a4 29 = .ok (.ldc_w 267, 3) := by decide +kernel
theorem dJ6_bitCount_0f7a4_32 : decode cJ6_bitCount_0f7a4 32 = .ok (.iand, 1) := by decide +kernel
theorem dJ6_bitCount_0f7a4_33 : decode cJ6_bitCount_0f7a4 33 = .ok (.istore_n 0, 1) := by decide +kernel
theorem dJ6_bitCount_0f7a4_34 : decode cJ6_bitCount_0f7a4 34 = .ok (.iload_n 0, 1) := by decide +kernel
theorem dJ6_bitCount_0f7a4_35 : decode cJ6_bitCount_0f7a4 35 = .ok (.iload_n 0, 1) := by decide +kernel
theorem dJ6_bitCount_0f7a4_36 : decode cJ6_bitCount_0f7a4 36 = .ok (.bipush 8, 2) := by decide +kernel
theorem dJ6_bitCount_0f7a4_38 : decode cJ6_bitCount_0f7a4 38 = .ok (.iushr, 1) := by decide +kernel
theorem dJ6_bitCount_0f7a4_39 : decode cJ6_bitCount_0f7a4 39 = .ok (.iadd, 1) := by decide +kernel
theorem dJ6_bitCount_0f7a4_40 : decode cJ6_bitCount_0f7a4 40 = .ok (.istore_n 0, 1) := by decide +kernel
theorem dJ6_bitCount_0f7a4_41 : decode cJ6_bitCount_0f7a4 41 = .ok (.iload_n 0, 1) := by decide +kernel
theorem dJ6_bitCount_0f7a4_42 : decode cJ6_bitCount_0f7a4 42 = .ok (.iload_n 0, 1) := by decide +kernel
theorem dJ6_bitCount_0f7a4_43 : decode cJ6_bitCount_0f7a4 43 = .ok (.bipush 16, 2) := by decide +kernel
theorem dJ6_bitCount_0f7a4_45 : decode cJ6_bitCount_0f7a4 45 = .ok (.iushr, 1) := by decide +kernel
theorem dJ6_bitCount_0f7a4_46 : decode cJ6_bitCount_0f7a4 46 = .ok (.iadd, 1) := by decide +kernel
theorem dJ6_bitCount_0f7a4_47 : decode cJ6_bitCount_0f7a4 47 = .ok (.istore_n 0, 1) := by decide +kernel
theorem dJ6_bitCount_0f7a4_48 : decode cJ6_bitCount_0f7a4 48 = .ok (.iload_n 0, 1) := by decide +kernel
theorem dJ6_bitCount_0f7a4_49 : decode cJ6_bitCount_0f7a4 49 = .ok (.bipush 63, 2) := by decide +kernel
theorem dJ6_bitCount_0f7a4_51 : decode cJ6_bitCount_0f7a4 51 = .ok (.iand, 1) := by decide +kernel
theorem dJ6_bitCount_0f7a4_52 : decode cJ6_bitCount_0f7a4 52 = .ok (.ireturn, 1) := by decide +kernel
theorem dJ13_bitCount_95d88_0 : decode cJ13_bitCount_95d88 0 = .ok (.lload_n 0, 1) := by decide +kernel
theorem dJ13_bitCount_95d88_1 : decode cJ13_bitCount_95d88 1 = .ok (.lload_n 0, 1) := by decide +kernel
theorem dJ13_bitCount_95d88_2 : decode cJ13_bitCount_95d88 2 = .ok (.iconst 1, 1) := by decide +kernel
theorem dJ13_bitCount_95d88_3 : decode cJ13_bitCount_95d88 3 = .ok (.lushr, 1) := by decide +kernel
theorem dJ13_bitCount_95d88_4 : decode cJ13_bitCount_95d88 4 = .ok (.ldc2_w 314, 3) := by decide +kernel
theorem dJ13_bitCount_95d88_7 : decode cJ13_bitCount_95d88 7 = .ok (.land, 1) := by decide +kernel
theorem dJ13_bitCount_95d88_8 : decode cJ13_bitCount_95d88 8 = .ok (.lsub, 1) := by decide +kernel
theorem dJ13_bitCount_95d88_9 : decode cJ13_bitCount_95d88 9 = .ok (.lstore_n 0, 1) := by decide +kernel
theorem dJ13_bitCount_95d88_10 : decode cJ13_bitCount_95d88 10 = .ok (.lload_n 0, 1) := by decide +kernel
theorem dJ13_bitCount_95d88_11 : decode cJ13_bitCount_95d88 11 = .ok (.ldc2_w 316, 3) := by decide +kernel
theorem dJ13_bitCount_95d88_14 : decode cJ13_bitCount_95d88 14 = .ok (.land, 1) := by decide +kernel
theorem dJ13_bitCount_95d88_15 : decode cJ13_bitCount_95d88 15 = .ok (.lload_n 0, 1) := by decide +kernel
theorem dJ13_bitCount_95d88_16 : decode cJ13_bitCount_95d88 16 = .ok (.iconst 2, 1) := by decide +kernel
theorem dJ13_bitCount_95d88_17 : decode cJ13_bitCount_95d88 17 = .ok (.lushr, 1) := by decide +kernel
theorem dJ13_bitCount_95d88_18 : decode cJ13_bitCount_95d88 18 = .ok (.ldc2_w 316, 3) := by decide +kernel
theorem dJ13_bitCount_95d88_21 : decode cJ13_bitCount_95d88 21 = .ok (.land, 1) := by decide +kernel
theorem dJ13_bitCount_95d88_22 : decode cJ13_bitCount_95d88 22 = .ok (.ladd, 1) := by decide +kernel
theorem dJ13_bitCount_95d88_23 : decode cJ13_bitCount_95d88 23 = .ok (.lstore_n 0, 1) := by decide +kernel
theorem dJ13_bitCount_95d88_24 : decode cJ13_bitCount_95d88 24 = .ok (.lload_n 0, 1) := by decide +kernel
theorem dJ13_bitCount_95d88_25 : decode cJ13_bitCount_95d88 25 = .ok (.lload_n 0, 1) := by decide +kernel
theorem dJ13_bitCount_95d88_26 : decode cJ13_bitCount_95d88 26 = .ok (.iconst 4, 1) := by decide +kernel
theorem dJ13_bitCount_95d88_27 : decode cJ13_bitCount_95d88 27 = .ok (.lushr, 1) := by decide +kernel
theorem dJ13_bitCount_95d88_28 : decode cJ13_bitCount_95d88 28 = .ok (.ladd, 1) := by decide +kernel
theorem dJ13_bitCount_95d88_29 : decode cJ13_bitCount_95d88 29 = .ok (.ldc2_w 318, 3) := by decide +kernel
theorem dJ13_bitCount_95d88_32 : decode cJ13_bitCount_95d88 32 = .ok (.land, 1) := by decide +kernel
theorem dJ13_bitCount_95d88_33 : decode cJ13_bitCount_95d88 33 = .ok (.lstore_n 0, 1) := by decide +kernel
theorem dJ13_bitCount_95d88_34 : decode cJ13_bitCount_95d88 34 = .ok (.lload_n 0, 1) := by decide +kernel
theorem dJ13_bitCount_95d88_35 : decode cJ13_bitCount_95d88 35 = .ok (.lload_n 0, 1) := by decide +kernel
theorem dJ13_bitCount_95d88_36 : decode cJ13_bitCount_95d88 36 = .ok (.bipush 8, 2) := by decide +kernel
theorem dJ13_bitCount_95d88_38 : decode cJ13_bitCount_95d88 38 = .ok (.lushr, 1) := by decide +kernel
theorem dJ13_bitCount_95d88_39 : decode cJ13_bitCount_95d88 39 = .ok (.ladd, 1) := by decide +kernel
theorem dJ13_bitCount_95d88_40 : decode cJ13_bitCount_95d88 40 = .ok (.lstore_n 0, 1) := by decide +kernel
theorem dJ13_bitCount_95d88_41 : decode cJ13_bitCount_95d88 41 = .ok (.lload_n 0, 1) := by decide +kernel
theorem dJ13_bitCount_95d88_42 : decode cJ13_bitCount_95d88 42 = .ok (.lload_n 0, 1) := by decide +kernel
theorem dJ13_bitCount_95d88_43 : decode cJ13_bitCount_95d88 43 = .ok (.bipush 16, 2) := by decide +kernel
theorem dJ13_bitCount_95d88_45 : decode cJ13_bitCount_95d88 45 = .ok (.lushr, 1) := by decide +kernel
theorem dJ13_bitCount_95d88_46 : decode cJ13_bitCount_95d88 46 = .ok (.ladd, 1) := by decide +kernel
theorem dJ13_bitCount_95d88_47 : decode cJ13_bitCount_95d88 47 = .ok (.lstore_n 0, 1) := by decide +kernel
theorem dJ13_bitCount_95d88_48 : decode cJ13_bitCount_95d88 48 = .ok (.lload_n 0, 1) := by decide +kernel
theorem dJ13_bitCount_95d88_49 : decode cJ13_bitCount_95d88 49 = .ok (.lload_n 0, 1) := by decide +kernel
theorem dJ13_bitCount_95d88_50 : decode cJ13_bitCount_95d88 50 = .ok (.bipush 32, 2) := by decide +kernel
theorem dJ13_bitCount_95d88_52 : decode cJ13_bitCount_95d88 52 = .ok (.lushr, 1) := by decide +kernel
theorem dJ13_bitCount_95d88_53 : decode cJ13_bitCount_95d88 53 = .ok (.ladd, 1) := by decide +kernel
theorem dJ13_bitCount_95d88_54 : decode cJ13_bitCount_95d88 54 = .ok (.lstore_n 0, 1) := by decide +kernel
theorem dJ13_bitCount_95d88_55 : decode cJ13_bitCount_95d88 55 = .ok (.lload_n 0, 1) := by decide +kernel
theorem dJ13_bitCount_95d88_56 : decode cJ13_bitCount_95d88 56 = .ok (.l2i, 1) := by decide +kernel
theorem dJ13_bitCount_95d88_57 : decode cJ13_bitCount_95d88 57 = .ok (.bipush 127, 2) := by decide +kernel
theorem dJ13_bitCount_95d88_59 : decode cJ13_bitCount_95d88 59 = .ok (.iand, 1) := by decide +kernel
theorem dJ13_bitCount_95d88_60 : decode cJ13_bitCount_95d88 60 = .ok (.ireturn, 1) := by decide +kernel
theorem dJ9_abs_067f4_0 : decode cJ9_abs_067f4 0 = .ok (.lload_n 0, 1) := by decide +kernel
theorem dJ9_abs_067f4_1 : decode cJ9_abs_067f4 1 = .ok (.lconst 0, 1) := by decide +kernel
theorem dJ9_abs_067f4_2 : decode cJ9_abs_067f4 2 = .ok (.lcmp, 1) := by decide +kernel
theorem dJ9_abs_067f4_3 : decode cJ9_abs_067f4 3 = .ok (.ifCond .ge 8, 3) := by decide +kernel
theorem dJ9_abs_067f4_6 : decode cJ9_abs_067f4 6 = .ok (.lload_n 0, 1) := by decide +kernel
theorem dJ9_abs_067f4_7 : decode cJ9_abs_067f4 7 = .ok (.lneg, 1) := by decide +kernel
theorem dJ9_abs_067f4_8 : decode cJ9_abs_067f4 8 = .ok (.goto 4, 3) := by decide +kernel
theorem dJ9_abs_067f4_11 : decode cJ9_abs_067f4 11 = .ok (.lload_n 0, 1) := by decide +kernel
theorem dJ9_abs_067f4_12 : decode cJ9_abs_067f4 12 = .ok (.lreturn, 1) := by decide +kernel
theorem dJ9_max_7cf53_0 : decode cJ9_max_7cf53 0 = .ok (.iload_n 0, 1) := by decide +kernel
theorem dJ9_max_7cf53_1 : decode cJ9_max_7cf53 1 = .ok (.iload_n 1, 1) := by decide +kernel
theorem dJ9_max_7cf53_2 : decode cJ9_max_7cf53 2 = .ok (.if_icmp .lt 7, 3) := by decide +kernel
theorem dJ9_max_7cf53_5 : decode cJ9_max_7cf53 5 = .ok (.iload_n 0, 1) := by decide +kernel
theorem dJ9_max_7cf53_6 : decode cJ9_max_7cf53 6 = .ok (.goto 4, 3) := by decide +kernel
theorem dJ9_max_7cf53_9 : decode cJ9_max_7cf53 9 = .ok (.iload_n 1, 1) := by decide +kernel
theorem dJ9_max_7cf53_10 : decode cJ9_max_7cf53 10 = .ok (.ireturn, 1) := by decide +kernel
theorem dJ9_max_f86c9_0 : decode cJ9_max_f86c9 0 = .ok (.lload_n 0, 1) := by decide +kernel
theorem dJ9_max_f86c9_1 : decode cJ9_max_f86c9 1 = .ok (.lload_n 2, 1) := by decide +kernel
theorem dJ9_max_f86c9_2 : decode cJ9_max_f86c9 2 = .ok (.lcmp, 1) := by decide +kernel
theorem dJ9_max_f86c9_3 : decode cJ9_max_f86c9 3 = .ok (.ifCond .lt 7, 3) := by decide +kernel
theorem dJ9_max_f86c9_6 : decode cJ9_max_f86c9 6 = .ok (.lload_n 0, 1) := by decide +kernel
theorem dJ9_max_f86c9_7 : decode cJ9_max_f86c9 7 = .ok (.goto 4, 3) := by decide +kernel
theorem dJ9_max_f86c9_10 : decode cJ9_max_f86c9 10 = .ok (.lload_n 2, 1) := by decide +kernel
theorem dJ9_max_f86c9_11 : decode cJ9_max_f86c9 11 = .ok (.lreturn, 1) := by decide +kernel
theorem dJ9_min_7cf53_0 : decode cJ9_min_7cf53 0 = .ok (.iload_n 0, 1) := by decide +kernel
theorem dJ9_min_7cf53_1 : decode cJ9_min_7cf53 1 = .ok (.iload_n 1, 1) := by decide +kernel
theorem dJ9_min_7cf53_2 : decode cJ9_min_7cf53 2 = .ok (.if_icmp .gt 7, 3) := by decide +kernel
theorem dJ9_min_7cf53_5 : decode cJ9_min_7cf53 5 = .ok (.iload_n 0, 1) := by decide +kernel
theorem dJ9_min_7cf53_6 : decode cJ9_min_7cf53 6 = .ok (.goto 4, 3) := by decide +kernel
theorem dJ9_min_7cf53_9 : decode cJ9_min_7cf53 9 = .ok (.iload_n 1, 1) := by decide +kernel
theorem dJ9_min_7cf53_10 : decode cJ9_min_7cf53 10 = .ok (.ireturn, 1) := by decide +kernel
theorem dJ9_min_f86c9_0 : decode cJ9_min_f86c9 0 = .ok (.lload_n 0, 1) := by decide +kernel
theorem dJ9_min_f86c9_1 : decode cJ9_min_f86c9 1 = .ok (.lload_n 2, 1) := by decide +kernel
theorem dJ9_min_f86c9_2 : decode cJ9_min_f86c9 2 = .ok (.lcmp, 1) := by decide +kernel
theorem dJ9_min_f86c9_3 : decode cJ9_min_f86c9 3 = .ok (.ifCond .gt 7, 3) := by decide +kernel
theorem dJ9_min_f86c9_6 : decode cJ9_min_f86c9 6 = .ok (.lload_n 0, 1) := by decide +kernel
theorem dJ9_min_f86c9_7 : decode cJ9_min_f86c9 7 = .ok (.goto 4, 3) := by decide +kernel
theorem dJ9_min_f86c9_10 : decode cJ9_min_f86c9 10 = .ok (.lload_n 2, 1) := by decide +kernel
theorem dJ9_min_f86c9_11 : decode cJ9_min_f86c9 11 = .ok (.lreturn, 1) := by decide +kernel
theorem dJ0_length_8abf5_0 : decode cJ0_length_8abf5 0 = .ok (.aload_n 0, 1) := by decide +kernel
theorem dJ0_length_8abf5_1 : decode cJ0_length_8abf5 1 = .ok (.getfield 9, 3) := by decide +kernel
theorem dJ0_length_8abf5_4 : decode cJ0_length_8abf5 4 = .ok (.arraylength, 1) := by decide +kernel
theorem dJ0_length_8abf5_5 : decode cJ0_length_8abf5 5 = .ok (.aload_n 0, 1) := by decide +kernel
theorem dJ0_length_8abf5_6 : decode cJ0_length_8abf5 6 = .ok (.invokevirtual 335, 3) := by decide +kernel
theorem dJ0_length_8abf5_9 : decode cJ0_length_8abf5 9 = .ok (.ishr, 1) := by decide +kernel
theorem dJ0_length_8abf5_10 : decode cJ0_length_8abf5 10 = .ok (.ireturn, 1) := by decide +kernel
theorem dJ0_charAt_5068e_0 : decode cJ0_charAt_5068e 0 = .ok (.aload_n 0, 1) := by decide +kernel
theorem dJ0_charAt_5068e_1 : decode cJ0_charAt_5068e 1 = .ok (.invokevirtual 492, 3) := by decide +kernel
theorem dJ0_charAt_5068e_4 : decode cJ0_charAt_5068e 4 = .ok (.ifCond .eq 12, 3) := by decide +kernel
theorem dJ0_charAt_5068e_7 : decode cJ0_charAt_5068e 7 = .ok (.aload_n 0, 1) := by decide +kernel
theorem dJ0_charAt_5068e_8 : decode cJ0_charAt_5068e 8 = .ok (.getfield 9, 3) := by decide +kernel
theorem dJ0_charAt_5068e_11 : decode cJ0_charAt_5068e 11 = .ok (.iload_n 1, 1) := by decide +kernel
theorem dJ0_charAt_5068e_12 : decode cJ0_charAt_5068e 12 = .ok (.invokestatic 495, 3) := by decide +kernel
theorem dJ0_charAt_5068e_15 : decode cJ0_charAt_5068e 15 = .ok (.ireturn, 1) := by decide +kernel
theorem dJ0_charAt_5068e_16 : decode cJ0_charAt_5068e 16 = .ok (.aload_n 0, 1) := by decide +kernel
theorem dJ0_charAt_5068e_17 : decode cJ0_charAt_5068e 17 = .ok (.getfield 9, 3) := by decide +kernel
theorem dJ0_charAt_5068e_20 : decode cJ0_charAt_5068e 20 = .ok (.iload_n 1, 1) := by decide +kernel
theorem dJ0_charAt_5068e_21 : decode cJ0_charAt_5068e 21 = .ok (.invokestatic 498, 3) := by decide +kernel
theorem dJ0_charAt_5068e_24 : decode cJ0_charAt_5068e 24 = .ok (.ireturn, 1) := by decide +kernel
theorem dJ0_coder_7d493_0 : decode cJ0_coder_7d493 0 = .ok (.getstatic 38, 3) := by decide +kernel
theorem dJ0_coder_7d493_3 : decode cJ0_coder_7d493 3 = .ok (.ifCond .eq 10, 3) := by decide +kernel
theorem dJ0_coder_7d493_6 : decode cJ0_coder_7d493 6 = .ok (.aload_n 0, 1) := by decide +kernel
theorem dJ0_coder_7d493_7 : decode cJ0_coder_7d493 7 = .ok (.getfield 15, 3) := by decide +kernel
theorem dJ0_coder_7d493_10 : decode cJ0_coder_7d493 10 = .ok (.goto 4, 3) := by decide +kernel
theorem dJ0_coder_7d493_13 : decode cJ0_coder_7d493 13 = .ok (.iconst 1, 1) := by decide +kernel
theorem dJ0_coder_7d493_14 : decode cJ0_coder_7d493 14 = .ok (.ireturn, 1) := by decide +kernel
theorem dJ0_isLatin1_aae02_0 : decode cJ0_isLatin1_aae02 0 = .ok (.getstatic 38, 3) := by decide +kernel
theorem dJ0_isLatin1_aae02_3 : decode cJ0_isLatin1_aae02 3 = .ok (.ifCond .eq 14, 3) := by decide +kernel
theorem dJ0_isLatin1_aae02_6 : decode cJ0_isLatin1_aae02 6 = .ok (.aload_n 0, 1) := by decide +kernel
theorem dJ0_isLatin1_aae02_7 : decode cJ0_isLatin1_aae02 7 = .ok (.getfield 15, 3) := by decide +kernel
theorem dJ0_isLatin1_aae02_10 : decode cJ0_isLatin1_aae02 10 = .ok (.ifCond .ne 7, 3) := by decide +kernel
theorem dJ0_isLatin1_aae02_13 : decode cJ0_isLatin1_aae02 13 = .ok (.iconst 1, 1) := by decide +kernel
theorem dJ0_isLatin1_aae02_14 : decode cJ0_isLatin1_aae02 14 = .ok (.goto 4, 3) := by decide +kernel
theorem dJ0_isLatin1_aae02_17 : decode cJ0_isLatin1_aae02 17 = .ok (.iconst 0, 1) := by decide +kernel
theorem dJ0_isLatin1_aae02_18 : decode cJ0_isLatin1_aae02 18 = .ok (.ireturn, 1) := by decide +kernel
theorem dJ0_checkIndex_df160_0 : decode cJ0_checkIndex_df160 0 = .ok (.iload_n 0, 1) := by decide +kernel
theorem dJ0_checkIndex_df160_1 : decode cJ0_checkIndex_df160 1 = .ok (.iload_n 1, 1) := by decide +kernel
theorem dJ0_checkIndex_df160_2 : decode cJ0_checkIndex_df160 2 = .ok (.getstatic 1053, 3) := by decide +kernel
theorem dJ0_checkIndex_df160_5 : decode cJ0_checkIndex_df160 5 = .ok (.invokestatic 1059, 3) := by decide +kernel
theorem dJ0_checkIndex_df160_8 : decode cJ0_checkIndex_df160 8 = .ok (.pop, 1) := by decide +kernel
theorem dJ0_checkIndex_df160_9 : decode cJ0_checkIndex_df160 9 = .ok (.return_, 1) := by decide +kernel
theorem dJ1_charAt_3b067_0 : decode cJ1_charAt_3b067 0 = .ok (.iload_n 1, 1) := by decide +kernel
theorem dJ1_charAt_3b067_1 : decode cJ1_charAt_3b067 1 = .ok (.aload_n 0, 1) := by decide +kernel
theorem dJ1_charAt_3b067_2 : decode cJ1_charAt_3b067 2 = .ok (.arraylength, 1) := by decide +kernel
theorem dJ1_charAt_3b067_3 : decode cJ1_charAt_3b067 3 = .ok (.invokestatic 9, 3) := by decide +kernel
theorem dJ1_charAt_3b067_6 : decode cJ1_charAt_3b067 6 = .ok (.aload_n 0, 1) := by decide +kernel
theorem dJ1_charAt_3b067_7 : decode cJ1_charAt_3b067 7 = .ok (.iload_n 1, 1) := by decide +kernel
theorem dJ1_charAt_3b067_8 : decode cJ1_charAt_3b067 8 = .ok (.baload, 1) := by decide +kernel
theorem dJ1_charAt_3b067_9 : decode cJ1_charAt_3b067 9 = .ok (.sipush 255, 3) := by decide +kernel
theorem dJ1_charAt_3b067_12 : decode cJ1_charAt_3b067 12 = .ok (.iand, 1) := by decide +kernel
theorem dJ1_charAt_3b067_13 : decode cJ1_charAt_3b067 13 = .ok (.i2c, 1) := by decide +kernel
theorem dJ1_charAt_3b067_14 : decode cJ1_charAt_3b067 14 = .ok (.ireturn, 1) := by decide +kernel
theorem dJ2_getChar_3b067_0 : decode cJ2_getChar_3b067 0 = .ok (.getstatic 44, 3) := by decide +kernel
theorem dJ2_getChar_3b067_3 : decode cJ2_getChar_3b067 3 = .ok (.ifCond .ne 25, 3) := by decide +kernel
theorem dJ2_getChar_3b067_6 : decode cJ2_getChar_3b067 6 = .ok (.iload_n 1, 1) := by decide +kernel
theorem dJ2_getChar_3b067_7 : decode cJ2_getChar_3b067 7 = .ok (.ifCond .lt 11, 3) := by decide +kernel
theorem dJ2_getChar_3b067_10 : decode cJ2_getChar_3b067 10 = .ok (.iload_n 1, 1) := by decide +kernel
theorem dJ2_getChar_3b067_11 : decode cJ2_getChar_3b067 11 = .ok (.aload_n 0, 1) := by decide +kernel
theorem dJ2_getChar_3b067_12 : decode cJ2_getChar_3b067 12 = .ok (.invokestatic 48, 3) := by decide +kernel
theorem dJ2_getChar_3b067_15 : decode cJ2_getChar_3b067 15 = .ok (.if_icmp .lt 13, 3) := by decide +kernel
theorem dJ2_getChar_3b067_18 : decode cJ2_getChar_3b067 18 = .ok (.new 52, 3) := by decide +kernel
theorem dJ2_getChar_3b067_21 : decode cJ2_getChar_3b067 21 = .ok (.dup, 1) := by decide +kernel
theorem dJ2_getChar_3b067_22 : decode cJ2_getChar_3b067 22 = .ok (.ldc 54, 2) := by decide +kernel
theorem dJ2_getChar_3b067_24 : decode cJ2_getChar_3b067 24 = .ok (.invokespecial 56, 3) := by decide +kernel
theorem dJ2_getChar_3b067_27 : decode cJ2_getChar_3b067 27 = .ok (.athrow, 1) := by decide +kernel
theorem dJ2_getChar_3b067_28 : decode cJ2_getChar_3b067 28 = .ok (.iload_n 1, 1) := by decide +kernel
theorem dJ2_getChar_3b067_29 : decode cJ2_getChar_3b067 29 = .ok (.iconst 1, 1) := by decide +kernel
theorem dJ2_getChar_3b067_30 : decode cJ2_getChar_3b067 30 = .ok (.ishl, 1) := by decide +kernel
theorem dJ2_getChar_3b067_31 : decode cJ2_getChar_3b067 31 = .ok (.istore_n 1, 1) := by decide +kernel
theorem dJ2_getChar_3b067_32 : decode cJ2_getChar_3b067 32 = .ok (.aload_n 0, 1) := by decide +kernel
theorem dJ2_getChar_3b067_33 : decode cJ2_getChar_3b067 33 = .ok (.iload_n 1, 1) := by decide +kernel
theorem dJ2_getChar_3b067_34 : decode cJ2_getChar_3b067 34 = .ok (.iinc 1 1, 3) := by decide +kernel
theorem dJ2_getChar_3b067_37 : decode cJ2_getChar_3b067 37 = .ok (.baload, 1) := by decide +kernel
theorem dJ2_getChar_3b067_38 : decode cJ2_getChar_3b067 38 = .ok (.sipush 255, 3) := by decide +kernel
theorem dJ2_getChar_3b067_41 : decode cJ2_getChar_3b067 41 = .ok (.iand, 1) := by decide +kernel
theorem dJ2_getChar_3b067_42 : decode cJ2_getChar_3b067 42 = .ok (.getstatic 59, 3) := by decide +kernel
theorem dJ2_getChar_3b067_45 : decode cJ2_getChar_3b067 45 = .ok (.ishl, 1) := by decide +kernel
theorem dJ2_getChar_3b067_46 : decode cJ2_getChar_3b067 46 = .ok (.aload_n 0, 1) := by decide +kernel
theorem dJ2_getChar_3b067_47 : decode cJ2_getChar_3b067 47 = .ok (.iload_n 1, 1) := by decide +kernel
theorem dJ2_getChar_3b067_48 : decode cJ2_getChar_3b067 48 = .ok (.baload, 1) := by decide +kernel
theorem dJ2_getChar_3b067_49 : decode cJ2_getChar_3b067 49 = .ok (.sipush 255, 3) := by decide +kernel
theorem dJ2_getChar_3b067_52 : decode cJ2_getChar_3b067 52 = .ok (.iand, 1) := by decide +kernel
theorem dJ2_getChar_3b067_53 : decode cJ2_getChar_3b067 53 = .ok (.getstatic 63, 3) := by decide +kernel
theorem dJ2_getChar_3b067_56 : decode cJ2_getChar_3b067 56 = .ok (.ishl, 1) := by decide +kernel
theorem dJ2_getChar_3b067_57 : decode cJ2_getChar_3b067 57 = .ok (.ior, 1) := by decide +kernel
theorem dJ2_getChar_3b067_58 : decode cJ2_getChar_3b067 58 = .ok (.i2c, 1) := by decide +kernel
theorem dJ2_getChar_3b067_59 : decode cJ2_getChar_3b067 59 = .ok (.ireturn, 1) := by decide +kernel
theorem dJ2_length_9d52b_0 : decode cJ2_length_9d52b 0 = .ok (.aload_n 0, 1) := by decide +kernel
theorem dJ2_length_9d52b_1 : decode cJ2_length_9d52b 1 = .ok (.arraylength, 1) := by decide +kernel
theorem dJ2_length_9d52b_2 : decode cJ2_length_9d52b 2 = .ok (.iconst 1, 1) := by decide +kernel
theorem dJ2_length_9d52b_3 : decode cJ2_length_9d52b 3 = .ok (.ishr, 1) := by decide +kernel
theorem dJ2_length_9d52b_4 : decode cJ2_length_9d52b 4 = .ok (.ireturn, 1) := by decide +kernel
theorem dJ2_charAt_3b067_0 : decode cJ2_charAt_3b067 0 = .ok (.iload_n 1, 1) := by decide +kernel
theorem dJ2_charAt_3b067_1 : decode cJ2_charAt_3b067 1 = .ok (.aload_n 0, 1) := by decide +kernel
theorem dJ2_charAt_3b067_2 : decode cJ2_charAt_3b067 2 = .ok (.invokestatic 67, 3) := by decide +kernel
theorem dJ2_charAt_3b067_5 : decode cJ2_charAt_3b067 5 = .ok (.aload_n 0, 1) := by decide +kernel
theorem dJ2_charAt_3b067_6 : decode cJ2_charAt_3b067 6 = .ok (.iload_n 1, 1) := by decide +kernel
theorem dJ2_charAt_3b067_7 : decode cJ2_charAt_3b067 7 = .ok (.invokestatic 71, 3) := by decide +kernel
theorem dJ2_charAt_3b067_10 : decode cJ2_charAt_3b067 10 = .ok (.ireturn, 1) := by decide +kernel
theorem dJ2_checkIndex_2214a_0 : decode cJ2_checkIndex_2214a 0 = .ok (.iload_n 0, 1) := by decide +kernel
theorem dJ2_checkIndex_2214a_1 : decode cJ2_checkIndex_2214a 1 = .ok (.aload_n 1, 1) := by decide +kernel
theorem dJ2_checkIndex_2214a_2 : decode cJ2_checkIndex_2214a 2 = .ok (.invokestatic 48, 3) := by decide +kernel
theorem dJ2_checkIndex_2214a_5 : decode cJ2_checkIndex_2214a 5 = .ok (.invokestatic 414, 3) := by decide +kernel
theorem dJ2_checkIndex_2214a_8 : decode cJ2_checkIndex_2214a 8 = .ok (.return_, 1) := by decide +kernel
theorem dJ7_fill_d0a16_0 : decode cJ7_fill_d0a16 0 = .ok (.iconst 0, 1) := by decide +kernel
theorem dJ7_fill_d0a16_1 : decode cJ7_fill_d0a16 1 = .ok (.istore_n 3, 1) := by decide +kernel
theorem dJ7_fill_d0a16_2 : decode cJ7_fill_d0a16 2 = .ok (.aload_n 0, 1) := by decide +kernel
theorem dJ7_fill_d0a16_3 : decode cJ7_fill_d0a16 3 = .ok (.arraylength, 1) := by decide +kernel
theorem dJ7_fill_d0a16_4 : decode cJ7_fill_d0a16 4 = .ok (.istore 4, 2) := by decide +kernel
theorem dJ7_fill_d0a16_6 : decode cJ7_fill_d0a16 6 = .ok (.iload_n 3, 1) := by decide +kernel
theorem dJ7_fill_d0a16_7 : decode cJ7_fill_d0a16 7 = .ok (.iload 4, 2) := by decide +kernel
theorem dJ7_fill_d0a16_9 : decode cJ7_fill_d0a16 9 = .ok (.if_icmp .ge 13, 3) := by decide +kernel
theorem dJ7_fill_d0a16_12 : decode cJ7_fill_d0a16 12 = .ok (.aload_n 0, 1) := by decide +kernel
theorem dJ7_fill_d0a16_13 : decode cJ7_fill_d0a16 13 = .ok (.iload_n 3, 1) := by decide +kernel
theorem dJ7_fill_d0a16_14 : decode cJ7_fill_d0a16 14 = .ok (.lload_n 1, 1) := by decide +kernel
theorem dJ7_fill_d0a16_15 : decode cJ7_fill_d0a16 15 = .ok (.lastore, 1) := by decide +kernel
theorem dJ7_fill_d0a16_16 : decode cJ7_fill_d0a16 16 = .ok (.iinc 3 1, 3) := by decide +kernel
theorem dJ7_fill_d0a16_19 : decode cJ7_fill_d0a16 19 = .ok (.goto (-13), 3) := by decide +kernel
theorem dJ7_fill_d0a16_22 : decode cJ7_fill_d0a16 22 = .ok (.return_, 1) := by decide +kernel
theorem dJ7_fill_53178_0 : decode cJ7_fill_53178 0 = .ok (.iconst 0, 1) := by decide +kernel
theorem dJ7_fill_53178_1 : decode cJ7_fill_53178 1 = .ok (.istore_n 2, 1) := by decide +kernel
theorem dJ7_fill_53178_2 : decode cJ7_fill_53178 2 = .ok (.aload_n 0, 1) := by decide +kernel
theorem dJ7_fill_53178_3 : decode cJ7_fill_53178 3 = .ok (.arraylength, 1) := by decide +kernel
theorem dJ7_fill_53178_4 : decode cJ7_fill_53178 4 = .ok (.istore_n 3, 1) := by decide +kernel
theorem dJ7_fill_53178_5 : decode cJ7_fill_53178 5 = .ok (.iload_n 2, 1) := by decide +kernel
theorem dJ7_fill_53178_6 : decode cJ7_fill_53178 6 = .ok (.iload_n 3, 1) := by decide +kernel
theorem dJ7_fill_53178_7 : decode cJ7_fill_53178 7 = .ok (.if_icmp .ge 13, 3) := by decide +kernel
theorem dJ7_fill_53178_10 : decode cJ7_fill_53178 10 = .ok (.aload_n 0, 1) := by decide +kernel
theorem dJ7_fill_53178_11 : decode cJ7_fill_53178 11 = .ok (.iload_n 2, 1) := by decide +kernel
theorem dJ7_fill_53178_12 : decode cJ7_fill_53178 12 = .ok (.iload_n 1, 1) := by decide +kernel
theorem dJ7_fill_53178_13 : decode cJ7_fill_53178 13 = .ok (.iastore, 1) := by decide +kernel
theorem dJ7_fill_53178_14 : decode cJ7_fill_53178 14 = .ok (.iinc 2 1, 3) := by decide +kernel
theorem dJ7_fill_53178_17 : decode cJ7_fill_53178 17 = .ok (.goto (-12), 3) := by decide +kernel
theorem dJ7_fill_53178_20 : decode cJ7_fill_53178 20 = .ok (.return_, 1) := by decide +kernel
theorem dJ3_checkIndex_8e157_0 : decode cJ3_checkIndex_8e157 0 = .ok (.iload_n 0, 1) := by decide +kernel
theorem dJ3_checkIndex_8e157_1 : decode cJ3_checkIndex_8e157 1 = .ok (.ifCond .lt 8, 3) := by decide +kernel
theorem dJ3_checkIndex_8e157_4 : decode cJ3_checkIndex_8e157 4 = .ok (.iload_n 0, 1) := by decide +kernel
theorem dJ3_checkIndex_8e157_5 : decode cJ3_checkIndex_8e157 5 = .ok (.iload_n 1, 1) := by decide +kernel
theorem dJ3_checkIndex_8e157_6 : decode cJ3_checkIndex_8e157 6 = .ok (.if_icmp .lt 10, 3) := by decide +kernel
theorem dJ3_checkIndex_8e157_9 : decode cJ3_checkIndex_8e157 9 = .ok (.aload_n 2, 1) := by decide +kernel
theorem dJ3_checkIndex_8e157_10 : decode cJ3_checkIndex_8e157 10 = .ok (.iload_n 0, 1) := by decide +kernel
theorem dJ3_checkIndex_8e157_11 : decode cJ3_checkIndex_8e157 11 = .ok (.iload_n 1, 1) := by decide +kernel
theorem dJ3_checkIndex_8e157_12 : decode cJ3_checkIndex_8e157 12 = .ok (.invokestatic 95, 3) := by decide +kernel
theorem dJ3_checkIndex_8e157_15 : decode cJ3_checkIndex_8e157 15 = .ok (.athrow, 1) := by decide +kernel
theorem dJ3_checkIndex_8e157_16 : decode cJ3_checkIndex_8e157 16 = .ok (.iload_n 0, 1) := by decide +kernel
theorem dJ3_checkIndex_8e157_17 : decode cJ3_checkIndex_8e157 17 = .ok (.ireturn, 1) := by decide +kernel
theorem dL_man_0 : decode cL_man 0 = .ok (.aload_n 3, 1) := by decide +kernel
theorem dL_man_1 : decode cL_man 1 = .ok (.iconst 0, 1) := by decide +kernel
theorem dL_man_2 : decode cL_man 2 = .ok (.aload_n 0, 1) := by decide +kernel
theorem dL_man_3 : decode cL_man 3 = .ok (.iload_n 1, 1) := by decide +kernel
theorem dL_man_4 : decode cL_man 4 = .ok (.iload_n 2, 1) := by decide +kernel
theorem dL_man_5 : decode cL_man 5 = .ok (.invokevirtual 7, 3) := by decide +kernel
theorem dL_man_8 : decode cL_man 8 = .ok (.i2l, 1) := by decide +kernel
theorem dL_man_9 : decode cL_man 9 = .ok (.lastore, 1) := by decide +kernel
theorem dL_man_10 : decode cL_man 10 = .ok (.goto 11, 3) := by decide +kernel
theorem dL_man_13 : decode cL_man 13 = .ok (.astore 4, 2) := by decide +kernel
theorem dL_man_15 : decode cL_man 15 = .ok (.iconst 1, 1) := by decide +kernel
theorem dL_man_16 : decode cL_man 16 = .ok (.ireturn, 1) := by decide +kernel
theorem dL_man_17 : decode cL_man 17 = .ok (.astore 4, 2) := by decide +kernel
theorem dL_man_19 : decode cL_man 19 = .ok (.iconst 2, 1) := by decide +kernel
theorem dL_man_20 : decode cL_man 20 = .ok (.ireturn, 1) := by decide +kernel
theorem dL_man_21 : decode cL_man 21 = .ok (.iconst 0, 1) := by decide +kernel
theorem dL_man_22 : decode cL_man 22 = .ok (.ireturn, 1) := by decide +kernel
theorem dL_law_0 : decode cL_law 0 = .ok (.new 8, 3) := by decide +kernel
theorem dL_law_3 : decode cL_law 3 = .ok (.dup, 1) := by decide +kernel
theorem dL_law_4 : decode cL_law 4 = .ok (.invokespecial 17, 3) := by decide +kernel
theorem dL_law_7 : decode cL_law 7 = .ok (.astore_n 1, 1) := by decide +kernel
theorem dL_law_8 : decode cL_law 8 = .ok (.new 18, 3) := by decide +kernel
theorem dL_law_11 : decode cL_law 11 = .ok (.dup, 1) := by decide +kernel
theorem dL_law_12 : decode cL_law 12 = .ok (.invokespecial 20, 3) := by decide +kernel
theorem dL_law_15 : decode cL_law 15 = .ok (.astore_n 2, 1) := by decide +kernel
theorem dL_law_16 : decode cL_law 16 = .ok (.iconst 1, 1) := by decide +kernel
theorem dL_law_17 : decode cL_law 17 = .ok (.newarray .long, 2) := by decide +kernel
theorem dL_law_19 : decode cL_law 19 = .ok (.astore_n 3, 1) := by decide +kernel
theorem dL_law_20 : decode cL_law 20 = .ok (.iconst 0, 1) := by decide +kernel
theorem dL_law_21 : decode cL_law 21 = .ok (.istore 4, 2) := by decide +kernel
theorem dL_law_23 : decode cL_law 23 = .ok (.iload 4, 2) := by decide +kernel
theorem dL_law_25 : decode cL_law 25 = .ok (.aload_n 0, 1) := by decide +kernel
theorem dL_law_26 : decode cL_law 26 = .ok (.arraylength, 1) := by decide +kernel
theorem dL_law_27 : decode cL_law 27 = .ok (.bipush 6, 2) := by decide +kernel
theorem dL_law_29 : decode cL_law 29 = .ok (.isub, 1) := by decide +kernel
theorem dL_law_30 : decode cL_law 30 = .ok (.if_icmp .gt 1491, 3) := by decide +kernel
theorem dL_law_33 : decode cL_law 33 = .ok (.aload_n 0, 1) := by decide +kernel
theorem dL_law_34 : decode cL_law 34 = .ok (.iload 4, 2) := by decide +kernel
theorem dL_law_36 : decode cL_law 36 = .ok (.iaload, 1) := by decide +kernel
theorem dL_law_37 : decode cL_law 37 = .ok (.bipush 63, 2) := by decide +kernel
theorem dL_law_39 : decode cL_law 39 = .ok (.iand, 1) := by decide +kernel
theorem dL_law_40 : decode cL_law 40 = .ok (.tableswitch 1475 0 36 #[164, 237, 262, 287, 312, 380, 417, 442, 467, 505, 542, 579, 628, 653, 702, 727, 764, 801, 839, 888, 901, 926, 951, 988, 1025, 1074, 1112, 1189, 1214, 1239, 1264, 1301, 1362, 1411, 1424, 1437, 1450], 164) := by decide +kernel
theorem dL_law_204 : decode cL_law 204 = .ok (.aload_n 1, 1) := by decide +kernel
theorem dL_law_205 : decode cL_law 205 = .ok (.aload_n 0, 1) := by decide +kernel
theorem dL_law_206 : decode cL_law 206 = .ok (.iload 4, 2) := by decide +kernel
theorem dL_law_208 : decode cL_law 208 = .ok (.iconst 1, 1) := by decide +kernel
theorem dL_law_209 : decode cL_law 209 = .ok (.iadd, 1) := by decide +kernel
theorem dL_law_210 : decode cL_law 210 = .ok (.iaload, 1) := by decide +kernel
theorem dL_law_211 : decode cL_law 211 = .ok (.aload_n 0, 1) := by decide +kernel
theorem dL_law_212 : decode cL_law 212 = .ok (.iload 4, 2) := by decide +kernel
theorem dL_law_214 : decode cL_law 214 = .ok (.iconst 2, 1) := by decide +kernel
theorem dL_law_215 : decode cL_law 215 = .ok (.iadd, 1) := by decide +kernel
theorem dL_law_216 : decode cL_law 216 = .ok (.iaload, 1) := by decide +kernel
theorem dL_law_217 : decode cL_law 217 = .ok (.aload_n 0, 1) := by decide +kernel
theorem dL_law_218 : decode cL_law 218 = .ok (.iload 4, 2) := by decide +kernel
theorem dL_law_220 : decode cL_law 220 = .ok (.iconst 3, 1) := by decide +kernel
theorem dL_law_221 : decode cL_law 221 = .ok (.iadd, 1) := by decide +kernel
theorem dL_law_222 : decode cL_law 222 = .ok (.iaload, 1) := by decide +kernel
theorem dL_law_223 : decode cL_law 223 = .ok (.aload_n 0, 1) := by decide +kernel
theorem dL_law_224 : decode cL_law 224 = .ok (.iload 4, 2) := by decide +kernel
theorem dL_law_226 : decode cL_law 226 = .ok (.iconst 4, 1) := by decide +kernel
theorem dL_law_227 : decode cL_law 227 = .ok (.iadd, 1) := by decide +kernel
theorem dL_law_228 : decode cL_law 228 = .ok (.iaload, 1) := by decide +kernel
theorem dL_law_229 : decode cL_law 229 = .ok (.aload_n 0, 1) := by decide +kernel
theorem dL_law_230 : decode cL_law 230 = .ok (.iload 4, 2) := by decide +kernel
theorem dL_law_232 : decode cL_law 232 = .ok (.iconst 5, 1) := by decide +kernel
theorem dL_law_233 : decode cL_law 233 = .ok (.iadd, 1) := by decide +kernel
theorem dL_law_234 : decode cL_law 234 = .ok (.iaload, 1) := by decide +kernel
theorem dL_law_235 : decode cL_law 235 = .ok (.invokevirtual 21, 3) := by decide +kernel
theorem dL_law_238 : decode cL_law 238 = .ok (.aload_n 2, 1) := by decide +kernel
theorem dL_law_239 : decode cL_law 239 = .ok (.aload_n 0, 1) := by decide +kernel
theorem dL_law_240 : decode cL_law 240 = .ok (.iload 4, 2) := by decide +kernel
theorem dL_law_242 : decode cL_law 242 = .ok (.iconst 1, 1) := by decide +kernel
theorem dL_law_243 : decode cL_law 243 = .ok (.iadd, 1) := by decide +kernel
theorem dL_law_244 : decode cL_law 244 = .ok (.iaload, 1) := by decide +kernel
theorem dL_law_245 : decode cL_law 245 = .ok (.aload_n 0, 1) := by decide +kernel
theorem dL_law_246 : decode cL_law 246 = .ok (.iload 4, 2) := by decide +kernel
theorem dL_law_248 : decode cL_law 248 = .ok (.iconst 2, 1) := by decide +kernel
theorem dL_law_249 : decode cL_law 249 = .ok (.iadd, 1) := by decide +kernel
theorem dL_law_250 : decode cL_law 250 = .ok (.iaload, 1) := by decide +kernel
theorem dL_law_251 : decode cL_law 251 = .ok (.aload_n 0, 1) := by decide +kernel
theorem dL_law_252 : decode cL_law 252 = .ok (.iload 4, 2) := by decide +kernel
theorem dL_law_254 : decode cL_law 254 = .ok (.iconst 3, 1) := by decide +kernel
theorem dL_law_255 : decode cL_law 255 = .ok (.iadd, 1) := by decide +kernel
theorem dL_law_256 : decode cL_law 256 = .ok (.iaload, 1) := by decide +kernel
theorem dL_law_257 : decode cL_law 257 = .ok (.aload_n 0, 1) := by decide +kernel
theorem dL_law_258 : decode cL_law 258 = .ok (.iload 4, 2) := by decide +kernel
theorem dL_law_260 : decode cL_law 260 = .ok (.iconst 4, 1) := by decide +kernel
theorem dL_law_261 : decode cL_law 261 = .ok (.iadd, 1) := by decide +kernel
theorem dL_law_262 : decode cL_law 262 = .ok (.iaload, 1) := by decide +kernel
theorem dL_law_263 : decode cL_law 263 = .ok (.aload_n 0, 1) := by decide +kernel
theorem dL_law_264 : decode cL_law 264 = .ok (.iload 4, 2) := by decide +kernel
theorem dL_law_266 : decode cL_law 266 = .ok (.iconst 5, 1) := by decide +kernel
theorem dL_law_267 : decode cL_law 267 = .ok (.iadd, 1) := by decide +kernel
theorem dL_law_268 : decode cL_law 268 = .ok (.iaload, 1) := by decide +kernel
theorem dL_law_269 : decode cL_law 269 = .ok (.invokevirtual 25, 3) := by decide +kernel
theorem dL_law_272 : decode cL_law 272 = .ok (.if_icmp .eq 1243, 3) := by decide +kernel
theorem dL_law_275 : decode cL_law 275 = .ok (.iconst 0, 1) := by decide +kernel
theorem dL_law_276 : decode cL_law 276 = .ok (.ireturn, 1) := by decide +kernel
theorem dL_law_277 : decode cL_law 277 = .ok (.aload_n 1, 1) := by decide +kernel
theorem dL_law_278 : decode cL_law 278 = .ok (.aload_n 0, 1) := by decide +kernel
theorem dL_law_279 : decode cL_law 279 = .ok (.iload 4, 2) := by decide +kernel
theorem dL_law_281 : decode cL_law 281 = .ok (.iconst 1, 1) := by decide +kernel
theorem dL_law_282 : decode cL_law 282 = .ok (.iadd, 1) := by decide +kernel
theorem dL_law_283 : decode cL_law 283 = .ok (.iaload, 1) := by decide +kernel
theorem dL_law_284 : decode cL_law 284 = .ok (.invokevirtual 26, 3) := by decide +kernel
theorem dL_law_287 : decode cL_law 287 = .ok (.aload_n 2, 1) := by decide +kernel
theorem dL_law_288 : decode cL_law 288 = .ok (.aload_n 0, 1) := by decide +kernel
theorem dL_law_289 : decode cL_law 289 = .ok (.iload 4, 2) := by decide +kernel
theorem dL_law_291 : decode cL_law 291 = .ok (.iconst 1, 1) := by decide +kernel
theorem dL_law_292 : decode cL_law 292 = .ok (.iadd, 1) := by decide +kernel
theorem dL_law_293 : decode cL_law 293 = .ok (.iaload, 1) := by decide +kernel
theorem dL_law_294 : decode cL_law 294 = .ok (.invokevirtual 30, 3) := by decide +kernel
theorem dL_law_297 : decode cL_law 297 = .ok (.if_icmp .eq 1218, 3) := by decide +kernel
theorem dL_law_300 : decode cL_law 300 = .ok (.iconst 0, 1) := by decide +kernel
theorem dL_law_301 : decode cL_law 301 = .ok (.ireturn, 1) := by decide +kernel
theorem dL_law_302 : decode cL_law 302 = .ok (.aload_n 1, 1) := by decide +kernel
theorem dL_law_303 : decode cL_law 303 = .ok (.aload_n 0, 1) := by decide +kernel
theorem dL_law_304 : decode cL_law 304 = .ok (.iload 4, 2) := by decide +kernel
theorem dL_law_306 : decode cL_law 306 = .ok (.iconst 1, 1) := by decide +kernel
theorem dL_law_307 : decode cL_law 307 = .ok (.iadd, 1) := by decide +kernel
theorem dL_law_308 : decode cL_law 308 = .ok (.iaload, 1) := by decide +kernel
theorem dL_law_309 : decode cL_law 309 = .ok (.invokevirtual 31, 3) := by decide +kernel
theorem dL_law_312 : decode cL_law 312 = .ok (.aload_n 2, 1) := by decide +kernel
theorem dL_law_313 : decode cL_law 313 = .ok (.aload_n 0, 1) := by decide +kernel
theorem dL_law_314 : decode cL_law 314 = .ok (.iload 4, 2) := by decide +kernel
theorem dL_law_316 : decode cL_law 316 = .ok (.iconst 1, 1) := by decide +kernel
theorem dL_law_317 : decode cL_law 317 = .ok (.iadd, 1) := by decide +kernel
theorem dL_law_318 : decode cL_law 318 = .ok (.iaload, 1) := by decide +kernel
theorem dL_law_319 : decode cL_law 319 = .ok (.invokevirtual 34, 3) := by decide +kernel
theorem dL_law_322 : decode cL_law 322 = .ok (.if_icmp .eq 1193, 3) := by decide +kernel
theorem dL_law_325 : decode cL_law 325 = .ok (.iconst 0, 1) := by decide +kernel
theorem dL_law_326 : decode cL_law 326 = .ok (.ireturn, 1) := by decide +kernel
theorem dL_law_327 : decode cL_law 327 = .ok (.aload_n 1, 1) := by decide +kernel
theorem dL_law_328 : decode cL_law 328 = .ok (.aload_n 0, 1) := by decide +kernel
theorem dL_law_329 : decode cL_law 329 = .ok (.iload 4, 2) := by decide +kernel
theorem dL_law_331 : decode cL_law 331 = .ok (.iconst 1, 1) := by decide +kernel
theorem dL_law_332 : decode cL_law 332 = .ok (.iadd, 1) := by decide +kernel
theorem dL_law_333 : decode cL_law 333 = .ok (.iaload, 1) := by decide +kernel
theorem dL_law_334 : decode cL_law 334 = .ok (.invokevirtual 35, 3) := by decide +kernel
theorem dL_law_337 : decode cL_law 337 = .ok (.aload_n 2, 1) := by decide +kernel
theorem dL_law_338 : decode cL_law 338 = .ok (.aload_n 0, 1) := by decide +kernel
theorem dL_law_339 : decode cL_law 339 = .ok (.iload 4, 2) := by decide +kernel
theorem dL_law_341 : decode cL_law 341 = .ok (.iconst 1, 1) := by decide +kernel
theorem dL_law_342 : decode cL_law 342 = .ok (.iadd, 1) := by decide +kernel
theorem dL_law_343 : decode cL_law 343 = .ok (.iaload, 1) := by decide +kernel
theorem dL_law_344 : decode cL_law 344 = .ok (.invokevirtual 38, 3) := by decide +kernel
theorem dL_law_347 : decode cL_law 347 = .ok (.if_icmp .eq 1168, 3) := by decide +kernel
theorem dL_law_350 : decode cL_law 350 = .ok (.iconst 0, 1) := by decide +kernel
theorem dL_law_351 : decode cL_law 351 = .ok (.ireturn, 1) := by decide +kernel
theorem dL_law_352 : decode cL_law 352 = .ok (.aload_n 1, 1) := by decide +kernel
theorem dL_law_353 : decode cL_law 353 = .ok (.aload_n 0, 1) := by decide +kernel
theorem dL_law_354 : decode cL_law 354 = .ok (.iload 4, 2) := by decide +kernel
theorem dL_law_356 : decode cL_law 356 = .ok (.iconst 1, 1) := by decide +kernel
theorem dL_law_357 : decode cL_law 357 = .ok (.iadd, 1) := by decide +kernel
theorem dL_law_358 : decode cL_law 358 = .ok (.iaload, 1) := by decide +kernel
theorem dL_law_359 : decode cL_law 359 = .ok (.aload_n 0, 1) := by decide +kernel
theorem dL_law_360 : decode cL_law 360 = .ok (.iload 4, 2) := by decide +kernel
theorem dL_law_362 : decode cL_law 362 = .ok (.iconst 2, 1) := by decide +kernel
theorem dL_law_363 : decode cL_law 363 = .ok (.iadd, 1) := by decide +kernel
theorem dL_law_364 : decode cL_law 364 = .ok (.iaload, 1) := by decide +kernel
theorem dL_law_365 : decode cL_law 365 = .ok (.aload_n 3, 1) := by decide +kernel
theorem dL_law_366 : decode cL_law 366 = .ok (.invokestatic 39, 3) := by decide +kernel
theorem dL_law_369 : decode cL_law 369 = .ok (.istore 5, 2) := by decide +kernel
theorem dL_law_371 : decode cL_law 371 = .ok (.aload_n 2, 1) := by decide +kernel
theorem dL_law_372 : decode cL_law 372 = .ok (.aload_n 0, 1) := by decide +kernel
theorem dL_law_373 : decode cL_law 373 = .ok (.iload 4, 2) := by decide +kernel
theorem dL_law_375 : decode cL_law 375 = .ok (.iconst 1, 1) := by decide +kernel
theorem dL_law_376 : decode cL_law 376 = .ok (.iadd, 1) := by decide +kernel
theorem dL_law_377 : decode cL_law 377 = .ok (.iaload, 1) := by decide +kernel
theorem dL_law_378 : decode cL_law 378 = .ok (.aload_n 0, 1) := by decide +kernel
theorem dL_law_379 : decode cL_law 379 = .ok (.iload 4, 2) := by decide +kernel
theorem dL_law_381 : decode cL_law 381 = .ok (.iconst 2, 1) := by decide +kernel
theorem dL_law_382 : decode cL_law 382 = .ok (.iadd, 1) := by decide +kernel
theorem dL_law_383 : decode cL_law 383 = .ok (.iaload, 1) := by decide +kernel
theorem dL_law_384 : decode cL_law 384 = .ok (.invokevirtual 44, 3) := by decide +kernel
theorem dL_law_387 : decode cL_law 387 = .ok (.istore 6, 2) := by decide +kernel
theorem dL_law_389 : decode cL_law 389 = .ok (.aload_n 2, 1) := by decide +kernel
theorem dL_law_390 : decode cL_law 390 = .ok (.invokevirtual 45, 3) := by decide +kernel
theorem dL_law_393 : decode cL_law 393 = .ok (.iload 5, 2) := by decide +kernel
theorem dL_law_395 : decode cL_law 395 = .ok (.if_icmp .eq 5, 3) := by decide +kernel
theorem dL_law_398 : decode cL_law 398 = .ok (.iconst 0, 1) := by decide +kernel
theorem dL_law_399 : decode cL_law 399 = .ok (.ireturn, 1) := by decide +kernel
theorem dL_law_400 : decode cL_law 400 = .ok (.iload 5, 2) := by decide +kernel
theorem dL_law_402 : decode cL_law 402 = .ok (.ifCond .ne 15, 3) := by decide +kernel
theorem dL_law_405 : decode cL_law 405 = .ok (.aload_n 3, 1) := by decide +kernel
theorem dL_law_406 : decode cL_law 406 = .ok (.iconst 0, 1) := by decide +kernel
theorem dL_law_407 : decode cL_law 407 = .ok (.laload, 1) := by decide +kernel
theorem dL_law_408 : decode cL_law 408 = .ok (.iload 6, 2) := by decide +kernel
theorem dL_law_410 : decode cL_law 410 = .ok (.i2l, 1) := by decide +kernel
theorem dL_law_411 : decode cL_law 411 = .ok (.lcmp, 1) := by decide +kernel
theorem dL_law_412 : decode cL_law 412 = .ok (.ifCond .eq 5, 3) := by decide +kernel
theorem dL_law_415 : decode cL_law 415 = .ok (.iconst 0, 1) := by decide +kernel
theorem dL_law_416 : decode cL_law 416 = .ok (.ireturn, 1) := by decide +kernel
theorem dL_law_417 : decode cL_law 417 = .ok (.goto 1098, 3) := by decide +kernel
theorem dL_law_420 : decode cL_law 420 = .ok (.aload_n 1, 1) := by decide +kernel
theorem dL_law_421 : decode cL_law 421 = .ok (.aload_n 0, 1) := by decide +kernel
theorem dL_law_422 : decode cL_law 422 = .ok (.iload 4, 2) := by decide +kernel
theorem dL_law_424 : decode cL_law 424 = .ok (.iconst 1, 1) := by decide +kernel
theorem dL_law_425 : decode cL_law 425 = .ok (.iadd, 1) := by decide +kernel
theorem dL_law_426 : decode cL_law 426 = .ok (.iaload, 1) := by decide +kernel
theorem dL_law_427 : decode cL_law 427 = .ok (.aload_n 0, 1) := by decide +kernel
theorem dL_law_428 : decode cL_law 428 = .ok (.iload 4, 2) := by decide +kernel
theorem dL_law_430 : decode cL_law 430 = .ok (.iconst 2, 1) := by decide +kernel
theorem dL_law_431 : decode cL_law 431 = .ok (.iadd, 1) := by decide +kernel
theorem dL_law_432 : decode cL_law 432 = .ok (.iaload, 1) := by decide +kernel
theorem dL_law_433 : decode cL_law 433 = .ok (.invokevirtual 49, 3) := by decide +kernel
theorem dL_law_436 : decode cL_law 436 = .ok (.aload_n 2, 1) := by decide +kernel
theorem dL_law_437 : decode cL_law 437 = .ok (.aload_n 0, 1) := by decide +kernel
theorem dL_law_438 : decode cL_law 438 = .ok (.iload 4, 2) := by decide +kernel
theorem dL_law_440 : decode cL_law 440 = .ok (.iconst 1, 1) := by decide +kernel
theorem dL_law_441 : decode cL_law 441 = .ok (.iadd, 1) := by decide +kernel
theorem dL_law_442 : decode cL_law 442 = .ok (.iaload, 1) := by decide +kernel
theorem dL_law_443 : decode cL_law 443 = .ok (.aload_n 0, 1) := by decide +kernel
theorem dL_law_444 : decode cL_law 444 = .ok (.iload 4, 2) := by decide +kernel
theorem dL_law_446 : decode cL_law 446 = .ok (.iconst 2, 1) := by decide +kernel
theorem dL_law_447 : decode cL_law 447 = .ok (.iadd, 1) := by decide +kernel
theorem dL_law_448 : decode cL_law 448 = .ok (.iaload, 1) := by decide +kernel
theorem dL_law_449 : decode cL_law 449 = .ok (.invokevirtual 52, 3) := by decide +kernel
theorem dL_law_452 : decode cL_law 452 = .ok (.if_icmp .eq 1063, 3) := by decide +kernel
theorem dL_law_455 : decode cL_law 455 = .ok (.iconst 0, 1) := by decide +kernel
theorem dL_law_456 : decode cL_law 456 = .ok (.ireturn, 1) := by decide +kernel
theorem dL_law_457 : decode cL_law 457 = .ok (.aload_n 1, 1) := by decide +kernel
theorem dL_law_458 : decode cL_law 458 = .ok (.aload_n 0, 1) := by decide +kernel
theorem dL_law_459 : decode cL_law 459 = .ok (.iload 4, 2) := by decide +kernel
theorem dL_law_461 : decode cL_law 461 = .ok (.iconst 1, 1) := by decide +kernel
theorem dL_law_462 : decode cL_law 462 = .ok (.iadd, 1) := by decide +kernel
theorem dL_law_463 : decode cL_law 463 = .ok (.iaload, 1) := by decide +kernel
theorem dL_law_464 : decode cL_law 464 = .ok (.invokevirtual 53, 3) := by decide +kernel
theorem dL_law_467 : decode cL_law 467 = .ok (.aload_n 2, 1) := by decide +kernel
theorem dL_law_468 : decode cL_law 468 = .ok (.aload_n 0, 1) := by decide +kernel
theorem dL_law_469 : decode cL_law 469 = .ok (.iload 4, 2) := by decide +kernel
theorem dL_law_471 : decode cL_law 471 = .ok (.iconst 1, 1) := by decide +kernel
theorem dL_law_472 : decode cL_law 472 = .ok (.iadd, 1) := by decide +kernel
theorem dL_law_473 : decode cL_law 473 = .ok (.iaload, 1) := by decide +kernel
theorem dL_law_474 : decode cL_law 474 = .ok (.invokevirtual 56, 3) := by decide +kernel
theorem dL_law_477 : decode cL_law 477 = .ok (.if_icmp .eq 1038, 3) := by decide +kernel
theorem dL_law_480 : decode cL_law 480 = .ok (.iconst 0, 1) := by decide +kernel
theorem dL_law_481 : decode cL_law 481 = .ok (.ireturn, 1) := by decide +kernel
theorem dL_law_482 : decode cL_law 482 = .ok (.aload_n 1, 1) := by decide +kernel
theorem dL_law_483 : decode cL_law 483 = .ok (.aload_n 0, 1) := by decide +kernel
theorem dL_law_484 : decode cL_law 484 = .ok (.iload 4, 2) := by decide +kernel
theorem dL_law_486 : decode cL_law 486 = .ok (.iconst 1, 1) := by decide +kernel
theorem dL_law_487 : decode cL_law 487 = .ok (.iadd, 1) := by decide +kernel
theorem dL_law_488 : decode cL_law 488 = .ok (.iaload, 1) := by decide +kernel
theorem dL_law_489 : decode cL_law 489 = .ok (.invokevirtual 57, 3) := by decide +kernel
theorem dL_law_492 : decode cL_law 492 = .ok (.aload_n 2, 1) := by decide +kernel
theorem dL_law_493 : decode cL_law 493 = .ok (.aload_n 0, 1) := by decide +kernel
theorem dL_law_494 : decode cL_law 494 = .ok (.iload 4, 2) := by decide +kernel
theorem dL_law_496 : decode cL_law 496 = .ok (.iconst 1, 1) := by decide +kernel
theorem dL_law_497 : decode cL_law 497 = .ok (.iadd, 1) := by decide +kernel
theorem dL_law_498 : decode cL_law 498 = .ok (.iaload, 1) := by decide +kernel
theorem dL_law_499 : decode cL_law 499 = .ok (.invokevirtual 60, 3) := by decide +kernel
theorem dL_law_502 : decode cL_law 502 = .ok (.if_icmp .eq 1013, 3) := by decide +kernel
theorem dL_law_505 : decode cL_law 505 = .ok (.iconst 0, 1) := by decide +kernel
theorem dL_law_506 : decode cL_law 506 = .ok (.ireturn, 1) := by decide +kernel
theorem dL_law_507 : decode cL_law 507 = .ok (.aload_n 1, 1) := by decide +kernel
theorem dL_law_508 : decode cL_law 508 = .ok (.aload_n 0, 1) := by decide +kernel
theorem dL_law_509 : decode cL_law 509 = .ok (.iload 4, 2) := by decide +kernel
theorem dL_law_511 : decode cL_law 511 = .ok (.iconst 1, 1) := by decide +kernel
theorem dL_law_512 : decode cL_law 512 = .ok (.iadd, 1) := by decide +kernel
theorem dL_law_513 : decode cL_law 513 = .ok (.iaload, 1) := by decide +kernel
theorem dL_law_514 : decode cL_law 514 = .ok (.aload_n 0, 1) := by decide +kernel
theorem dL_law_515 : decode cL_law 515 = .ok (.iload 4, 2) := by decide +kernel
theorem dL_law_517 : decode cL_law 517 = .ok (.iconst 2, 1) := by decide +kernel
theorem dL_law_518 : decode cL_law 518 = .ok (.iadd, 1) := by decide +kernel
theorem dL_law_519 : decode cL_law 519 = .ok (.iaload, 1) := by decide +kernel
theorem dL_law_520 : decode cL_law 520 = .ok (.invokevirtual 61, 3) := by decide +kernel
theorem dL_law_523 : decode cL_law 523 = .ok (.aload_n 2, 1) := by decide +kernel
theorem dL_law_524 : decode cL_law 524 = .ok (.aload_n 0, 1) := by decide +kernel
theorem dL_law_525 : decode cL_law 525 = .ok (.iload 4, 2) := by decide +kernel
theorem dL_law_527 : decode cL_law 527 = .ok (.iconst 1, 1) := by decide +kernel
theorem dL_law_528 : decode cL_law 528 = .ok (.iadd, 1) := by decide +kernel
theorem dL_law_529 : decode cL_law 529 = .ok (.iaload, 1) := by decide +kernel
theorem dL_law_530 : decode cL_law 530 = .ok (.aload_n 0, 1) := by decide +kernel
theorem dL_law_531 : decode cL_law 531 = .ok (.iload 4, 2) := by decide +kernel
theorem dL_law_533 : decode cL_law 533 = .ok (.iconst 2, 1) := by decide +kernel
theorem dL_law_534 : decode cL_law 534 = .ok (.iadd, 1) := by decide +kernel
theorem dL_law_535 : decode cL_law 535 = .ok (.iaload, 1) := by decide +kernel
theorem dL_law_536 : decode cL_law 536 = .ok (.invokevirtual 65, 3) := by decide +kernel
theorem dL_law_539 : decode cL_law 539 = .ok (.lcmp, 1) := by decide +kernel
theorem dL_law_540 : decode cL_law 540 = .ok (.ifCond .eq 975, 3) := by decide +kernel
theorem dL_law_543 : decode cL_law 543 = .ok (.iconst 0, 1) := by decide +kernel
theorem dL_law_544 : decode cL_law 544 = .ok (.ireturn, 1) := by decide +kernel
theorem dL_law_545 : decode cL_law 545 = .ok (.aload_n 1, 1) := by decide +kernel
theorem dL_law_546 : decode cL_law 546 = .ok (.aload_n 0, 1) := by decide +kernel
theorem dL_law_547 : decode cL_law 547 = .ok (.iload 4, 2) := by decide +kernel
theorem dL_law_549 : decode cL_law 549 = .ok (.iconst 1, 1) := by decide +kernel
theorem dL_law_550 : decode cL_law 550 = .ok (.iadd, 1) := by decide +kernel
theorem dL_law_551 : decode cL_law 551 = .ok (.iaload, 1) := by decide +kernel
theorem dL_law_552 : decode cL_law 552 = .ok (.aload_n 0, 1) := by decide +kernel
theorem dL_law_553 : decode cL_law 553 = .ok (.iload 4, 2) := by decide +kernel
theorem dL_law_555 : decode cL_law 555 = .ok (.iconst 2, 1) := by decide +kernel
theorem dL_law_556 : decode cL_law 556 = .ok (.iadd, 1) := by decide +kernel
theorem dL_law_557 : decode cL_law 557 = .ok (.iaload, 1) := by decide +kernel
theorem dL_law_558 : decode cL_law 558 = .ok (.invokevirtual 66, 3) := by decide +kernel
theorem dL_law_561 : decode cL_law 561 = .ok (.aload_n 2, 1) := by decide +kernel
theorem dL_law_562 : decode cL_law 562 = .ok (.aload_n 0, 1) := by decide +kernel
theorem dL_law_563 : decode cL_law 563 = .ok (.iload 4, 2) := by decide +kernel
theorem dL_law_565 : decode cL_law 565 = .ok (.iconst 1, 1) := by decide +kernel
theorem dL_law_566 : decode cL_law 566 = .ok (.iadd, 1) := by decide +kernel
theorem dL_law_567 : decode cL_law 567 = .ok (.iaload, 1) := by decide +kernel
theorem dL_law_568 : decode cL_law 568 = .ok (.aload_n 0, 1) := by decide +kernel
theorem dL_law_569 : decode cL_law 569 = .ok (.iload 4, 2) := by decide +kernel
theorem dL_law_571 : decode cL_law 571 = .ok (.iconst 2, 1) := by decide +kernel
theorem dL_law_572 : decode cL_law 572 = .ok (.iadd, 1) := by decide +kernel
theorem dL_law_573 : decode cL_law 573 = .ok (.iaload, 1) := by decide +kernel
theorem dL_law_574 : decode cL_law 574 = .ok (.invokevirtual 70, 3) := by decide +kernel
theorem dL_law_577 : decode cL_law 577 = .ok (.if_icmp .eq 938, 3) := by decide +kernel
theorem dL_law_580 : decode cL_law 580 = .ok (.iconst 0, 1) := by decide +kernel
theorem dL_law_581 : decode cL_law 581 = .ok (.ireturn, 1) := by decide +kernel
theorem dL_law_582 : decode cL_law 582 = .ok (.aload_n 1, 1) := by decide +kernel
theorem dL_law_583 : decode cL_law 583 = .ok (.aload_n 0, 1) := by decide +kernel
theorem dL_law_584 : decode cL_law 584 = .ok (.iload 4, 2) := by decide +kernel
theorem dL_law_586 : decode cL_law 586 = .ok (.iconst 1, 1) := by decide +kernel
theorem dL_law_587 : decode cL_law 587 = .ok (.iadd, 1) := by decide +kernel
theorem dL_law_588 : decode cL_law 588 = .ok (.iaload, 1) := by decide +kernel
theorem dL_law_589 : decode cL_law 589 = .ok (.aload_n 0, 1) := by decide +kernel
theorem dL_law_590 : decode cL_law 590 = .ok (.iload 4, 2) := by decide +kernel
theorem dL_law_592 : decode cL_law 592 = .ok (.iconst 2, 1) := by decide +kernel
theorem dL_law_593 : decode cL_law 593 = .ok (.iadd, 1) := by decide +kernel
theorem dL_law_594 : decode cL_law 594 = .ok (.iaload, 1) := by decide +kernel
theorem dL_law_595 : decode cL_law 595 = .ok (.invokevirtual 71, 3) := by decide +kernel
theorem dL_law_598 : decode cL_law 598 = .ok (.aload_n 2, 1) := by decide +kernel
theorem dL_law_599 : decode cL_law 599 = .ok (.aload_n 0, 1) := by decide +kernel
theorem dL_law_600 : decode cL_law 600 = .ok (.iload 4, 2) := by decide +kernel
theorem dL_law_602 : decode cL_law 602 = .ok (.iconst 1, 1) := by decide +kernel
theorem dL_law_603 : decode cL_law 603 = .ok (.iadd, 1) := by decide +kernel
theorem dL_law_604 : decode cL_law 604 = .ok (.iaload, 1) := by decide +kernel
theorem dL_law_605 : decode cL_law 605 = .ok (.aload_n 0, 1) := by decide +kernel
theorem dL_law_606 : decode cL_law 606 = .ok (.iload 4, 2) := by decide +kernel
theorem dL_law_608 : decode cL_law 608 = .ok (.iconst 2, 1) := by decide +kernel
theorem dL_law_609 : decode cL_law 609 = .ok (.iadd, 1) := by decide +kernel
theorem dL_law_610 : decode cL_law 610 = .ok (.iaload, 1) := by decide +kernel
theorem dL_law_611 : decode cL_law 611 = .ok (.invokevirtual 74, 3) := by decide +kernel
theorem dL_law_614 : decode cL_law 614 = .ok (.if_icmp .eq 901, 3) := by decide +kernel
theorem dL_law_617 : decode cL_law 617 = .ok (.iconst 0, 1) := by decide +kernel
theorem dL_law_618 : decode cL_law 618 = .ok (.ireturn, 1) := by decide +kernel
theorem dL_law_619 : decode cL_law 619 = .ok (.aload_n 1, 1) := by decide +kernel
theorem dL_law_620 : decode cL_law 620 = .ok (.aload_n 0, 1) := by decide +kernel
theorem dL_law_621 : decode cL_law 621 = .ok (.iload 4, 2) := by decide +kernel
theorem dL_law_623 : decode cL_law 623 = .ok (.iconst 1, 1) := by decide +kernel
theorem dL_law_624 : decode cL_law 624 = .ok (.iadd, 1) := by decide +kernel
theorem dL_law_625 : decode cL_law 625 = .ok (.iaload, 1) := by decide +kernel
theorem dL_law_626 : decode cL_law 626 = .ok (.aload_n 0, 1) := by decide +kernel
theorem dL_law_627 : decode cL_law 627 = .ok (.iload 4, 2) := by decide +kernel
theorem dL_law_629 : decode cL_law 629 = .ok (.iconst 2, 1) := by decide +kernel
theorem dL_law_630 : decode cL_law 630 = .ok (.iadd, 1) := by decide +kernel
theorem dL_law_631 : decode cL_law 631 = .ok (.iaload, 1) := by decide +kernel
theorem dL_law_632 : decode cL_law 632 = .ok (.aload_n 0, 1) := by decide +kernel
theorem dL_law_633 : decode cL_law 633 = .ok (.iload 4, 2) := by decide +kernel
theorem dL_law_635 : decode cL_law 635 = .ok (.iconst 3, 1) := by decide +kernel
theorem dL_law_636 : decode cL_law 636 = .ok (.iadd, 1) := by decide +kernel
theorem dL_law_637 : decode cL_law 637 = .ok (.iaload, 1) := by decide +kernel
theorem dL_law_638 : decode cL_law 638 = .ok (.invokevirtual 75, 3) := by decide +kernel
theorem dL_law_641 : decode cL_law 641 = .ok (.aload_n 2, 1) := by decide +kernel
theorem dL_law_642 : decode cL_law 642 = .ok (.aload_n 0, 1) := by decide +kernel
theorem dL_law_643 : decode cL_law 643 = .ok (.iload 4, 2) := by decide +kernel
theorem dL_law_645 : decode cL_law 645 = .ok (.iconst 1, 1) := by decide +kernel
theorem dL_law_646 : decode cL_law 646 = .ok (.iadd, 1) := by decide +kernel
theorem dL_law_647 : decode cL_law 647 = .ok (.iaload, 1) := by decide +kernel
theorem dL_law_648 : decode cL_law 648 = .ok (.aload_n 0, 1) := by decide +kernel
theorem dL_law_649 : decode cL_law 649 = .ok (.iload 4, 2) := by decide +kernel
theorem dL_law_651 : decode cL_law 651 = .ok (.iconst 2, 1) := by decide +kernel
theorem dL_law_652 : decode cL_law 652 = .ok (.iadd, 1) := by decide +kernel
theorem dL_law_653 : decode cL_law 653 = .ok (.iaload, 1) := by decide +kernel
theorem dL_law_654 : decode cL_law 654 = .ok (.aload_n 0, 1) := by decide +kernel
theorem dL_law_655 : decode cL_law 655 = .ok (.iload 4, 2) := by decide +kernel
theorem dL_law_657 : decode cL_law 657 = .ok (.iconst 3, 1) := by decide +kernel
theorem dL_law_658 : decode cL_law 658 = .ok (.iadd, 1) := by decide +kernel
theorem dL_law_659 : decode cL_law 659 = .ok (.iaload, 1) := by decide +kernel
theorem dL_law_660 : decode cL_law 660 = .ok (.invokevirtual 79, 3) := by decide +kernel
theorem dL_law_663 : decode cL_law 663 = .ok (.if_icmp .eq 852, 3) := by decide +kernel
theorem dL_law_666 : decode cL_law 666 = .ok (.iconst 0, 1) := by decide +kernel
theorem dL_law_667 : decode cL_law 667 = .ok (.ireturn, 1) := by decide +kernel
theorem dL_law_668 : decode cL_law 668 = .ok (.aload_n 1, 1) := by decide +kernel
theorem dL_law_669 : decode cL_law 669 = .ok (.aload_n 0, 1) := by decide +kernel
theorem dL_law_670 : decode cL_law 670 = .ok (.iload 4, 2) := by decide +kernel
theorem dL_law_672 : decode cL_law 672 = .ok (.iconst 1, 1) := by decide +kernel
theorem dL_law_673 : decode cL_law 673 = .ok (.iadd, 1) := by decide +kernel
theorem dL_law_674 : decode cL_law 674 = .ok (.iaload, 1) := by decide +kernel
theorem dL_law_675 : decode cL_law 675 = .ok (.invokevirtual 80, 3) := by decide +kernel
theorem dL_law_678 : decode cL_law 678 = .ok (.aload_n 2, 1) := by decide +kernel
theorem dL_law_679 : decode cL_law 679 = .ok (.aload_n 0, 1) := by decide +kernel
theorem dL_law_680 : decode cL_law 680 = .ok (.iload 4, 2) := by decide +kernel
theorem dL_law_682 : decode cL_law 682 = .ok (.iconst 1, 1) := by decide +kernel
theorem dL_law_683 : decode cL_law 683 = .ok (.iadd, 1) := by decide +kernel
theorem dL_law_684 : decode cL_law 684 = .ok (.iaload, 1) := by decide +kernel
theorem dL_law_685 : decode cL_law 685 = .ok (.invokevirtual 83, 3) := by decide +kernel
theorem dL_law_688 : decode cL_law 688 = .ok (.if_icmp .eq 827, 3) := by decide +kernel
theorem dL_law_691 : decode cL_law 691 = .ok (.iconst 0, 1) := by decide +kernel
theorem dL_law_692 : decode cL_law 692 = .ok (.ireturn, 1) := by decide +kernel
theorem dL_law_693 : decode cL_law 693 = .ok (.aload_n 1, 1) := by decide +kernel
theorem dL_law_694 : decode cL_law 694 = .ok (.aload_n 0, 1) := by decide +kernel
theorem dL_law_695 : decode cL_law 695 = .ok (.iload 4, 2) := by decide +kernel
theorem dL_law_697 : decode cL_law 697 = .ok (.iconst 1, 1) := by decide +kernel
theorem dL_law_698 : decode cL_law 698 = .ok (.iadd, 1) := by decide +kernel
theorem dL_law_699 : decode cL_law 699 = .ok (.iaload, 1) := by decide +kernel
theorem dL_law_700 : decode cL_law 700 = .ok (.aload_n 0, 1) := by decide +kernel
theorem dL_law_701 : decode cL_law 701 = .ok (.iload 4, 2) := by decide +kernel
theorem dL_law_703 : decode cL_law 703 = .ok (.iconst 2, 1) := by decide +kernel
theorem dL_law_704 : decode cL_law 704 = .ok (.iadd, 1) := by decide +kernel
theorem dL_law_705 : decode cL_law 705 = .ok (.iaload, 1) := by decide +kernel
theorem dL_law_706 : decode cL_law 706 = .ok (.aload_n 0, 1) := by decide +kernel
theorem dL_law_707 : decode cL_law 707 = .ok (.iload 4, 2) := by decide +kernel
theorem dL_law_709 : decode cL_law 709 = .ok (.iconst 3, 1) := by decide +kernel
theorem dL_law_710 : decode cL_law 710 = .ok (.iadd, 1) := by decide +kernel
theorem dL_law_711 : decode cL_law 711 = .ok (.iaload, 1) := by decide +kernel
theorem dL_law_712 : decode cL_law 712 = .ok (.invokevirtual 84, 3) := by decide +kernel
theorem dL_law_715 : decode cL_law 715 = .ok (.aload_n 2, 1) := by decide +kernel
theorem dL_law_716 : decode cL_law 716 = .ok (.aload_n 0, 1) := by decide +kernel
theorem dL_law_717 : decode cL_law 717 = .ok (.iload 4, 2) := by decide +kernel
theorem dL_law_719 : decode cL_law 719 = .ok (.iconst 1, 1) := by decide +kernel
theorem dL_law_720 : decode cL_law 720 = .ok (.iadd, 1) := by decide +kernel
theorem dL_law_721 : decode cL_law 721 = .ok (.iaload, 1) := by decide +kernel
theorem dL_law_722 : decode cL_law 722 = .ok (.aload_n 0, 1) := by decide +kernel
theorem dL_law_723 : decode cL_law 723 = .ok (.iload 4, 2) := by decide +kernel
theorem dL_law_725 : decode cL_law 725 = .ok (.iconst 2, 1) := by decide +kernel
theorem dL_law_726 : decode cL_law 726 = .ok (.iadd, 1) := by decide +kernel
theorem dL_law_727 : decode cL_law 727 = .ok (.iaload, 1) := by decide +kernel
theorem dL_law_728 : decode cL_law 728 = .ok (.aload_n 0, 1) := by decide +kernel
theorem dL_law_729 : decode cL_law 729 = .ok (.iload 4, 2) := by decide +kernel
theorem dL_law_731 : decode cL_law 731 = .ok (.iconst 3, 1) := by decide +kernel
theorem dL_law_732 : decode cL_law 732 = .ok (.iadd, 1) := by decide +kernel
theorem dL_law_733 : decode cL_law 733 = .ok (.iaload, 1) := by decide +kernel
theorem dL_law_734 : decode cL_law 734 = .ok (.invokevirtual 87, 3) := by decide +kernel
theorem dL_law_737 : decode cL_law 737 = .ok (.if_icmp .eq 778, 3) := by decide +kernel
theorem dL_law_740 : decode cL_law 740 = .ok (.iconst 0, 1) := by decide +kernel
theorem dL_law_741 : decode cL_law 741 = .ok (.ireturn, 1) := by decide +kernel
theorem dL_law_742 : decode cL_law 742 = .ok (.aload_n 1, 1) := by decide +kernel
theorem dL_law_743 : decode cL_law 743 = .ok (.aload_n 0, 1) := by decide +kernel
theorem dL_law_744 : decode cL_law 744 = .ok (.iload 4, 2) := by decide +kernel
theorem dL_law_746 : decode cL_law 746 = .ok (.iconst 1, 1) := by decide +kernel
theorem dL_law_747 : decode cL_law 747 = .ok (.iadd, 1) := by decide +kernel
theorem dL_law_748 : decode cL_law 748 = .ok (.iaload, 1) := by decide +kernel
theorem dL_law_749 : decode cL_law 749 = .ok (.invokevirtual 88, 3) := by decide +kernel
theorem dL_law_752 : decode cL_law 752 = .ok (.aload_n 2, 1) := by decide +kernel
theorem dL_law_753 : decode cL_law 753 = .ok (.aload_n 0, 1) := by decide +kernel
theorem dL_law_754 : decode cL_law 754 = .ok (.iload 4, 2) := by decide +kernel
theorem dL_law_756 : decode cL_law 756 = .ok (.iconst 1, 1) := by decide +kernel
theorem dL_law_757 : decode cL_law 757 = .ok (.iadd, 1) := by decide +kernel
theorem dL_law_758 : decode cL_law 758 = .ok (.iaload, 1) := by decide +kernel
theorem dL_law_759 : decode cL_law 759 = .ok (.invokevirtual 91, 3) := by decide +kernel
theorem dL_law_762 : decode cL_law 762 = .ok (.if_icmp .eq 753, 3) := by decide +kernel
theorem dL_law_765 : decode cL_law 765 = .ok (.iconst 0, 1) := by decide +kernel
theorem dL_law_766 : decode cL_law 766 = .ok (.ireturn, 1) := by decide +kernel
theorem dL_law_767 : decode cL_law 767 = .ok (.aload_n 1, 1) := by decide +kernel
theorem dL_law_768 : decode cL_law 768 = .ok (.aload_n 0, 1) := by decide +kernel
theorem dL_law_769 : decode cL_law 769 = .ok (.iload 4, 2) := by decide +kernel
theorem dL_law_771 : decode cL_law 771 = .ok (.iconst 1, 1) := by decide +kernel
theorem dL_law_772 : decode cL_law 772 = .ok (.iadd, 1) := by decide +kernel
theorem dL_law_773 : decode cL_law 773 = .ok (.iaload, 1) := by decide +kernel
theorem dL_law_774 : decode cL_law 774 = .ok (.aload_n 0, 1) := by decide +kernel
theorem dL_law_775 : decode cL_law 775 = .ok (.iload 4, 2) := by decide +kernel
theorem dL_law_777 : decode cL_law 777 = .ok (.iconst 2, 1) := by decide +kernel
theorem dL_law_778 : decode cL_law 778 = .ok (.iadd, 1) := by decide +kernel
theorem dL_law_779 : decode cL_law 779 = .ok (.iaload, 1) := by decide +kernel
theorem dL_law_780 : decode cL_law 780 = .ok (.invokevirtual 92, 3) := by decide +kernel
theorem dL_law_783 : decode cL_law 783 = .ok (.aload_n 2, 1) := by decide +kernel
theorem dL_law_784 : decode cL_law 784 = .ok (.aload_n 0, 1) := by decide +kernel
theorem dL_law_785 : decode cL_law 785 = .ok (.iload 4, 2) := by decide +kernel
theorem dL_law_787 : decode cL_law 787 = .ok (.iconst 1, 1) := by decide +kernel
theorem dL_law_788 : decode cL_law 788 = .ok (.iadd, 1) := by decide +kernel
theorem dL_law_789 : decode cL_law 789 = .ok (.iaload, 1) := by decide +kernel
theorem dL_law_790 : decode cL_law 790 = .ok (.aload_n 0, 1) := by decide +kernel
theorem dL_law_791 : decode cL_law 791 = .ok (.iload 4, 2) := by decide +kernel
theorem dL_law_793 : decode cL_law 793 = .ok (.iconst 2, 1) := by decide +kernel
theorem dL_law_794 : decode cL_law 794 = .ok (.iadd, 1) := by decide +kernel
theorem dL_law_795 : decode cL_law 795 = .ok (.iaload, 1) := by decide +kernel
theorem dL_law_796 : decode cL_law 796 = .ok (.invokevirtual 95, 3) := by decide +kernel
theorem dL_law_799 : decode cL_law 799 = .ok (.if_icmp .eq 716, 3) := by decide +kernel
theorem dL_law_802 : decode cL_law 802 = .ok (.iconst 0, 1) := by decide +kernel
theorem dL_law_803 : decode cL_law 803 = .ok (.ireturn, 1) := by decide +kernel
theorem dL_law_804 : decode cL_law 804 = .ok (.aload_n 1, 1) := by decide +kernel
theorem dL_law_805 : decode cL_law 805 = .ok (.aload_n 0, 1) := by decide +kernel
theorem dL_law_806 : decode cL_law 806 = .ok (.iload 4, 2) := by decide +kernel
theorem dL_law_808 : decode cL_law 808 = .ok (.iconst 1, 1) := by decide +kernel
theorem dL_law_809 : decode cL_law 809 = .ok (.iadd, 1) := by decide +kernel
theorem dL_law_810 : decode cL_law 810 = .ok (.iaload, 1) := by decide +kernel
theorem dL_law_811 : decode cL_law 811 = .ok (.aload_n 0, 1) := by decide +kernel
theorem dL_law_812 : decode cL_law 812 = .ok (.iload 4, 2) := by decide +kernel
theorem dL_law_814 : decode cL_law 814 = .ok (.iconst 2, 1) := by decide +kernel
theorem dL_law_815 : decode cL_law 815 = .ok (.iadd, 1) := by decide +kernel
theorem dL_law_816 : decode cL_law 816 = .ok (.iaload, 1) := by decide +kernel
theorem dL_law_817 : decode cL_law 817 = .ok (.invokevirtual 96, 3) := by decide +kernel
theorem dL_law_820 : decode cL_law 820 = .ok (.aload_n 2, 1) := by decide +kernel
theorem dL_law_821 : decode cL_law 821 = .ok (.aload_n 0, 1) := by decide +kernel
theorem dL_law_822 : decode cL_law 822 = .ok (.iload 4, 2) := by decide +kernel
theorem dL_law_824 : decode cL_law 824 = .ok (.iconst 1, 1) := by decide +kernel
theorem dL_law_825 : decode cL_law 825 = .ok (.iadd, 1) := by decide +kernel
theorem dL_law_826 : decode cL_law 826 = .ok (.iaload, 1) := by decide +kernel
theorem dL_law_827 : decode cL_law 827 = .ok (.aload_n 0, 1) := by decide +kernel
theorem dL_law_828 : decode cL_law 828 = .ok (.iload 4, 2) := by decide +kernel
theorem dL_law_830 : decode cL_law 830 = .ok (.iconst 2, 1) := by decide +kernel
theorem dL_law_831 : decode cL_law 831 = .ok (.iadd, 1) := by decide +kernel
theorem dL_law_832 : decode cL_law 832 = .ok (.iaload, 1) := by decide +kernel
theorem dL_law_833 : decode cL_law 833 = .ok (.invokevirtual 99, 3) := by decide +kernel
theorem dL_law_836 : decode cL_law 836 = .ok (.if_icmp .eq 679, 3) := by decide +kernel
theorem dL_law_839 : decode cL_law 839 = .ok (.iconst 0, 1) := by decide +kernel
theorem dL_law_840 : decode cL_law 840 = .ok (.ireturn, 1) := by decide +kernel
theorem dL_law_841 : decode cL_law 841 = .ok (.aload_n 1, 1) := by decide +kernel
theorem dL_law_842 : decode cL_law 842 = .ok (.aload_n 0, 1) := by decide +kernel
theorem dL_law_843 : decode cL_law 843 = .ok (.iload 4, 2) := by decide +kernel
theorem dL_law_845 : decode cL_law 845 = .ok (.iconst 1, 1) := by decide +kernel
theorem dL_law_846 : decode cL_law 846 = .ok (.iadd, 1) := by decide +kernel
theorem dL_law_847 : decode cL_law 847 = .ok (.iaload, 1) := by decide +kernel
theorem dL_law_848 : decode cL_law 848 = .ok (.aload_n 0, 1) := by decide +kernel
theorem dL_law_849 : decode cL_law 849 = .ok (.iload 4, 2) := by decide +kernel
theorem dL_law_851 : decode cL_law 851 = .ok (.iconst 2, 1) := by decide +kernel
theorem dL_law_852 : decode cL_law 852 = .ok (.iadd, 1) := by decide +kernel
theorem dL_law_853 : decode cL_law 853 = .ok (.iaload, 1) := by decide +kernel
theorem dL_law_854 : decode cL_law 854 = .ok (.invokevirtual 100, 3) := by decide +kernel
theorem dL_law_857 : decode cL_law 857 = .ok (.aload_n 2, 1) := by decide +kernel
theorem dL_law_858 : decode cL_law 858 = .ok (.aload_n 0, 1) := by decide +kernel
theorem dL_law_859 : decode cL_law 859 = .ok (.iload 4, 2) := by decide +kernel
theorem dL_law_861 : decode cL_law 861 = .ok (.iconst 1, 1) := by decide +kernel
theorem dL_law_862 : decode cL_law 862 = .ok (.iadd, 1) := by decide +kernel
theorem dL_law_863 : decode cL_law 863 = .ok (.iaload, 1) := by decide +kernel
theorem dL_law_864 : decode cL_law 864 = .ok (.aload_n 0, 1) := by decide +kernel
theorem dL_law_865 : decode cL_law 865 = .ok (.iload 4, 2) := by decide +kernel
theorem dL_law_867 : decode cL_law 867 = .ok (.iconst 2, 1) := by decide +kernel
theorem dL_law_868 : decode cL_law 868 = .ok (.iadd, 1) := by decide +kernel
theorem dL_law_869 : decode cL_law 869 = .ok (.iaload, 1) := by decide +kernel
theorem dL_law_870 : decode cL_law 870 = .ok (.invokevirtual 103, 3) := by decide +kernel
theorem dL_law_873 : decode cL_law 873 = .ok (.lcmp, 1) := by decide +kernel
theorem dL_law_874 : decode cL_law 874 = .ok (.ifCond .eq 641, 3) := by decide +kernel
theorem dL_law_877 : decode cL_law 877 = .ok (.iconst 0, 1) := by decide +kernel
theorem dL_law_878 : decode cL_law 878 = .ok (.ireturn, 1) := by decide +kernel
theorem dL_law_879 : decode cL_law 879 = .ok (.aload_n 1, 1) := by decide +kernel
theorem dL_law_880 : decode cL_law 880 = .ok (.aload_n 0, 1) := by decide +kernel
theorem dL_law_881 : decode cL_law 881 = .ok (.iload 4, 2) := by decide +kernel
theorem dL_law_883 : decode cL_law 883 = .ok (.iconst 1, 1) := by decide +kernel
theorem dL_law_884 : decode cL_law 884 = .ok (.iadd, 1) := by decide +kernel
theorem dL_law_885 : decode cL_law 885 = .ok (.iaload, 1) := by decide +kernel
theorem dL_law_886 : decode cL_law 886 = .ok (.aload_n 0, 1) := by decide +kernel
theorem dL_law_887 : decode cL_law 887 = .ok (.iload 4, 2) := by decide +kernel
theorem dL_law_889 : decode cL_law 889 = .ok (.iconst 2, 1) := by decide +kernel
theorem dL_law_890 : decode cL_law 890 = .ok (.iadd, 1) := by decide +kernel
theorem dL_law_891 : decode cL_law 891 = .ok (.iaload, 1) := by decide +kernel
theorem dL_law_892 : decode cL_law 892 = .ok (.aload_n 0, 1) := by decide +kernel
theorem dL_law_893 : decode cL_law 893 = .ok (.iload 4, 2) := by decide +kernel
theorem dL_law_895 : decode cL_law 895 = .ok (.iconst 3, 1) := by decide +kernel
theorem dL_law_896 : decode cL_law 896 = .ok (.iadd, 1) := by decide +kernel
theorem dL_law_897 : decode cL_law 897 = .ok (.iaload, 1) := by decide +kernel
theorem dL_law_898 : decode cL_law 898 = .ok (.invokevirtual 104, 3) := by decide +kernel
theorem dL_law_901 : decode cL_law 901 = .ok (.aload_n 2, 1) := by decide +kernel
theorem dL_law_902 : decode cL_law 902 = .ok (.aload_n 0, 1) := by decide +kernel
theorem dL_law_903 : decode cL_law 903 = .ok (.iload 4, 2) := by decide +kernel
theorem dL_law_905 : decode cL_law 905 = .ok (.iconst 1, 1) := by decide +kernel
theorem dL_law_906 : decode cL_law 906 = .ok (.iadd, 1) := by decide +kernel
theorem dL_law_907 : decode cL_law 907 = .ok (.iaload, 1) := by decide +kernel
theorem dL_law_908 : decode cL_law 908 = .ok (.aload_n 0, 1) := by decide +kernel
theorem dL_law_909 : decode cL_law 909 = .ok (.iload 4, 2) := by decide +kernel
theorem dL_law_911 : decode cL_law 911 = .ok (.iconst 2, 1) := by decide +kernel
theorem dL_law_912 : decode cL_law 912 = .ok (.iadd, 1) := by decide +kernel
theorem dL_law_913 : decode cL_law 913 = .ok (.iaload, 1) := by decide +kernel
theorem dL_law_914 : decode cL_law 914 = .ok (.aload_n 0, 1) := by decide +kernel
theorem dL_law_915 : decode cL_law 915 = .ok (.iload 4, 2) := by decide +kernel
theorem dL_law_917 : decode cL_law 917 = .ok (.iconst 3, 1) := by decide +kernel
theorem dL_law_918 : decode cL_law 918 = .ok (.iadd, 1) := by decide +kernel
theorem dL_law_919 : decode cL_law 919 = .ok (.iaload, 1) := by decide +kernel
theorem dL_law_920 : decode cL_law 920 = .ok (.invokevirtual 107, 3) := by decide +kernel
theorem dL_law_923 : decode cL_law 923 = .ok (.if_icmp .eq 592, 3) := by decide +kernel
theorem dL_law_926 : decode cL_law 926 = .ok (.iconst 0, 1) := by decide +kernel
theorem dL_law_927 : decode cL_law 927 = .ok (.ireturn, 1) := by decide +kernel
theorem dL_law_928 : decode cL_law 928 = .ok (.aload_n 1, 1) := by decide +kernel
theorem dL_law_929 : decode cL_law 929 = .ok (.invokevirtual 108, 3) := by decide +kernel
theorem dL_law_932 : decode cL_law 932 = .ok (.aload_n 2, 1) := by decide +kernel
theorem dL_law_933 : decode cL_law 933 = .ok (.invokevirtual 111, 3) := by decide +kernel
theorem dL_law_936 : decode cL_law 936 = .ok (.if_icmp .eq 579, 3) := by decide +kernel
theorem dL_law_939 : decode cL_law 939 = .ok (.iconst 0, 1) := by decide +kernel
theorem dL_law_940 : decode cL_law 940 = .ok (.ireturn, 1) := by decide +kernel
theorem dL_law_941 : decode cL_law 941 = .ok (.aload_n 1, 1) := by decide +kernel
theorem dL_law_942 : decode cL_law 942 = .ok (.aload_n 0, 1) := by decide +kernel
theorem dL_law_943 : decode cL_law 943 = .ok (.iload 4, 2) := by decide +kernel
theorem dL_law_945 : decode cL_law 945 = .ok (.iconst 1, 1) := by decide +kernel
theorem dL_law_946 : decode cL_law 946 = .ok (.iadd, 1) := by decide +kernel
theorem dL_law_947 : decode cL_law 947 = .ok (.iaload, 1) := by decide +kernel
theorem dL_law_948 : decode cL_law 948 = .ok (.invokevirtual 112, 3) := by decide +kernel
theorem dL_law_951 : decode cL_law 951 = .ok (.aload_n 2, 1) := by decide +kernel
theorem dL_law_952 : decode cL_law 952 = .ok (.aload_n 0, 1) := by decide +kernel
theorem dL_law_953 : decode cL_law 953 = .ok (.iload 4, 2) := by decide +kernel
theorem dL_law_955 : decode cL_law 955 = .ok (.iconst 1, 1) := by decide +kernel
theorem dL_law_956 : decode cL_law 956 = .ok (.iadd, 1) := by decide +kernel
theorem dL_law_957 : decode cL_law 957 = .ok (.iaload, 1) := by decide +kernel
theorem dL_law_958 : decode cL_law 958 = .ok (.invokevirtual 115, 3) := by decide +kernel
theorem dL_law_961 : decode cL_law 961 = .ok (.if_icmp .eq 554, 3) := by decide +kernel
theorem dL_law_964 : decode cL_law 964 = .ok (.iconst 0, 1) := by decide +kernel
theorem dL_law_965 : decode cL_law 965 = .ok (.ireturn, 1) := by decide +kernel
theorem dL_law_966 : decode cL_law 966 = .ok (.aload_n 1, 1) := by decide +kernel
theorem dL_law_967 : decode cL_law 967 = .ok (.aload_n 0, 1) := by decide +kernel
theorem dL_law_968 : decode cL_law 968 = .ok (.iload 4, 2) := by decide +kernel
theorem dL_law_970 : decode cL_law 970 = .ok (.iconst 1, 1) := by decide +kernel
theorem dL_law_971 : decode cL_law 971 = .ok (.iadd, 1) := by decide +kernel
theorem dL_law_972 : decode cL_law 972 = .ok (.iaload, 1) := by decide +kernel
theorem dL_law_973 : decode cL_law 973 = .ok (.invokevirtual 116, 3) := by decide +kernel
theorem dL_law_976 : decode cL_law 976 = .ok (.aload_n 2, 1) := by decide +kernel
theorem dL_law_977 : decode cL_law 977 = .ok (.aload_n 0, 1) := by decide +kernel
theorem dL_law_978 : decode cL_law 978 = .ok (.iload 4, 2) := by decide +kernel
theorem dL_law_980 : decode cL_law 980 = .ok (.iconst 1, 1) := by decide +kernel
theorem dL_law_981 : decode cL_law 981 = .ok (.iadd, 1) := by decide +kernel
theorem dL_law_982 : decode cL_law 982 = .ok (.iaload, 1) := by decide +kernel
theorem dL_law_983 : decode cL_law 983 = .ok (.invokevirtual 119, 3) := by decide +kernel
theorem dL_law_986 : decode cL_law 986 = .ok (.if_icmp .eq 529, 3) := by decide +kernel
theorem dL_law_989 : decode cL_law 989 = .ok (.iconst 0, 1) := by decide +kernel
theorem dL_law_990 : decode cL_law 990 = .ok (.ireturn, 1) := by decide +kernel
theorem dL_law_991 : decode cL_law 991 = .ok (.aload_n 1, 1) := by decide +kernel
theorem dL_law_992 : decode cL_law 992 = .ok (.aload_n 0, 1) := by decide +kernel
theorem dL_law_993 : decode cL_law 993 = .ok (.iload 4, 2) := by decide +kernel
theorem dL_law_995 : decode cL_law 995 = .ok (.iconst 1, 1) := by decide +kernel
theorem dL_law_996 : decode cL_law 996 = .ok (.iadd, 1) := by decide +kernel
theorem dL_law_997 : decode cL_law 997 = .ok (.iaload, 1) := by decide +kernel
theorem dL_law_998 : decode cL_law 998 = .ok (.aload_n 0, 1) := by decide +kernel
theorem dL_law_999 : decode cL_law 999 = .ok (.iload 4, 2) := by decide +kernel
theorem dL_law_1001 : decode cL_law 1001 = .ok (.iconst 2, 1) := by decide +kernel
theorem dL_law_1002 : decode cL_law 1002 = .ok (.iadd, 1) := by decide +kernel
theorem dL_law_1003 : decode cL_law 1003 = .ok (.iaload, 1) := by decide +kernel
theorem dL_law_1004 : decode cL_law 1004 = .ok (.invokevirtual 120, 3) := by decide +kernel
theorem dL_law_1007 : decode cL_law 1007 = .ok (.aload_n 2, 1) := by decide +kernel
theorem dL_law_1008 : decode cL_law 1008 = .ok (.aload_n 0, 1) := by decide +kernel
theorem dL_law_1009 : decode cL_law 1009 = .ok (.iload 4, 2) := by decide +kernel
theorem dL_law_1011 : decode cL_law 1011 = .ok (.iconst 1, 1) := by decide +kernel
theorem dL_law_1012 : decode cL_law 1012 = .ok (.iadd, 1) := by decide +kernel
theorem dL_law_1013 : decode cL_law 1013 = .ok (.iaload, 1) := by decide +kernel
theorem dL_law_1014 : decode cL_law 1014 = .ok (.aload_n 0, 1) := by decide +kernel
theorem dL_law_1015 : decode cL_law 1015 = .ok (.iload 4, 2) := by decide +kernel
theorem dL_law_1017 : decode cL_law 1017 = .ok (.iconst 2, 1) := by decide +kernel
theorem dL_law_1018 : decode cL_law 1018 = .ok (.iadd, 1) := by decide +kernel
theorem dL_law_1019 : decode cL_law 1019 = .ok (.iaload, 1) := by decide +kernel
theorem dL_law_1020 : decode cL_law 1020 = .ok (.invokevirtual 123, 3) := by decide +kernel
theorem dL_law_1023 : decode cL_law 1023 = .ok (.if_icmp .eq 492, 3) := by decide +kernel
theorem dL_law_1026 : decode cL_law 1026 = .ok (.iconst 0, 1) := by decide +kernel
theorem dL_law_1027 : decode cL_law 1027 = .ok (.ireturn, 1) := by decide +kernel
theorem dL_law_1028 : decode cL_law 1028 = .ok (.aload_n 1, 1) := by decide +kernel
theorem dL_law_1029 : decode cL_law 1029 = .ok (.aload_n 0, 1) := by decide +kernel
theorem dL_law_1030 : decode cL_law 1030 = .ok (.iload 4, 2) := by decide +kernel
theorem dL_law_1032 : decode cL_law 1032 = .ok (.iconst 1, 1) := by decide +kernel
theorem dL_law_1033 : decode cL_law 1033 = .ok (.iadd, 1) := by decide +kernel
theorem dL_law_1034 : decode cL_law 1034 = .ok (.iaload, 1) := by decide +kernel
theorem dL_law_1035 : decode cL_law 1035 = .ok (.aload_n 0, 1) := by decide +kernel
theorem dL_law_1036 : decode cL_law 1036 = .ok (.iload 4, 2) := by decide +kernel
theorem dL_law_1038 : decode cL_law 1038 = .ok (.iconst 2, 1) := by decide +kernel
theorem dL_law_1039 : decode cL_law 1039 = .ok (.iadd, 1) := by decide +kernel
theorem dL_law_1040 : decode cL_law 1040 = .ok (.iaload, 1) := by decide +kernel
theorem dL_law_1041 : decode cL_law 1041 = .ok (.invokevirtual 124, 3) := by decide +kernel
theorem dL_law_1044 : decode cL_law 1044 = .ok (.aload_n 2, 1) := by decide +kernel
theorem dL_law_1045 : decode cL_law 1045 = .ok (.aload_n 0, 1) := by decide +kernel
theorem dL_law_1046 : decode cL_law 1046 = .ok (.iload 4, 2) := by decide +kernel
theorem dL_law_1048 : decode cL_law 1048 = .ok (.iconst 1, 1) := by decide +kernel
theorem dL_law_1049 : decode cL_law 1049 = .ok (.iadd, 1) := by decide +kernel
theorem dL_law_1050 : decode cL_law 1050 = .ok (.iaload, 1) := by decide +kernel
theorem dL_law_1051 : decode cL_law 1051 = .ok (.aload_n 0, 1) := by decide +kernel
theorem dL_law_1052 : decode cL_law 1052 = .ok (.iload 4, 2) := by decide +kernel
theorem dL_law_1054 : decode cL_law 1054 = .ok (.iconst 2, 1) := by decide +kernel
theorem dL_law_1055 : decode cL_law 1055 = .ok (.iadd, 1) := by decide +kernel
theorem dL_law_1056 : decode cL_law 1056 = .ok (.iaload, 1) := by decide +kernel
theorem dL_law_1057 : decode cL_law 1057 = .ok (.invokevirtual 127, 3) := by decide +kernel
theorem dL_law_1060 : decode cL_law 1060 = .ok (.if_icmp .eq 455, 3) := by decide +kernel
theorem dL_law_1063 : decode cL_law 1063 = .ok (.iconst 0, 1) := by decide +kernel
theorem dL_law_1064 : decode cL_law 1064 = .ok (.ireturn, 1) := by decide +kernel
theorem dL_law_1065 : decode cL_law 1065 = .ok (.aload_n 1, 1) := by decide +kernel
theorem dL_law_1066 : decode cL_law 1066 = .ok (.aload_n 0, 1) := by decide +kernel
theorem dL_law_1067 : decode cL_law 1067 = .ok (.iload 4, 2) := by decide +kernel
theorem dL_law_1069 : decode cL_law 1069 = .ok (.iconst 1, 1) := by decide +kernel
theorem dL_law_1070 : decode cL_law 1070 = .ok (.iadd, 1) := by decide +kernel
theorem dL_law_1071 : decode cL_law 1071 = .ok (.iaload, 1) := by decide +kernel
theorem dL_law_1072 : decode cL_law 1072 = .ok (.aload_n 0, 1) := by decide +kernel
theorem dL_law_1073 : decode cL_law 1073 = .ok (.iload 4, 2) := by decide +kernel
theorem dL_law_1075 : decode cL_law 1075 = .ok (.iconst 2, 1) := by decide +kernel
theorem dL_law_1076 : decode cL_law 1076 = .ok (.iadd, 1) := by decide +kernel
theorem dL_law_1077 : decode cL_law 1077 = .ok (.iaload, 1) := by decide +kernel
theorem dL_law_1078 : decode cL_law 1078 = .ok (.aload_n 0, 1) := by decide +kernel
theorem dL_law_1079 : decode cL_law 1079 = .ok (.iload 4, 2) := by decide +kernel
theorem dL_law_1081 : decode cL_law 1081 = .ok (.iconst 3, 1) := by decide +kernel
theorem dL_law_1082 : decode cL_law 1082 = .ok (.iadd, 1) := by decide +kernel
theorem dL_law_1083 : decode cL_law 1083 = .ok (.iaload, 1) := by decide +kernel
theorem dL_law_1084 : decode cL_law 1084 = .ok (.invokevirtual 128, 3) := by decide +kernel
theorem dL_law_1087 : decode cL_law 1087 = .ok (.aload_n 2, 1) := by decide +kernel
theorem dL_law_1088 : decode cL_law 1088 = .ok (.aload_n 0, 1) := by decide +kernel
theorem dL_law_1089 : decode cL_law 1089 = .ok (.iload 4, 2) := by decide +kernel
theorem dL_law_1091 : decode cL_law 1091 = .ok (.iconst 1, 1) := by decide +kernel
theorem dL_law_1092 : decode cL_law 1092 = .ok (.iadd, 1) := by decide +kernel
theorem dL_law_1093 : decode cL_law 1093 = .ok (.iaload, 1) := by decide +kernel
theorem dL_law_1094 : decode cL_law 1094 = .ok (.aload_n 0, 1) := by decide +kernel
theorem dL_law_1095 : decode cL_law 1095 = .ok (.iload 4, 2) := by decide +kernel
theorem dL_law_1097 : decode cL_law 1097 = .ok (.iconst 2, 1) := by decide +kernel
theorem dL_law_1098 : decode cL_law 1098 = .ok (.iadd, 1) := by decide +kernel
theorem dL_law_1099 : decode cL_law 1099 = .ok (.iaload, 1) := by decide +kernel
theorem dL_law_1100 : decode cL_law 1100 = .ok (.aload_n 0, 1) := by decide +kernel
theorem dL_law_1101 : decode cL_law 1101 = .ok (.iload 4, 2) := by decide +kernel
theorem dL_law_1103 : decode cL_law 1103 = .ok (.iconst 3, 1) := by decide +kernel
theorem dL_law_1104 : decode cL_law 1104 = .ok (.iadd, 1) := by decide +kernel
theorem dL_law_1105 : decode cL_law 1105 = .ok (.iaload, 1) := by decide +kernel
theorem dL_law_1106 : decode cL_law 1106 = .ok (.invokevirtual 131, 3) := by decide +kernel
theorem dL_law_1109 : decode cL_law 1109 = .ok (.if_icmp .eq 406, 3) := by decide +kernel
theorem dL_law_1112 : decode cL_law 1112 = .ok (.iconst 0, 1) := by decide +kernel
theorem dL_law_1113 : decode cL_law 1113 = .ok (.ireturn, 1) := by decide +kernel
theorem dL_law_1114 : decode cL_law 1114 = .ok (.aload_n 1, 1) := by decide +kernel
theorem dL_law_1115 : decode cL_law 1115 = .ok (.aload_n 0, 1) := by decide +kernel
theorem dL_law_1116 : decode cL_law 1116 = .ok (.iload 4, 2) := by decide +kernel
theorem dL_law_1118 : decode cL_law 1118 = .ok (.iconst 1, 1) := by decide +kernel
theorem dL_law_1119 : decode cL_law 1119 = .ok (.iadd, 1) := by decide +kernel
theorem dL_law_1120 : decode cL_law 1120 = .ok (.iaload, 1) := by decide +kernel
theorem dL_law_1121 : decode cL_law 1121 = .ok (.aload_n 0, 1) := by decide +kernel
theorem dL_law_1122 : decode cL_law 1122 = .ok (.iload 4, 2) := by decide +kernel
theorem dL_law_1124 : decode cL_law 1124 = .ok (.iconst 2, 1) := by decide +kernel
theorem dL_law_1125 : decode cL_law 1125 = .ok (.iadd, 1) := by decide +kernel
theorem dL_law_1126 : decode cL_law 1126 = .ok (.iaload, 1) := by decide +kernel
theorem dL_law_1127 : decode cL_law 1127 = .ok (.invokevirtual 132, 3) := by decide +kernel
theorem dL_law_1130 : decode cL_law 1130 = .ok (.aload_n 2, 1) := by decide +kernel
theorem dL_law_1131 : decode cL_law 1131 = .ok (.aload_n 0, 1) := by decide +kernel
theorem dL_law_1132 : decode cL_law 1132 = .ok (.iload 4, 2) := by decide +kernel
theorem dL_law_1134 : decode cL_law 1134 = .ok (.iconst 1, 1) := by decide +kernel
theorem dL_law_1135 : decode cL_law 1135 = .ok (.iadd, 1) := by decide +kernel
theorem dL_law_1136 : decode cL_law 1136 = .ok (.iaload, 1) := by decide +kernel
theorem dL_law_1137 : decode cL_law 1137 = .ok (.aload_n 0, 1) := by decide +kernel
theorem dL_law_1138 : decode cL_law 1138 = .ok (.iload 4, 2) := by decide +kernel
theorem dL_law_1140 : decode cL_law 1140 = .ok (.iconst 2, 1) := by decide +kernel
theorem dL_law_1141 : decode cL_law 1141 = .ok (.iadd, 1) := by decide +kernel
theorem dL_law_1142 : decode cL_law 1142 = .ok (.iaload, 1) := by decide +kernel
theorem dL_law_1143 : decode cL_law 1143 = .ok (.invokevirtual 135, 3) := by decide +kernel
theorem dL_law_1146 : decode cL_law 1146 = .ok (.lcmp, 1) := by decide +kernel
theorem dL_law_1147 : decode cL_law 1147 = .ok (.ifCond .eq 368, 3) := by decide +kernel
theorem dL_law_1150 : decode cL_law 1150 = .ok (.iconst 0, 1) := by decide +kernel
theorem dL_law_1151 : decode cL_law 1151 = .ok (.ireturn, 1) := by decide +kernel
theorem dL_law_1152 : decode cL_law 1152 = .ok (.aload_n 1, 1) := by decide +kernel
theorem dL_law_1153 : decode cL_law 1153 = .ok (.aload_n 0, 1) := by decide +kernel
theorem dL_law_1154 : decode cL_law 1154 = .ok (.iload 4, 2) := by decide +kernel
theorem dL_law_1156 : decode cL_law 1156 = .ok (.iconst 1, 1) := by decide +kernel
theorem dL_law_1157 : decode cL_law 1157 = .ok (.iadd, 1) := by decide +kernel
theorem dL_law_1158 : decode cL_law 1158 = .ok (.iaload, 1) := by decide +kernel
theorem dL_law_1159 : decode cL_law 1159 = .ok (.aload_n 0, 1) := by decide +kernel
theorem dL_law_1160 : decode cL_law 1160 = .ok (.iload 4, 2) := by decide +kernel
theorem dL_law_1162 : decode cL_law 1162 = .ok (.iconst 2, 1) := by decide +kernel
theorem dL_law_1163 : decode cL_law 1163 = .ok (.iadd, 1) := by decide +kernel
theorem dL_law_1164 : decode cL_law 1164 = .ok (.iaload, 1) := by decide +kernel
theorem dL_law_1165 : decode cL_law 1165 = .ok (.aload_n 0, 1) := by decide +kernel
theorem dL_law_1166 : decode cL_law 1166 = .ok (.iload 4, 2) := by decide +kernel
theorem dL_law_1168 : decode cL_law 1168 = .ok (.iconst 3, 1) := by decide +kernel
theorem dL_law_1169 : decode cL_law 1169 = .ok (.iadd, 1) := by decide +kernel
theorem dL_law_1170 : decode cL_law 1170 = .ok (.iaload, 1) := by decide +kernel
theorem dL_law_1171 : decode cL_law 1171 = .ok (.aload_n 0, 1) := by decide +kernel
theorem dL_law_1172 : decode cL_law 1172 = .ok (.iload 4, 2) := by decide +kernel
theorem dL_law_1174 : decode cL_law 1174 = .ok (.iconst 4, 1) := by decide +kernel
theorem dL_law_1175 : decode cL_law 1175 = .ok (.iadd, 1) := by decide +kernel
theorem dL_law_1176 : decode cL_law 1176 = .ok (.iaload, 1) := by decide +kernel
theorem dL_law_1177 : decode cL_law 1177 = .ok (.ifCond .eq 7, 3) := by decide +kernel
theorem dL_law_1180 : decode cL_law 1180 = .ok (.iconst 1, 1) := by decide +kernel
theorem dL_law_1181 : decode cL_law 1181 = .ok (.goto 4, 3) := by decide +kernel
theorem dL_law_1184 : decode cL_law 1184 = .ok (.iconst 0, 1) := by decide +kernel
theorem dL_law_1185 : decode cL_law 1185 = .ok (.invokevirtual 136, 3) := by decide +kernel
theorem dL_law_1188 : decode cL_law 1188 = .ok (.aload_n 2, 1) := by decide +kernel
theorem dL_law_1189 : decode cL_law 1189 = .ok (.aload_n 0, 1) := by decide +kernel
theorem dL_law_1190 : decode cL_law 1190 = .ok (.iload 4, 2) := by decide +kernel
theorem dL_law_1192 : decode cL_law 1192 = .ok (.iconst 1, 1) := by decide +kernel
theorem dL_law_1193 : decode cL_law 1193 = .ok (.iadd, 1) := by decide +kernel
theorem dL_law_1194 : decode cL_law 1194 = .ok (.iaload, 1) := by decide +kernel
theorem dL_law_1195 : decode cL_law 1195 = .ok (.aload_n 0, 1) := by decide +kernel
theorem dL_law_1196 : decode cL_law 1196 = .ok (.iload 4, 2) := by decide +kernel
theorem dL_law_1198 : decode cL_law 1198 = .ok (.iconst 2, 1) := by decide +kernel
theorem dL_law_1199 : decode cL_law 1199 = .ok (.iadd, 1) := by decide +kernel
theorem dL_law_1200 : decode cL_law 1200 = .ok (.iaload, 1) := by decide +kernel
theorem dL_law_1201 : decode cL_law 1201 = .ok (.aload_n 0, 1) := by decide +kernel
theorem dL_law_1202 : decode cL_law 1202 = .ok (.iload 4, 2) := by decide +kernel
theorem dL_law_1204 : decode cL_law 1204 = .ok (.iconst 3, 1) := by decide +kernel
theorem dL_law_1205 : decode cL_law 1205 = .ok (.iadd, 1) := by decide +kernel
theorem dL_law_1206 : decode cL_law 1206 = .ok (.iaload, 1) := by decide +kernel
theorem dL_law_1207 : decode cL_law 1207 = .ok (.aload_n 0, 1) := by decide +kernel
theorem dL_law_1208 : decode cL_law 1208 = .ok (.iload 4, 2) := by decide +kernel
theorem dL_law_1210 : decode cL_law 1210 = .ok (.iconst 4, 1) := by decide +kernel
theorem dL_law_1211 : decode cL_law 1211 = .ok (.iadd, 1) := by decide +kernel
theorem dL_law_1212 : decode cL_law 1212 = .ok (.iaload, 1) := by decide +kernel
theorem dL_law_1213 : decode cL_law 1213 = .ok (.ifCond .eq 7, 3) := by decide +kernel
theorem dL_law_1216 : decode cL_law 1216 = .ok (.iconst 1, 1) := by decide +kernel
theorem dL_law_1217 : decode cL_law 1217 = .ok (.goto 4, 3) := by decide +kernel
theorem dL_law_1220 : decode cL_law 1220 = .ok (.iconst 0, 1) := by decide +kernel
theorem dL_law_1221 : decode cL_law 1221 = .ok (.invokevirtual 140, 3) := by decide +kernel
theorem dL_law_1224 : decode cL_law 1224 = .ok (.if_icmp .eq 291, 3) := by decide +kernel
theorem dL_law_1227 : decode cL_law 1227 = .ok (.iconst 0, 1) := by decide +kernel
theorem dL_law_1228 : decode cL_law 1228 = .ok (.ireturn, 1) := by decide +kernel
theorem dL_law_1229 : decode cL_law 1229 = .ok (.aload_n 1, 1) := by decide +kernel
theorem dL_law_1230 : decode cL_law 1230 = .ok (.aload_n 0, 1) := by decide +kernel
theorem dL_law_1231 : decode cL_law 1231 = .ok (.iload 4, 2) := by decide +kernel
theorem dL_law_1233 : decode cL_law 1233 = .ok (.iconst 1, 1) := by decide +kernel
theorem dL_law_1234 : decode cL_law 1234 = .ok (.iadd, 1) := by decide +kernel
theorem dL_law_1235 : decode cL_law 1235 = .ok (.iaload, 1) := by decide +kernel
theorem dL_law_1236 : decode cL_law 1236 = .ok (.invokevirtual 141, 3) := by decide +kernel
theorem dL_law_1239 : decode cL_law 1239 = .ok (.aload_n 2, 1) := by decide +kernel
theorem dL_law_1240 : decode cL_law 1240 = .ok (.aload_n 0, 1) := by decide +kernel
theorem dL_law_1241 : decode cL_law 1241 = .ok (.iload 4, 2) := by decide +kernel
theorem dL_law_1243 : decode cL_law 1243 = .ok (.iconst 1, 1) := by decide +kernel
theorem dL_law_1244 : decode cL_law 1244 = .ok (.iadd, 1) := by decide +kernel
theorem dL_law_1245 : decode cL_law 1245 = .ok (.iaload, 1) := by decide +kernel
theorem dL_law_1246 : decode cL_law 1246 = .ok (.invokevirtual 144, 3) := by decide +kernel
theorem dL_law_1249 : decode cL_law 1249 = .ok (.if_icmp .eq 266, 3) := by decide +kernel
theorem dL_law_1252 : decode cL_law 1252 = .ok (.iconst 0, 1) := by decide +kernel
theorem dL_law_1253 : decode cL_law 1253 = .ok (.ireturn, 1) := by decide +kernel
theorem dL_law_1254 : decode cL_law 1254 = .ok (.aload_n 1, 1) := by decide +kernel
theorem dL_law_1255 : decode cL_law 1255 = .ok (.aload_n 0, 1) := by decide +kernel
theorem dL_law_1256 : decode cL_law 1256 = .ok (.iload 4, 2) := by decide +kernel
theorem dL_law_1258 : decode cL_law 1258 = .ok (.iconst 1, 1) := by decide +kernel
theorem dL_law_1259 : decode cL_law 1259 = .ok (.iadd, 1) := by decide +kernel
theorem dL_law_1260 : decode cL_law 1260 = .ok (.iaload, 1) := by decide +kernel
theorem dL_law_1261 : decode cL_law 1261 = .ok (.invokevirtual 145, 3) := by decide +kernel
theorem dL_law_1264 : decode cL_law 1264 = .ok (.aload_n 2, 1) := by decide +kernel
theorem dL_law_1265 : decode cL_law 1265 = .ok (.aload_n 0, 1) := by decide +kernel
theorem dL_law_1266 : decode cL_law 1266 = .ok (.iload 4, 2) := by decide +kernel
theorem dL_law_1268 : decode cL_law 1268 = .ok (.iconst 1, 1) := by decide +kernel
theorem dL_law_1269 : decode cL_law 1269 = .ok (.iadd, 1) := by decide +kernel
theorem dL_law_1270 : decode cL_law 1270 = .ok (.iaload, 1) := by decide +kernel
theorem dL_law_1271 : decode cL_law 1271 = .ok (.invokevirtual 149, 3) := by decide +kernel
theorem dL_law_1274 : decode cL_law 1274 = .ok (.if_icmp .eq 241, 3) := by decide +kernel
theorem dL_law_1277 : decode cL_law 1277 = .ok (.iconst 0, 1) := by decide +kernel
theorem dL_law_1278 : decode cL_law 1278 = .ok (.ireturn, 1) := by decide +kernel
theorem dL_law_1279 : decode cL_law 1279 = .ok (.aload_n 1, 1) := by decide +kernel
theorem dL_law_1280 : decode cL_law 1280 = .ok (.aload_n 0, 1) := by decide +kernel
theorem dL_law_1281 : decode cL_law 1281 = .ok (.iload 4, 2) := by decide +kernel
theorem dL_law_1283 : decode cL_law 1283 = .ok (.iconst 1, 1) := by decide +kernel
theorem dL_law_1284 : decode cL_law 1284 = .ok (.iadd, 1) := by decide +kernel
theorem dL_law_1285 : decode cL_law 1285 = .ok (.iaload, 1) := by decide +kernel
theorem dL_law_1286 : decode cL_law 1286 = .ok (.invokevirtual 150, 3) := by decide +kernel
theorem dL_law_1289 : decode cL_law 1289 = .ok (.aload_n 2, 1) := by decide +kernel
theorem dL_law_1290 : decode cL_law 1290 = .ok (.aload_n 0, 1) := by decide +kernel
theorem dL_law_1291 : decode cL_law 1291 = .ok (.iload 4, 2) := by decide +kernel
theorem dL_law_1293 : decode cL_law 1293 = .ok (.iconst 1, 1) := by decide +kernel
theorem dL_law_1294 : decode cL_law 1294 = .ok (.iadd, 1) := by decide +kernel
theorem dL_law_1295 : decode cL_law 1295 = .ok (.iaload, 1) := by decide +kernel
theorem dL_law_1296 : decode cL_law 1296 = .ok (.invokevirtual 153, 3) := by decide +kernel
theorem dL_law_1299 : decode cL_law 1299 = .ok (.if_icmp .eq 216, 3) := by decide +kernel
theorem dL_law_1302 : decode cL_law 1302 = .ok (.iconst 0, 1) := by decide +kernel
theorem dL_law_1303 : decode cL_law 1303 = .ok (.ireturn, 1) := by decide +kernel
theorem dL_law_1304 : decode cL_law 1304 = .ok (.aload_n 1, 1) := by decide +kernel
theorem dL_law_1305 : decode cL_law 1305 = .ok (.aload_n 0, 1) := by decide +kernel
theorem dL_law_1306 : decode cL_law 1306 = .ok (.iload 4, 2) := by decide +kernel
theorem dL_law_1308 : decode cL_law 1308 = .ok (.iconst 1, 1) := by decide +kernel
theorem dL_law_1309 : decode cL_law 1309 = .ok (.iadd, 1) := by decide +kernel
theorem dL_law_1310 : decode cL_law 1310 = .ok (.iaload, 1) := by decide +kernel
theorem dL_law_1311 : decode cL_law 1311 = .ok (.aload_n 0, 1) := by decide +kernel
theorem dL_law_1312 : decode cL_law 1312 = .ok (.iload 4, 2) := by decide +kernel
theorem dL_law_1314 : decode cL_law 1314 = .ok (.iconst 2, 1) := by decide +kernel
theorem dL_law_1315 : decode cL_law 1315 = .ok (.iadd, 1) := by decide +kernel
theorem dL_law_1316 : decode cL_law 1316 = .ok (.iaload, 1) := by decide +kernel
theorem dL_law_1317 : decode cL_law 1317 = .ok (.invokevirtual 154, 3) := by decide +kernel
theorem dL_law_1320 : decode cL_law 1320 = .ok (.aload_n 2, 1) := by decide +kernel
theorem dL_law_1321 : decode cL_law 1321 = .ok (.aload_n 0, 1) := by decide +kernel
theorem dL_law_1322 : decode cL_law 1322 = .ok (.iload 4, 2) := by decide +kernel
theorem dL_law_1324 : decode cL_law 1324 = .ok (.iconst 1, 1) := by decide +kernel
theorem dL_law_1325 : decode cL_law 1325 = .ok (.iadd, 1) := by decide +kernel
theorem dL_law_1326 : decode cL_law 1326 = .ok (.iaload, 1) := by decide +kernel
theorem dL_law_1327 : decode cL_law 1327 = .ok (.aload_n 0, 1) := by decide +kernel
theorem dL_law_1328 : decode cL_law 1328 = .ok (.iload 4, 2) := by decide +kernel
theorem dL_law_1330 : decode cL_law 1330 = .ok (.iconst 2, 1) := by decide +kernel
theorem dL_law_1331 : decode cL_law 1331 = .ok (.iadd, 1) := by decide +kernel
theorem dL_law_1332 : decode cL_law 1332 = .ok (.iaload, 1) := by decide +kernel
theorem dL_law_1333 : decode cL_law 1333 = .ok (.invokevirtual 157, 3) := by decide +kernel
theorem dL_law_1336 : decode cL_law 1336 = .ok (.if_icmp .eq 179, 3) := by decide +kernel
theorem dL_law_1339 : decode cL_law 1339 = .ok (.iconst 0, 1) := by decide +kernel
theorem dL_law_1340 : decode cL_law 1340 = .ok (.ireturn, 1) := by decide +kernel
theorem dL_law_1341 : decode cL_law 1341 = .ok (.aload_n 1, 1) := by decide +kernel
theorem dL_law_1342 : decode cL_law 1342 = .ok (.aload_n 0, 1) := by decide +kernel
theorem dL_law_1343 : decode cL_law 1343 = .ok (.iload 4, 2) := by decide +kernel
theorem dL_law_1345 : decode cL_law 1345 = .ok (.iconst 1, 1) := by decide +kernel
theorem dL_law_1346 : decode cL_law 1346 = .ok (.iadd, 1) := by decide +kernel
theorem dL_law_1347 : decode cL_law 1347 = .ok (.iaload, 1) := by decide +kernel
theorem dL_law_1348 : decode cL_law 1348 = .ok (.aload_n 0, 1) := by decide +kernel
theorem dL_law_1349 : decode cL_law 1349 = .ok (.iload 4, 2) := by decide +kernel
theorem dL_law_1351 : decode cL_law 1351 = .ok (.iconst 2, 1) := by decide +kernel
theorem dL_law_1352 : decode cL_law 1352 = .ok (.iadd, 1) := by decide +kernel
theorem dL_law_1353 : decode cL_law 1353 = .ok (.iaload, 1) := by decide +kernel
theorem dL_law_1354 : decode cL_law 1354 = .ok (.aload_n 0, 1) := by decide +kernel
theorem dL_law_1355 : decode cL_law 1355 = .ok (.iload 4, 2) := by decide +kernel
theorem dL_law_1357 : decode cL_law 1357 = .ok (.iconst 3, 1) := by decide +kernel
theorem dL_law_1358 : decode cL_law 1358 = .ok (.iadd, 1) := by decide +kernel
theorem dL_law_1359 : decode cL_law 1359 = .ok (.iaload, 1) := by decide +kernel
theorem dL_law_1360 : decode cL_law 1360 = .ok (.aload_n 0, 1) := by decide +kernel
theorem dL_law_1361 : decode cL_law 1361 = .ok (.iload 4, 2) := by decide +kernel
theorem dL_law_1363 : decode cL_law 1363 = .ok (.iconst 4, 1) := by decide +kernel
theorem dL_law_1364 : decode cL_law 1364 = .ok (.iadd, 1) := by decide +kernel
theorem dL_law_1365 : decode cL_law 1365 = .ok (.iaload, 1) := by decide +kernel
theorem dL_law_1366 : decode cL_law 1366 = .ok (.invokevirtual 158, 3) := by decide +kernel
theorem dL_law_1369 : decode cL_law 1369 = .ok (.aload_n 2, 1) := by decide +kernel
theorem dL_law_1370 : decode cL_law 1370 = .ok (.aload_n 0, 1) := by decide +kernel
theorem dL_law_1371 : decode cL_law 1371 = .ok (.iload 4, 2) := by decide +kernel
theorem dL_law_1373 : decode cL_law 1373 = .ok (.iconst 1, 1) := by decide +kernel
theorem dL_law_1374 : decode cL_law 1374 = .ok (.iadd, 1) := by decide +kernel
theorem dL_law_1375 : decode cL_law 1375 = .ok (.iaload, 1) := by decide +kernel
theorem dL_law_1376 : decode cL_law 1376 = .ok (.aload_n 0, 1) := by decide +kernel
theorem dL_law_1377 : decode cL_law 1377 = .ok (.iload 4, 2) := by decide +kernel
theorem dL_law_1379 : decode cL_law 1379 = .ok (.iconst 2, 1) := by decide +kernel
theorem dL_law_1380 : decode cL_law 1380 = .ok (.iadd, 1) := by decide +kernel
theorem dL_law_1381 : decode cL_law 1381 = .ok (.iaload, 1) := by decide +kernel
theorem dL_law_1382 : decode cL_law 1382 = .ok (.aload_n 0, 1) := by decide +kernel
theorem dL_law_1383 : decode cL_law 1383 = .ok (.iload 4, 2) := by decide +kernel
theorem dL_law_1385 : decode cL_law 1385 = .ok (.iconst 3, 1) := by decide +kernel
theorem dL_law_1386 : decode cL_law 1386 = .ok (.iadd, 1) := by decide +kernel
theorem dL_law_1387 : decode cL_law 1387 = .ok (.iaload, 1) := by decide +kernel
theorem dL_law_1388 : decode cL_law 1388 = .ok (.aload_n 0, 1) := by decide +kernel
theorem dL_law_1389 : decode cL_law 1389 = .ok (.iload 4, 2) := by decide +kernel
theorem dL_law_1391 : decode cL_law 1391 = .ok (.iconst 4, 1) := by decide +kernel
theorem dL_law_1392 : decode cL_law 1392 = .ok (.iadd, 1) := by decide +kernel
theorem dL_law_1393 : decode cL_law 1393 = .ok (.iaload, 1) := by decide +kernel
theorem dL_law_1394 : decode cL_law 1394 = .ok (.invokevirtual 162, 3) := by decide +kernel
theorem dL_law_1397 : decode cL_law 1397 = .ok (.if_icmp .eq 118, 3) := by decide +kernel
theorem dL_law_1400 : decode cL_law 1400 = .ok (.iconst 0, 1) := by decide +kernel
theorem dL_law_1401 : decode cL_law 1401 = .ok (.ireturn, 1) := by decide +kernel
theorem dL_law_1402 : decode cL_law 1402 = .ok (.aload_n 1, 1) := by decide +kernel
theorem dL_law_1403 : decode cL_law 1403 = .ok (.aload_n 0, 1) := by decide +kernel
theorem dL_law_1404 : decode cL_law 1404 = .ok (.iload 4, 2) := by decide +kernel
theorem dL_law_1406 : decode cL_law 1406 = .ok (.iconst 1, 1) := by decide +kernel
theorem dL_law_1407 : decode cL_law 1407 = .ok (.iadd, 1) := by decide +kernel
theorem dL_law_1408 : decode cL_law 1408 = .ok (.iaload, 1) := by decide +kernel
theorem dL_law_1409 : decode cL_law 1409 = .ok (.aload_n 0, 1) := by decide +kernel
theorem dL_law_1410 : decode cL_law 1410 = .ok (.iload 4, 2) := by decide +kernel
theorem dL_law_1412 : decode cL_law 1412 = .ok (.iconst 2, 1) := by decide +kernel
theorem dL_law_1413 : decode cL_law 1413 = .ok (.iadd, 1) := by decide +kernel
theorem dL_law_1414 : decode cL_law 1414 = .ok (.iaload, 1) := by decide +kernel
theorem dL_law_1415 : decode cL_law 1415 = .ok (.aload_n 0, 1) := by decide +kernel
theorem dL_law_1416 : decode cL_law 1416 = .ok (.iload 4, 2) := by decide +kernel
theorem dL_law_1418 : decode cL_law 1418 = .ok (.iconst 3, 1) := by decide +kernel
theorem dL_law_1419 : decode cL_law 1419 = .ok (.iadd, 1) := by decide +kernel
theorem dL_law_1420 : decode cL_law 1420 = .ok (.iaload, 1) := by decide +kernel
theorem dL_law_1421 : decode cL_law 1421 = .ok (.invokevirtual 163, 3) := by decide +kernel
theorem dL_law_1424 : decode cL_law 1424 = .ok (.aload_n 2, 1) := by decide +kernel
theorem dL_law_1425 : decode cL_law 1425 = .ok (.aload_n 0, 1) := by decide +kernel
theorem dL_law_1426 : decode cL_law 1426 = .ok (.iload 4, 2) := by decide +kernel
theorem dL_law_1428 : decode cL_law 1428 = .ok (.iconst 1, 1) := by decide +kernel
theorem dL_law_1429 : decode cL_law 1429 = .ok (.iadd, 1) := by decide +kernel
theorem dL_law_1430 : decode cL_law 1430 = .ok (.iaload, 1) := by decide +kernel
theorem dL_law_1431 : decode cL_law 1431 = .ok (.aload_n 0, 1) := by decide +kernel
theorem dL_law_1432 : decode cL_law 1432 = .ok (.iload 4, 2) := by decide +kernel
theorem dL_law_1434 : decode cL_law 1434 = .ok (.iconst 2, 1) := by decide +kernel
theorem dL_law_1435 : decode cL_law 1435 = .ok (.iadd, 1) := by decide +kernel
theorem dL_law_1436 : decode cL_law 1436 = .ok (.iaload, 1) := by decide +kernel
theorem dL_law_1437 : decode cL_law 1437 = .ok (.aload_n 0, 1) := by decide +kernel
theorem dL_law_1438 : decode cL_law 1438 = .ok (.iload 4, 2) := by decide +kernel
theorem dL_law_1440 : decode cL_law 1440 = .ok (.iconst 3, 1) := by decide +kernel
theorem dL_law_1441 : decode cL_law 1441 = .ok (.iadd, 1) := by decide +kernel
theorem dL_law_1442 : decode cL_law 1442 = .ok (.iaload, 1) := by decide +kernel
theorem dL_law_1443 : decode cL_law 1443 = .ok (.invokevirtual 166, 3) := by decide +kernel
theorem dL_law_1446 : decode cL_law 1446 = .ok (.if_icmp .eq 69, 3) := by decide +kernel
theorem dL_law_1449 : decode cL_law 1449 = .ok (.iconst 0, 1) := by decide +kernel
theorem dL_law_1450 : decode cL_law 1450 = .ok (.ireturn, 1) := by decide +kernel
theorem dL_law_1451 : decode cL_law 1451 = .ok (.aload_n 1, 1) := by decide +kernel
theorem dL_law_1452 : decode cL_law 1452 = .ok (.invokevirtual 167, 3) := by decide +kernel
theorem dL_law_1455 : decode cL_law 1455 = .ok (.aload_n 2, 1) := by decide +kernel
theorem dL_law_1456 : decode cL_law 1456 = .ok (.invokevirtual 170, 3) := by decide +kernel
theorem dL_law_1459 : decode cL_law 1459 = .ok (.if_icmp .eq 56, 3) := by decide +kernel
theorem dL_law_1462 : decode cL_law 1462 = .ok (.iconst 0, 1) := by decide +kernel
theorem dL_law_1463 : decode cL_law 1463 = .ok (.ireturn, 1) := by decide +kernel
theorem dL_law_1464 : decode cL_law 1464 = .ok (.aload_n 1, 1) := by decide +kernel
theorem dL_law_1465 : decode cL_law 1465 = .ok (.invokevirtual 171, 3) := by decide +kernel
theorem dL_law_1468 : decode cL_law 1468 = .ok (.aload_n 2, 1) := by decide +kernel
theorem dL_law_1469 : decode cL_law 1469 = .ok (.invokevirtual 174, 3) := by decide +kernel
theorem dL_law_1472 : decode cL_law 1472 = .ok (.if_icmp .eq 43, 3) := by decide +kernel
theorem dL_law_1475 : decode cL_law 1475 = .ok (.iconst 0, 1) := by decide +kernel
theorem dL_law_1476 : decode cL_law 1476 = .ok (.ireturn, 1) := by decide +kernel
theorem dL_law_1477 : decode cL_law 1477 = .ok (.aload_n 1, 1) := by decide +kernel
theorem dL_law_1478 : decode cL_law 1478 = .ok (.invokevirtual 175, 3) := by decide +kernel
theorem dL_law_1481 : decode cL_law 1481 = .ok (.aload_n 2, 1) := by decide +kernel
theorem dL_law_1482 : decode cL_law 1482 = .ok (.invokevirtual 178, 3) := by decide +kernel
theorem dL_law_1485 : decode cL_law 1485 = .ok (.if_icmp .eq 30, 3) := by decide +kernel
theorem dL_law_1488 : decode cL_law 1488 = .ok (.iconst 0, 1) := by decide +kernel
theorem dL_law_1489 : decode cL_law 1489 = .ok (.ireturn, 1) := by decide +kernel
theorem dL_law_1490 : decode cL_law 1490 = .ok (.aload_n 1, 1) := by decide +kernel
theorem dL_law_1491 : decode cL_law 1491 = .ok (.aload_n 0, 1) := by decide +kernel
theorem dL_law_1492 : decode cL_law 1492 = .ok (.iload 4, 2) := by decide +kernel
theorem dL_law_1494 : decode cL_law 1494 = .ok (.iconst 1, 1) := by decide +kernel
theorem dL_law_1495 : decode cL_law 1495 = .ok (.iadd, 1) := by decide +kernel
theorem dL_law_1496 : decode cL_law 1496 = .ok (.iaload, 1) := by decide +kernel
theorem dL_law_1497 : decode cL_law 1497 = .ok (.invokevirtual 179, 3) := by decide +kernel
theorem dL_law_1500 : decode cL_law 1500 = .ok (.aload_n 2, 1) := by decide +kernel
theorem dL_law_1501 : decode cL_law 1501 = .ok (.aload_n 0, 1) := by decide +kernel
theorem dL_law_1502 : decode cL_law 1502 = .ok (.iload 4, 2) := by decide +kernel
theorem dL_law_1504 : decode cL_law 1504 = .ok (.iconst 1, 1) := by decide +kernel
theorem dL_law_1505 : decode cL_law 1505 = .ok (.iadd, 1) := by decide +kernel
theorem dL_law_1506 : decode cL_law 1506 = .ok (.iaload, 1) := by decide +kernel
theorem dL_law_1507 : decode cL_law 1507 = .ok (.invokevirtual 182, 3) := by decide +kernel
theorem dL_law_1510 : decode cL_law 1510 = .ok (.if_icmp .eq 5, 3) := by decide +kernel
theorem dL_law_1513 : decode cL_law 1513 = .ok (.iconst 0, 1) := by decide +kernel
theorem dL_law_1514 : decode cL_law 1514 = .ok (.ireturn, 1) := by decide +kernel
theorem dL_law_1515 : decode cL_law 1515 = .ok (.iinc 4 6, 3) := by decide +kernel
theorem dL_law_1518 : decode cL_law 1518 = .ok (.goto (-1495), 3) := by decide +kernel
theorem dL_law_1521 : decode cL_law 1521 = .ok (.iconst 1, 1) := by decide +kernel
theorem dL_law_1522 : decode cL_law 1522 = .ok (.ireturn, 1) := by decide +kernel
