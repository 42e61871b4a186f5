theorem dX12_readAnd_9 : decode cX12_readAnd 9 = .ok (.aload_n 0, 1) := by decide +kernel
theorem dX12_readAnd_10 : decode cX12_readAnd 10 = .ok (.getfield 386, 3) := by decide +kernel
theorem dX12_readAnd_13 : decode cX12_readAnd 13 = .ok (.istore_n 1, 1) := by decide +kernel
theorem dX12_readAnd_14 : decode cX12_readAnd 14 = .ok (.aload_n 0, 1) := by decide +kernel
theorem dX12_readAnd_15 : decode cX12_readAnd 15 = .ok (.bipush 17, 2) := by decide +kernel
theorem dX12_readAnd_17 : decode cX12_readAnd 17 = .ok (.invokevirtual 191, 3) := by decide +kernel
theorem dX12_readAnd_20 : decode cX12_readAnd 20 = .ok (.ifCond .eq 31, 3) := by decide +kernel
theorem dX12_readAnd_23 : decode cX12_readAnd 23 = .ok (.aload_n 0, 1) := by decide +kernel
theorem dX12_readAnd_24 : decode cX12_readAnd 24 = .ok (.invokevirtual 156, 3) := by decide +kernel
theorem dX12_readAnd_27 : decode cX12_readAnd 27 = .ok (.aload_n 0, 1) := by decide +kernel
theorem dX12_readAnd_28 : decode cX12_readAnd 28 = .ok (.invokevirtual 392, 3) := by decide +kernel
theorem dX12_readAnd_31 : decode cX12_readAnd 31 = .ok (.ifCond .ne 5, 3) := by decide +kernel
theorem dX12_readAnd_34 : decode cX12_readAnd 34 = .ok (.iconst 0, 1) := by decide +kernel
theorem dX12_readAnd_35 : decode cX12_readAnd 35 = .ok (.ireturn, 1) := by decide +kernel
theorem dX12_readAnd_36 : decode cX12_readAnd 36 = .ok (.aload_n 0, 1) := by decide +kernel
theorem dX12_readAnd_37 : decode cX12_readAnd 37 = .ok (.iconst 2, 1) := by decide +kernel
theorem dX12_readAnd_38 : decode cX12_readAnd 38 = .ok (.iload_n 1, 1) := by decide +kernel
theorem dX12_readAnd_39 : decode cX12_readAnd 39 = .ok (.aload_n 0, 1) := by decide +kernel
theorem dX12_readAnd_40 : decode cX12_readAnd 40 = .ok (.getfield 386, 3) := by decide +kernel
theorem dX12_readAnd_43 : decode cX12_readAnd 43 = .ok (.iconst 0, 1) := by decide +kernel
theorem dX12_readAnd_44 : decode cX12_readAnd 44 = .ok (.invokevirtual 389, 3) := by decide +kernel
theorem dX12_readAnd_47 : decode cX12_readAnd 47 = .ok (.istore_n 1, 1) := by decide +kernel
theorem dX12_readAnd_48 : decode cX12_readAnd 48 = .ok (.goto (-34), 3) := by decide +kernel
theorem dX12_readAnd_51 : decode cX12_readAnd 51 = .ok (.aload_n 0, 1) := by decide +kernel
theorem dX12_readAnd_52 : decode cX12_readAnd 52 = .ok (.iload_n 1, 1) := by decide +kernel
theorem dX12_readAnd_53 : decode cX12_readAnd 53 = .ok (.putfield 386, 3) := by decide +kernel
theorem dX12_readAnd_56 : decode cX12_readAnd 56 = .ok (.iconst 1, 1) := by decide +kernel
theorem dX12_readAnd_57 : decode cX12_readAnd 57 = .ok (.ireturn, 1) := by decide +kernel
theorem dX12_readBracket_9 : decode cX12_readBracket 9 = .ok (.aload_n 0, 1) := by decide +kernel
theorem dX12_readBracket_10 : decode cX12_readBracket 10 = .ok (.bipush 41, 2) := by decide +kernel
theorem dX12_readBracket_12 : decode cX12_readBracket 12 = .ok (.invokevirtual 159, 3) := by decide +kernel
theorem dX12_readBracket_15 : decode cX12_readBracket 15 = .ok (.ifCond .ne 9, 3) := by decide +kernel
theorem dX12_readBracket_18 : decode cX12_readBracket 18 = .ok (.aload_n 0, 1) := by decide +kernel
theorem dX12_readBracket_19 : decode cX12_readBracket 19 = .ok (.iconst 1, 1) := by decide +kernel
theorem dX12_readBracket_20 : decode cX12_readBracket 20 = .ok (.invokevirtual 146, 3) := by decide +kernel
theorem dX12_readBracket_23 : decode cX12_readBracket 23 = .ok (.ireturn, 1) := by decide +kernel
theorem dX12_readBracket_24 : decode cX12_readBracket 24 = .ok (.aload_n 0, 1) := by decide +kernel
theorem dX12_readBracket_25 : decode cX12_readBracket 25 = .ok (.invokevirtual 156, 3) := by decide +kernel
theorem dX12_readBracket_28 : decode cX12_readBracket 28 = .ok (.iconst 1, 1) := by decide +kernel
theorem dX12_readBracket_29 : decode cX12_readBracket 29 = .ok (.ireturn, 1) := by decide +kernel
theorem dX12_readCompare_0 : decode cX12_readCompare 0 = .ok (.aload_n 0, 1) := by decide +kernel
theorem dX12_readCompare_1 : decode cX12_readCompare 1 = .ok (.bipush 60, 2) := by decide +kernel
theorem dX12_readCompare_3 : decode cX12_readCompare 3 = .ok (.invokevirtual 159, 3) := by decide +kernel
theorem dX12_readCompare_6 : decode cX12_readCompare 6 = .ok (.ifCond .ne 27, 3) := by decide +kernel
theorem dX12_readCompare_9 : decode cX12_readCompare 9 = .ok (.aload_n 0, 1) := by decide +kernel
theorem dX12_readCompare_10 : decode cX12_readCompare 10 = .ok (.bipush 61, 2) := by decide +kernel
theorem dX12_readCompare_12 : decode cX12_readCompare 12 = .ok (.invokevirtual 159, 3) := by decide +kernel
theorem dX12_readCompare_15 : decode cX12_readCompare 15 = .ok (.ifCond .ne 18, 3) := by decide +kernel
theorem dX12_readCompare_18 : decode cX12_readCompare 18 = .ok (.aload_n 0, 1) := by decide +kernel
theorem dX12_readCompare_19 : decode cX12_readCompare 19 = .ok (.bipush 62, 2) := by decide +kernel
theorem dX12_readCompare_21 : decode cX12_readCompare 21 = .ok (.invokevirtual 159, 3) := by decide +kernel
theorem dX12_readCompare_24 : decode cX12_readCompare 24 = .ok (.ifCond .ne 9, 3) := by decide +kernel
theorem dX12_readCompare_27 : decode cX12_readCompare 27 = .ok (.aload_n 0, 1) := by decide +kernel
theorem dX12_readCompare_28 : decode cX12_readCompare 28 = .ok (.iconst 1, 1) := by decide +kernel
theorem dX12_readCompare_29 : decode cX12_readCompare 29 = .ok (.invokevirtual 146, 3) := by decide +kernel
theorem dX12_readCompare_32 : decode cX12_readCompare 32 = .ok (.ireturn, 1) := by decide +kernel
theorem dX12_readCompare_33 : decode cX12_readCompare 33 = .ok (.aload_n 0, 1) := by decide +kernel
theorem dX12_readCompare_34 : decode cX12_readCompare 34 = .ok (.getfield 114, 3) := by decide +kernel
theorem dX12_readCompare_37 : decode cX12_readCompare 37 = .ok (.istore_n 2, 1) := by decide +kernel
theorem dX12_readCompare_38 : decode cX12_readCompare 38 = .ok (.aload_n 0, 1) := by decide +kernel
theorem dX12_readCompare_39 : decode cX12_readCompare 39 = .ok (.invokevirtual 156, 3) := by decide +kernel
theorem dX12_readCompare_42 : decode cX12_readCompare 42 = .ok (.aload_n 0, 1) := by decide +kernel
theorem dX12_readCompare_43 : decode cX12_readCompare 43 = .ok (.iconst 0, 1) := by decide +kernel
theorem dX12_readCompare_44 : decode cX12_readCompare 44 = .ok (.sipush 999, 3) := by decide +kernel
theorem dX12_readCompare_47 : decode cX12_readCompare 47 = .ok (.invokevirtual 184, 3) := by decide +kernel
theorem dX12_readCompare_50 : decode cX12_readCompare 50 = .ok (.ifCond .ne 5, 3) := by decide +kernel
theorem dX12_readCompare_53 : decode cX12_readCompare 53 = .ok (.iconst 0, 1) := by decide +kernel
theorem dX12_readCompare_54 : decode cX12_readCompare 54 = .ok (.ireturn, 1) := by decide +kernel
theorem dX12_readCompare_55 : decode cX12_readCompare 55 = .ok (.aload_n 0, 1) := by decide +kernel
theorem dX12_readCompare_56 : decode cX12_readCompare 56 = .ok (.aload_n 0, 1) := by decide +kernel
theorem dX12_readCompare_57 : decode cX12_readCompare 57 = .ok (.bipush 50, 2) := by decide +kernel
theorem dX12_readCompare_59 : decode cX12_readCompare 59 = .ok (.iload_n 1, 1) := by decide +kernel
theorem dX12_readCompare_60 : decode cX12_readCompare 60 = .ok (.iadd, 1) := by decide +kernel
theorem dX12_readCompare_61 : decode cX12_readCompare 61 = .ok (.iconst 0, 1) := by decide +kernel
theorem dX12_readCompare_62 : decode cX12_readCompare 62 = .ok (.aload_n 0, 1) := by decide +kernel
theorem dX12_readCompare_63 : decode cX12_readCompare 63 = .ok (.getfield 153, 3) := by decide +kernel
theorem dX12_readCompare_66 : decode cX12_readCompare 66 = .ok (.iload_n 2, 1) := by decide +kernel
theorem dX12_readCompare_67 : decode cX12_readCompare 67 = .ok (.invokevirtual 389, 3) := by decide +kernel
theorem dX12_readCompare_70 : decode cX12_readCompare 70 = .ok (.putfield 386, 3) := by decide +kernel
theorem dX12_readCompare_73 : decode cX12_readCompare 73 = .ok (.iconst 1, 1) := by decide +kernel
theorem dX12_readCompare_74 : decode cX12_readCompare 74 = .ok (.ireturn, 1) := by decide +kernel
theorem dX12_readNamed_0 : decode cX12_readNamed 0 = .ok (.aload_n 0, 1) := by decide +kernel
theorem dX12_readNamed_1 : decode cX12_readNamed 1 = .ok (.invokevirtual 166, 3) := by decide +kernel
theorem dX12_readNamed_4 : decode cX12_readNamed 4 = .ok (.ifCond .ne 9, 3) := by decide +kernel
theorem dX12_readNamed_7 : decode cX12_readNamed 7 = .ok (.aload_n 0, 1) := by decide +kernel
theorem dX12_readNamed_8 : decode cX12_readNamed 8 = .ok (.iconst 1, 1) := by decide +kernel
theorem dX12_readNamed_9 : decode cX12_readNamed 9 = .ok (.invokevirtual 146, 3) := by decide +kernel
theorem dX12_readNamed_12 : decode cX12_readNamed 12 = .ok (.ireturn, 1) := by decide +kernel
theorem dX12_readNamed_13 : decode cX12_readNamed 13 = .ok (.aload_n 0, 1) := by decide +kernel
theorem dX12_readNamed_14 : decode cX12_readNamed 14 = .ok (.aload_n 0, 1) := by decide +kernel
theorem dX12_readNamed_15 : decode cX12_readNamed 15 = .ok (.getfield 28, 3) := by decide +kernel
theorem dX12_readNamed_18 : decode cX12_readNamed 18 = .ok (.iload_n 1, 1) := by decide +kernel
theorem dX12_readNamed_19 : decode cX12_readNamed 19 = .ok (.iload_n 2, 1) := by decide +kernel
theorem dX12_readNamed_20 : decode cX12_readNamed 20 = .ok (.aload_n 0, 1) := by decide +kernel
theorem dX12_readNamed_21 : decode cX12_readNamed 21 = .ok (.getfield 117, 3) := by decide +kernel
theorem dX12_readNamed_24 : decode cX12_readNamed 24 = .ok (.invokestatic 170, 3) := by decide +kernel
theorem dX12_readNamed_27 : decode cX12_readNamed 27 = .ok (.putfield 153, 3) := by decide +kernel
theorem dX12_readNamed_30 : decode cX12_readNamed 30 = .ok (.aload_n 0, 1) := by decide +kernel
theorem dX12_readNamed_31 : decode cX12_readNamed 31 = .ok (.getfield 153, 3) := by decide +kernel
theorem dX12_readNamed_34 : decode cX12_readNamed 34 = .ok (.iconst (-1), 1) := by decide +kernel
theorem dX12_readNamed_35 : decode cX12_readNamed 35 = .ok (.if_icmp .ne 9, 3) := by decide +kernel
theorem dX12_readNamed_38 : decode cX12_readNamed 38 = .ok (.aload_n 0, 1) := by decide +kernel
theorem dX12_readNamed_39 : decode cX12_readNamed 39 = .ok (.iconst 3, 1) := by decide +kernel
theorem dX12_readNamed_40 : decode cX12_readNamed 40 = .ok (.invokevirtual 146, 3) := by decide +kernel
theorem dX12_readNamed_43 : decode cX12_readNamed 43 = .ok (.ireturn, 1) := by decide +kernel
theorem dX12_readNamed_44 : decode cX12_readNamed 44 = .ok (.aload_n 0, 1) := by decide +kernel
theorem dX12_readNamed_45 : decode cX12_readNamed 45 = .ok (.invokevirtual 156, 3) := by decide +kernel
theorem dX12_readNamed_48 : decode cX12_readNamed 48 = .ok (.iconst 1, 1) := by decide +kernel
theorem dX12_readNamed_49 : decode cX12_readNamed 49 = .ok (.ireturn, 1) := by decide +kernel
theorem dX12_readNot_0 : decode cX12_readNot 0 = .ok (.aload_n 0, 1) := by decide +kernel
theorem dX12_readNot_1 : decode cX12_readNot 1 = .ok (.invokevirtual 392, 3) := by decide +kernel
theorem dX12_readNot_4 : decode cX12_readNot 4 = .ok (.ifCond .ne 5, 3) := by decide +kernel
theorem dX12_readNot_7 : decode cX12_readNot 7 = .ok (.iconst 0, 1) := by decide +kernel
theorem dX12_readNot_8 : decode cX12_readNot 8 = .ok (.ireturn, 1) := by decide +kernel
theorem dX12_readNot_9 : decode cX12_readNot 9 = .ok (.aload_n 0, 1) := by decide +kernel
theorem dX12_readNot_10 : decode cX12_readNot 10 = .ok (.aload_n 0, 1) := by decide +kernel
theorem dX12_readNot_11 : decode cX12_readNot 11 = .ok (.iconst 1, 1) := by decide +kernel
theorem dX12_readNot_12 : decode cX12_readNot 12 = .ok (.aload_n 0, 1) := by decide +kernel
theorem dX12_readNot_13 : decode cX12_readNot 13 = .ok (.getfield 386, 3) := by decide +kernel
theorem dX12_readNot_16 : decode cX12_readNot 16 = .ok (.iconst 0, 1) := by decide +kernel
theorem dX12_readNot_17 : decode cX12_readNot 17 = .ok (.iconst 0, 1) := by decide +kernel
theorem dX12_readNot_18 : decode cX12_readNot 18 = .ok (.invokevirtual 389, 3) := by decide +kernel
theorem dX12_readNot_21 : decode cX12_readNot 21 = .ok (.putfield 386, 3) := by decide +kernel
theorem dX12_readNot_24 : decode cX12_readNot 24 = .ok (.iconst 1, 1) := by decide +kernel
theorem dX12_readNot_25 : decode cX12_readNot 25 = .ok (.ireturn, 1) := by decide +kernel
theorem dX12_readOf_0 : decode cX12_readOf 0 = .ok (.aload_n 0, 1) := by decide +kernel
theorem dX12_readOf_1 : decode cX12_readOf 1 = .ok (.iload_n 1, 1) := by decide +kernel
theorem dX12_readOf_2 : decode cX12_readOf 2 = .ok (.bipush 22, 2) := by decide +kernel
theorem dX12_readOf_4 : decode cX12_readOf 4 = .ok (.if_icmp .ne 7, 3) := by decide +kernel
theorem dX12_readOf_7 : decode cX12_readOf 7 = .ok (.iconst 0, 1) := by decide +kernel
theorem dX12_readOf_8 : decode cX12_readOf 8 = .ok (.goto 5, 3) := by decide +kernel
theorem dX12_readOf_11 : decode cX12_readOf 11 = .ok (.bipush 7, 2) := by decide +kernel
theorem dX12_readOf_13 : decode cX12_readOf 13 = .ok (.aload_n 0, 1) := by decide +kernel
theorem dX12_readOf_14 : decode cX12_readOf 14 = .ok (.getfield 13, 3) := by decide +kernel
theorem dX12_readOf_17 : decode cX12_readOf 17 = .ok (.iload_n 1, 1) := by decide +kernel
theorem dX12_readOf_18 : decode cX12_readOf 18 = .ok (.bipush 22, 2) := by decide +kernel
theorem dX12_readOf_20 : decode cX12_readOf 20 = .ok (.if_icmp .ne 7, 3) := by decide +kernel
theorem dX12_readOf_23 : decode cX12_readOf 23 = .ok (.iconst 0, 1) := by decide +kernel
theorem dX12_readOf_24 : decode cX12_readOf 24 = .ok (.goto 4, 3) := by decide +kernel
theorem dX12_readOf_27 : decode cX12_readOf 27 = .ok (.iconst 1, 1) := by decide +kernel
theorem dX12_readOf_28 : decode cX12_readOf 28 = .ok (.iaload, 1) := by decide +kernel
theorem dX12_readOf_29 : decode cX12_readOf 29 = .ok (.invokevirtual 416, 3) := by decide +kernel
theorem dX12_readOf_32 : decode cX12_readOf 32 = .ok (.ifCond .ne 5, 3) := by decide +kernel
theorem dX12_readOf_35 : decode cX12_readOf 35 = .ok (.iconst 0, 1) := by decide +kernel
theorem dX12_readOf_36 : decode cX12_readOf 36 = .ok (.ireturn, 1) := by decide +kernel
theorem dX12_readOf_37 : decode cX12_readOf 37 = .ok (.aload_n 0, 1) := by decide +kernel
theorem dX12_readOf_38 : decode cX12_readOf 38 = .ok (.aload_n 0, 1) := by decide +kernel
theorem dX12_readOf_39 : decode cX12_readOf 39 = .ok (.bipush 50, 2) := by decide +kernel
theorem dX12_readOf_41 : decode cX12_readOf 41 = .ok (.iload_n 1, 1) := by decide +kernel
theorem dX12_readOf_42 : decode cX12_readOf 42 = .ok (.iadd, 1) := by decide +kernel
theorem dX12_readOf_43 : decode cX12_readOf 43 = .ok (.aload_n 0, 1) := by decide +kernel
theorem dX12_readOf_44 : decode cX12_readOf 44 = .ok (.getfield 153, 3) := by decide +kernel
theorem dX12_readOf_47 : decode cX12_readOf 47 = .ok (.iconst 0, 1) := by decide +kernel
theorem dX12_readOf_48 : decode cX12_readOf 48 = .ok (.iconst 0, 1) := by decide +kernel
theorem dX12_readOf_49 : decode cX12_readOf 49 = .ok (.invokevirtual 389, 3) := by decide +kernel
theorem dX12_readOf_52 : decode cX12_readOf 52 = .ok (.putfield 386, 3) := by decide +kernel
theorem dX12_readOf_55 : decode cX12_readOf 55 = .ok (.iconst 1, 1) := by decide +kernel
theorem dX12_readOf_56 : decode cX12_readOf 56 = .ok (.ireturn, 1) := by decide +kernel
theorem dX12_readOr_9 : decode cX12_readOr 9 = .ok (.aload_n 0, 1) := by decide +kernel
theorem dX12_readOr_10 : decode cX12_readOr 10 = .ok (.getfield 386, 3) := by decide +kernel
theorem dX12_readOr_13 : decode cX12_readOr 13 = .ok (.istore_n 1, 1) := by decide +kernel
theorem dX12_readOr_14 : decode cX12_readOr 14 = .ok (.aload_n 0, 1) := by decide +kernel
theorem dX12_readOr_15 : decode cX12_readOr 15 = .ok (.bipush 16, 2) := by decide +kernel
theorem dX12_readOr_17 : decode cX12_readOr 17 = .ok (.invokevirtual 191, 3) := by decide +kernel
theorem dX12_readOr_20 : decode cX12_readOr 20 = .ok (.ifCond .eq 31, 3) := by decide +kernel
theorem dX12_readOr_23 : decode cX12_readOr 23 = .ok (.aload_n 0, 1) := by decide +kernel
theorem dX12_readOr_24 : decode cX12_readOr 24 = .ok (.invokevirtual 156, 3) := by decide +kernel
theorem dX12_readOr_27 : decode cX12_readOr 27 = .ok (.aload_n 0, 1) := by decide +kernel
theorem dX12_readOr_28 : decode cX12_readOr 28 = .ok (.invokevirtual 383, 3) := by decide +kernel
theorem dX12_readOr_31 : decode cX12_readOr 31 = .ok (.ifCond .ne 5, 3) := by decide +kernel
theorem dX12_readOr_34 : decode cX12_readOr 34 = .ok (.iconst 0, 1) := by decide +kernel
theorem dX12_readOr_35 : decode cX12_readOr 35 = .ok (.ireturn, 1) := by decide +kernel
theorem dX12_readOr_36 : decode cX12_readOr 36 = .ok (.aload_n 0, 1) := by decide +kernel
theorem dX12_readOr_37 : decode cX12_readOr 37 = .ok (.iconst 3, 1) := by decide +kernel
theorem dX12_readOr_38 : decode cX12_readOr 38 = .ok (.iload_n 1, 1) := by decide +kernel
theorem dX12_readOr_39 : decode cX12_readOr 39 = .ok (.aload_n 0, 1) := by decide +kernel
theorem dX12_readOr_40 : decode cX12_readOr 40 = .ok (.getfield 386, 3) := by decide +kernel
theorem dX12_readOr_43 : decode cX12_readOr 43 = .ok (.iconst 0, 1) := by decide +kernel
theorem dX12_readOr_44 : decode cX12_readOr 44 = .ok (.invokevirtual 389, 3) := by decide +kernel
theorem dX12_readOr_47 : decode cX12_readOr 47 = .ok (.istore_n 1, 1) := by decide +kernel
theorem dX12_readOr_48 : decode cX12_readOr 48 = .ok (.goto (-34), 3) := by decide +kernel
theorem dX12_readOr_51 : decode cX12_readOr 51 = .ok (.aload_n 0, 1) := by decide +kernel
theorem dX12_readOr_52 : decode cX12_readOr 52 = .ok (.iload_n 1, 1) := by decide +kernel
theorem dX12_readOr_53 : decode cX12_readOr 53 = .ok (.putfield 386, 3) := by decide +kernel
theorem dX12_readOr_56 : decode cX12_readOr 56 = .ok (.iconst 1, 1) := by decide +kernel
theorem dX12_readOr_57 : decode cX12_readOr 57 = .ok (.ireturn, 1) := by decide +kernel
theorem dX12_readSaid_70 : decode cX12_readSaid 70 = .ok (.aload_n 0, 1) := by decide +kernel
theorem dX12_readSaid_71 : decode cX12_readSaid 71 = .ok (.dup, 1) := by decide +kernel
theorem dX12_readSaid_72 : decode cX12_readSaid 72 = .ok (.getfield 395, 3) := by decide +kernel
theorem dX12_readSaid_75 : decode cX12_readSaid 75 = .ok (.iconst 1, 1) := by decide +kernel
theorem dX12_readSaid_76 : decode cX12_readSaid 76 = .ok (.iadd, 1) := by decide +kernel
theorem dX12_readSaid_77 : decode cX12_readSaid 77 = .ok (.putfield 395, 3) := by decide +kernel
theorem dX12_readSaid_80 : decode cX12_readSaid 80 = .ok (.aload_n 0, 1) := by decide +kernel
theorem dX12_readSaid_81 : decode cX12_readSaid 81 = .ok (.dup, 1) := by decide +kernel
theorem dX12_readSaid_82 : decode cX12_readSaid 82 = .ok (.getfield 398, 3) := by decide +kernel
theorem dX12_readSaid_85 : decode cX12_readSaid 85 = .ok (.iconst 1, 1) := by decide +kernel
theorem dX12_readSaid_86 : decode cX12_readSaid 86 = .ok (.iadd, 1) := by decide +kernel
theorem dX12_readSaid_87 : decode cX12_readSaid 87 = .ok (.putfield 398, 3) := by decide +kernel
theorem dX12_readSaid_90 : decode cX12_readSaid 90 = .ok (.aload_n 0, 1) := by decide +kernel
theorem dX12_readSaid_91 : decode cX12_readSaid 91 = .ok (.invokevirtual 156, 3) := by decide +kernel
theorem dX12_readSaid_94 : decode cX12_readSaid 94 = .ok (.iconst 1, 1) := by decide +kernel
theorem dX12_readSaid_95 : decode cX12_readSaid 95 = .ok (.istore_n 3, 1) := by decide +kernel
theorem dX12_readSaid_96 : decode cX12_readSaid 96 = .ok (.iload_n 1, 1) := by decide +kernel
theorem dX12_readSaid_97 : decode cX12_readSaid 97 = .ok (.ifCond .eq 11, 3) := by decide +kernel
theorem dX12_readSaid_100 : decode cX12_readSaid 100 = .ok (.aload_n 0, 1) := by decide +kernel
theorem dX12_readSaid_101 : decode cX12_readSaid 101 = .ok (.invokevirtual 401, 3) := by decide +kernel
theorem dX12_readSaid_104 : decode cX12_readSaid 104 = .ok (.istore_n 3, 1) := by decide +kernel
theorem dX12_readSaid_105 : decode cX12_readSaid 105 = .ok (.goto 61, 3) := by decide +kernel
theorem dX12_readSaid_108 : decode cX12_readSaid 108 = .ok (.iload_n 2, 1) := by decide +kernel
theorem dX12_readSaid_109 : decode cX12_readSaid 109 = .ok (.bipush 18, 2) := by decide +kernel
theorem dX12_readSaid_111 : decode cX12_readSaid 111 = .ok (.if_icmp .ne 11, 3) := by decide +kernel
theorem dX12_readSaid_114 : decode cX12_readSaid 114 = .ok (.aload_n 0, 1) := by decide +kernel
theorem dX12_readSaid_115 : decode cX12_readSaid 115 = .ok (.invokevirtual 404, 3) := by decide +kernel
theorem dX12_readSaid_118 : decode cX12_readSaid 118 = .ok (.istore_n 3, 1) := by decide +kernel
theorem dX12_readSaid_119 : decode cX12_readSaid 119 = .ok (.goto 47, 3) := by decide +kernel
theorem dX12_readSaid_122 : decode cX12_readSaid 122 = .ok (.iload_n 2, 1) := by decide +kernel
theorem dX12_readSaid_123 : decode cX12_readSaid 123 = .ok (.bipush 22, 2) := by decide +kernel
theorem dX12_readSaid_125 : decode cX12_readSaid 125 = .ok (.if_icmp .ge 21, 3) := by decide +kernel
theorem dX12_readSaid_128 : decode cX12_readSaid 128 = .ok (.aload_n 0, 1) := by decide +kernel
theorem dX12_readSaid_129 : decode cX12_readSaid 129 = .ok (.aload_n 0, 1) := by decide +kernel
theorem dX12_readSaid_130 : decode cX12_readSaid 130 = .ok (.bipush 50, 2) := by decide +kernel
theorem dX12_readSaid_132 : decode cX12_readSaid 132 = .ok (.iload_n 2, 1) := by decide +kernel
theorem dX12_readSaid_133 : decode cX12_readSaid 133 = .ok (.iadd, 1) := by decide +kernel
theorem dX12_readSaid_134 : decode cX12_readSaid 134 = .ok (.iconst 0, 1) := by decide +kernel
theorem dX12_readSaid_135 : decode cX12_readSaid 135 = .ok (.iconst 0, 1) := by decide +kernel
theorem dX12_readSaid_136 : decode cX12_readSaid 136 = .ok (.iconst 0, 1) := by decide +kernel
theorem dX12_readSaid_137 : decode cX12_readSaid 137 = .ok (.invokevirtual 389, 3) := by decide +kernel
theorem dX12_readSaid_140 : decode cX12_readSaid 140 = .ok (.putfield 386, 3) := by decide +kernel
theorem dX12_readSaid_143 : decode cX12_readSaid 143 = .ok (.goto 23, 3) := by decide +kernel
theorem dX12_readSaid_146 : decode cX12_readSaid 146 = .ok (.iload_n 2, 1) := by decide +kernel
theorem dX12_readSaid_147 : decode cX12_readSaid 147 = .ok (.bipush 24, 2) := by decide +kernel
theorem dX12_readSaid_149 : decode cX12_readSaid 149 = .ok (.if_icmp .ge 11, 3) := by decide +kernel
theorem dX12_readSaid_152 : decode cX12_readSaid 152 = .ok (.aload_n 0, 1) := by decide +kernel
theorem dX12_readSaid_153 : decode cX12_readSaid 153 = .ok (.iload_n 2, 1) := by decide +kernel
theorem dX12_readSaid_154 : decode cX12_readSaid 154 = .ok (.invokevirtual 407, 3) := by decide +kernel
theorem dX12_readSaid_157 : decode cX12_readSaid 157 = .ok (.goto 8, 3) := by decide +kernel
theorem dX12_readSaid_160 : decode cX12_readSaid 160 = .ok (.aload_n 0, 1) := by decide +kernel
theorem dX12_readSaid_161 : decode cX12_readSaid 161 = .ok (.iload_n 2, 1) := by decide +kernel
theorem dX12_readSaid_162 : decode cX12_readSaid 162 = .ok (.invokevirtual 410, 3) := by decide +kernel
theorem dX12_readSaid_165 : decode cX12_readSaid 165 = .ok (.istore_n 3, 1) := by decide +kernel
theorem dX12_readSaid_166 : decode cX12_readSaid 166 = .ok (.aload_n 0, 1) := by decide +kernel
theorem dX12_readSaid_167 : decode cX12_readSaid 167 = .ok (.dup, 1) := by decide +kernel
theorem dX12_readSaid_168 : decode cX12_readSaid 168 = .ok (.getfield 398, 3) := by decide +kernel
theorem dX12_readSaid_171 : decode cX12_readSaid 171 = .ok (.iconst 1, 1) := by decide +kernel
theorem dX12_readSaid_172 : decode cX12_readSaid 172 = .ok (.isub, 1) := by decide +kernel
theorem dX12_readSaid_173 : decode cX12_readSaid 173 = .ok (.putfield 398, 3) := by decide +kernel
theorem dX12_readSaid_176 : decode cX12_readSaid 176 = .ok (.iload_n 3, 1) := by decide +kernel
theorem dX12_readSaid_177 : decode cX12_readSaid 177 = .ok (.ireturn, 1) := by decide +kernel
set_option maxRecDepth 100000 in
set_option maxHeartbeats 8000000 in
theorem c_X12_readCompare {l : Launch} {D : va_G} {cy : Nat → ClassId} {L : List Nat} {κ ln : Nat → Nat} {R : Nat → Nat → Option Nat} {I : Nat → Nat → Int32} {J : Nat → Nat → Int64} {ow : Nat → Nat × Nat} (W9 : ∀ a ∈ L, Shp L κ ln R ow a) {x : Nat} (hLx : x ∈ L) (hkx : κ x = 12) (a0 : Int32) (ra0 : Rg 24 27 a0) (hU : Iw L κ R ow I) (hn : (I x 47).toInt ≤ 2 * (I x 48).toInt) : CtI l yX12_readCompare cX12_readCompare 3 (some .boolean) { frames := 3, cells := 0, slots := 0, locals := 67 } D cy L κ ln R I J [.ref x, .int a0] (fun r I2 J2 => Iw L κ R ow I2 ∧ Fq L κ ow [1205, 1206, 1207, 1208, 1209, 1210, 1211, 1213, 1247, 1250, 86600] I I2 ∧ Fq L κ ow [1212] J J2 ∧ Rg 0 1 r ∧ ((r, MTf R I2 J2 x, NRf R I2 J2 x, QTf R I2 J2 x) = mCmp (MTf R I J x) (NRf R I J x) (QTf R I J x)) ∧ (¬ r = 0 → Sl_ x I I2)) := by
  obtain ⟨x_1, hx_1, rx_1⟩ := ex_getw (I := I) (a := x) (j := 47) (lo := 0) (hi := 60) hU.1 hLx (ro_o hkx (by decide)) rfl
  obtain ⟨x_2, hx_2, rx_2⟩ := ex_getw (I := I) (a := x) (j := 48) (lo := 0) (hi := 20) hU.1 hLx (ro_o hkx (by decide)) rfl
  rw [hx_1, hx_2] at hn
  obtain ⟨x_3, hx_3, rx_3⟩ := ex_getw (I := I) (a := x) (j := 50) (lo := 0) (hi := 59) hU.1 hLx (ro_o hkx (by decide)) rfl
  refine CtI.of (by decide +kernel) (Nat.le_of_ble_eq_true rfl) ?_
  intro p e s m below meth c B K
  have C := B.1
  have hF : Fq L κ ow [1205, 1206, 1207, 1208, 1209, 1210, 1211, 1213, 1247, 1250, 86600] I I := fq_rf
  have hG : Fq L κ ow [1212] J J := fq_rf
  obtain ⟨b_4, hb_4, hb_4L, hb_4k, hb_4n, hb_4o⟩ := shp_a (W9 x hLx) hkx 1 14 940 rfl (by decide)
  have emqx : ∀ I J, MTf R I J x = MTq I J x b_4 := fun I J => by simp only [MTf, rr_, Option.getD_some, hb_4]
  have wmqx : mqw_ L κ ow x b_4 := ⟨⟨hLx, hb_4L⟩, ⟨(ro_o hkx (by decide)), (ro_a hb_4k (by decide) hb_4o hkx rfl)⟩⟩
  obtain ⟨s_5, hs_5⟩ : ∃ z, MTq I J x b_4 = z := ⟨_, rfl⟩
  obtain ⟨b_6, hb_6, hb_6L, hb_6k, hb_6n, hb_6o⟩ := shp_a (W9 x hLx) hkx 15 14 72 rfl (by decide)
  obtain ⟨b_7, hb_7, hb_7L, hb_7k, hb_7n, hb_7o⟩ := shp_a (W9 x hLx) hkx 20 15 13 rfl (by decide)
  have enqx : ∀ I J, NRf R I J x = NRq I J x b_6 b_7 := fun I J => by simp only [NRf, rr_, Option.getD_some, hb_6, hb_7]
  have wnqx : nqw_ L κ ow x b_6 b_7 := ⟨⟨hLx, hb_6L, hb_7L⟩, ⟨(ro_o hkx (by decide)), (ro_a hb_6k (by decide) hb_6o hkx rfl), (ro_a hb_7k (by decide) hb_7o hkx rfl)⟩⟩
  obtain ⟨s_8, hs_8⟩ : ∃ z, NRq I J x b_6 b_7 = z := ⟨_, rfl⟩
  have eqqx : ∀ I J, QTf R I J x = QTq I J x := fun I J => by simp only [QTf, rr_, Option.getD_some]
  have wqqx : qqw_ L κ ow x := ⟨hLx, (ro_o hkx (by decide))⟩
  obtain ⟨s_9, hs_9⟩ : ∃ z, QTq I J x = z := ⟨_, rfl⟩
  refine g_lo (is := [0, 1]) (lo2 := [(0, .ref x), (1, .int a0)]) rfl ?_
  refine g_aload_n C 0 dX12_readCompare_0 rfl rfl ?_
  refine g_bipush C (v := 60) dX12_readCompare_1 (by decide) ?_
  obtain ⟨x_10, hx_10, rx_10⟩ := ex_getw (I := I) (a := x) (j := 7) (lo := 0) (hi := 4) hU.1 hLx (ro_o hkx (by decide)) rfl
  have f_11 : s_5.kind = x_10 := (congrArg MT_.kind hs_5).symm.trans hx_10
  refine g_callVI C K (c_X12_isSign W9 hLx hkx 60 (rg_w rc_60 (by decide) (by decide)) hU) hLx hkx (by decide) rfl v_12_159 rfl ⟨rfl, rfl⟩ ⟨Nat.le_of_ble_eq_true rfl, Nat.le_of_ble_eq_true rfl⟩ (Nat.le_of_ble_eq_true rfl) ⟨Nat.le_of_ble_eq_true rfl, Nat.le_of_ble_eq_true rfl⟩ dX12_readCompare_3 rfl (st := []) (fun x_12 I_13 J_14 h_15 => ?_)
  obtain ⟨rfl, rfl, rx_12, fx_12, ex_12⟩ := h_15
  have c_16 : mIsSign (60) (s_5) = x_12 := by have q := fx_12; simp only [emqx, hs_5] at q; exact q.symm
  have q_17 := hx_10
  refine g_if_ne C (tgt := 33) dX12_readCompare_6 (by decide) (fun h_18 => ?_) (fun h_18 => ?_)
  · skip
    have n_19 : ¬ x_12 = 0 := h_18
    have r_20 := ne_lo (lo := 1) n_19 rx_12 rc_0 rfl (by decide)
    have r_21 := rg_i rx_10 (eq_rg q_17.symm ((ex_12) n_19)) (lo := 4) (hi := 4) (by decide) (by decide)
    refine g_aload_n C 0 dX12_readCompare_33 rfl rfl ?_
    obtain ⟨x_22, hx_22, rx_22⟩ := ex_getw (I := I) (a := x) (j := 9) (lo := (-2147483648)) (hi := 2147483647) hU.1 hLx (ro_o hkx (by decide)) rfl
    have f_23 : s_5.sign = x_22 := (congrArg MT_.sign hs_5).symm.trans hx_22
    refine g_getI C K hLx hkx f_12_114 (v := x_22) hx_22 dX12_readCompare_34 ?_
    refine g_istore_n C dX12_readCompare_37 rfl (by decide) (lo2 := [(2, .int x_22), (0, .ref x), (1, .int a0)]) rfl ?_
    refine g_aload_n C 1 dX12_readCompare_38 rfl rfl ?_
    refine g_callVV C K (c_X12_go W9 hLx hkx   hU) hLx hkx (by decide) rfl v_12_156 rfl ⟨rfl, rfl⟩ ⟨Nat.le_of_ble_eq_true rfl, Nat.le_of_ble_eq_true rfl⟩ (Nat.le_of_ble_eq_true rfl) ⟨Nat.le_of_ble_eq_true rfl, Nat.le_of_ble_eq_true rfl⟩ dX12_readCompare_39 rfl (st := []) (fun I_25 J_26 h_27 => ?_)
    obtain ⟨hUI_25, hFI_25, hGJ_26, fx_24, ex_24⟩ := h_27
    have hF_28 := fq_tr hF hFI_25 (by decide)
    have hG_29 := fq_tr hG hGJ_26 (by decide)
    obtain ⟨s_31, hs_31⟩ : ∃ z, MTq I_25 J_26 x b_4 = z := ⟨_, rfl⟩
    have c_30 : mGo (s_5) = s_31 := by have q := fx_24; simp only [emqx, hs_5, hs_31] at q; exact q.symm
    have hs_32 : NRq I_25 J_26 x b_6 b_7 = s_8 := (nq_fq wnqx hFI_25 hGJ_26 (by decide) (by decide)).trans hs_8
    have hs_33 : QTq I_25 J_26 x = s_9 := (qq_fq wqqx hFI_25 hGJ_26 (by decide) (by decide)).trans hs_9
    refine g_aload_n C 1 dX12_readCompare_42 rfl rfl ?_
    refine g_iconst C (v := 0) dX12_readCompare_43 (by decide) ?_
    refine g_sipush C (v := 999) dX12_readCompare_44 (by decide) ?_
    obtain ⟨x_34, hx_34, rx_34⟩ := ex_getw (I := I_25) (a := x) (j := 13) (lo := (-2147483648)) (hi := 2147483647) hUI_25.1 hLx (ro_o hkx (by decide)) rfl
    have f_35 : s_8.told = x_34 := (congrArg NR_.told hs_32).symm.trans hx_34
    refine g_callVI C K (c_X12_readNumber_0_999 W9 hLx hkx   hUI_25) hLx hkx (by decide) rfl v_12_184 rfl ⟨rfl, rfl⟩ ⟨Nat.le_of_ble_eq_true rfl, Nat.le_of_ble_eq_true rfl⟩ (Nat.le_of_ble_eq_true rfl) ⟨Nat.le_of_ble_eq_true rfl, Nat.le_of_ble_eq_true rfl⟩ dX12_readCompare_47 rfl (st := []) (fun x_36 I_37 J_38 h_39 => ?_)
    obtain ⟨hUI_37, hFI_37, hGJ_38, rx_36, fx_36, ex_36⟩ := h_39
    have hF_40 := fq_tr hF_28 hFI_37 (by decide)
    have hG_41 := fq_tr hG_29 hGJ_38 (by decide)
    obtain ⟨s_43, hs_43⟩ : ∃ z, MTq I_37 J_38 x b_4 = z := ⟨_, rfl⟩
    obtain ⟨s_44, hs_44⟩ : ∃ z, NRq I_37 J_38 x b_6 b_7 = z := ⟨_, rfl⟩
    have c_42 : mReadNumber (0) (999) (s_31) (s_8) = (x_36, s_43, s_44) := by have q := fx_36; simp only [emqx, enqx, hs_31, hs_32, hs_43, hs_44] at q; exact q.symm
    have hs_45 : QTq I_37 J_38 x = s_9 := (qq_fq wqqx hFI_37 hGJ_38 (by decide) (by decide)).trans hs_33
    obtain ⟨x_46, hx_46, rx_46⟩ := ex_getw (I := I_37) (a := x) (j := 13) (lo := (-2147483648)) (hi := 2147483647) hUI_37.1 hLx (ro_o hkx (by decide)) rfl
    have f_47 : s_44.told = x_46 := (congrArg NR_.told hs_44).symm.trans hx_46
    have q_48 := hx_46
    refine g_if_ne C (tgt := 55) dX12_readCompare_50 (by decide) (fun h_49 => ?_) (fun h_49 => ?_)
    · skip
      have n_50 : ¬ x_36 = 0 := h_49
      have r_51 := ne_lo (lo := 1) n_50 rx_36 rc_0 rfl (by decide)
      have r_52 := rg_i rx_46 (eq_rg q_48.symm ((ex_36.2) n_50)) (lo := 0) (hi := 999) (by decide) (by decide)
      refine g_aload_n C 1 dX12_readCompare_55 rfl rfl ?_
      refine g_aload_n C 1 dX12_readCompare_56 rfl rfl ?_
      refine g_bipush C (v := 50) dX12_readCompare_57 (by decide) ?_
      refine g_iload_n C 2 dX12_readCompare_59 rfl rfl ?_
      obtain ⟨x_53, hx_53, rx_53, tx_53⟩ := ex_add 74 77 rc_50 ra0 (by decide) (by decide) (by decide) (by decide)
      refine g_iadd C (v := x_53) dX12_readCompare_60 hx_53 ?_
      refine g_iconst C (v := 0) dX12_readCompare_61 (by decide) ?_
      refine g_aload_n C 1 dX12_readCompare_62 rfl rfl ?_
      refine g_getI C K hLx hkx f_12_153 (v := x_46) hx_46 dX12_readCompare_63 ?_
      refine g_iload_n C 0 dX12_readCompare_66 rfl rfl ?_
      have f_54 : s_9.om = x_2 := (congrArg QT_.om hs_45).symm.trans (fq_at hFI_37 hLx hkx (by decide) (by decide) (fq_at hFI_25 hLx hkx (by decide) (by decide) hx_2))
      have r_55 := (show Rg 0 59 x_1 from by have q1 := rx_1; have q2 := rx_2; unfold Rg at *; omega)
      refine g_callVI C K (c_X12_saysOne W9 hLx hkx x_53 0 x_46 x_22 (rg_w rx_53 (by decide) (by decide)) (rg_w rc_0 (by decide) (by decide)) (r_52) hUI_37  (eq_rg (fq_at hFI_37 hLx hkx (by decide) (by decide) (fq_at hFI_25 hLx hkx (by decide) (by decide) hx_1)) (r_55)) (by rw [(fq_at hFI_37 hLx hkx (by decide) (by decide) (fq_at hFI_25 hLx hkx (by decide) (by decide) hx_1))]; exact ⟨fun q => by rcases q with q | q | q; exact absurd q (rg_nek rx_53 rc_1 (by decide)); exact absurd q (rg_nek rx_53 rc_2 (by decide)); exact absurd q (rg_nek rx_53 rc_3 (by decide)), fun q => by rcases q with q | q; exact absurd q (rg_nek rx_53 rc_2 (by decide)); exact absurd q (rg_nek rx_53 rc_3 (by decide)), fun q => absurd q (rg_nek rx_53 rc_73 (by decide))⟩)) hLx hkx (by decide) rfl v_12_389 rfl ⟨rfl, rfl⟩ ⟨Nat.le_of_ble_eq_true rfl, Nat.le_of_ble_eq_true rfl⟩ (Nat.le_of_ble_eq_true rfl) ⟨Nat.le_of_ble_eq_true rfl, Nat.le_of_ble_eq_true rfl⟩ dX12_readCompare_67 rfl (st := [.ref x]) (fun x_56 I_57 J_58 h_59 => ?_)
      obtain ⟨hUI_57, hFI_57, hGJ_58, rx_56, ex_56⟩ := h_59
      have hF_60 := fq_tr hF_40 hFI_57 (by decide)
      have hG_61 := fq_tr hG_41 hGJ_58 (by decide)
      have hs_62 : MTq I_57 J_58 x b_4 = s_43 := (mq_fq wmqx hFI_57 hGJ_58 (by decide) (by decide)).trans hs_43
      have hs_63 : NRq I_57 J_58 x b_6 b_7 = s_44 := (nq_fq wnqx hFI_57 hGJ_58 (by decide) (by decide)).trans hs_44
      have hs_64 : QTq I_57 J_58 x = s_9 := (qq_fq wqqx hFI_57 hGJ_58 (by decide) (by decide)).trans hs_45
      obtain ⟨x_65, hx_65, rx_65, tx_65, ux_65⟩ := sa_b (lo := 1) (hi := 60) ex_56 (fq_at hFI_37 hLx hkx (by decide) (by decide) (fq_at hFI_25 hLx hkx (by decide) (by decide) hx_1)) r_55 (by decide) (by decide)
      have r_66 := (show Rg 0 59 x_56 from by have q1 := ux_65; have q2 := r_55; unfold Rg at *; omega)
      refine h_putI C K hLx hkx f_12_386 p_12_50 dX12_readCompare_70 (fun I_67 hI_67 => ?_)
      have hU_68 := iw_put W9 hUI_57 hI_67 (ro_o hkx (by decide)) (lo := 0) (hi := 59) (rfl) (r_66) rfl
      have hF_69 := fq_puto hF_60 hI_67 hkx (by decide) (by decide)
      have hs_70 : MTq I_67 J_58 x b_4 = s_43 := by rw [hI_67]; exact (mq_uIt wmqx (by decide)).trans hs_62
      have hs_71 : NRq I_67 J_58 x b_6 b_7 = s_44 := by rw [hI_67]; exact (nq_uIt wnqx (by decide)).trans hs_63
      have hs_72 : QTq I_67 J_58 x = s_9 := by rw [hI_67]; exact (qq_uIt wqqx (by decide)).trans hs_64
      refine g_iconst C (v := 1) dX12_readCompare_73 (by decide) ?_
      exact g_zret (ty := .boolean) (r := 1) B K rfl (rfl) ⟨hU_68, hF_69, hG_61, rg_w rc_1 (by decide) (by decide), (by simp only [mCmp, mCmp2, mOf2, mBadQ, emqx, hs_70, hs_5, enqx, hs_71, hs_8, eqqx, hs_72, hs_9, hx_1, hx_2, hx_3, hx_10, f_11, c_16, h_18, hx_22, f_23, c_30, hx_34, f_35, c_42, hx_46, f_47, h_49, hx_53, f_54, hx_65, if_true, if_false, mqM_tp, mqM_size, mqM_limit, mqM_to, mqM_frm, mqM_kind, mqM_number, mqM_sign, mqM_word, MT_.w_tp, MT_.w_size, MT_.w_limit, MT_.w_to, MT_.w_frm, MT_.w_kind, MT_.w_number, MT_.w_sign, MT_.w_word, nqM_rd, nqM_rn, nqM_taped, nqM_mfault, nqM_mplace, nqM_told, nqM_hl, nqM_hd, NR_.w_rd, NR_.w_rn, NR_.w_taped, NR_.w_mfault, NR_.w_mplace, NR_.w_told, NR_.w_hl, NR_.w_hd, qqM_om, QT_.w_om]), (fun _ => (sl_m hx_1 (kp_j hI_67 (by decide) hx_65) (kp_s hI_67) ⟨by have := tx_65; omega, by have := tx_65; omega⟩))⟩ dX12_readCompare_74
    · skip
      have r_73 := (⟨(rx_36).1, (eq_rg (h_49) rc_0).2⟩ : Rg 0 0 x_36)
      refine g_iconst C (v := 0) dX12_readCompare_53 (by decide) ?_
      exact g_zret (ty := .boolean) (r := 0) B K rfl (rfl) ⟨hUI_37, hF_40, hG_41, rg_w rc_0 (by decide) (by decide), (by simp only [mCmp, mCmp2, mOf2, mBadQ, emqx, hs_43, hs_5, enqx, hs_44, hs_8, eqqx, hs_45, hs_9, hx_1, hx_2, hx_3, hx_10, f_11, c_16, h_18, hx_22, f_23, c_30, hx_34, f_35, c_42, hx_46, f_47, (eq_true h_49), if_true, if_false, mqM_tp, mqM_size, mqM_limit, mqM_to, mqM_frm, mqM_kind, mqM_number, mqM_sign, mqM_word, MT_.w_tp, MT_.w_size, MT_.w_limit, MT_.w_to, MT_.w_frm, MT_.w_kind, MT_.w_number, MT_.w_sign, MT_.w_word, nqM_rd, nqM_rn, nqM_taped, nqM_mfault, nqM_mplace, nqM_told, nqM_hl, nqM_hd, NR_.w_rd, NR_.w_rn, NR_.w_taped, NR_.w_mfault, NR_.w_mplace, NR_.w_told, NR_.w_hl, NR_.w_hd, qqM_om, QT_.w_om]), (fun q => absurd rfl q)⟩ dX12_readCompare_54
  · skip
    have r_74 := (⟨(rx_12).1, (eq_rg (h_18) rc_0).2⟩ : Rg 0 0 x_12)
    refine g_aload_n C 0 dX12_readCompare_9 rfl rfl ?_
    refine g_bipush C (v := 61) dX12_readCompare_10 (by decide) ?_
    refine g_callVI C K (c_X12_isSign W9 hLx hkx 61 (rg_w rc_61 (by decide) (by decide)) hU) hLx hkx (by decide) rfl v_12_159 rfl ⟨rfl, rfl⟩ ⟨Nat.le_of_ble_eq_true rfl, Nat.le_of_ble_eq_true rfl⟩ (Nat.le_of_ble_eq_true rfl) ⟨Nat.le_of_ble_eq_true rfl, Nat.le_of_ble_eq_true rfl⟩ dX12_readCompare_12 rfl (st := []) (fun x_75 I_76 J_77 h_78 => ?_)
    obtain ⟨rfl, rfl, rx_75, fx_75, ex_75⟩ := h_78
    have c_79 : mIsSign (61) (s_5) = x_75 := by have q := fx_75; simp only [emqx, hs_5] at q; exact q.symm
    have q_80 := hx_10
    refine g_if_ne C (tgt := 33) dX12_readCompare_15 (by decide) (fun h_81 => ?_) (fun h_81 => ?_)
    · skip
      have n_82 : ¬ x_75 = 0 := h_81
      have r_83 := ne_lo (lo := 1) n_82 rx_75 rc_0 rfl (by decide)
      have r_84 := rg_i rx_10 (eq_rg q_80.symm ((ex_75) n_82)) (lo := 4) (hi := 4) (by decide) (by decide)
      refine g_aload_n C 0 dX12_readCompare_33 rfl rfl ?_
      obtain ⟨x_85, hx_85, rx_85⟩ := ex_getw (I := I) (a := x) (j := 9) (lo := (-2147483648)) (hi := 2147483647) hU.1 hLx (ro_o hkx (by decide)) rfl
      have f_86 : s_5.sign = x_85 := (congrArg MT_.sign hs_5).symm.trans hx_85
      refine g_getI C K hLx hkx f_12_114 (v := x_85) hx_85 dX12_readCompare_34 ?_
      refine g_istore_n C dX12_readCompare_37 rfl (by decide) (lo2 := [(2, .int x_85), (0, .ref x), (1, .int a0)]) rfl ?_
      refine g_aload_n C 1 dX12_readCompare_38 rfl rfl ?_
      refine g_callVV C K (c_X12_go W9 hLx hkx   hU) hLx hkx (by decide) rfl v_12_156 rfl ⟨rfl, rfl⟩ ⟨Nat.le_of_ble_eq_true rfl, Nat.le_of_ble_eq_true rfl⟩ (Nat.le_of_ble_eq_true rfl) ⟨Nat.le_of_ble_eq_true rfl, Nat.le_of_ble_eq_true rfl⟩ dX12_readCompare_39 rfl (st := []) (fun I_88 J_89 h_90 => ?_)
      obtain ⟨hUI_88, hFI_88, hGJ_89, fx_87, ex_87⟩ := h_90
      have hF_91 := fq_tr hF hFI_88 (by decide)
      have hG_92 := fq_tr hG hGJ_89 (by decide)
      obtain ⟨s_94, hs_94⟩ : ∃ z, MTq I_88 J_89 x b_4 = z := ⟨_, rfl⟩
      have c_93 : mGo (s_5) = s_94 := by have q := fx_87; simp only [emqx, hs_5, hs_94] at q; exact q.symm
      have hs_95 : NRq I_88 J_89 x b_6 b_7 = s_8 := (nq_fq wnqx hFI_88 hGJ_89 (by decide) (by decide)).trans hs_8
      have hs_96 : QTq I_88 J_89 x = s_9 := (qq_fq wqqx hFI_88 hGJ_89 (by decide) (by decide)).trans hs_9
      refine g_aload_n C 1 dX12_readCompare_42 rfl rfl ?_
      refine g_iconst C (v := 0) dX12_readCompare_43 (by decide) ?_
      refine g_sipush C (v := 999) dX12_readCompare_44 (by decide) ?_
      obtain ⟨x_97, hx_97, rx_97⟩ := ex_getw (I := I_88) (a := x) (j := 13) (lo := (-2147483648)) (hi := 2147483647) hUI_88.1 hLx (ro_o hkx (by decide)) rfl
      have f_98 : s_8.told = x_97 := (congrArg NR_.told hs_95).symm.trans hx_97
      refine g_callVI C K (c_X12_readNumber_0_999 W9 hLx hkx   hUI_88) hLx hkx (by decide) rfl v_12_184 rfl ⟨rfl, rfl⟩ ⟨Nat.le_of_ble_eq_true rfl, Nat.le_of_ble_eq_true rfl⟩ (Nat.le_of_ble_eq_true rfl) ⟨Nat.le_of_ble_eq_true rfl, Nat.le_of_ble_eq_true rfl⟩ dX12_readCompare_47 rfl (st := []) (fun x_99 I_100 J_101 h_102 => ?_)
      obtain ⟨hUI_100, hFI_100, hGJ_101, rx_99, fx_99, ex_99⟩ := h_102
      have hF_103 := fq_tr hF_91 hFI_100 (by decide)
      have hG_104 := fq_tr hG_92 hGJ_101 (by decide)
      obtain ⟨s_106, hs_106⟩ : ∃ z, MTq I_100 J_101 x b_4 = z := ⟨_, rfl⟩
      obtain ⟨s_107, hs_107⟩ : ∃ z, NRq I_100 J_101 x b_6 b_7 = z := ⟨_, rfl⟩
      have c_105 : mReadNumber (0) (999) (s_94) (s_8) = (x_99, s_106, s_107) := by have q := fx_99; simp only [emqx, enqx, hs_94, hs_95, hs_106, hs_107] at q; exact q.symm
      have hs_108 : QTq I_100 J_101 x = s_9 := (qq_fq wqqx hFI_100 hGJ_101 (by decide) (by decide)).trans hs_96
      obtain ⟨x_109, hx_109, rx_109⟩ := ex_getw (I := I_100) (a := x) (j := 13) (lo := (-2147483648)) (hi := 2147483647) hUI_100.1 hLx (ro_o hkx (by decide)) rfl
      have f_110 : s_107.told = x_109 := (congrArg NR_.told hs_107).symm.trans hx_109
      have q_111 := hx_109
      refine g_if_ne C (tgt := 55) dX12_readCompare_50 (by decide) (fun h_112 => ?_) (fun h_112 => ?_)
      · skip
        have n_113 : ¬ x_99 = 0 := h_112
        have r_114 := ne_lo (lo := 1) n_113 rx_99 rc_0 rfl (by decide)
        have r_115 := rg_i rx_109 (eq_rg q_111.symm ((ex_99.2) n_113)) (lo := 0) (hi := 999) (by decide) (by decide)
        refine g_aload_n C 1 dX12_readCompare_55 rfl rfl ?_
        refine g_aload_n C 1 dX12_readCompare_56 rfl rfl ?_
        refine g_bipush C (v := 50) dX12_readCompare_57 (by decide) ?_
        refine g_iload_n C 2 dX12_readCompare_59 rfl rfl ?_
        obtain ⟨x_116, hx_116, rx_116, tx_116⟩ := ex_add 74 77 rc_50 ra0 (by decide) (by decide) (by decide) (by decide)
        refine g_iadd C (v := x_116) dX12_readCompare_60 hx_116 ?_
        refine g_iconst C (v := 0) dX12_readCompare_61 (by decide) ?_
        refine g_aload_n C 1 dX12_readCompare_62 rfl rfl ?_
        refine g_getI C K hLx hkx f_12_153 (v := x_109) hx_109 dX12_readCompare_63 ?_
        refine g_iload_n C 0 dX12_readCompare_66 rfl rfl ?_
        have f_117 : s_9.om = x_2 := (congrArg QT_.om hs_108).symm.trans (fq_at hFI_100 hLx hkx (by decide) (by decide) (fq_at hFI_88 hLx hkx (by decide) (by decide) hx_2))
        have r_118 := (show Rg 0 59 x_1 from by have q1 := rx_1; have q2 := rx_2; unfold Rg at *; omega)
        refine g_callVI C K (c_X12_saysOne W9 hLx hkx x_116 0 x_109 x_85 (rg_w rx_116 (by decide) (by decide)) (rg_w rc_0 (by decide) (by decide)) (r_115) hUI_100  (eq_rg (fq_at hFI_100 hLx hkx (by decide) (by decide) (fq_at hFI_88 hLx hkx (by decide) (by decide) hx_1)) (r_118)) (by rw [(fq_at hFI_100 hLx hkx (by decide) (by decide) (fq_at hFI_88 hLx hkx (by decide) (by decide) hx_1))]; exact ⟨fun q => by rcases q with q | q | q; exact absurd q (rg_nek rx_116 rc_1 (by decide)); exact absurd q (rg_nek rx_116 rc_2 (by decide)); exact absurd q (rg_nek rx_116 rc_3 (by decide)), fun q => by rcases q with q | q; exact absurd q (rg_nek rx_116 rc_2 (by decide)); exact absurd q (rg_nek rx_116 rc_3 (by decide)), fun q => absurd q (rg_nek rx_116 rc_73 (by decide))⟩)) hLx hkx (by decide) rfl v_12_389 rfl ⟨rfl, rfl⟩ ⟨Nat.le_of_ble_eq_true rfl, Nat.le_of_ble_eq_true rfl⟩ (Nat.le_of_ble_eq_true rfl) ⟨Nat.le_of_ble_eq_true rfl, Nat.le_of_ble_eq_true rfl⟩ dX12_readCompare_67 rfl (st := [.ref x]) (fun x_119 I_120 J_121 h_122 => ?_)
        obtain ⟨hUI_120, hFI_120, hGJ_121, rx_119, ex_119⟩ := h_122
        have hF_123 := fq_tr hF_103 hFI_120 (by decide)
        have hG_124 := fq_tr hG_104 hGJ_121 (by decide)
        have hs_125 : MTq I_120 J_121 x b_4 = s_106 := (mq_fq wmqx hFI_120 hGJ_121 (by decide) (by decide)).trans hs_106
        have hs_126 : NRq I_120 J_121 x b_6 b_7 = s_107 := (nq_fq wnqx hFI_120 hGJ_121 (by decide) (by decide)).trans hs_107
        have hs_127 : QTq I_120 J_121 x = s_9 := (qq_fq wqqx hFI_120 hGJ_121 (by decide) (by decide)).trans hs_108
        obtain ⟨x_128, hx_128, rx_128, tx_128, ux_128⟩ := sa_b (lo := 1) (hi := 60) ex_119 (fq_at hFI_100 hLx hkx (by decide) (by decide) (fq_at hFI_88 hLx hkx (by decide) (by decide) hx_1)) r_118 (by decide) (by decide)
        have r_129 := (show Rg 0 59 x_119 from by have q1 := ux_128; have q2 := r_118; unfold Rg at *; omega)
        refine h_putI C K hLx hkx f_12_386 p_12_50 dX12_readCompare_70 (fun I_130 hI_130 => ?_)
        have hU_131 := iw_put W9 hUI_120 hI_130 (ro_o hkx (by decide)) (lo := 0) (hi := 59) (rfl) (r_129) rfl
        have hF_132 := fq_puto hF_123 hI_130 hkx (by decide) (by decide)
        have hs_133 : MTq I_130 J_121 x b_4 = s_106 := by rw [hI_130]; exact (mq_uIt wmqx (by decide)).trans hs_125
        have hs_134 : NRq I_130 J_121 x b_6 b_7 = s_107 := by rw [hI_130]; exact (nq_uIt wnqx (by decide)).trans hs_126
        have hs_135 : QTq I_130 J_121 x = s_9 := by rw [hI_130]; exact (qq_uIt wqqx (by decide)).trans hs_127
        refine g_iconst C (v := 1) dX12_readCompare_73 (by decide) ?_
        exact g_zret (ty := .boolean) (r := 1) B K rfl (rfl) ⟨hU_131, hF_132, hG_124, rg_w rc_1 (by decide) (by decide), (by simp only [mCmp, mCmp2, mOf2, mBadQ, emqx, hs_133, hs_5, enqx, hs_134, hs_8, eqqx, hs_135, hs_9, hx_1, hx_2, hx_3, hx_10, f_11, c_16, (eq_true h_18), c_79, h_81, hx_85, f_86, c_93, hx_97, f_98, c_105, hx_109, f_110, h_112, hx_116, f_117, hx_128, if_true, if_false, mqM_tp, mqM_size, mqM_limit, mqM_to, mqM_frm, mqM_kind, mqM_number, mqM_sign, mqM_word, MT_.w_tp, MT_.w_size, MT_.w_limit, MT_.w_to, MT_.w_frm, MT_.w_kind, MT_.w_number, MT_.w_sign, MT_.w_word, nqM_rd, nqM_rn, nqM_taped, nqM_mfault, nqM_mplace, nqM_told, nqM_hl, nqM_hd, NR_.w_rd, NR_.w_rn, NR_.w_taped, NR_.w_mfault, NR_.w_mplace, NR_.w_told, NR_.w_hl, NR_.w_hd, qqM_om, QT_.w_om]), (fun _ => (sl_m hx_1 (kp_j hI_130 (by decide) hx_128) (kp_s hI_130) ⟨by have := tx_128; omega, by have := tx_128; omega⟩))⟩ dX12_readCompare_74
      · skip
        have r_136 := (⟨(rx_99).1, (eq_rg (h_112) rc_0).2⟩ : Rg 0 0 x_99)
        refine g_iconst C (v := 0) dX12_readCompare_53 (by decide) ?_
        exact g_zret (ty := .boolean) (r := 0) B K rfl (rfl) ⟨hUI_100, hF_103, hG_104, rg_w rc_0 (by decide) (by decide), (by simp only [mCmp, mCmp2, mOf2, mBadQ, emqx, hs_106, hs_5, enqx, hs_107, hs_8, eqqx, hs_108, hs_9, hx_1, hx_2, hx_3, hx_10, f_11, c_16, (eq_true h_18), c_79, h_81, hx_85, f_86, c_93, hx_97, f_98, c_105, hx_109, f_110, (eq_true h_112), if_true, if_false, mqM_tp, mqM_size, mqM_limit, mqM_to, mqM_frm, mqM_kind, mqM_number, mqM_sign, mqM_word, MT_.w_tp, MT_.w_size, MT_.w_limit, MT_.w_to, MT_.w_frm, MT_.w_kind, MT_.w_number, MT_.w_sign, MT_.w_word, nqM_rd, nqM_rn, nqM_taped, nqM_mfault, nqM_mplace, nqM_told, nqM_hl, nqM_hd, NR_.w_rd, NR_.w_rn, NR_.w_taped, NR_.w_mfault, NR_.w_mplace, NR_.w_told, NR_.w_hl, NR_.w_hd, qqM_om, QT_.w_om]), (fun q => absurd rfl q)⟩ dX12_readCompare_54
    · skip
      have r_137 := (⟨(rx_75).1, (eq_rg (h_81) rc_0).2⟩ : Rg 0 0 x_75)
      refine g_aload_n C 0 dX12_readCompare_18 rfl rfl ?_
      refine g_bipush C (v := 62) dX12_readCompare_19 (by decide) ?_
      refine g_callVI C K (c_X12_isSign W9 hLx hkx 62 (rg_w rc_62 (by decide) (by decide)) hU) hLx hkx (by decide) rfl v_12_159 rfl ⟨rfl, rfl⟩ ⟨Nat.le_of_ble_eq_true rfl, Nat.le_of_ble_eq_true rfl⟩ (Nat.le_of_ble_eq_true rfl) ⟨Nat.le_of_ble_eq_true rfl, Nat.le_of_ble_eq_true rfl⟩ dX12_readCompare_21 rfl (st := []) (fun x_138 I_139 J_140 h_141 => ?_)
      obtain ⟨rfl, rfl, rx_138, fx_138, ex_138⟩ := h_141
      have c_142 : mIsSign (62) (s_5) = x_138 := by have q := fx_138; simp only [emqx, hs_5] at q; exact q.symm
      have q_143 := hx_10
      refine g_if_ne C (tgt := 33) dX12_readCompare_24 (by decide) (fun h_144 => ?_) (fun h_144 => ?_)
      · skip
        have n_145 : ¬ x_138 = 0 := h_144
        have r_146 := ne_lo (lo := 1) n_145 rx_138 rc_0 rfl (by decide)
        have r_147 := rg_i rx_10 (eq_rg q_143.symm ((ex_138) n_145)) (lo := 4) (hi := 4) (by decide) (by decide)
        refine g_aload_n C 0 dX12_readCompare_33 rfl rfl ?_
        obtain ⟨x_148, hx_148, rx_148⟩ := ex_getw (I := I) (a := x) (j := 9) (lo := (-2147483648)) (hi := 2147483647) hU.1 hLx (ro_o hkx (by decide)) rfl
        have f_149 : s_5.sign = x_148 := (congrArg MT_.sign hs_5).symm.trans hx_148
        refine g_getI C K hLx hkx f_12_114 (v := x_148) hx_148 dX12_readCompare_34 ?_
        refine g_istore_n C dX12_readCompare_37 rfl (by decide) (lo2 := [(2, .int x_148), (0, .ref x), (1, .int a0)]) rfl ?_
        refine g_aload_n C 1 dX12_readCompare_38 rfl rfl ?_
        refine g_callVV C K (c_X12_go W9 hLx hkx   hU) hLx hkx (by decide) rfl v_12_156 rfl ⟨rfl, rfl⟩ ⟨Nat.le_of_ble_eq_true rfl, Nat.le_of_ble_eq_true rfl⟩ (Nat.le_of_ble_eq_true rfl) ⟨Nat.le_of_ble_eq_true rfl, Nat.le_of_ble_eq_true rfl⟩ dX12_readCompare_39 rfl (st := []) (fun I_151 J_152 h_153 => ?_)
        obtain ⟨hUI_151, hFI_151, hGJ_152, fx_150, ex_150⟩ := h_153
        have hF_154 := fq_tr hF hFI_151 (by decide)
        have hG_155 := fq_tr hG hGJ_152 (by decide)
        obtain ⟨s_157, hs_157⟩ : ∃ z, MTq I_151 J_152 x b_4 = z := ⟨_, rfl⟩
        have c_156 : mGo (s_5) = s_157 := by have q := fx_150; simp only [emqx, hs_5, hs_157] at q; exact q.symm
        have hs_158 : NRq I_151 J_152 x b_6 b_7 = s_8 := (nq_fq wnqx hFI_151 hGJ_152 (by decide) (by decide)).trans hs_8
        have hs_159 : QTq I_151 J_152 x = s_9 := (qq_fq wqqx hFI_151 hGJ_152 (by decide) (by decide)).trans hs_9
        refine g_aload_n C 1 dX12_readCompare_42 rfl rfl ?_
        refine g_iconst C (v := 0) dX12_readCompare_43 (by decide) ?_
        refine g_sipush C (v := 999) dX12_readCompare_44 (by decide) ?_
        obtain ⟨x_160, hx_160, rx_160⟩ := ex_getw (I := I_151) (a := x) (j := 13) (lo := (-2147483648)) (hi := 2147483647) hUI_151.1 hLx (ro_o hkx (by decide)) rfl
        have f_161 : s_8.told = x_160 := (congrArg NR_.told hs_158).symm.trans hx_160
        refine g_callVI C K (c_X12_readNumber_0_999 W9 hLx hkx   hUI_151) hLx hkx (by decide) rfl v_12_184 rfl ⟨rfl, rfl⟩ ⟨Nat.le_of_ble_eq_true rfl, Nat.le_of_ble_eq_true rfl⟩ (Nat.le_of_ble_eq_true rfl) ⟨Nat.le_of_ble_eq_true rfl, Nat.le_of_ble_eq_true rfl⟩ dX12_readCompare_47 rfl (st := []) (fun x_162 I_163 J_164 h_165 => ?_)
        obtain ⟨hUI_163, hFI_163, hGJ_164, rx_162, fx_162, ex_162⟩ := h_165
        have hF_166 := fq_tr hF_154 hFI_163 (by decide)
        have hG_167 := fq_tr hG_155 hGJ_164 (by decide)
        obtain ⟨s_169, hs_169⟩ : ∃ z, MTq I_163 J_164 x b_4 = z := ⟨_, rfl⟩
        obtain ⟨s_170, hs_170⟩ : ∃ z, NRq I_163 J_164 x b_6 b_7 = z := ⟨_, rfl⟩
        have c_168 : mReadNumber (0) (999) (s_157) (s_8) = (x_162, s_169, s_170) := by have q := fx_162; simp only [emqx, enqx, hs_157, hs_158, hs_169, hs_170] at q; exact q.symm
        have hs_171 : QTq I_163 J_164 x = s_9 := (qq_fq wqqx hFI_163 hGJ_164 (by decide) (by decide)).trans hs_159
        obtain ⟨x_172, hx_172, rx_172⟩ := ex_getw (I := I_163) (a := x) (j := 13) (lo := (-2147483648)) (hi := 2147483647) hUI_163.1 hLx (ro_o hkx (by decide)) rfl
        have f_173 : s_170.told = x_172 := (congrArg NR_.told hs_170).symm.trans hx_172
        have q_174 := hx_172
        refine g_if_ne C (tgt := 55) dX12_readCompare_50 (by decide) (fun h_175 => ?_) (fun h_175 => ?_)
        · skip
          have n_176 : ¬ x_162 = 0 := h_175
          have r_177 := ne_lo (lo := 1) n_176 rx_162 rc_0 rfl (by decide)
          have r_178 := rg_i rx_172 (eq_rg q_174.symm ((ex_162.2) n_176)) (lo := 0) (hi := 999) (by decide) (by decide)
          refine g_aload_n C 1 dX12_readCompare_55 rfl rfl ?_
          refine g_aload_n C 1 dX12_readCompare_56 rfl rfl ?_
          refine g_bipush C (v := 50) dX12_readCompare_57 (by decide) ?_
          refine g_iload_n C 2 dX12_readCompare_59 rfl rfl ?_
          obtain ⟨x_179, hx_179, rx_179, tx_179⟩ := ex_add 74 77 rc_50 ra0 (by decide) (by decide) (by decide) (by decide)
          refine g_iadd C (v := x_179) dX12_readCompare_60 hx_179 ?_
          refine g_iconst C (v := 0) dX12_readCompare_61 (by decide) ?_
          refine g_aload_n C 1 dX12_readCompare_62 rfl rfl ?_
          refine g_getI C K hLx hkx f_12_153 (v := x_172) hx_172 dX12_readCompare_63 ?_
          refine g_iload_n C 0 dX12_readCompare_66 rfl rfl ?_
          have f_180 : s_9.om = x_2 := (congrArg QT_.om hs_171).symm.trans (fq_at hFI_163 hLx hkx (by decide) (by decide) (fq_at hFI_151 hLx hkx (by decide) (by decide) hx_2))
          have r_181 := (show Rg 0 59 x_1 from by have q1 := rx_1; have q2 := rx_2; unfold Rg at *; omega)
          refine g_callVI C K (c_X12_saysOne W9 hLx hkx x_179 0 x_172 x_148 (rg_w rx_179 (by decide) (by decide)) (rg_w rc_0 (by decide) (by decide)) (r_178) hUI_163  (eq_rg (fq_at hFI_163 hLx hkx (by decide) (by decide) (fq_at hFI_151 hLx hkx (by decide) (by decide) hx_1)) (r_181)) (by rw [(fq_at hFI_163 hLx hkx (by decide) (by decide) (fq_at hFI_151 hLx hkx (by decide) (by decide) hx_1))]; exact ⟨fun q => by rcases q with q | q | q; exact absurd q (rg_nek rx_179 rc_1 (by decide)); exact absurd q (rg_nek rx_179 rc_2 (by decide)); exact absurd q (rg_nek rx_179 rc_3 (by decide)), fun q => by rcases q with q | q; exact absurd q (rg_nek rx_179 rc_2 (by decide)); exact absurd q (rg_nek rx_179 rc_3 (by decide)), fun q => absurd q (rg_nek rx_179 rc_73 (by decide))⟩)) hLx hkx (by decide) rfl v_12_389 rfl ⟨rfl, rfl⟩ ⟨Nat.le_of_ble_eq_true rfl, Nat.le_of_ble_eq_true rfl⟩ (Nat.le_of_ble_eq_true rfl) ⟨Nat.le_of_ble_eq_true rfl, Nat.le_of_ble_eq_true rfl⟩ dX12_readCompare_67 rfl (st := [.ref x]) (fun x_182 I_183 J_184 h_185 => ?_)
          obtain ⟨hUI_183, hFI_183, hGJ_184, rx_182, ex_182⟩ := h_185
          have hF_186 := fq_tr hF_166 hFI_183 (by decide)
          have hG_187 := fq_tr hG_167 hGJ_184 (by decide)
          have hs_188 : MTq I_183 J_184 x b_4 = s_169 := (mq_fq wmqx hFI_183 hGJ_184 (by decide) (by decide)).trans hs_169
          have hs_189 : NRq I_183 J_184 x b_6 b_7 = s_170 := (nq_fq wnqx hFI_183 hGJ_184 (by decide) (by decide)).trans hs_170
          have hs_190 : QTq I_183 J_184 x = s_9 := (qq_fq wqqx hFI_183 hGJ_184 (by decide) (by decide)).trans hs_171
          obtain ⟨x_191, hx_191, rx_191, tx_191, ux_191⟩ := sa_b (lo := 1) (hi := 60) ex_182 (fq_at hFI_163 hLx hkx (by decide) (by decide) (fq_at hFI_151 hLx hkx (by decide) (by decide) hx_1)) r_181 (by decide) (by decide)
          have r_192 := (show Rg 0 59 x_182 from by have q1 := ux_191; have q2 := r_181; unfold Rg at *; omega)
          refine h_putI C K hLx hkx f_12_386 p_12_50 dX12_readCompare_70 (fun I_193 hI_193 => ?_)
          have hU_194 := iw_put W9 hUI_183 hI_193 (ro_o hkx (by decide)) (lo := 0) (hi := 59) (rfl) (r_192) rfl
          have hF_195 := fq_puto hF_186 hI_193 hkx (by decide) (by decide)
          have hs_196 : MTq I_193 J_184 x b_4 = s_169 := by rw [hI_193]; exact (mq_uIt wmqx (by decide)).trans hs_188
          have hs_197 : NRq I_193 J_184 x b_6 b_7 = s_170 := by rw [hI_193]; exact (nq_uIt wnqx (by decide)).trans hs_189
          have hs_198 : QTq I_193 J_184 x = s_9 := by rw [hI_193]; exact (qq_uIt wqqx (by decide)).trans hs_190
          refine g_iconst C (v := 1) dX12_readCompare_73 (by decide) ?_
          exact g_zret (ty := .boolean) (r := 1) B K rfl (rfl) ⟨hU_194, hF_195, hG_187, rg_w rc_1 (by decide) (by decide), (by simp only [mCmp, mCmp2, mOf2, mBadQ, emqx, hs_196, hs_5, enqx, hs_197, hs_8, eqqx, hs_198, hs_9, hx_1, hx_2, hx_3, hx_10, f_11, c_16, (eq_true h_18), c_79, (eq_true h_81), c_142, h_144, hx_148, f_149, c_156, hx_160, f_161, c_168, hx_172, f_173, h_175, hx_179, f_180, hx_191, if_true, if_false, mqM_tp, mqM_size, mqM_limit, mqM_to, mqM_frm, mqM_kind, mqM_number, mqM_sign, mqM_word, MT_.w_tp, MT_.w_size, MT_.w_limit, MT_.w_to, MT_.w_frm, MT_.w_kind, MT_.w_number, MT_.w_sign, MT_.w_word, nqM_rd, nqM_rn, nqM_taped, nqM_mfault, nqM_mplace, nqM_told, nqM_hl, nqM_hd, NR_.w_rd, NR_.w_rn, NR_.w_taped, NR_.w_mfault, NR_.w_mplace, NR_.w_told, NR_.w_hl, NR_.w_hd, qqM_om, QT_.w_om]), (fun _ => (sl_m hx_1 (kp_j hI_193 (by decide) hx_191) (kp_s hI_193) ⟨by have := tx_191; omega, by have := tx_191; omega⟩))⟩ dX12_readCompare_74
        · skip
          have r_199 := (⟨(rx_162).1, (eq_rg (h_175) rc_0).2⟩ : Rg 0 0 x_162)
          refine g_iconst C (v := 0) dX12_readCompare_53 (by decide) ?_
          exact g_zret (ty := .boolean) (r := 0) B K rfl (rfl) ⟨hUI_163, hF_166, hG_167, rg_w rc_0 (by decide) (by decide), (by simp only [mCmp, mCmp2, mOf2, mBadQ, emqx, hs_169, hs_5, enqx, hs_170, hs_8, eqqx, hs_171, hs_9, hx_1, hx_2, hx_3, hx_10, f_11, c_16, (eq_true h_18), c_79, (eq_true h_81), c_142, h_144, hx_148, f_149, c_156, hx_160, f_161, c_168, hx_172, f_173, (eq_true h_175), if_true, if_false, mqM_tp, mqM_size, mqM_limit, mqM_to, mqM_frm, mqM_kind, mqM_number, mqM_sign, mqM_word, MT_.w_tp, MT_.w_size, MT_.w_limit, MT_.w_to, MT_.w_frm, MT_.w_kind, MT_.w_number, MT_.w_sign, MT_.w_word, nqM_rd, nqM_rn, nqM_taped, nqM_mfault, nqM_mplace, nqM_told, nqM_hl, nqM_hd, NR_.w_rd, NR_.w_rn, NR_.w_taped, NR_.w_mfault, NR_.w_mplace, NR_.w_told, NR_.w_hl, NR_.w_hd, qqM_om, QT_.w_om]), (fun q => absurd rfl q)⟩ dX12_readCompare_54
      · skip
        have r_200 := (⟨(rx_138).1, (eq_rg (h_144) rc_0).2⟩ : Rg 0 0 x_138)
        refine g_aload_n C 0 dX12_readCompare_27 rfl rfl ?_
        refine g_iconst C (v := 1) dX12_readCompare_28 (by decide) ?_
        refine g_callVI C K (c_X12_bad W9 hLx hkx 1 (rg_w rc_1 (by decide) (by decide)) hU) hLx hkx (by decide) rfl v_12_146 rfl ⟨rfl, rfl⟩ ⟨Nat.le_of_ble_eq_true rfl, Nat.le_of_ble_eq_true rfl⟩ (Nat.le_of_ble_eq_true rfl) ⟨Nat.le_of_ble_eq_true rfl, Nat.le_of_ble_eq_true rfl⟩ dX12_readCompare_29 rfl (st := []) (fun x_201 I_202 J_203 h_204 => ?_)
        obtain ⟨hUI_202, hFI_202, hGJ_203, rx_201, fx_201⟩ := h_204
        have hF_205 := fq_tr hF hFI_202 (by decide)
        have hG_206 := fq_tr hG hGJ_203 (by decide)
        obtain ⟨s_208, hs_208⟩ : ∃ z, MTq I_202 J_203 x b_4 = z := ⟨_, rfl⟩
        obtain ⟨s_209, hs_209⟩ : ∃ z, NRq I_202 J_203 x b_6 b_7 = z := ⟨_, rfl⟩
        have c_207 : mBad (1) (s_5) (s_8) = (x_201, s_208, s_209) := by have q := fx_201; simp only [emqx, enqx, hs_5, hs_8, hs_208, hs_209] at q; exact q.symm
        have hs_210 : QTq I_202 J_203 x = s_9 := (qq_fq wqqx hFI_202 hGJ_203 (by decide) (by decide)).trans hs_9
        exact g_zret (ty := .boolean) (r := x_201) B K rfl (nar_z (rg_w rx_201 (by decide) (by decide))) ⟨hUI_202, hF_205, hG_206, rg_w rx_201 (by decide) (by decide), (by simp only [mCmp, mCmp2, mOf2, mBadQ, emqx, hs_208, hs_5, enqx, hs_209, hs_8, eqqx, hs_210, hs_9, hx_1, hx_2, hx_3, hx_10, f_11, c_16, (eq_true h_18), c_79, (eq_true h_81), c_142, (eq_true h_144), c_207, if_true, if_false, mqM_tp, mqM_size, mqM_limit, mqM_to, mqM_frm, mqM_kind, mqM_number, mqM_sign, mqM_word, MT_.w_tp, MT_.w_size, MT_.w_limit, MT_.w_to, MT_.w_frm, MT_.w_kind, MT_.w_number, MT_.w_sign, MT_.w_word, nqM_rd, nqM_rn, nqM_taped, nqM_mfault, nqM_mplace, nqM_told, nqM_hl, nqM_hd, NR_.w_rd, NR_.w_rn, NR_.w_taped, NR_.w_mfault, NR_.w_mplace, NR_.w_told, NR_.w_hl, NR_.w_hd, qqM_om, QT_.w_om]), (fun q => ne_no q rx_201 rc_0)⟩ dX12_readCompare_32
set_option maxRecDepth 100000 in
set_option maxHeartbeats 8000000 in
theorem c_X12_readNot_8 {l : Launch} {D : va_G} {cy : Nat → ClassId} {L : List Nat} {κ ln : Nat → Nat} {R : Nat → Nat → Option Nat} {I : Nat → Nat → Int32} {J : Nat → Nat → Int64} {ow : Nat → Nat × Nat} (W9 : ∀ a ∈ L, Shp L κ ln R ow a) {x : Nat} (hLx : x ∈ L) (hkx : κ x = 12) (hU : Iw L κ R ow I) (hn : (I x 47).toInt ≤ 2 * (I x 48).toInt) (hwi : I x 49 = 8) : CtI l yX12_readNot cX12_readNot 1 (some .boolean) { frames := 4, cells := 0, slots := 0, locals := 92 } D cy L κ ln R I J [.ref x] (fun r I2 J2 => Iw L κ R ow I2 ∧ Fq L κ ow [1210, 1211] I I2 ∧ Fq L κ ow [] J J2 ∧ Rg 0 0 r ∧ ((r, MTf R I2 J2 x, NRf R I2 J2 x, QTf R I2 J2 x) = mNtK 0 (NVf R I J x) (NWf R I J x) (MTf R I J x) (NRf R I J x) (QTf R I J x)) ∧ (¬ r = 0 → Sz_ x I I2 0) ∧ (I2 x 49 = 8)) := by
  obtain ⟨x_1, hx_1, rx_1⟩ := ex_getw (I := I) (a := x) (j := 47) (lo := 0) (hi := 60) hU.1 hLx (ro_o hkx (by decide)) rfl
  obtain ⟨x_2, hx_2, rx_2⟩ := ex_getw (I := I) (a := x) (j := 48) (lo := 0) (hi := 20) hU.1 hLx (ro_o hkx (by decide)) rfl
  rw [hx_1, hx_2] at hn
  obtain ⟨x_3, hx_3, rx_3⟩ := ex_getw (I := I) (a := x) (j := 50) (lo := 0) (hi := 59) hU.1 hLx (ro_o hkx (by decide)) rfl
  refine CtI.of (by decide +kernel) (Nat.le_of_ble_eq_true rfl) ?_
  intro p e s m below meth c B K
  have C := B.1
  have hF : Fq L κ ow [1210, 1211] I I := fq_rf
  have hG : Fq L κ ow [] J J := fq_rf
  obtain ⟨b_4, hb_4, hb_4L, hb_4k, hb_4n, hb_4o⟩ := shp_a (W9 x hLx) hkx 19 15 13 rfl (by decide)
  have evqx : ∀ I J, NVf R I J x = NVq I J x b_4 := fun I J => by simp only [NVf, rr_, Option.getD_some, hb_4]
  have wvqx : vqw_ L κ ow x b_4 := ⟨⟨hLx, hb_4L⟩, ⟨(ro_o hkx (by decide)), (ro_a hb_4k (by decide) hb_4o hkx rfl)⟩⟩
  obtain ⟨s_5, hs_5⟩ : ∃ z, NVq I J x b_4 = z := ⟨_, rfl⟩
  obtain ⟨b_6, hb_6, hb_6L, hb_6k, hb_6n, hb_6o⟩ := shp_a (W9 x hLx) hkx 14 14 389 rfl (by decide)
  have ezqx : ∀ I J, NWf R I J x = NWq I J x b_6 := fun I J => by simp only [NWf, rr_, Option.getD_some, hb_6]
  have wzqx : zqw_ L κ ow x b_6 := ⟨⟨hLx, hb_6L⟩, ⟨(ro_o hkx (by decide)), (ro_a hb_6k (by decide) hb_6o hkx rfl)⟩⟩
  obtain ⟨s_7, hs_7⟩ : ∃ z, NWq I J x b_6 = z := ⟨_, rfl⟩
  obtain ⟨b_8, hb_8, hb_8L, hb_8k, hb_8n, hb_8o⟩ := shp_a (W9 x hLx) hkx 1 14 940 rfl (by decide)
  have emqx : ∀ I J, MTf R I J x = MTq I J x b_8 := fun I J => by simp only [MTf, rr_, Option.getD_some, hb_8]
  have wmqx : mqw_ L κ ow x b_8 := ⟨⟨hLx, hb_8L⟩, ⟨(ro_o hkx (by decide)), (ro_a hb_8k (by decide) hb_8o hkx rfl)⟩⟩
  obtain ⟨s_9, hs_9⟩ : ∃ z, MTq I J x b_8 = z := ⟨_, rfl⟩
  obtain ⟨b_10, hb_10, hb_10L, hb_10k, hb_10n, hb_10o⟩ := shp_a (W9 x hLx) hkx 15 14 72 rfl (by decide)
  obtain ⟨b_11, hb_11, hb_11L, hb_11k, hb_11n, hb_11o⟩ := shp_a (W9 x hLx) hkx 20 15 13 rfl (by decide)
  have enqx : ∀ I J, NRf R I J x = NRq I J x b_10 b_11 := fun I J => by simp only [NRf, rr_, Option.getD_some, hb_10, hb_11]
  have wnqx : nqw_ L κ ow x b_10 b_11 := ⟨⟨hLx, hb_10L, hb_11L⟩, ⟨(ro_o hkx (by decide)), (ro_a hb_10k (by decide) hb_10o hkx rfl), (ro_a hb_11k (by decide) hb_11o hkx rfl)⟩⟩
  obtain ⟨s_12, hs_12⟩ : ∃ z, NRq I J x b_10 b_11 = z := ⟨_, rfl⟩
  have eqqx : ∀ I J, QTf R I J x = QTq I J x := fun I J => by simp only [QTf, rr_, Option.getD_some]
  have wqqx : qqw_ L κ ow x := ⟨hLx, (ro_o hkx (by decide))⟩
  obtain ⟨s_13, hs_13⟩ : ∃ z, QTq I J x = z := ⟨_, rfl⟩
  refine g_lo (is := [0]) (lo2 := [(0, .ref x)]) rfl ?_
  refine g_aload_n C 0 dX12_readNot_0 rfl rfl ?_
  have f_14 : s_13.om = x_2 := (congrArg QT_.om hs_13).symm.trans hx_2
  refine g_callVI C K (c_X12_readSaid_8 W9 hLx hkx   hU  (by rw [hx_1, hx_2]; omega) (hwi)) hLx hkx (by decide) rfl v_12_392 rfl ⟨rfl, rfl⟩ ⟨Nat.le_of_ble_eq_true rfl, Nat.le_of_ble_eq_true rfl⟩ (Nat.le_of_ble_eq_true rfl) ⟨Nat.le_of_ble_eq_true rfl, Nat.le_of_ble_eq_true rfl⟩ dX12_readNot_1 rfl (st := []) (fun x_15 I_16 J_17 h_18 => ?_)
  obtain ⟨hUI_16, hFI_16, hGJ_17, rx_15, fx_15, ex_15⟩ := h_18
  have hF_19 := fq_tr hF hFI_16 (by decide)
  have hG_20 := fq_tr hG hGJ_17 (by decide)
  obtain ⟨s_22, hs_22⟩ : ∃ z, MTq I_16 J_17 x b_8 = z := ⟨_, rfl⟩
  obtain ⟨s_23, hs_23⟩ : ∃ z, NRq I_16 J_17 x b_10 b_11 = z := ⟨_, rfl⟩
  obtain ⟨s_24, hs_24⟩ : ∃ z, QTq I_16 J_17 x = z := ⟨_, rfl⟩
  have c_21 : mSaid 0 (s_5) (s_7) (s_9) (s_12) (s_13) = (x_15, s_22, s_23, s_24) := by have q := fx_15; simp only [evqx, ezqx, emqx, enqx, eqqx, hs_5, hs_7, hs_9, hs_12, hs_13, hs_22, hs_23, hs_24] at q; exact q.symm
  have hs_25 : NVq I_16 J_17 x b_4 = s_5 := (vq_fq wvqx hFI_16 hGJ_17 (by decide) (by decide)).trans hs_5
  have hs_26 : NWq I_16 J_17 x b_6 = s_7 := (zq_fq wzqx hFI_16 hGJ_17 (by decide) (by decide)).trans hs_7
  have f_27 : s_24.om = x_2 := (congrArg QT_.om hs_24).symm.trans (fq_at hFI_16 hLx hkx (by decide) (by decide) hx_2)
  refine g_if_ne C (tgt := 9) dX12_readNot_4 (by decide) (fun h_28 => ?_) (fun h_28 => ?_)
  · skip
    exact ne_no (h_28) rx_15 rc_0
  · skip
    refine g_iconst C (v := 0) dX12_readNot_7 (by decide) ?_
    exact g_zret (ty := .boolean) (r := 0) B K rfl (rfl) ⟨hUI_16, hF_19, hG_20, rc_0, (by simp only [mNtK, evqx, hs_25, hs_5, ezqx, hs_26, hs_7, emqx, hs_22, hs_9, enqx, hs_23, hs_12, eqqx, hs_24, hs_13, hx_1, hx_2, hx_3, f_14, c_21, f_27, (eq_true h_28), if_true, if_false, mqM_tp, mqM_size, mqM_limit, mqM_to, mqM_frm, mqM_kind, mqM_number, mqM_sign, mqM_word, MT_.w_tp, MT_.w_size, MT_.w_limit, MT_.w_to, MT_.w_frm, MT_.w_kind, MT_.w_number, MT_.w_sign, MT_.w_word, nqM_rd, nqM_rn, nqM_taped, nqM_mfault, nqM_mplace, nqM_told, nqM_hl, nqM_hd, NR_.w_rd, NR_.w_rn, NR_.w_taped, NR_.w_mfault, NR_.w_mplace, NR_.w_told, NR_.w_hl, NR_.w_hd, qqM_om, QT_.w_om, vqM_nv, NV_.w_nv, zqM_nw, NW_.w_nw]), (fun q => absurd rfl q), ex_15.2⟩ dX12_readNot_8
set_option maxRecDepth 100000 in
set_option maxHeartbeats 8000000 in
theorem c_X12_readNamed_0 {l : Launch} {D : va_G} {cy : Nat → ClassId} {L : List Nat} {κ ln : Nat → Nat} {R : Nat → Nat → Option Nat} {I : Nat → Nat → Int32} {J : Nat → Nat → Int64} {ow : Nat → Nat × Nat} (W9 : ∀ a ∈ L, Shp L κ ln R ow a) {x : Nat} (hLx : x ∈ L) (hkx : κ x = 12) (a1 : Int32) (ra1 : Rg 0 7 a1) (hU : Iw L κ R ow I) : CtI l yX12_readNamed cX12_readNamed 3 (some .boolean) { frames := 3, cells := 0, slots := 0, locals := 69 } D cy L κ ln R I J [.ref x, .int 0, .int a1] (fun r I2 J2 => Iw L κ R ow I2 ∧ Fq L κ ow [1205, 1206, 1207, 1208, 1209, 1210, 1211, 1213] I I2 ∧ Fq L κ ow [1212] J J2 ∧ Rg 0 1 r ∧ ((r, MTf R I2 J2 x, NRf R I2 J2 x) = mNamed (0) a1 (NVf R I J x) (MTf R I J x) (NRf R I J x)) ∧ (¬ r = 0 → Rg 0 6 (I2 x 13))) := by
  refine CtI.of (by decide +kernel) (Nat.le_of_ble_eq_true rfl) ?_
  intro p e s m below meth c B K
  have C := B.1
  have hF : Fq L κ ow [1205, 1206, 1207, 1208, 1209, 1210, 1211, 1213] I I := fq_rf
  have hG : Fq L κ ow [1212] J J := fq_rf
  obtain ⟨b_1, hb_1, hb_1L, hb_1k, hb_1n, hb_1o⟩ := shp_a (W9 x hLx) hkx 19 15 13 rfl (by decide)
  have evqx : ∀ I J, NVf R I J x = NVq I J x b_1 := fun I J => by simp only [NVf, rr_, Option.getD_some, hb_1]
  have wvqx : vqw_ L κ ow x b_1 := ⟨⟨hLx, hb_1L⟩, ⟨(ro_o hkx (by decide)), (ro_a hb_1k (by decide) hb_1o hkx rfl)⟩⟩
  obtain ⟨s_2, hs_2⟩ : ∃ z, NVq I J x b_1 = z := ⟨_, rfl⟩
  obtain ⟨b_3, hb_3, hb_3L, hb_3k, hb_3n, hb_3o⟩ := shp_a (W9 x hLx) hkx 1 14 940 rfl (by decide)
  have emqx : ∀ I J, MTf R I J x = MTq I J x b_3 := fun I J => by simp only [MTf, rr_, Option.getD_some, hb_3]
  have wmqx : mqw_ L κ ow x b_3 := ⟨⟨hLx, hb_3L⟩, ⟨(ro_o hkx (by decide)), (ro_a hb_3k (by decide) hb_3o hkx rfl)⟩⟩
  obtain ⟨s_4, hs_4⟩ : ∃ z, MTq I J x b_3 = z := ⟨_, rfl⟩
  obtain ⟨b_5, hb_5, hb_5L, hb_5k, hb_5n, hb_5o⟩ := shp_a (W9 x hLx) hkx 15 14 72 rfl (by decide)
  obtain ⟨b_6, hb_6, hb_6L, hb_6k, hb_6n, hb_6o⟩ := shp_a (W9 x hLx) hkx 20 15 13 rfl (by decide)
  have enqx : ∀ I J, NRf R I J x = NRq I J x b_5 b_6 := fun I J => by simp only [NRf, rr_, Option.getD_some, hb_5, hb_6]
  have wnqx : nqw_ L κ ow x b_5 b_6 := ⟨⟨hLx, hb_5L, hb_6L⟩, ⟨(ro_o hkx (by decide)), (ro_a hb_5k (by decide) hb_5o hkx rfl), (ro_a hb_6k (by decide) hb_6o hkx rfl)⟩⟩
  obtain ⟨s_7, hs_7⟩ : ∃ z, NRq I J x b_5 b_6 = z := ⟨_, rfl⟩
  refine g_lo (is := [0, 1, 2]) (lo2 := [(0, .ref x), (1, .int 0), (2, .int a1)]) rfl ?_
  refine g_aload_n C 0 dX12_readNamed_0 rfl rfl ?_
  refine g_callVI C K (c_X12_isName W9 hLx hkx   hU) hLx hkx (by decide) rfl v_12_166 rfl ⟨rfl, rfl⟩ ⟨Nat.le_of_ble_eq_true rfl, Nat.le_of_ble_eq_true rfl⟩ (Nat.le_of_ble_eq_true rfl) ⟨Nat.le_of_ble_eq_true rfl, Nat.le_of_ble_eq_true rfl⟩ dX12_readNamed_1 rfl (st := []) (fun x_8 I_9 J_10 h_11 => ?_)
  obtain ⟨rfl, rfl, rx_8, fx_8⟩ := h_11
  have c_12 : mIsName (s_4) = x_8 := by have q := fx_8; simp only [emqx, hs_4] at q; exact q.symm
  refine g_if_ne C (tgt := 13) dX12_readNamed_4 (by decide) (fun h_13 => ?_) (fun h_13 => ?_)
  · skip
    have n_14 : ¬ x_8 = 0 := h_13
    have r_15 := ne_lo (lo := 1) n_14 rx_8 rc_0 rfl (by decide)
    refine g_aload_n C 0 dX12_readNamed_13 rfl rfl ?_
    refine g_aload_n C 0 dX12_readNamed_14 rfl rfl ?_
    refine g_getR C K hLx hkx f_12_28 hb_1 dX12_readNamed_15 ?_
    refine g_iload_n C 1 dX12_readNamed_18 rfl rfl ?_
    refine g_iload_n C 2 dX12_readNamed_19 rfl rfl ?_
    refine g_aload_n C 0 dX12_readNamed_20 rfl rfl ?_
    obtain ⟨y_16, hy_16⟩ : ∃ z, J x 12 = z := ⟨_, rfl⟩
    have f_17 : s_4.word = y_16 := (congrArg MT_.word hs_4).symm.trans hy_16
    refine g_getJ C K hLx hkx f_12_117 (v := y_16) hy_16 dX12_readNamed_21 ?_
    refine g_callSI C K (c_X12_findIn_0 W9 hb_1L hb_1k hb_1n a1 y_16 (ra1) hU) s_12_170 rfl ⟨rfl, rfl⟩ ⟨Nat.le_of_ble_eq_true rfl, Nat.le_of_ble_eq_true rfl⟩ (Nat.le_of_ble_eq_true rfl) ⟨Nat.le_of_ble_eq_true rfl, Nat.le_of_ble_eq_true rfl⟩ dX12_readNamed_24 rfl (st := [.ref x]) (fun x_18 I_19 J_20 h_21 => ?_)
    obtain ⟨rfl, rfl, rx_18, fx_18, ex_18⟩ := h_21
    have c_22 : mfnd s_2.nv 0 (a1) y_16 0 = x_18 := by have q := fx_18; rw [show J b_1 = s_2.nv from congrArg NV_.nv hs_2] at q; exact q.symm
    refine h_putI C K hLx hkx f_12_153 p_12_13 dX12_readNamed_27 (fun I_23 hI_23 => ?_)
    have hU_24 := iw_put W9 hU hI_23 (ro_o hkx (by decide)) (lo := (-2147483648)) (hi := 2147483647) (rfl) (rg_all _) rfl
    have hF_25 := fq_puto hF hI_23 hkx (by decide) (by decide)
    have hs_26 : NVq I_23 J x b_1 = s_2 := by rw [hI_23]; exact (vq_oI wvqx (ro_o hkx (by decide)) (by decide)).trans hs_2
    have hs_27 : MTq I_23 J x b_3 = s_4 := by rw [hI_23]; exact (mq_uIt wmqx (by decide)).trans hs_4
    have hs_28 : NRq I_23 J x b_5 b_6 = (NR_.w_told s_7 (x_18)) := by rw [hI_23]; exact ((nq_told wnqx).trans (congrArg (fun z : NR_ => NR_.w_told z (x_18)) hs_7)).trans rfl
    refine g_aload_n C 0 dX12_readNamed_30 rfl rfl ?_
    refine g_getI C K hLx hkx f_12_153 (v := x_18) (kp_s hI_23) dX12_readNamed_31 ?_
    refine g_iconst C (v := (-1)) dX12_readNamed_34 (by decide) ?_
    refine g_icmp_ne C (tgt := 44) dX12_readNamed_35 (by decide) (fun h_29 => ?_) (fun h_29 => ?_)
    · skip
      have n_30 : ¬ x_18 = (-1) := h_29
      have r_31 := ne_lo (lo := 0) n_30 rx_18 rc_m1 rfl (by decide)
      refine g_aload_n C 0 dX12_readNamed_44 rfl rfl ?_
      refine g_callVV C K (c_X12_go W9 hLx hkx   hU_24) hLx hkx (by decide) rfl v_12_156 rfl ⟨rfl, rfl⟩ ⟨Nat.le_of_ble_eq_true rfl, Nat.le_of_ble_eq_true rfl⟩ (Nat.le_of_ble_eq_true rfl) ⟨Nat.le_of_ble_eq_true rfl, Nat.le_of_ble_eq_true rfl⟩ dX12_readNamed_45 rfl (st := []) (fun I_33 J_34 h_35 => ?_)
      obtain ⟨hUI_33, hFI_33, hGJ_34, fx_32, ex_32⟩ := h_35
      have hF_36 := fq_tr hF_25 hFI_33 (by decide)
      have hG_37 := fq_tr hG hGJ_34 (by decide)
      obtain ⟨s_39, hs_39⟩ : ∃ z, MTq I_33 J_34 x b_3 = z := ⟨_, rfl⟩
      have c_38 : mGo (s_4) = s_39 := by have q := fx_32; simp only [emqx, hs_27, hs_39] at q; exact q.symm
      have hs_40 : NVq I_33 J_34 x b_1 = s_2 := (vq_fq wvqx hFI_33 hGJ_34 (by decide) (by decide)).trans hs_26
      have hs_41 : NRq I_33 J_34 x b_5 b_6 = (NR_.w_told s_7 (x_18)) := (nq_fq wnqx hFI_33 hGJ_34 (by decide) (by decide)).trans hs_28
      refine g_iconst C (v := 1) dX12_readNamed_48 (by decide) ?_
      exact g_zret (ty := .boolean) (r := 1) B K rfl (rfl) ⟨hUI_33, hF_36, hG_37, rg_w rc_1 (by decide) (by decide), (by simp only [mNamed, evqx, hs_40, hs_2, emqx, hs_39, hs_4, enqx, hs_41, hs_7, c_12, h_13, hy_16, f_17, c_22, h_29, c_38, if_true, if_false, mqM_tp, mqM_size, mqM_limit, mqM_to, mqM_frm, mqM_kind, mqM_number, mqM_sign, mqM_word, MT_.w_tp, MT_.w_size, MT_.w_limit, MT_.w_to, MT_.w_frm, MT_.w_kind, MT_.w_number, MT_.w_sign, MT_.w_word, nqM_rd, nqM_rn, nqM_taped, nqM_mfault, nqM_mplace, nqM_told, nqM_hl, nqM_hd, NR_.w_rd, NR_.w_rn, NR_.w_taped, NR_.w_mfault, NR_.w_mplace, NR_.w_told, NR_.w_hl, NR_.w_hd, vqM_nv, NV_.w_nv]), (fun _ => eq_rg (fq_at hFI_33 hLx hkx (by decide) (by decide) (kp_s hI_23)) (r_31))⟩ dX12_readNamed_49
    · skip
      have r_42 := (⟨(rx_18).1, (eq_rg (h_29) rc_m1).2⟩ : Rg (-1) (-1) x_18)
      refine g_aload_n C 0 dX12_readNamed_38 rfl rfl ?_
      refine g_iconst C (v := 3) dX12_readNamed_39 (by decide) ?_
      refine g_callVI C K (c_X12_bad W9 hLx hkx 3 (rg_w rc_3 (by decide) (by decide)) hU_24) hLx hkx (by decide) rfl v_12_146 rfl ⟨rfl, rfl⟩ ⟨Nat.le_of_ble_eq_true rfl, Nat.le_of_ble_eq_true rfl⟩ (Nat.le_of_ble_eq_true rfl) ⟨Nat.le_of_ble_eq_true rfl, Nat.le_of_ble_eq_true rfl⟩ dX12_readNamed_40 rfl (st := []) (fun x_43 I_44 J_45 h_46 => ?_)
      obtain ⟨hUI_44, hFI_44, hGJ_45, rx_43, fx_43⟩ := h_46
      have hF_47 := fq_tr hF_25 hFI_44 (by decide)
      have hG_48 := fq_tr hG hGJ_45 (by decide)
      obtain ⟨s_50, hs_50⟩ : ∃ z, MTq I_44 J_45 x b_3 = z := ⟨_, rfl⟩
      obtain ⟨s_51, hs_51⟩ : ∃ z, NRq I_44 J_45 x b_5 b_6 = z := ⟨_, rfl⟩
      have c_49 : mBad (3) (s_4) ((NR_.w_told s_7 (x_18))) = (x_43, s_50, s_51) := by have q := fx_43; simp only [emqx, enqx, hs_27, hs_28, hs_50, hs_51] at q; exact q.symm
      have hs_52 : NVq I_44 J_45 x b_1 = s_2 := (vq_fq wvqx hFI_44 hGJ_45 (by decide) (by decide)).trans hs_26
      exact g_zret (ty := .boolean) (r := x_43) B K rfl (nar_z (rg_w rx_43 (by decide) (by decide))) ⟨hUI_44, hF_47, hG_48, rg_w rx_43 (by decide) (by decide), (by (try simp only [c_12, h_13, hy_16, f_17, c_22, (eq_true h_29), if_true, if_false, mqM_tp, mqM_size, mqM_limit, mqM_to, mqM_frm, mqM_kind, mqM_number, mqM_sign, mqM_word, MT_.w_tp, MT_.w_size, MT_.w_limit, MT_.w_to, MT_.w_frm, MT_.w_kind, MT_.w_number, MT_.w_sign, MT_.w_word, nqM_rd, nqM_rn, nqM_taped, nqM_mfault, nqM_mplace, nqM_told, nqM_hl, nqM_hd, NR_.w_rd, NR_.w_rn, NR_.w_taped, NR_.w_mfault, NR_.w_mplace, NR_.w_told, NR_.w_hl, NR_.w_hd, vqM_nv, NV_.w_nv] at c_49); simp only [mNamed, evqx, hs_52, hs_2, emqx, hs_50, hs_4, enqx, hs_51, hs_7, c_12, h_13, hy_16, f_17, c_22, (eq_true h_29), c_49, if_true, if_false, mqM_tp, mqM_size, mqM_limit, mqM_to, mqM_frm, mqM_kind, mqM_number, mqM_sign, mqM_word, MT_.w_tp, MT_.w_size, MT_.w_limit, MT_.w_to, MT_.w_frm, MT_.w_kind, MT_.w_number, MT_.w_sign, MT_.w_word, nqM_rd, nqM_rn, nqM_taped, nqM_mfault, nqM_mplace, nqM_told, nqM_hl, nqM_hd, NR_.w_rd, NR_.w_rn, NR_.w_taped, NR_.w_mfault, NR_.w_mplace, NR_.w_told, NR_.w_hl, NR_.w_hd, vqM_nv, NV_.w_nv]), (fun q => ne_no q rx_43 rc_0)⟩ dX12_readNamed_43
  · skip
    have r_53 := (⟨(rx_8).1, (eq_rg (h_13) rc_0).2⟩ : Rg 0 0 x_8)
    refine g_aload_n C 0 dX12_readNamed_7 rfl rfl ?_
    refine g_iconst C (v := 1) dX12_readNamed_8 (by decide) ?_
    refine g_callVI C K (c_X12_bad W9 hLx hkx 1 (rg_w rc_1 (by decide) (by decide)) hU) hLx hkx (by decide) rfl v_12_146 rfl ⟨rfl, rfl⟩ ⟨Nat.le_of_ble_eq_true rfl, Nat.le_of_ble_eq_true rfl⟩ (Nat.le_of_ble_eq_true rfl) ⟨Nat.le_of_ble_eq_true rfl, Nat.le_of_ble_eq_true rfl⟩ dX12_readNamed_9 rfl (st := []) (fun x_54 I_55 J_56 h_57 => ?_)
    obtain ⟨hUI_55, hFI_55, hGJ_56, rx_54, fx_54⟩ := h_57
    have hF_58 := fq_tr hF hFI_55 (by decide)
    have hG_59 := fq_tr hG hGJ_56 (by decide)
    obtain ⟨s_61, hs_61⟩ : ∃ z, MTq I_55 J_56 x b_3 = z := ⟨_, rfl⟩
    obtain ⟨s_62, hs_62⟩ : ∃ z, NRq I_55 J_56 x b_5 b_6 = z := ⟨_, rfl⟩
    have c_60 : mBad (1) (s_4) (s_7) = (x_54, s_61, s_62) := by have q := fx_54; simp only [emqx, enqx, hs_4, hs_7, hs_61, hs_62] at q; exact q.symm
    have hs_63 : NVq I_55 J_56 x b_1 = s_2 := (vq_fq wvqx hFI_55 hGJ_56 (by decide) (by decide)).trans hs_2
    exact g_zret (ty := .boolean) (r := x_54) B K rfl (nar_z (rg_w rx_54 (by decide) (by decide))) ⟨hUI_55, hF_58, hG_59, rg_w rx_54 (by decide) (by decide), (by simp only [mNamed, evqx, hs_63, hs_2, emqx, hs_61, hs_4, enqx, hs_62, hs_7, c_12, (eq_true h_13), c_60, if_true, if_false, mqM_tp, mqM_size, mqM_limit, mqM_to, mqM_frm, mqM_kind, mqM_number, mqM_sign, mqM_word, MT_.w_tp, MT_.w_size, MT_.w_limit, MT_.w_to, MT_.w_frm, MT_.w_kind, MT_.w_number, MT_.w_sign, MT_.w_word, nqM_rd, nqM_rn, nqM_taped, nqM_mfault, nqM_mplace, nqM_told, nqM_hl, nqM_hd, NR_.w_rd, NR_.w_rn, NR_.w_taped, NR_.w_mfault, NR_.w_mplace, NR_.w_told, NR_.w_hl, NR_.w_hd, vqM_nv, NV_.w_nv]), (fun q => ne_no q rx_54 rc_0)⟩ dX12_readNamed_12
set_option maxRecDepth 100000 in
set_option maxHeartbeats 8000000 in
theorem c_X12_readNamed_7 {l : Launch} {D : va_G} {cy : Nat → ClassId} {L : List Nat} {κ ln : Nat → Nat} {R : Nat → Nat → Option Nat} {I : Nat → Nat → Int32} {J : Nat → Nat → Int64} {ow : Nat → Nat × Nat} (W9 : ∀ a ∈ L, Shp L κ ln R ow a) {x : Nat} (hLx : x ∈ L) (hkx : κ x = 12) (a1 : Int32) (ra1 : Rg 0 6 a1) (hU : Iw L κ R ow I) : CtI l yX12_readNamed cX12_readNamed 3 (some .boolean) { frames := 3, cells := 0, slots := 0, locals := 69 } D cy L κ ln R I J [.ref x, .int 7, .int a1] (fun r I2 J2 => Iw L κ R ow I2 ∧ Fq L κ ow [1205, 1206, 1207, 1208, 1209, 1210, 1211, 1213] I I2 ∧ Fq L κ ow [1212] J J2 ∧ Rg 0 1 r ∧ ((r, MTf R I2 J2 x, NRf R I2 J2 x) = mNamed (7) a1 (NVf R I J x) (MTf R I J x) (NRf R I J x)) ∧ (¬ r = 0 → Rg 0 5 (I2 x 13))) := by
  refine CtI.of (by decide +kernel) (Nat.le_of_ble_eq_true rfl) ?_
  intro p e s m below meth c B K
  have C := B.1
  have hF : Fq L κ ow [1205, 1206, 1207, 1208, 1209, 1210, 1211, 1213] I I := fq_rf
  have hG : Fq L κ ow [1212] J J := fq_rf
  obtain ⟨b_1, hb_1, hb_1L, hb_1k, hb_1n, hb_1o⟩ := shp_a (W9 x hLx) hkx 19 15 13 rfl (by decide)
  have evqx : ∀ I J, NVf R I J x = NVq I J x b_1 := fun I J => by simp only [NVf, rr_, Option.getD_some, hb_1]
  have wvqx : vqw_ L κ ow x b_1 := ⟨⟨hLx, hb_1L⟩, ⟨(ro_o hkx (by decide)), (ro_a hb_1k (by decide) hb_1o hkx rfl)⟩⟩
  obtain ⟨s_2, hs_2⟩ : ∃ z, NVq I J x b_1 = z := ⟨_, rfl⟩
  obtain ⟨b_3, hb_3, hb_3L, hb_3k, hb_3n, hb_3o⟩ := shp_a (W9 x hLx) hkx 1 14 940 rfl (by decide)
  have emqx : ∀ I J, MTf R I J x = MTq I J x b_3 := fun I J => by simp only [MTf, rr_, Option.getD_some, hb_3]
  have wmqx : mqw_ L κ ow x b_3 := ⟨⟨hLx, hb_3L⟩, ⟨(ro_o hkx (by decide)), (ro_a hb_3k (by decide) hb_3o hkx rfl)⟩⟩
  obtain ⟨s_4, hs_4⟩ : ∃ z, MTq I J x b_3 = z := ⟨_, rfl⟩
  obtain ⟨b_5, hb_5, hb_5L, hb_5k, hb_5n, hb_5o⟩ := shp_a (W9 x hLx) hkx 15 14 72 rfl (by decide)
  obtain ⟨b_6, hb_6, hb_6L, hb_6k, hb_6n, hb_6o⟩ := shp_a (W9 x hLx) hkx 20 15 13 rfl (by decide)
  have enqx : ∀ I J, NRf R I J x = NRq I J x b_5 b_6 := fun I J => by simp only [NRf, rr_, Option.getD_some, hb_5, hb_6]
  have wnqx : nqw_ L κ ow x b_5 b_6 := ⟨⟨hLx, hb_5L, hb_6L⟩, ⟨(ro_o hkx (by decide)), (ro_a hb_5k (by decide) hb_5o hkx rfl), (ro_a hb_6k (by decide) hb_6o hkx rfl)⟩⟩
  obtain ⟨s_7, hs_7⟩ : ∃ z, NRq I J x b_5 b_6 = z := ⟨_, rfl⟩
  refine g_lo (is := [0, 1, 2]) (lo2 := [(0, .ref x), (1, .int 7), (2, .int a1)]) rfl ?_
  refine g_aload_n C 0 dX12_readNamed_0 rfl rfl ?_
  refine g_callVI C K (c_X12_isName W9 hLx hkx   hU) hLx hkx (by decide) rfl v_12_166 rfl ⟨rfl, rfl⟩ ⟨Nat.le_of_ble_eq_true rfl, Nat.le_of_ble_eq_true rfl⟩ (Nat.le_of_ble_eq_true rfl) ⟨Nat.le_of_ble_eq_true rfl, Nat.le_of_ble_eq_true rfl⟩ dX12_readNamed_1 rfl (st := []) (fun x_8 I_9 J_10 h_11 => ?_)
  obtain ⟨rfl, rfl, rx_8, fx_8⟩ := h_11
  have c_12 : mIsName (s_4) = x_8 := by have q := fx_8; simp only [emqx, hs_4] at q; exact q.symm
  refine g_if_ne C (tgt := 13) dX12_readNamed_4 (by decide) (fun h_13 => ?_) (fun h_13 => ?_)
  · skip
    have n_14 : ¬ x_8 = 0 := h_13
    have r_15 := ne_lo (lo := 1) n_14 rx_8 rc_0 rfl (by decide)
    refine g_aload_n C 0 dX12_readNamed_13 rfl rfl ?_
    refine g_aload_n C 0 dX12_readNamed_14 rfl rfl ?_
    refine g_getR C K hLx hkx f_12_28 hb_1 dX12_readNamed_15 ?_
    refine g_iload_n C 1 dX12_readNamed_18 rfl rfl ?_
    refine g_iload_n C 2 dX12_readNamed_19 rfl rfl ?_
    refine g_aload_n C 0 dX12_readNamed_20 rfl rfl ?_
    obtain ⟨y_16, hy_16⟩ : ∃ z, J x 12 = z := ⟨_, rfl⟩
    have f_17 : s_4.word = y_16 := (congrArg MT_.word hs_4).symm.trans hy_16
    refine g_getJ C K hLx hkx f_12_117 (v := y_16) hy_16 dX12_readNamed_21 ?_
    refine g_callSI C K (c_X12_findIn_7 W9 hb_1L hb_1k hb_1n a1 y_16 (ra1) hU) s_12_170 rfl ⟨rfl, rfl⟩ ⟨Nat.le_of_ble_eq_true rfl, Nat.le_of_ble_eq_true rfl⟩ (Nat.le_of_ble_eq_true rfl) ⟨Nat.le_of_ble_eq_true rfl, Nat.le_of_ble_eq_true rfl⟩ dX12_readNamed_24 rfl (st := [.ref x]) (fun x_18 I_19 J_20 h_21 => ?_)
    obtain ⟨rfl, rfl, rx_18, fx_18, ex_18⟩ := h_21
    have c_22 : mfnd s_2.nv 7 (a1) y_16 0 = x_18 := by have q := fx_18; rw [show J b_1 = s_2.nv from congrArg NV_.nv hs_2] at q; exact q.symm
    refine h_putI C K hLx hkx f_12_153 p_12_13 dX12_readNamed_27 (fun I_23 hI_23 => ?_)
    have hU_24 := iw_put W9 hU hI_23 (ro_o hkx (by decide)) (lo := (-2147483648)) (hi := 2147483647) (rfl) (rg_all _) rfl
    have hF_25 := fq_puto hF hI_23 hkx (by decide) (by decide)
    have hs_26 : NVq I_23 J x b_1 = s_2 := by rw [hI_23]; exact (vq_oI wvqx (ro_o hkx (by decide)) (by decide)).trans hs_2
    have hs_27 : MTq I_23 J x b_3 = s_4 := by rw [hI_23]; exact (mq_uIt wmqx (by decide)).trans hs_4
    have hs_28 : NRq I_23 J x b_5 b_6 = (NR_.w_told s_7 (x_18)) := by rw [hI_23]; exact ((nq_told wnqx).trans (congrArg (fun z : NR_ => NR_.w_told z (x_18)) hs_7)).trans rfl
    refine g_aload_n C 0 dX12_readNamed_30 rfl rfl ?_
    refine g_getI C K hLx hkx f_12_153 (v := x_18) (kp_s hI_23) dX12_readNamed_31 ?_
    refine g_iconst C (v := (-1)) dX12_readNamed_34 (by decide) ?_
    refine g_icmp_ne C (tgt := 44) dX12_readNamed_35 (by decide) (fun h_29 => ?_) (fun h_29 => ?_)
    · skip
      have n_30 : ¬ x_18 = (-1) := h_29
      have r_31 := ne_lo (lo := 0) n_30 rx_18 rc_m1 rfl (by decide)
      refine g_aload_n C 0 dX12_readNamed_44 rfl rfl ?_
      refine g_callVV C K (c_X12_go W9 hLx hkx   hU_24) hLx hkx (by decide) rfl v_12_156 rfl ⟨rfl, rfl⟩ ⟨Nat.le_of_ble_eq_true rfl, Nat.le_of_ble_eq_true rfl⟩ (Nat.le_of_ble_eq_true rfl) ⟨Nat.le_of_ble_eq_true rfl, Nat.le_of_ble_eq_true rfl⟩ dX12_readNamed_45 rfl (st := []) (fun I_33 J_34 h_35 => ?_)
      obtain ⟨hUI_33, hFI_33, hGJ_34, fx_32, ex_32⟩ := h_35
      have hF_36 := fq_tr hF_25 hFI_33 (by decide)
      have hG_37 := fq_tr hG hGJ_34 (by decide)
      obtain ⟨s_39, hs_39⟩ : ∃ z, MTq I_33 J_34 x b_3 = z := ⟨_, rfl⟩
      have c_38 : mGo (s_4) = s_39 := by have q := fx_32; simp only [emqx, hs_27, hs_39] at q; exact q.symm
      have hs_40 : NVq I_33 J_34 x b_1 = s_2 := (vq_fq wvqx hFI_33 hGJ_34 (by decide) (by decide)).trans hs_26
      have hs_41 : NRq I_33 J_34 x b_5 b_6 = (NR_.w_told s_7 (x_18)) := (nq_fq wnqx hFI_33 hGJ_34 (by decide) (by decide)).trans hs_28
      refine g_iconst C (v := 1) dX12_readNamed_48 (by decide) ?_
      exact g_zret (ty := .boolean) (r := 1) B K rfl (rfl) ⟨hUI_33, hF_36, hG_37, rg_w rc_1 (by decide) (by decide), (by simp only [mNamed, evqx, hs_40, hs_2, emqx, hs_39, hs_4, enqx, hs_41, hs_7, c_12, h_13, hy_16, f_17, c_22, h_29, c_38, if_true, if_false, mqM_tp, mqM_size, mqM_limit, mqM_to, mqM_frm, mqM_kind, mqM_number, mqM_sign, mqM_word, MT_.w_tp, MT_.w_size, MT_.w_limit, MT_.w_to, MT_.w_frm, MT_.w_kind, MT_.w_number, MT_.w_sign, MT_.w_word, nqM_rd, nqM_rn, nqM_taped, nqM_mfault, nqM_mplace, nqM_told, nqM_hl, nqM_hd, NR_.w_rd, NR_.w_rn, NR_.w_taped, NR_.w_mfault, NR_.w_mplace, NR_.w_told, NR_.w_hl, NR_.w_hd, vqM_nv, NV_.w_nv]), (fun _ => eq_rg (fq_at hFI_33 hLx hkx (by decide) (by decide) (kp_s hI_23)) (r_31))⟩ dX12_readNamed_49
    · skip
      have r_42 := (⟨(rx_18).1, (eq_rg (h_29) rc_m1).2⟩ : Rg (-1) (-1) x_18)
      refine g_aload_n C 0 dX12_readNamed_38 rfl rfl ?_
      refine g_iconst C (v := 3) dX12_readNamed_39 (by decide) ?_
      refine g_callVI C K (c_X12_bad W9 hLx hkx 3 (rg_w rc_3 (by decide) (by decide)) hU_24) hLx hkx (by decide) rfl v_12_146 rfl ⟨rfl, rfl⟩ ⟨Nat.le_of_ble_eq_true rfl, Nat.le_of_ble_eq_true rfl⟩ (Nat.le_of_ble_eq_true rfl) ⟨Nat.le_of_ble_eq_true rfl, Nat.le_of_ble_eq_true rfl⟩ dX12_readNamed_40 rfl (st := []) (fun x_43 I_44 J_45 h_46 => ?_)
      obtain ⟨hUI_44, hFI_44, hGJ_45, rx_43, fx_43⟩ := h_46
      have hF_47 := fq_tr hF_25 hFI_44 (by decide)
      have hG_48 := fq_tr hG hGJ_45 (by decide)
      obtain ⟨s_50, hs_50⟩ : ∃ z, MTq I_44 J_45 x b_3 = z := ⟨_, rfl⟩
      obtain ⟨s_51, hs_51⟩ : ∃ z, NRq I_44 J_45 x b_5 b_6 = z := ⟨_, rfl⟩
      have c_49 : mBad (3) (s_4) ((NR_.w_told s_7 (x_18))) = (x_43, s_50, s_51) := by have q := fx_43; simp only [emqx, enqx, hs_27, hs_28, hs_50, hs_51] at q; exact q.symm
      have hs_52 : NVq I_44 J_45 x b_1 = s_2 := (vq_fq wvqx hFI_44 hGJ_45 (by decide) (by decide)).trans hs_26
      exact g_zret (ty := .boolean) (r := x_43) B K rfl (nar_z (rg_w rx_43 (by decide) (by decide))) ⟨hUI_44, hF_47, hG_48, rg_w rx_43 (by decide) (by decide), (by (try simp only [c_12, h_13, hy_16, f_17, c_22, (eq_true h_29), if_true, if_false, mqM_tp, mqM_size, mqM_limit, mqM_to, mqM_frm, mqM_kind, mqM_number, mqM_sign, mqM_word, MT_.w_tp, MT_.w_size, MT_.w_limit, MT_.w_to, MT_.w_frm, MT_.w_kind, MT_.w_number, MT_.w_sign, MT_.w_word, nqM_rd, nqM_rn, nqM_taped, nqM_mfault, nqM_mplace, nqM_told, nqM_hl, nqM_hd, NR_.w_rd, NR_.w_rn, NR_.w_taped, NR_.w_mfault, NR_.w_mplace, NR_.w_told, NR_.w_hl, NR_.w_hd, vqM_nv, NV_.w_nv] at c_49); simp only [mNamed, evqx, hs_52, hs_2, emqx, hs_50, hs_4, enqx, hs_51, hs_7, c_12, h_13, hy_16, f_17, c_22, (eq_true h_29), c_49, if_true, if_false, mqM_tp, mqM_size, mqM_limit, mqM_to, mqM_frm, mqM_kind, mqM_number, mqM_sign, mqM_word, MT_.w_tp, MT_.w_size, MT_.w_limit, MT_.w_to, MT_.w_frm, MT_.w_kind, MT_.w_number, MT_.w_sign, MT_.w_word, nqM_rd, nqM_rn, nqM_taped, nqM_mfault, nqM_mplace, nqM_told, nqM_hl, nqM_hd, NR_.w_rd, NR_.w_rn, NR_.w_taped, NR_.w_mfault, NR_.w_mplace, NR_.w_told, NR_.w_hl, NR_.w_hd, vqM_nv, NV_.w_nv]), (fun q => ne_no q rx_43 rc_0)⟩ dX12_readNamed_43
  · skip
    have r_53 := (⟨(rx_8).1, (eq_rg (h_13) rc_0).2⟩ : Rg 0 0 x_8)
    refine g_aload_n C 0 dX12_readNamed_7 rfl rfl ?_
    refine g_iconst C (v := 1) dX12_readNamed_8 (by decide) ?_
    refine g_callVI C K (c_X12_bad W9 hLx hkx 1 (rg_w rc_1 (by decide) (by decide)) hU) hLx hkx (by decide) rfl v_12_146 rfl ⟨rfl, rfl⟩ ⟨Nat.le_of_ble_eq_true rfl, Nat.le_of_ble_eq_true rfl⟩ (Nat.le_of_ble_eq_true rfl) ⟨Nat.le_of_ble_eq_true rfl, Nat.le_of_ble_eq_true rfl⟩ dX12_readNamed_9 rfl (st := []) (fun x_54 I_55 J_56 h_57 => ?_)
    obtain ⟨hUI_55, hFI_55, hGJ_56, rx_54, fx_54⟩ := h_57
    have hF_58 := fq_tr hF hFI_55 (by decide)
    have hG_59 := fq_tr hG hGJ_56 (by decide)
    obtain ⟨s_61, hs_61⟩ : ∃ z, MTq I_55 J_56 x b_3 = z := ⟨_, rfl⟩
    obtain ⟨s_62, hs_62⟩ : ∃ z, NRq I_55 J_56 x b_5 b_6 = z := ⟨_, rfl⟩
    have c_60 : mBad (1) (s_4) (s_7) = (x_54, s_61, s_62) := by have q := fx_54; simp only [emqx, enqx, hs_4, hs_7, hs_61, hs_62] at q; exact q.symm
    have hs_63 : NVq I_55 J_56 x b_1 = s_2 := (vq_fq wvqx hFI_55 hGJ_56 (by decide) (by decide)).trans hs_2
    exact g_zret (ty := .boolean) (r := x_54) B K rfl (nar_z (rg_w rx_54 (by decide) (by decide))) ⟨hUI_55, hF_58, hG_59, rg_w rx_54 (by decide) (by decide), (by simp only [mNamed, evqx, hs_63, hs_2, emqx, hs_61, hs_4, enqx, hs_62, hs_7, c_12, (eq_true h_13), c_60, if_true, if_false, mqM_tp, mqM_size, mqM_limit, mqM_to, mqM_frm, mqM_kind, mqM_number, mqM_sign, mqM_word, MT_.w_tp, MT_.w_size, MT_.w_limit, MT_.w_to, MT_.w_frm, MT_.w_kind, MT_.w_number, MT_.w_sign, MT_.w_word, nqM_rd, nqM_rn, nqM_taped, nqM_mfault, nqM_mplace, nqM_told, nqM_hl, nqM_hd, NR_.w_rd, NR_.w_rn, NR_.w_taped, NR_.w_mfault, NR_.w_mplace, NR_.w_told, NR_.w_hl, NR_.w_hd, vqM_nv, NV_.w_nv]), (fun q => ne_no q rx_54 rc_0)⟩ dX12_readNamed_12
set_option maxRecDepth 100000 in
set_option maxHeartbeats 8000000 in
theorem c_X12_readOf {l : Launch} {D : va_G} {cy : Nat → ClassId} {L : List Nat} {κ ln : Nat → Nat} {R : Nat → Nat → Option Nat} {I : Nat → Nat → Int32} {J : Nat → Nat → Int64} {ow : Nat → Nat × Nat} (W9 : ∀ a ∈ L, Shp L κ ln R ow a) {x : Nat} (hLx : x ∈ L) (hkx : κ x = 12) (a0 : Int32) (ra0 : Rg 22 23 a0) (hU : Iw L κ R ow I) (hn : (I x 47).toInt ≤ 2 * (I x 48).toInt) : CtI l yX12_readOf cX12_readOf 2 (some .boolean) { frames := 4, cells := 0, slots := 0, locals := 91 } D cy L κ ln R I J [.ref x, .int a0] (fun r I2 J2 => Iw L κ R ow I2 ∧ Fq L κ ow [1205, 1206, 1207, 1208, 1209, 1210, 1211, 1213, 1247, 1250, 86600] I I2 ∧ Fq L κ ow [1212] J J2 ∧ Rg 0 1 r ∧ ((r, MTf R I2 J2 x, NRf R I2 J2 x, QTf R I2 J2 x) = mOf a0 (NVf R I J x) (NWf R I J x) (MTf R I J x) (NRf R I J x) (QTf R I J x)) ∧ (¬ r = 0 → Sl_ x I I2)) := by
  obtain ⟨x_1, hx_1, rx_1⟩ := ex_getw (I := I) (a := x) (j := 47) (lo := 0) (hi := 60) hU.1 hLx (ro_o hkx (by decide)) rfl
  obtain ⟨x_2, hx_2, rx_2⟩ := ex_getw (I := I) (a := x) (j := 48) (lo := 0) (hi := 20) hU.1 hLx (ro_o hkx (by decide)) rfl
  rw [hx_1, hx_2] at hn
  obtain ⟨x_3, hx_3, rx_3⟩ := ex_getw (I := I) (a := x) (j := 50) (lo := 0) (hi := 59) hU.1 hLx (ro_o hkx (by decide)) rfl
  refine CtI.of (by decide +kernel) (Nat.le_of_ble_eq_true rfl) ?_
  intro p e s m below meth c B K
  have C := B.1
  have hF : Fq L κ ow [1205, 1206, 1207, 1208, 1209, 1210, 1211, 1213, 1247, 1250, 86600] I I := fq_rf
  have hG : Fq L κ ow [1212] J J := fq_rf
  obtain ⟨b_4, hb_4, hb_4L, hb_4k, hb_4n, hb_4o⟩ := shp_a (W9 x hLx) hkx 14 14 389 rfl (by decide)
  obtain ⟨b_5, hb_5, hb_5L, hb_5k, hb_5n, hb_5o⟩ := shp_a (W9 x hLx) hkx 19 15 13 rfl (by decide)
  have evqx : ∀ I J, NVf R I J x = NVq I J x b_5 := fun I J => by simp only [NVf, rr_, Option.getD_some, hb_5]
  have wvqx : vqw_ L κ ow x b_5 := ⟨⟨hLx, hb_5L⟩, ⟨(ro_o hkx (by decide)), (ro_a hb_5k (by decide) hb_5o hkx rfl)⟩⟩
  obtain ⟨s_6, hs_6⟩ : ∃ z, NVq I J x b_5 = z := ⟨_, rfl⟩
  have ezqx : ∀ I J, NWf R I J x = NWq I J x b_4 := fun I J => by simp only [NWf, rr_, Option.getD_some, hb_4]
  have wzqx : zqw_ L κ ow x b_4 := ⟨⟨hLx, hb_4L⟩, ⟨(ro_o hkx (by decide)), (ro_a hb_4k (by decide) hb_4o hkx rfl)⟩⟩
  obtain ⟨s_7, hs_7⟩ : ∃ z, NWq I J x b_4 = z := ⟨_, rfl⟩
  obtain ⟨b_8, hb_8, hb_8L, hb_8k, hb_8n, hb_8o⟩ := shp_a (W9 x hLx) hkx 1 14 940 rfl (by decide)
  have emqx : ∀ I J, MTf R I J x = MTq I J x b_8 := fun I J => by simp only [MTf, rr_, Option.getD_some, hb_8]
  have wmqx : mqw_ L κ ow x b_8 := ⟨⟨hLx, hb_8L⟩, ⟨(ro_o hkx (by decide)), (ro_a hb_8k (by decide) hb_8o hkx rfl)⟩⟩
  obtain ⟨s_9, hs_9⟩ : ∃ z, MTq I J x b_8 = z := ⟨_, rfl⟩
  obtain ⟨b_10, hb_10, hb_10L, hb_10k, hb_10n, hb_10o⟩ := shp_a (W9 x hLx) hkx 15 14 72 rfl (by decide)
  obtain ⟨b_11, hb_11, hb_11L, hb_11k, hb_11n, hb_11o⟩ := shp_a (W9 x hLx) hkx 20 15 13 rfl (by decide)
  have enqx : ∀ I J, NRf R I J x = NRq I J x b_10 b_11 := fun I J => by simp only [NRf, rr_, Option.getD_some, hb_10, hb_11]
  have wnqx : nqw_ L κ ow x b_10 b_11 := ⟨⟨hLx, hb_10L, hb_11L⟩, ⟨(ro_o hkx (by decide)), (ro_a hb_10k (by decide) hb_10o hkx rfl), (ro_a hb_11k (by decide) hb_11o hkx rfl)⟩⟩
  obtain ⟨s_12, hs_12⟩ : ∃ z, NRq I J x b_10 b_11 = z := ⟨_, rfl⟩
  have eqqx : ∀ I J, QTf R I J x = QTq I J x := fun I J => by simp only [QTf, rr_, Option.getD_some]
  have wqqx : qqw_ L κ ow x := ⟨hLx, (ro_o hkx (by decide))⟩
  obtain ⟨s_13, hs_13⟩ : ∃ z, QTq I J x = z := ⟨_, rfl⟩
  refine g_lo (is := [0, 1]) (lo2 := [(0, .ref x), (1, .int a0)]) rfl ?_
  refine g_aload_n C 0 dX12_readOf_0 rfl rfl ?_
  refine g_iload_n C 1 dX12_readOf_1 rfl rfl ?_
  refine g_bipush C (v := 22) dX12_readOf_2 (by decide) ?_
  refine g_icmp_ne C (tgt := 11) dX12_readOf_4 (by decide) (fun h_14 => ?_) (fun h_14 => ?_)
  · skip
    have n_15 : ¬ a0 = 22 := h_14
    have r_16 := ne_lo (lo := 23) n_15 ra0 rc_22 rfl (by decide)
    refine g_bipush C (v := 7) dX12_readOf_11 (by decide) ?_
    refine g_aload_n C 0 dX12_readOf_13 rfl rfl ?_
    refine g_getR C K hLx hkx f_12_13 hb_4 dX12_readOf_14 ?_
    refine g_iload_n C 1 dX12_readOf_17 rfl rfl ?_
    refine g_bipush C (v := 22) dX12_readOf_18 (by decide) ?_
    refine g_icmp_ne C (tgt := 27) dX12_readOf_20 (by decide) (fun h_17 => ?_) (fun h_17 => ?_)
    · skip
      have n_18 : ¬ a0 = 22 := h_17
      refine g_iconst C (v := 1) dX12_readOf_27 (by decide) ?_
      obtain ⟨x_19, hx_19, rx_19⟩ := ex_getw (I := I) (a := b_4) (j := 1) (lo := 0) (hi := 6) hU.1 hb_4L (ro_a hb_4k (by decide) hb_4o hkx rfl) (by decide)
      refine h_iald C K hb_4L hb_4k (v := x_19) (1) (by decide) (by decide) (by rw [hb_4n]; decide) hx_19 dX12_readOf_28 ?_
      have f_20 : s_7.nw (1) = x_19 := (congrFun (congrArg NW_.nw hs_7) _).symm.trans hx_19
      obtain ⟨x_21, hx_21, rx_21⟩ := ex_getw (I := I) (a := x) (j := 13) (lo := (-2147483648)) (hi := 2147483647) hU.1 hLx (ro_o hkx (by decide)) rfl
      have f_22 : s_12.told = x_21 := (congrArg NR_.told hs_12).symm.trans hx_21
      refine g_callVI C K (c_X12_readNamed_7 W9 hLx hkx x_19 (rx_19) hU) hLx hkx (by decide) rfl v_12_416 rfl ⟨rfl, rfl⟩ ⟨Nat.le_of_ble_eq_true rfl, Nat.le_of_ble_eq_true rfl⟩ (Nat.le_of_ble_eq_true rfl) ⟨Nat.le_of_ble_eq_true rfl, Nat.le_of_ble_eq_true rfl⟩ dX12_readOf_29 rfl (st := []) (fun x_23 I_24 J_25 h_26 => ?_)
      obtain ⟨hUI_24, hFI_24, hGJ_25, rx_23, fx_23, ex_23⟩ := h_26
      have hF_27 := fq_tr hF hFI_24 (by decide)
      have hG_28 := fq_tr hG hGJ_25 (by decide)
      obtain ⟨s_30, hs_30⟩ : ∃ z, MTq I_24 J_25 x b_8 = z := ⟨_, rfl⟩
      obtain ⟨s_31, hs_31⟩ : ∃ z, NRq I_24 J_25 x b_10 b_11 = z := ⟨_, rfl⟩
      have c_29 : mNamed (7) (x_19) (s_6) (s_9) (s_12) = (x_23, s_30, s_31) := by have q := fx_23; simp only [evqx, emqx, enqx, hs_6, hs_9, hs_12, hs_30, hs_31] at q; exact q.symm
      have hs_32 : NVq I_24 J_25 x b_5 = s_6 := (vq_fq wvqx hFI_24 hGJ_25 (by decide) (by decide)).trans hs_6
      have hs_33 : NWq I_24 J_25 x b_4 = s_7 := (zq_fq wzqx hFI_24 hGJ_25 (by decide) (by decide)).trans hs_7
      have hs_34 : QTq I_24 J_25 x = s_13 := (qq_fq wqqx hFI_24 hGJ_25 (by decide) (by decide)).trans hs_13
      obtain ⟨x_35, hx_35, rx_35⟩ := ex_getw (I := I_24) (a := x) (j := 13) (lo := (-2147483648)) (hi := 2147483647) hUI_24.1 hLx (ro_o hkx (by decide)) rfl
      have f_36 : s_31.told = x_35 := (congrArg NR_.told hs_31).symm.trans hx_35
      have q_37 := hx_35
      refine g_if_ne C (tgt := 37) dX12_readOf_32 (by decide) (fun h_38 => ?_) (fun h_38 => ?_)
      · skip
        have n_39 : ¬ x_23 = 0 := h_38
        have r_40 := ne_lo (lo := 1) n_39 rx_23 rc_0 rfl (by decide)
        have r_41 := rg_i rx_35 (eq_rg q_37.symm ((ex_23) n_39)) (lo := 0) (hi := 5) (by decide) (by decide)
        refine g_aload_n C 0 dX12_readOf_37 rfl rfl ?_
        refine g_aload_n C 0 dX12_readOf_38 rfl rfl ?_
        refine g_bipush C (v := 50) dX12_readOf_39 (by decide) ?_
        refine g_iload_n C 1 dX12_readOf_41 rfl rfl ?_
        obtain ⟨x_42, hx_42, rx_42, tx_42⟩ := ex_add 73 73 rc_50 r_16 (by decide) (by decide) (by decide) (by decide)
        refine g_iadd C (v := x_42) dX12_readOf_42 hx_42 ?_
        refine g_aload_n C 0 dX12_readOf_43 rfl rfl ?_
        refine g_getI C K hLx hkx f_12_153 (v := x_35) hx_35 dX12_readOf_44 ?_
        refine g_iconst C (v := 0) dX12_readOf_47 (by decide) ?_
        refine g_iconst C (v := 0) dX12_readOf_48 (by decide) ?_
        have f_43 : s_13.om = x_2 := (congrArg QT_.om hs_34).symm.trans (fq_at hFI_24 hLx hkx (by decide) (by decide) hx_2)
        have r_44 := (show Rg 0 59 x_1 from by have q1 := rx_1; have q2 := rx_2; unfold Rg at *; omega)
        refine g_callVI C K (c_X12_saysOne W9 hLx hkx x_42 x_35 0 0 (rg_w rx_42 (by decide) (by decide)) (rg_w r_41 (by decide) (by decide)) (rg_w rc_0 (by decide) (by decide)) hUI_24  (eq_rg (fq_at hFI_24 hLx hkx (by decide) (by decide) hx_1) (r_44)) (by rw [(fq_at hFI_24 hLx hkx (by decide) (by decide) hx_1)]; exact ⟨fun q => by rcases q with q | q | q; exact absurd q (rg_nek rx_42 rc_1 (by decide)); exact absurd q (rg_nek rx_42 rc_2 (by decide)); exact absurd q (rg_nek rx_42 rc_3 (by decide)), fun q => by rcases q with q | q; exact absurd q (rg_nek rx_42 rc_2 (by decide)); exact absurd q (rg_nek rx_42 rc_3 (by decide)), fun _ => ⟨by have := (r_41).1; omega, by have := (r_41).2; omega⟩⟩)) hLx hkx (by decide) rfl v_12_389 rfl ⟨rfl, rfl⟩ ⟨Nat.le_of_ble_eq_true rfl, Nat.le_of_ble_eq_true rfl⟩ (Nat.le_of_ble_eq_true rfl) ⟨Nat.le_of_ble_eq_true rfl, Nat.le_of_ble_eq_true rfl⟩ dX12_readOf_49 rfl (st := [.ref x]) (fun x_45 I_46 J_47 h_48 => ?_)
        obtain ⟨hUI_46, hFI_46, hGJ_47, rx_45, ex_45⟩ := h_48
        have hF_49 := fq_tr hF_27 hFI_46 (by decide)
        have hG_50 := fq_tr hG_28 hGJ_47 (by decide)
        have hs_51 : NVq I_46 J_47 x b_5 = s_6 := (vq_fq wvqx hFI_46 hGJ_47 (by decide) (by decide)).trans hs_32
        have hs_52 : NWq I_46 J_47 x b_4 = s_7 := (zq_fq wzqx hFI_46 hGJ_47 (by decide) (by decide)).trans hs_33
        have hs_53 : MTq I_46 J_47 x b_8 = s_30 := (mq_fq wmqx hFI_46 hGJ_47 (by decide) (by decide)).trans hs_30
        have hs_54 : NRq I_46 J_47 x b_10 b_11 = s_31 := (nq_fq wnqx hFI_46 hGJ_47 (by decide) (by decide)).trans hs_31
        have hs_55 : QTq I_46 J_47 x = s_13 := (qq_fq wqqx hFI_46 hGJ_47 (by decide) (by decide)).trans hs_34
        obtain ⟨x_56, hx_56, rx_56, tx_56, ux_56⟩ := sa_b (lo := 1) (hi := 60) ex_45 (fq_at hFI_24 hLx hkx (by decide) (by decide) hx_1) r_44 (by decide) (by decide)
        have r_57 := (show Rg 0 59 x_45 from by have q1 := ux_56; have q2 := r_44; unfold Rg at *; omega)
        refine h_putI C K hLx hkx f_12_386 p_12_50 dX12_readOf_52 (fun I_58 hI_58 => ?_)
        have hU_59 := iw_put W9 hUI_46 hI_58 (ro_o hkx (by decide)) (lo := 0) (hi := 59) (rfl) (r_57) rfl
        have hF_60 := fq_puto hF_49 hI_58 hkx (by decide) (by decide)
        have hs_61 : NVq I_58 J_47 x b_5 = s_6 := by rw [hI_58]; exact (vq_oI wvqx (ro_o hkx (by decide)) (by decide)).trans hs_51
        have hs_62 : NWq I_58 J_47 x b_4 = s_7 := by rw [hI_58]; exact (zq_oI wzqx (ro_o hkx (by decide)) (by decide)).trans hs_52
        have hs_63 : MTq I_58 J_47 x b_8 = s_30 := by rw [hI_58]; exact (mq_uIt wmqx (by decide)).trans hs_53
        have hs_64 : NRq I_58 J_47 x b_10 b_11 = s_31 := by rw [hI_58]; exact (nq_uIt wnqx (by decide)).trans hs_54
        have hs_65 : QTq I_58 J_47 x = s_13 := by rw [hI_58]; exact (qq_uIt wqqx (by decide)).trans hs_55
        refine g_iconst C (v := 1) dX12_readOf_55 (by decide) ?_
        exact g_zret (ty := .boolean) (r := 1) B K rfl (rfl) ⟨hU_59, hF_60, hG_50, rg_w rc_1 (by decide) (by decide), (by simp only [mOf, mOf2, evqx, hs_61, hs_6, ezqx, hs_62, hs_7, emqx, hs_63, hs_9, enqx, hs_64, hs_12, eqqx, hs_65, hs_13, hx_1, hx_2, hx_3, h_14, h_17, hx_19, f_20, hx_21, f_22, c_29, hx_35, f_36, h_38, hx_42, f_43, hx_56, if_true, if_false, mqM_tp, mqM_size, mqM_limit, mqM_to, mqM_frm, mqM_kind, mqM_number, mqM_sign, mqM_word, MT_.w_tp, MT_.w_size, MT_.w_limit, MT_.w_to, MT_.w_frm, MT_.w_kind, MT_.w_number, MT_.w_sign, MT_.w_word, nqM_rd, nqM_rn, nqM_taped, nqM_mfault, nqM_mplace, nqM_told, nqM_hl, nqM_hd, NR_.w_rd, NR_.w_rn, NR_.w_taped, NR_.w_mfault, NR_.w_mplace, NR_.w_told, NR_.w_hl, NR_.w_hd, qqM_om, QT_.w_om, vqM_nv, NV_.w_nv, zqM_nw, NW_.w_nw]), (fun _ => (sl_m hx_1 (kp_j hI_58 (by decide) hx_56) (kp_s hI_58) ⟨by have := tx_56; omega, by have := tx_56; omega⟩))⟩ dX12_readOf_56
      · skip
        have r_66 := (⟨(rx_23).1, (eq_rg (h_38) rc_0).2⟩ : Rg 0 0 x_23)
        refine g_iconst C (v := 0) dX12_readOf_35 (by decide) ?_
        exact g_zret (ty := .boolean) (r := 0) B K rfl (rfl) ⟨hUI_24, hF_27, hG_28, rg_w rc_0 (by decide) (by decide), (by simp only [mOf, mOf2, evqx, hs_32, hs_6, ezqx, hs_33, hs_7, emqx, hs_30, hs_9, enqx, hs_31, hs_12, eqqx, hs_34, hs_13, hx_1, hx_2, hx_3, h_14, h_17, hx_19, f_20, hx_21, f_22, c_29, hx_35, f_36, (eq_true h_38), if_true, if_false, mqM_tp, mqM_size, mqM_limit, mqM_to, mqM_frm, mqM_kind, mqM_number, mqM_sign, mqM_word, MT_.w_tp, MT_.w_size, MT_.w_limit, MT_.w_to, MT_.w_frm, MT_.w_kind, MT_.w_number, MT_.w_sign, MT_.w_word, nqM_rd, nqM_rn, nqM_taped, nqM_mfault, nqM_mplace, nqM_told, nqM_hl, nqM_hd, NR_.w_rd, NR_.w_rn, NR_.w_taped, NR_.w_mfault, NR_.w_mplace, NR_.w_told, NR_.w_hl, NR_.w_hd, qqM_om, QT_.w_om, vqM_nv, NV_.w_nv, zqM_nw, NW_.w_nw]), (fun q => absurd rfl q)⟩ dX12_readOf_36
    · skip
      exact eq_no (h_17) r_16 rc_22 (by decide)
  · skip
    have r_67 := (⟨(ra0).1, (eq_rg (h_14) rc_22).2⟩ : Rg 22 22 a0)
    refine g_iconst C (v := 0) dX12_readOf_7 (by decide) ?_
    refine g_goto C (tgt := 13) dX12_readOf_8 (by decide) ?_
    refine g_aload_n C 0 dX12_readOf_13 rfl rfl ?_
    refine g_getR C K hLx hkx f_12_13 hb_4 dX12_readOf_14 ?_
    refine g_iload_n C 1 dX12_readOf_17 rfl rfl ?_
    refine g_bipush C (v := 22) dX12_readOf_18 (by decide) ?_
    refine g_icmp_ne C (tgt := 27) dX12_readOf_20 (by decide) (fun h_68 => ?_) (fun h_68 => ?_)
    · skip
      exact ne_no (h_68) r_67 rc_22
    · skip
      refine g_iconst C (v := 0) dX12_readOf_23 (by decide) ?_
      refine g_goto C (tgt := 28) dX12_readOf_24 (by decide) ?_
      obtain ⟨x_69, hx_69, rx_69⟩ := ex_getw (I := I) (a := b_4) (j := 0) (lo := 0) (hi := 7) hU.1 hb_4L (ro_a hb_4k (by decide) hb_4o hkx rfl) (by decide)
      refine h_iald C K hb_4L hb_4k (v := x_69) (0) (by decide) (by decide) (by rw [hb_4n]; decide) hx_69 dX12_readOf_28 ?_
      have f_70 : s_7.nw (0) = x_69 := (congrFun (congrArg NW_.nw hs_7) _).symm.trans hx_69
      obtain ⟨x_71, hx_71, rx_71⟩ := ex_getw (I := I) (a := x) (j := 13) (lo := (-2147483648)) (hi := 2147483647) hU.1 hLx (ro_o hkx (by decide)) rfl
      have f_72 : s_12.told = x_71 := (congrArg NR_.told hs_12).symm.trans hx_71
      refine g_callVI C K (c_X12_readNamed_0 W9 hLx hkx x_69 (rx_69) hU) hLx hkx (by decide) rfl v_12_416 rfl ⟨rfl, rfl⟩ ⟨Nat.le_of_ble_eq_true rfl, Nat.le_of_ble_eq_true rfl⟩ (Nat.le_of_ble_eq_true rfl) ⟨Nat.le_of_ble_eq_true rfl, Nat.le_of_ble_eq_true rfl⟩ dX12_readOf_29 rfl (st := []) (fun x_73 I_74 J_75 h_76 => ?_)
      obtain ⟨hUI_74, hFI_74, hGJ_75, rx_73, fx_73, ex_73⟩ := h_76
      have hF_77 := fq_tr hF hFI_74 (by decide)
      have hG_78 := fq_tr hG hGJ_75 (by decide)
      obtain ⟨s_80, hs_80⟩ : ∃ z, MTq I_74 J_75 x b_8 = z := ⟨_, rfl⟩
      obtain ⟨s_81, hs_81⟩ : ∃ z, NRq I_74 J_75 x b_10 b_11 = z := ⟨_, rfl⟩
      have c_79 : mNamed (0) (x_69) (s_6) (s_9) (s_12) = (x_73, s_80, s_81) := by have q := fx_73; simp only [evqx, emqx, enqx, hs_6, hs_9, hs_12, hs_80, hs_81] at q; exact q.symm
      have hs_82 : NVq I_74 J_75 x b_5 = s_6 := (vq_fq wvqx hFI_74 hGJ_75 (by decide) (by decide)).trans hs_6
      have hs_83 : NWq I_74 J_75 x b_4 = s_7 := (zq_fq wzqx hFI_74 hGJ_75 (by decide) (by decide)).trans hs_7
      have hs_84 : QTq I_74 J_75 x = s_13 := (qq_fq wqqx hFI_74 hGJ_75 (by decide) (by decide)).trans hs_13
      obtain ⟨x_85, hx_85, rx_85⟩ := ex_getw (I := I_74) (a := x) (j := 13) (lo := (-2147483648)) (hi := 2147483647) hUI_74.1 hLx (ro_o hkx (by decide)) rfl
      have f_86 : s_81.told = x_85 := (congrArg NR_.told hs_81).symm.trans hx_85
      have q_87 := hx_85
      refine g_if_ne C (tgt := 37) dX12_readOf_32 (by decide) (fun h_88 => ?_) (fun h_88 => ?_)
      · skip
        have n_89 : ¬ x_73 = 0 := h_88
        have r_90 := ne_lo (lo := 1) n_89 rx_73 rc_0 rfl (by decide)
        have r_91 := rg_i rx_85 (eq_rg q_87.symm ((ex_73) n_89)) (lo := 0) (hi := 6) (by decide) (by decide)
        refine g_aload_n C 0 dX12_readOf_37 rfl rfl ?_
        refine g_aload_n C 0 dX12_readOf_38 rfl rfl ?_
        refine g_bipush C (v := 50) dX12_readOf_39 (by decide) ?_
        refine g_iload_n C 1 dX12_readOf_41 rfl rfl ?_
        obtain ⟨x_92, hx_92, rx_92, tx_92⟩ := ex_add 72 72 rc_50 r_67 (by decide) (by decide) (by decide) (by decide)
        refine g_iadd C (v := x_92) dX12_readOf_42 hx_92 ?_
        refine g_aload_n C 0 dX12_readOf_43 rfl rfl ?_
        refine g_getI C K hLx hkx f_12_153 (v := x_85) hx_85 dX12_readOf_44 ?_
        refine g_iconst C (v := 0) dX12_readOf_47 (by decide) ?_
        refine g_iconst C (v := 0) dX12_readOf_48 (by decide) ?_
        have f_93 : s_13.om = x_2 := (congrArg QT_.om hs_84).symm.trans (fq_at hFI_74 hLx hkx (by decide) (by decide) hx_2)
        have r_94 := (show Rg 0 59 x_1 from by have q1 := rx_1; have q2 := rx_2; unfold Rg at *; omega)
        refine g_callVI C K (c_X12_saysOne W9 hLx hkx x_92 x_85 0 0 (rg_w rx_92 (by decide) (by decide)) (rg_w r_91 (by decide) (by decide)) (rg_w rc_0 (by decide) (by decide)) hUI_74  (eq_rg (fq_at hFI_74 hLx hkx (by decide) (by decide) hx_1) (r_94)) (by rw [(fq_at hFI_74 hLx hkx (by decide) (by decide) hx_1)]; exact ⟨fun q => by rcases q with q | q | q; exact absurd q (rg_nek rx_92 rc_1 (by decide)); exact absurd q (rg_nek rx_92 rc_2 (by decide)); exact absurd q (rg_nek rx_92 rc_3 (by decide)), fun q => by rcases q with q | q; exact absurd q (rg_nek rx_92 rc_2 (by decide)); exact absurd q (rg_nek rx_92 rc_3 (by decide)), fun q => absurd q (rg_nek rx_92 rc_73 (by decide))⟩)) hLx hkx (by decide) rfl v_12_389 rfl ⟨rfl, rfl⟩ ⟨Nat.le_of_ble_eq_true rfl, Nat.le_of_ble_eq_true rfl⟩ (Nat.le_of_ble_eq_true rfl) ⟨Nat.le_of_ble_eq_true rfl, Nat.le_of_ble_eq_true rfl⟩ dX12_readOf_49 rfl (st := [.ref x]) (fun x_95 I_96 J_97 h_98 => ?_)
        obtain ⟨hUI_96, hFI_96, hGJ_97, rx_95, ex_95⟩ := h_98
        have hF_99 := fq_tr hF_77 hFI_96 (by decide)
        have hG_100 := fq_tr hG_78 hGJ_97 (by decide)
        have hs_101 : NVq I_96 J_97 x b_5 = s_6 := (vq_fq wvqx hFI_96 hGJ_97 (by decide) (by decide)).trans hs_82
        have hs_102 : NWq I_96 J_97 x b_4 = s_7 := (zq_fq wzqx hFI_96 hGJ_97 (by decide) (by decide)).trans hs_83
        have hs_103 : MTq I_96 J_97 x b_8 = s_80 := (mq_fq wmqx hFI_96 hGJ_97 (by decide) (by decide)).trans hs_80
        have hs_104 : NRq I_96 J_97 x b_10 b_11 = s_81 := (nq_fq wnqx hFI_96 hGJ_97 (by decide) (by decide)).trans hs_81
        have hs_105 : QTq I_96 J_97 x = s_13 := (qq_fq wqqx hFI_96 hGJ_97 (by decide) (by decide)).trans hs_84
        obtain ⟨x_106, hx_106, rx_106, tx_106, ux_106⟩ := sa_b (lo := 1) (hi := 60) ex_95 (fq_at hFI_74 hLx hkx (by decide) (by decide) hx_1) r_94 (by decide) (by decide)
        have r_107 := (show Rg 0 59 x_95 from by have q1 := ux_106; have q2 := r_94; unfold Rg at *; omega)
        refine h_putI C K hLx hkx f_12_386 p_12_50 dX12_readOf_52 (fun I_108 hI_108 => ?_)
        have hU_109 := iw_put W9 hUI_96 hI_108 (ro_o hkx (by decide)) (lo := 0) (hi := 59) (rfl) (r_107) rfl
        have hF_110 := fq_puto hF_99 hI_108 hkx (by decide) (by decide)
        have hs_111 : NVq I_108 J_97 x b_5 = s_6 := by rw [hI_108]; exact (vq_oI wvqx (ro_o hkx (by decide)) (by decide)).trans hs_101
        have hs_112 : NWq I_108 J_97 x b_4 = s_7 := by rw [hI_108]; exact (zq_oI wzqx (ro_o hkx (by decide)) (by decide)).trans hs_102
        have hs_113 : MTq I_108 J_97 x b_8 = s_80 := by rw [hI_108]; exact (mq_uIt wmqx (by decide)).trans hs_103
        have hs_114 : NRq I_108 J_97 x b_10 b_11 = s_81 := by rw [hI_108]; exact (nq_uIt wnqx (by decide)).trans hs_104
        have hs_115 : QTq I_108 J_97 x = s_13 := by rw [hI_108]; exact (qq_uIt wqqx (by decide)).trans hs_105
        refine g_iconst C (v := 1) dX12_readOf_55 (by decide) ?_
        exact g_zret (ty := .boolean) (r := 1) B K rfl (rfl) ⟨hU_109, hF_110, hG_100, rg_w rc_1 (by decide) (by decide), (by simp only [mOf, mOf2, evqx, hs_111, hs_6, ezqx, hs_112, hs_7, emqx, hs_113, hs_9, enqx, hs_114, hs_12, eqqx, hs_115, hs_13, hx_1, hx_2, hx_3, (eq_true h_14), (eq_true h_68), hx_69, f_70, hx_71, f_72, c_79, hx_85, f_86, h_88, hx_92, f_93, hx_106, if_true, if_false, mqM_tp, mqM_size, mqM_limit, mqM_to, mqM_frm, mqM_kind, mqM_number, mqM_sign, mqM_word, MT_.w_tp, MT_.w_size, MT_.w_limit, MT_.w_to, MT_.w_frm, MT_.w_kind, MT_.w_number, MT_.w_sign, MT_.w_word, nqM_rd, nqM_rn, nqM_taped, nqM_mfault, nqM_mplace, nqM_told, nqM_hl, nqM_hd, NR_.w_rd, NR_.w_rn, NR_.w_taped, NR_.w_mfault, NR_.w_mplace, NR_.w_told, NR_.w_hl, NR_.w_hd, qqM_om, QT_.w_om, vqM_nv, NV_.w_nv, zqM_nw, NW_.w_nw]), (fun _ => (sl_m hx_1 (kp_j hI_108 (by decide) hx_106) (kp_s hI_108) ⟨by have := tx_106; omega, by have := tx_106; omega⟩))⟩ dX12_readOf_56
      · skip
        have r_116 := (⟨(rx_73).1, (eq_rg (h_88) rc_0).2⟩ : Rg 0 0 x_73)
        refine g_iconst C (v := 0) dX12_readOf_35 (by decide) ?_
        exact g_zret (ty := .boolean) (r := 0) B K rfl (rfl) ⟨hUI_74, hF_77, hG_78, rg_w rc_0 (by decide) (by decide), (by simp only [mOf, mOf2, evqx, hs_82, hs_6, ezqx, hs_83, hs_7, emqx, hs_80, hs_9, enqx, hs_81, hs_12, eqqx, hs_84, hs_13, hx_1, hx_2, hx_3, (eq_true h_14), (eq_true h_68), hx_69, f_70, hx_71, f_72, c_79, hx_85, f_86, (eq_true h_88), if_true, if_false, mqM_tp, mqM_size, mqM_limit, mqM_to, mqM_frm, mqM_kind, mqM_number, mqM_sign, mqM_word, MT_.w_tp, MT_.w_size, MT_.w_limit, MT_.w_to, MT_.w_frm, MT_.w_kind, MT_.w_number, MT_.w_sign, MT_.w_word, nqM_rd, nqM_rn, nqM_taped, nqM_mfault, nqM_mplace, nqM_told, nqM_hl, nqM_hd, NR_.w_rd, NR_.w_rn, NR_.w_taped, NR_.w_mfault, NR_.w_mplace, NR_.w_told, NR_.w_hl, NR_.w_hd, qqM_om, QT_.w_om, vqM_nv, NV_.w_nv, zqM_nw, NW_.w_nw]), (fun q => absurd rfl q)⟩ dX12_readOf_36
set_option maxRecDepth 100000 in
set_option maxHeartbeats 8000000 in
theorem c_X12_readSaid_7 {l : Launch} {D : va_G} {cy : Nat → ClassId} {L : List Nat} {κ ln : Nat → Nat} {R : Nat → Nat → Option Nat} {I : Nat → Nat → Int32} {J : Nat → Nat → Int64} {ow : Nat → Nat × Nat} (W9 : ∀ a ∈ L, Shp L κ ln R ow a) {x : Nat} (hLx : x ∈ L) (hkx : κ x = 12) (hU : Iw L κ R ow I) (hn : (I x 47).toInt ≤ 2 * (I x 48).toInt) (hwi : I x 49 = 7) : CtI l yX12_readSaid cX12_readSaid 4 (some .boolean) { frames := 7, cells := 0, slots := 0, locals := 154 } D cy L κ ln R I J [.ref x] (fun r I2 J2 => Iw L κ R ow I2 ∧ Fq L κ ow [1205, 1206, 1207, 1208, 1209, 1210, 1211, 1213, 1247, 1248, 1249, 1250, 86600] I I2 ∧ Fq L κ ow [1212] J J2 ∧ Rg 0 1 r ∧ ((r, MTf R I2 J2 x, NRf R I2 J2 x, QTf R I2 J2 x) = mSaid 1 (NVf R I J x) (NWf R I J x) (MTf R I J x) (NRf R I J x) (QTf R I J x)) ∧ (¬ r = 0 → Sz_ x I I2 1) ∧ (I2 x 49 = 7)) := by
  obtain ⟨x_1, hx_1, rx_1⟩ := ex_getw (I := I) (a := x) (j := 47) (lo := 0) (hi := 60) hU.1 hLx (ro_o hkx (by decide)) rfl
  obtain ⟨x_2, hx_2, rx_2⟩ := ex_getw (I := I) (a := x) (j := 48) (lo := 0) (hi := 20) hU.1 hLx (ro_o hkx (by decide)) rfl
  rw [hx_1, hx_2] at hn
  obtain ⟨x_3, hx_3, rx_3⟩ := ex_getw (I := I) (a := x) (j := 50) (lo := 0) (hi := 59) hU.1 hLx (ro_o hkx (by decide)) rfl
  refine CtI.of (by decide +kernel) (Nat.le_of_ble_eq_true rfl) ?_
  intro p e s m below meth c B K
  have C := B.1
  have hF : Fq L κ ow [1205, 1206, 1207, 1208, 1209, 1210, 1211, 1213, 1247, 1248, 1249, 1250, 86600] I I := fq_rf
  have hG : Fq L κ ow [1212] J J := fq_rf
  obtain ⟨b_4, hb_4, hb_4L, hb_4k, hb_4n, hb_4o⟩ := shp_a (W9 x hLx) hkx 19 15 13 rfl (by decide)
  have evqx : ∀ I J, NVf R I J x = NVq I J x b_4 := fun I J => by simp only [NVf, rr_, Option.getD_some, hb_4]
  have wvqx : vqw_ L κ ow x b_4 := ⟨⟨hLx, hb_4L⟩, ⟨(ro_o hkx (by decide)), (ro_a hb_4k (by decide) hb_4o hkx rfl)⟩⟩
  obtain ⟨s_5, hs_5⟩ : ∃ z, NVq I J x b_4 = z := ⟨_, rfl⟩
  obtain ⟨b_6, hb_6, hb_6L, hb_6k, hb_6n, hb_6o⟩ := shp_a (W9 x hLx) hkx 14 14 389 rfl (by decide)
  have ezqx : ∀ I J, NWf R I J x = NWq I J x b_6 := fun I J => by simp only [NWf, rr_, Option.getD_some, hb_6]
  have wzqx : zqw_ L κ ow x b_6 := ⟨⟨hLx, hb_6L⟩, ⟨(ro_o hkx (by decide)), (ro_a hb_6k (by decide) hb_6o hkx rfl)⟩⟩
  obtain ⟨s_7, hs_7⟩ : ∃ z, NWq I J x b_6 = z := ⟨_, rfl⟩
  obtain ⟨b_8, hb_8, hb_8L, hb_8k, hb_8n, hb_8o⟩ := shp_a (W9 x hLx) hkx 1 14 940 rfl (by decide)
  have emqx : ∀ I J, MTf R I J x = MTq I J x b_8 := fun I J => by simp only [MTf, rr_, Option.getD_some, hb_8]
  have wmqx : mqw_ L κ ow x b_8 := ⟨⟨hLx, hb_8L⟩, ⟨(ro_o hkx (by decide)), (ro_a hb_8k (by decide) hb_8o hkx rfl)⟩⟩
  obtain ⟨s_9, hs_9⟩ : ∃ z, MTq I J x b_8 = z := ⟨_, rfl⟩
  obtain ⟨b_10, hb_10, hb_10L, hb_10k, hb_10n, hb_10o⟩ := shp_a (W9 x hLx) hkx 15 14 72 rfl (by decide)
  obtain ⟨b_11, hb_11, hb_11L, hb_11k, hb_11n, hb_11o⟩ := shp_a (W9 x hLx) hkx 20 15 13 rfl (by decide)
  have enqx : ∀ I J, NRf R I J x = NRq I J x b_10 b_11 := fun I J => by simp only [NRf, rr_, Option.getD_some, hb_10, hb_11]
  have wnqx : nqw_ L κ ow x b_10 b_11 := ⟨⟨hLx, hb_10L, hb_11L⟩, ⟨(ro_o hkx (by decide)), (ro_a hb_10k (by decide) hb_10o hkx rfl), (ro_a hb_11k (by decide) hb_11o hkx rfl)⟩⟩
  obtain ⟨s_12, hs_12⟩ : ∃ z, NRq I J x b_10 b_11 = z := ⟨_, rfl⟩
  have eqqx : ∀ I J, QTf R I J x = QTq I J x := fun I J => by simp only [QTf, rr_, Option.getD_some]
  have wqqx : qqw_ L κ ow x := ⟨hLx, (ro_o hkx (by decide))⟩
  obtain ⟨s_13, hs_13⟩ : ∃ z, QTq I J x = z := ⟨_, rfl⟩
  refine g_lo (is := [0]) (lo2 := [(0, .ref x)]) rfl ?_
  have l_10 : ∀ (n_10 : Nat) (v_14 : Int32) (rv_14 : Rg 0 1 v_14) (v_15 : Int32) (rv_15 : Rg 18 28 v_15) (v_16 : Int32) (rv_16 : Rg 0 60 v_16) (v_17 : Int32) (rv_17 : Rg 0 20 v_17) (v_18 : Int32) (rv_18 : Rg 0 59 v_18) (v_19 : Int32) (rv_19 : Rg 0 4 v_19) (q_20 : I x 47 = v_16) (q_21 : I x 48 = v_17) (q_22 : I x 49 = 7) (q_23 : I x 50 = v_18) (q_24 : I x 7 = v_19) (hq_25 : mSd1 (mBrK 0 s_5 s_7) (mNtK 0 s_5 s_7) s_5 s_7 v_14 (mww v_15 s_9) s_9 s_12 s_13 = mSaid 1 s_5 s_7 s_9 s_12 s_13) (hj_26 : v_16.toInt = x_1.toInt ∧ v_17.toInt = x_2.toInt) (hm_27 : 28 < (v_15 : Int32).toInt + (n_10 : Int)), WG p l e { frames := 7, cells := 0, slots := 0, locals := 154 } s m ([.ref x] : List Value).toArray below meth c 4 0 0 (MQ below (Qi_ D cy L κ ln R (fun r I2 J2 => Iw L κ R ow I2 ∧ Fq L κ ow [1205, 1206, 1207, 1208, 1209, 1210, 1211, 1213, 1247, 1248, 1249, 1250, 86600] I I2 ∧ Fq L κ ow [1212] J J2 ∧ Rg 0 1 r ∧ ((r, MTf R I2 J2 x, NRf R I2 J2 x, QTf R I2 J2 x) = mSaid 1 (NVf R I J x) (NWf R I J x) (MTf R I J x) (NRf R I J x) (QTf R I J x)) ∧ (¬ r = 0 → Sz_ x I I2 1) ∧ (I2 x 49 = 7))) ([.ref x] : List Value).toArray s 0 0 (Al_ L)) D cy (Al_ L) s.heap L κ ln R I J 10 [(0, .ref x), (1, .int v_14), (2, .int v_15)] [] := by
    intro n_10
    induction n_10 with
    | zero =>
      intro v_14 rv_14 v_15 rv_15 v_16 rv_16 v_17 rv_17 v_18 rv_18 v_19 rv_19 q_20 q_21 q_22 q_23 q_24 hq_25 hj_26 hm_27
      exact ms_0 rv_15 hm_27
    | succ n_10 ih_10 =>
      intro v_14 rv_14 v_15 rv_15 v_16 rv_16 v_17 rv_17 v_18 rv_18 v_19 rv_19 q_20 q_21 q_22 q_23 q_24 hq_25 hj_26 hm_27
      have hQ_28 := hq_25.symm
      have u_29 := mww_eq (w := v_15) (m := s_9) (rg_w rv_15 (by decide) (by decide))
      refine g_iload_n C 2 dX12_readSaid_10 rfl rfl ?_
      refine g_bipush C (v := 27) dX12_readSaid_11 (by decide) ?_
      refine g_icmp_gt C (tgt := 30) dX12_readSaid_13 (by decide) (fun h_30 => ?_) (fun h_30 => ?_)
      · skip
        have r_31 := lt_r (lo := 28) (h_30) rc_27 rv_15 (by decide)
        refine g_iload_n C 1 dX12_readSaid_30 rfl rfl ?_
        refine g_if_ne C (tgt := 46) dX12_readSaid_31 (by decide) (fun h_32 => ?_) (fun h_32 => ?_)
        · skip
          have n_33 : ¬ v_14 = 0 := h_32
          have r_34 := ne_lo (lo := 1) n_33 rv_14 rc_0 rfl (by decide)
          refine g_aload_n C 0 dX12_readSaid_46 rfl rfl ?_
          have f_35 : s_13.om = v_17 := (congrArg QT_.om hs_13).symm.trans q_21
          refine g_getI C K hLx hkx f_12_395 (v := v_17) q_21 dX12_readSaid_47 ?_
          refine g_bipush C (v := 20) dX12_readSaid_50 (by decide) ?_
          refine g_icmp_eq C (tgt := 64) dX12_readSaid_52 (by decide) (fun h_36 => ?_) (fun h_36 => ?_)
          · skip
            have r_37 := (⟨(eq_rg (h_36) rc_20).1, (rv_17).2⟩ : Rg 20 20 v_17)
            refine g_aload_n C 0 dX12_readSaid_64 rfl rfl ?_
            refine g_iconst C (v := 4) dX12_readSaid_65 (by decide) ?_
            refine g_callVI C K (c_X12_bad W9 hLx hkx 4 (rg_w rc_4 (by decide) (by decide)) hU) hLx hkx (by decide) rfl v_12_146 rfl ⟨rfl, rfl⟩ ⟨Nat.le_of_ble_eq_true rfl, Nat.le_of_ble_eq_true rfl⟩ (Nat.le_of_ble_eq_true rfl) ⟨Nat.le_of_ble_eq_true rfl, Nat.le_of_ble_eq_true rfl⟩ dX12_readSaid_66 rfl (st := []) (fun x_38 I_39 J_40 h_41 => ?_)
            obtain ⟨hUI_39, hFI_39, hGJ_40, rx_38, fx_38⟩ := h_41
            have hF_42 := fq_tr hF hFI_39 (by decide)
            have hG_43 := fq_tr hG hGJ_40 (by decide)
            obtain ⟨s_45, hs_45⟩ : ∃ z, MTq I_39 J_40 x b_8 = z := ⟨_, rfl⟩
            obtain ⟨s_46, hs_46⟩ : ∃ z, NRq I_39 J_40 x b_10 b_11 = z := ⟨_, rfl⟩
            have c_44 : mBad (4) (s_9) (s_12) = (x_38, s_45, s_46) := by have q := fx_38; simp only [emqx, enqx, hs_9, hs_12, hs_45, hs_46] at q; exact q.symm
            have hs_47 : NVq I_39 J_40 x b_4 = s_5 := (vq_fq wvqx hFI_39 hGJ_40 (by decide) (by decide)).trans hs_5
            have hs_48 : NWq I_39 J_40 x b_6 = s_7 := (zq_fq wzqx hFI_39 hGJ_40 (by decide) (by decide)).trans hs_7
            have hs_49 : QTq I_39 J_40 x = s_13 := (qq_fq wqqx hFI_39 hGJ_40 (by decide) (by decide)).trans hs_13
            exact g_zret (ty := .boolean) (r := x_38) B K rfl (nar_z (rg_w rx_38 (by decide) (by decide))) ⟨hUI_39, hF_42, hG_43, rg_w rx_38 (by decide) (by decide), (by (try simp only [h_30, h_32, f_35, (eq_true h_36), c_44, if_true, if_false, mqM_tp, mqM_size, mqM_limit, mqM_to, mqM_frm, mqM_kind, mqM_number, mqM_sign, mqM_word, MT_.w_tp, MT_.w_size, MT_.w_limit, MT_.w_to, MT_.w_frm, MT_.w_kind, MT_.w_number, MT_.w_sign, MT_.w_word, nqM_rd, nqM_rn, nqM_taped, nqM_mfault, nqM_mplace, nqM_told, nqM_hl, nqM_hd, NR_.w_rd, NR_.w_rn, NR_.w_taped, NR_.w_mfault, NR_.w_mplace, NR_.w_told, NR_.w_hl, NR_.w_hd, qqM_om, QT_.w_om, vqM_nv, NV_.w_nv, zqM_nw, NW_.w_nw] at hQ_28); (try simp only [h_30, h_32, f_35, (eq_true h_36), c_44, if_true, if_false, mqM_tp, mqM_size, mqM_limit, mqM_to, mqM_frm, mqM_kind, mqM_number, mqM_sign, mqM_word, MT_.w_tp, MT_.w_size, MT_.w_limit, MT_.w_to, MT_.w_frm, MT_.w_kind, MT_.w_number, MT_.w_sign, MT_.w_word, nqM_rd, nqM_rn, nqM_taped, nqM_mfault, nqM_mplace, nqM_told, nqM_hl, nqM_hd, NR_.w_rd, NR_.w_rn, NR_.w_taped, NR_.w_mfault, NR_.w_mplace, NR_.w_told, NR_.w_hl, NR_.w_hd, qqM_om, QT_.w_om, vqM_nv, NV_.w_nv, zqM_nw, NW_.w_nw] at u_29); simp only [mSd0, mSd1, mSd2, mBadQ, evqx, hs_47, hs_5, ezqx, hs_48, hs_7, emqx, hs_45, hs_9, enqx, hs_46, hs_12, eqqx, hs_49, hs_13, hQ_28, u_29, h_30, h_32, f_35, (eq_true h_36), c_44, if_true, if_false, mqM_tp, mqM_size, mqM_limit, mqM_to, mqM_frm, mqM_kind, mqM_number, mqM_sign, mqM_word, MT_.w_tp, MT_.w_size, MT_.w_limit, MT_.w_to, MT_.w_frm, MT_.w_kind, MT_.w_number, MT_.w_sign, MT_.w_word, nqM_rd, nqM_rn, nqM_taped, nqM_mfault, nqM_mplace, nqM_told, nqM_hl, nqM_hd, NR_.w_rd, NR_.w_rn, NR_.w_taped, NR_.w_mfault, NR_.w_mplace, NR_.w_told, NR_.w_hl, NR_.w_hd, qqM_om, QT_.w_om, vqM_nv, NV_.w_nv, zqM_nw, NW_.w_nw]), (fun q => ne_no q rx_38 rc_0), (fq_at hFI_39 hLx hkx (by decide) (by decide) q_22)⟩ dX12_readSaid_69
          · skip
            have n_50 : ¬ v_17 = 20 := h_36
            have r_51 := ne_hi (hi := 19) n_50 rv_17 rc_20 rfl (by decide)
            refine g_aload_n C 0 dX12_readSaid_55 rfl rfl ?_
            refine g_getI C K hLx hkx f_12_398 (v := 7) q_22 dX12_readSaid_56 ?_
            refine g_bipush C (v := 8) dX12_readSaid_59 (by decide) ?_
            refine g_icmp_ne C (tgt := 70) dX12_readSaid_61 (by decide) (fun h_52 => ?_) (fun h_52 => ?_)
            · skip
              refine g_aload_n C 0 dX12_readSaid_70 rfl rfl ?_
              refine g_dup C dX12_readSaid_71 rfl ?_
              refine g_getI C K hLx hkx f_12_395 (v := v_17) q_21 dX12_readSaid_72 ?_
              refine g_iconst C (v := 1) dX12_readSaid_75 (by decide) ?_
              obtain ⟨x_53, hx_53, rx_53, tx_53⟩ := ex_add 1 20 r_51 rc_1 (by decide) (by decide) (by decide) (by decide)
              refine g_iadd C (v := x_53) dX12_readSaid_76 hx_53 ?_
              refine h_putI C K hLx hkx f_12_395 p_12_48 dX12_readSaid_77 (fun I_54 hI_54 => ?_)
              have hU_55 := iw_put W9 hU hI_54 (ro_o hkx (by decide)) (lo := 0) (hi := 20) (rfl) (rg_w rx_53 (by decide) (by decide)) rfl
              have hF_56 := fq_puto hF hI_54 hkx (by decide) (by decide)
              have hs_57 : NVq I_54 J x b_4 = s_5 := by rw [hI_54]; exact (vq_oI wvqx (ro_o hkx (by decide)) (by decide)).trans hs_5
              have hs_58 : NWq I_54 J x b_6 = s_7 := by rw [hI_54]; exact (zq_oI wzqx (ro_o hkx (by decide)) (by decide)).trans hs_7
              have hs_59 : MTq I_54 J x b_8 = s_9 := by rw [hI_54]; exact (mq_uIt wmqx (by decide)).trans hs_9
              have hs_60 : NRq I_54 J x b_10 b_11 = s_12 := by rw [hI_54]; exact (nq_uIt wnqx (by decide)).trans hs_12
              have hs_61 : QTq I_54 J x = (QT_.w_om s_13 (x_53)) := by rw [hI_54]; exact ((qq_om wqqx).trans (congrArg (fun z : QT_ => QT_.w_om z (x_53)) hs_13)).trans rfl
              refine g_aload_n C 0 dX12_readSaid_80 rfl rfl ?_
              refine g_dup C dX12_readSaid_81 rfl ?_
              refine g_getI C K hLx hkx f_12_398 (v := 7) (kp_j hI_54 (by decide) q_22) dX12_readSaid_82 ?_
              refine g_iconst C (v := 1) dX12_readSaid_85 (by decide) ?_
              refine g_iadd C (v := 8) dX12_readSaid_86 (by decide) ?_
              refine h_putI C K hLx hkx f_12_398 p_12_49 dX12_readSaid_87 (fun I_62 hI_62 => ?_)
              have hU_63 := iw_put W9 hU_55 hI_62 (ro_o hkx (by decide)) (lo := 0) (hi := 8) (rfl) (rg_w rc_8 (by decide) (by decide)) rfl
              have hF_64 := fq_puto hF_56 hI_62 hkx (by decide) (by decide)
              have hs_65 : NVq I_62 J x b_4 = s_5 := by rw [hI_62]; exact (vq_oI wvqx (ro_o hkx (by decide)) (by decide)).trans hs_57
              have hs_66 : NWq I_62 J x b_6 = s_7 := by rw [hI_62]; exact (zq_oI wzqx (ro_o hkx (by decide)) (by decide)).trans hs_58
              have hs_67 : MTq I_62 J x b_8 = s_9 := by rw [hI_62]; exact (mq_uIt wmqx (by decide)).trans hs_59
              have hs_68 : NRq I_62 J x b_10 b_11 = s_12 := by rw [hI_62]; exact (nq_uIt wnqx (by decide)).trans hs_60
              have hs_69 : QTq I_62 J x = (QT_.w_om s_13 (x_53)) := by rw [hI_62]; exact (qq_uIt wqqx (by decide)).trans hs_61
              refine g_aload_n C 0 dX12_readSaid_90 rfl rfl ?_
              refine g_callVV C K (c_X12_go W9 hLx hkx   hU_63) hLx hkx (by decide) rfl v_12_156 rfl ⟨rfl, rfl⟩ ⟨Nat.le_of_ble_eq_true rfl, Nat.le_of_ble_eq_true rfl⟩ (Nat.le_of_ble_eq_true rfl) ⟨Nat.le_of_ble_eq_true rfl, Nat.le_of_ble_eq_true rfl⟩ dX12_readSaid_91 rfl (st := []) (fun I_71 J_72 h_73 => ?_)
              obtain ⟨hUI_71, hFI_71, hGJ_72, fx_70, ex_70⟩ := h_73
              have hF_74 := fq_tr hF_64 hFI_71 (by decide)
              have hG_75 := fq_tr hG hGJ_72 (by decide)
              obtain ⟨s_77, hs_77⟩ : ∃ z, MTq I_71 J_72 x b_8 = z := ⟨_, rfl⟩
              have c_76 : mGo (s_9) = s_77 := by have q := fx_70; simp only [emqx, hs_67, hs_77] at q; exact q.symm
              have hs_78 : NVq I_71 J_72 x b_4 = s_5 := (vq_fq wvqx hFI_71 hGJ_72 (by decide) (by decide)).trans hs_65
              have hs_79 : NWq I_71 J_72 x b_6 = s_7 := (zq_fq wzqx hFI_71 hGJ_72 (by decide) (by decide)).trans hs_66
              have hs_80 : NRq I_71 J_72 x b_10 b_11 = s_12 := (nq_fq wnqx hFI_71 hGJ_72 (by decide) (by decide)).trans hs_68
              have hs_81 : QTq I_71 J_72 x = (QT_.w_om s_13 (x_53)) := (qq_fq wqqx hFI_71 hGJ_72 (by decide) (by decide)).trans hs_69
              refine g_iconst C (v := 1) dX12_readSaid_94 (by decide) ?_
              refine g_istore_n C dX12_readSaid_95 rfl (by decide) (lo2 := [(3, .int 1), (0, .ref x), (1, .int v_14), (2, .int v_15)]) rfl ?_
              refine g_iload_n C 2 dX12_readSaid_96 rfl rfl ?_
              refine g_if_eq C (tgt := 108) dX12_readSaid_97 (by decide) (fun h_82 => ?_) (fun h_82 => ?_)
              · skip
                exact eq_no (h_82) r_34 rc_0 (by decide)
              · skip
                have n_83 : ¬ v_14 = 0 := h_82
                refine g_aload_n C 1 dX12_readSaid_100 rfl rfl ?_
                refine g_callVI C K (c_X12_readBracket_8 W9 hLx hkx   hUI_71  (by rw [(fq_at hFI_71 hLx hkx (by decide) (by decide) (kp_j hI_62 (by decide) (kp_j hI_54 (by decide) q_20))), (fq_at hFI_71 hLx hkx (by decide) (by decide) (kp_j hI_62 (by decide) (kp_s hI_54)))]; have := (ti_k tx_53 rc_1); omega) ((fq_at hFI_71 hLx hkx (by decide) (by decide) (kp_s hI_62)))) hLx hkx (by decide) rfl v_12_401 rfl ⟨rfl, rfl⟩ ⟨Nat.le_of_ble_eq_true rfl, Nat.le_of_ble_eq_true rfl⟩ (Nat.le_of_ble_eq_true rfl) ⟨Nat.le_of_ble_eq_true rfl, Nat.le_of_ble_eq_true rfl⟩ dX12_readSaid_101 rfl (st := []) (fun x_84 I_85 J_86 h_87 => ?_)
                obtain ⟨hUI_85, hFI_85, hGJ_86, rx_84, fx_84, ex_84⟩ := h_87
                have hF_88 := fq_tr hF_74 hFI_85 (by decide)
                have hG_89 := fq_tr hG_75 hGJ_86 (by decide)
                obtain ⟨s_91, hs_91⟩ : ∃ z, MTq I_85 J_86 x b_8 = z := ⟨_, rfl⟩
                obtain ⟨s_92, hs_92⟩ : ∃ z, NRq I_85 J_86 x b_10 b_11 = z := ⟨_, rfl⟩
                obtain ⟨s_93, hs_93⟩ : ∃ z, QTq I_85 J_86 x = z := ⟨_, rfl⟩
                have c_90 : mBrK 0 (s_5) (s_7) (s_77) (s_12) ((QT_.w_om s_13 (x_53))) = (x_84, s_91, s_92, s_93) := by have q := fx_84; simp only [evqx, ezqx, emqx, enqx, eqqx, hs_78, hs_79, hs_77, hs_80, hs_81, hs_91, hs_92, hs_93] at q; exact q.symm
                have hs_94 : NVq I_85 J_86 x b_4 = s_5 := (vq_fq wvqx hFI_85 hGJ_86 (by decide) (by decide)).trans hs_78
                have hs_95 : NWq I_85 J_86 x b_6 = s_7 := (zq_fq wzqx hFI_85 hGJ_86 (by decide) (by decide)).trans hs_79
                have f_96 : s_93.om = x_53 := (congrArg QT_.om hs_93).symm.trans (fq_at hFI_85 hLx hkx (by decide) (by decide) (fq_at hFI_71 hLx hkx (by decide) (by decide) (kp_j hI_62 (by decide) (kp_s hI_54))))
                refine g_istore_n C dX12_readSaid_104 rfl (by decide) (lo2 := [(3, .int x_84), (0, .ref x), (1, .int v_14), (2, .int v_15)]) rfl ?_
                refine g_goto C (tgt := 166) dX12_readSaid_105 (by decide) ?_
                refine g_aload_n C 1 dX12_readSaid_166 rfl rfl ?_
                refine g_dup C dX12_readSaid_167 rfl ?_
                refine g_getI C K hLx hkx f_12_398 (v := 8) ex_84.2 dX12_readSaid_168 ?_
                refine g_iconst C (v := 1) dX12_readSaid_171 (by decide) ?_
                refine g_isub C (v := 7) dX12_readSaid_172 (by decide) ?_
                refine h_putI C K hLx hkx f_12_398 p_12_49 dX12_readSaid_173 (fun I_97 hI_97 => ?_)
                have hU_98 := iw_put W9 hUI_85 hI_97 (ro_o hkx (by decide)) (lo := 0) (hi := 8) (rfl) (rg_w rc_7 (by decide) (by decide)) rfl
                have hF_99 := fq_puto hF_88 hI_97 hkx (by decide) (by decide)
                have hs_100 : NVq I_97 J_86 x b_4 = s_5 := by rw [hI_97]; exact (vq_oI wvqx (ro_o hkx (by decide)) (by decide)).trans hs_94
                have hs_101 : NWq I_97 J_86 x b_6 = s_7 := by rw [hI_97]; exact (zq_oI wzqx (ro_o hkx (by decide)) (by decide)).trans hs_95
                have hs_102 : MTq I_97 J_86 x b_8 = s_91 := by rw [hI_97]; exact (mq_uIt wmqx (by decide)).trans hs_91
                have hs_103 : NRq I_97 J_86 x b_10 b_11 = s_92 := by rw [hI_97]; exact (nq_uIt wnqx (by decide)).trans hs_92
                have hs_104 : QTq I_97 J_86 x = s_93 := by rw [hI_97]; exact (qq_uIt wqqx (by decide)).trans hs_93
                refine g_iload_n C 0 dX12_readSaid_176 rfl rfl ?_
                exact g_zret (ty := .boolean) (r := x_84) B K rfl (nar_z (rg_w rx_84 (by decide) (by decide))) ⟨hU_98, hF_99, hG_89, rg_w rx_84 (by decide) (by decide), (by (try simp only [h_30, h_32, f_35, h_36, h_52, hx_53, c_76, h_82, f_96, if_true, if_false, mqM_tp, mqM_size, mqM_limit, mqM_to, mqM_frm, mqM_kind, mqM_number, mqM_sign, mqM_word, MT_.w_tp, MT_.w_size, MT_.w_limit, MT_.w_to, MT_.w_frm, MT_.w_kind, MT_.w_number, MT_.w_sign, MT_.w_word, nqM_rd, nqM_rn, nqM_taped, nqM_mfault, nqM_mplace, nqM_told, nqM_hl, nqM_hd, NR_.w_rd, NR_.w_rn, NR_.w_taped, NR_.w_mfault, NR_.w_mplace, NR_.w_told, NR_.w_hl, NR_.w_hd, qqM_om, QT_.w_om, vqM_nv, NV_.w_nv, zqM_nw, NW_.w_nw] at hQ_28); (try simp only [h_30, h_32, f_35, h_36, h_52, hx_53, c_76, h_82, f_96, if_true, if_false, mqM_tp, mqM_size, mqM_limit, mqM_to, mqM_frm, mqM_kind, mqM_number, mqM_sign, mqM_word, MT_.w_tp, MT_.w_size, MT_.w_limit, MT_.w_to, MT_.w_frm, MT_.w_kind, MT_.w_number, MT_.w_sign, MT_.w_word, nqM_rd, nqM_rn, nqM_taped, nqM_mfault, nqM_mplace, nqM_told, nqM_hl, nqM_hd, NR_.w_rd, NR_.w_rn, NR_.w_taped, NR_.w_mfault, NR_.w_mplace, NR_.w_told, NR_.w_hl, NR_.w_hd, qqM_om, QT_.w_om, vqM_nv, NV_.w_nv, zqM_nw, NW_.w_nw] at u_29); (try simp only [h_30, h_32, f_35, h_36, h_52, hx_53, c_76, h_82, f_96, if_true, if_false, mqM_tp, mqM_size, mqM_limit, mqM_to, mqM_frm, mqM_kind, mqM_number, mqM_sign, mqM_word, MT_.w_tp, MT_.w_size, MT_.w_limit, MT_.w_to, MT_.w_frm, MT_.w_kind, MT_.w_number, MT_.w_sign, MT_.w_word, nqM_rd, nqM_rn, nqM_taped, nqM_mfault, nqM_mplace, nqM_told, nqM_hl, nqM_hd, NR_.w_rd, NR_.w_rn, NR_.w_taped, NR_.w_mfault, NR_.w_mplace, NR_.w_told, NR_.w_hl, NR_.w_hd, qqM_om, QT_.w_om, vqM_nv, NV_.w_nv, zqM_nw, NW_.w_nw] at c_90); simp only [mSd0, mSd1, mSd2, mBadQ, evqx, hs_100, hs_5, ezqx, hs_101, hs_7, emqx, hs_102, hs_9, enqx, hs_103, hs_12, eqqx, hs_104, hs_13, hQ_28, u_29, h_30, h_32, f_35, h_36, h_52, hx_53, c_76, h_82, c_90, f_96, if_true, if_false, mqM_tp, mqM_size, mqM_limit, mqM_to, mqM_frm, mqM_kind, mqM_number, mqM_sign, mqM_word, MT_.w_tp, MT_.w_size, MT_.w_limit, MT_.w_to, MT_.w_frm, MT_.w_kind, MT_.w_number, MT_.w_sign, MT_.w_word, nqM_rd, nqM_rn, nqM_taped, nqM_mfault, nqM_mplace, nqM_told, nqM_hl, nqM_hd, NR_.w_rd, NR_.w_rn, NR_.w_taped, NR_.w_mfault, NR_.w_mplace, NR_.w_told, NR_.w_hl, NR_.w_hd, qqM_om, QT_.w_om, vqM_nv, NV_.w_nv, zqM_nw, NW_.w_nw]), (fun q => ne_no q rx_84 rc_0), (kp_s hI_97)⟩ dX12_readSaid_177
            · skip
              exact absurd (h_52) (by decide)
        · skip
          have r_105 := (⟨(rv_14).1, (eq_rg (h_32) rc_0).2⟩ : Rg 0 0 v_14)
          refine g_iload_n C 2 dX12_readSaid_34 rfl rfl ?_
          refine g_bipush C (v := 27) dX12_readSaid_35 (by decide) ?_
          refine g_icmp_le C (tgt := 46) dX12_readSaid_37 (by decide) (fun h_106 => ?_) (fun h_106 => ?_)
          · skip
            have r_107 := le_l (h_106) r_31 rc_27
            exact rg_no r_107 (by decide)
          · skip
            refine g_aload_n C 0 dX12_readSaid_40 rfl rfl ?_
            refine g_iconst C (v := 1) dX12_readSaid_41 (by decide) ?_
            refine g_callVI C K (c_X12_bad W9 hLx hkx 1 (rg_w rc_1 (by decide) (by decide)) hU) hLx hkx (by decide) rfl v_12_146 rfl ⟨rfl, rfl⟩ ⟨Nat.le_of_ble_eq_true rfl, Nat.le_of_ble_eq_true rfl⟩ (Nat.le_of_ble_eq_true rfl) ⟨Nat.le_of_ble_eq_true rfl, Nat.le_of_ble_eq_true rfl⟩ dX12_readSaid_42 rfl (st := []) (fun x_108 I_109 J_110 h_111 => ?_)
            obtain ⟨hUI_109, hFI_109, hGJ_110, rx_108, fx_108⟩ := h_111
            have hF_112 := fq_tr hF hFI_109 (by decide)
            have hG_113 := fq_tr hG hGJ_110 (by decide)
            obtain ⟨s_115, hs_115⟩ : ∃ z, MTq I_109 J_110 x b_8 = z := ⟨_, rfl⟩
            obtain ⟨s_116, hs_116⟩ : ∃ z, NRq I_109 J_110 x b_10 b_11 = z := ⟨_, rfl⟩
            have c_114 : mBad (1) (s_9) (s_12) = (x_108, s_115, s_116) := by have q := fx_108; simp only [emqx, enqx, hs_9, hs_12, hs_115, hs_116] at q; exact q.symm
            have hs_117 : NVq I_109 J_110 x b_4 = s_5 := (vq_fq wvqx hFI_109 hGJ_110 (by decide) (by decide)).trans hs_5
            have hs_118 : NWq I_109 J_110 x b_6 = s_7 := (zq_fq wzqx hFI_109 hGJ_110 (by decide) (by decide)).trans hs_7
            have hs_119 : QTq I_109 J_110 x = s_13 := (qq_fq wqqx hFI_109 hGJ_110 (by decide) (by decide)).trans hs_13
            exact g_zret (ty := .boolean) (r := x_108) B K rfl (nar_z (rg_w rx_108 (by decide) (by decide))) ⟨hUI_109, hF_112, hG_113, rg_w rx_108 (by decide) (by decide), (by (try simp only [h_30, (eq_true h_32), h_106, (nle h_106), c_114, if_true, if_false, mqM_tp, mqM_size, mqM_limit, mqM_to, mqM_frm, mqM_kind, mqM_number, mqM_sign, mqM_word, MT_.w_tp, MT_.w_size, MT_.w_limit, MT_.w_to, MT_.w_frm, MT_.w_kind, MT_.w_number, MT_.w_sign, MT_.w_word, nqM_rd, nqM_rn, nqM_taped, nqM_mfault, nqM_mplace, nqM_told, nqM_hl, nqM_hd, NR_.w_rd, NR_.w_rn, NR_.w_taped, NR_.w_mfault, NR_.w_mplace, NR_.w_told, NR_.w_hl, NR_.w_hd, qqM_om, QT_.w_om, vqM_nv, NV_.w_nv, zqM_nw, NW_.w_nw] at hQ_28); (try simp only [h_30, (eq_true h_32), h_106, (nle h_106), c_114, if_true, if_false, mqM_tp, mqM_size, mqM_limit, mqM_to, mqM_frm, mqM_kind, mqM_number, mqM_sign, mqM_word, MT_.w_tp, MT_.w_size, MT_.w_limit, MT_.w_to, MT_.w_frm, MT_.w_kind, MT_.w_number, MT_.w_sign, MT_.w_word, nqM_rd, nqM_rn, nqM_taped, nqM_mfault, nqM_mplace, nqM_told, nqM_hl, nqM_hd, NR_.w_rd, NR_.w_rn, NR_.w_taped, NR_.w_mfault, NR_.w_mplace, NR_.w_told, NR_.w_hl, NR_.w_hd, qqM_om, QT_.w_om, vqM_nv, NV_.w_nv, zqM_nw, NW_.w_nw] at u_29); simp only [mSd0, mSd1, mSd2, mBadQ, evqx, hs_117, hs_5, ezqx, hs_118, hs_7, emqx, hs_115, hs_9, enqx, hs_116, hs_12, eqqx, hs_119, hs_13, hQ_28, u_29, h_30, (eq_true h_32), h_106, (nle h_106), c_114, if_true, if_false, mqM_tp, mqM_size, mqM_limit, mqM_to, mqM_frm, mqM_kind, mqM_number, mqM_sign, mqM_word, MT_.w_tp, MT_.w_size, MT_.w_limit, MT_.w_to, MT_.w_frm, MT_.w_kind, MT_.w_number, MT_.w_sign, MT_.w_word, nqM_rd, nqM_rn, nqM_taped, nqM_mfault, nqM_mplace, nqM_told, nqM_hl, nqM_hd, NR_.w_rd, NR_.w_rn, NR_.w_taped, NR_.w_mfault, NR_.w_mplace, NR_.w_told, NR_.w_hl, NR_.w_hd, qqM_om, QT_.w_om, vqM_nv, NV_.w_nv, zqM_nw, NW_.w_nw]), (fun q => ne_no q rx_108 rc_0), (fq_at hFI_109 hLx hkx (by decide) (by decide) q_22)⟩ dX12_readSaid_45
      · skip
        have r_120 := le_l (nlt h_30) rv_15 rc_27
        refine g_aload_n C 0 dX12_readSaid_16 rfl rfl ?_
        refine g_iload_n C 2 dX12_readSaid_17 rfl rfl ?_
        refine g_callVI C K (c_X12_isWord W9 hLx hkx v_15 (rg_w r_120 (by decide) (by decide)) hU) hLx hkx (by decide) rfl v_12_191 rfl ⟨rfl, rfl⟩ ⟨Nat.le_of_ble_eq_true rfl, Nat.le_of_ble_eq_true rfl⟩ (Nat.le_of_ble_eq_true rfl) ⟨Nat.le_of_ble_eq_true rfl, Nat.le_of_ble_eq_true rfl⟩ dX12_readSaid_18 rfl (st := []) (fun x_121 I_122 J_123 h_124 => ?_)
        obtain ⟨rfl, rfl, rx_121, fx_121⟩ := h_124
        have c_125 : mIsWord (v_15) (s_9) = x_121 := by have q := fx_121; simp only [emqx, hs_9] at q; exact q.symm
        refine g_if_ne C (tgt := 30) dX12_readSaid_21 (by decide) (fun h_126 => ?_) (fun h_126 => ?_)
        · skip
          have n_127 : ¬ x_121 = 0 := h_126
          have r_128 := ne_lo (lo := 1) n_127 rx_121 rc_0 rfl (by decide)
          refine g_iload_n C 1 dX12_readSaid_30 rfl rfl ?_
          refine g_if_ne C (tgt := 46) dX12_readSaid_31 (by decide) (fun h_129 => ?_) (fun h_129 => ?_)
          · skip
            have n_130 : ¬ v_14 = 0 := h_129
            have r_131 := ne_lo (lo := 1) n_130 rv_14 rc_0 rfl (by decide)
            refine g_aload_n C 0 dX12_readSaid_46 rfl rfl ?_
            have f_132 : s_13.om = v_17 := (congrArg QT_.om hs_13).symm.trans q_21
            refine g_getI C K hLx hkx f_12_395 (v := v_17) q_21 dX12_readSaid_47 ?_
            refine g_bipush C (v := 20) dX12_readSaid_50 (by decide) ?_
            refine g_icmp_eq C (tgt := 64) dX12_readSaid_52 (by decide) (fun h_133 => ?_) (fun h_133 => ?_)
            · skip
              have r_134 := (⟨(eq_rg (h_133) rc_20).1, (rv_17).2⟩ : Rg 20 20 v_17)
              refine g_aload_n C 0 dX12_readSaid_64 rfl rfl ?_
              refine g_iconst C (v := 4) dX12_readSaid_65 (by decide) ?_
              refine g_callVI C K (c_X12_bad W9 hLx hkx 4 (rg_w rc_4 (by decide) (by decide)) hU) hLx hkx (by decide) rfl v_12_146 rfl ⟨rfl, rfl⟩ ⟨Nat.le_of_ble_eq_true rfl, Nat.le_of_ble_eq_true rfl⟩ (Nat.le_of_ble_eq_true rfl) ⟨Nat.le_of_ble_eq_true rfl, Nat.le_of_ble_eq_true rfl⟩ dX12_readSaid_66 rfl (st := []) (fun x_135 I_136 J_137 h_138 => ?_)
              obtain ⟨hUI_136, hFI_136, hGJ_137, rx_135, fx_135⟩ := h_138
              have hF_139 := fq_tr hF hFI_136 (by decide)
              have hG_140 := fq_tr hG hGJ_137 (by decide)
              obtain ⟨s_142, hs_142⟩ : ∃ z, MTq I_136 J_137 x b_8 = z := ⟨_, rfl⟩
              obtain ⟨s_143, hs_143⟩ : ∃ z, NRq I_136 J_137 x b_10 b_11 = z := ⟨_, rfl⟩
              have c_141 : mBad (4) (s_9) (s_12) = (x_135, s_142, s_143) := by have q := fx_135; simp only [emqx, enqx, hs_9, hs_12, hs_142, hs_143] at q; exact q.symm
              have hs_144 : NVq I_136 J_137 x b_4 = s_5 := (vq_fq wvqx hFI_136 hGJ_137 (by decide) (by decide)).trans hs_5
              have hs_145 : NWq I_136 J_137 x b_6 = s_7 := (zq_fq wzqx hFI_136 hGJ_137 (by decide) (by decide)).trans hs_7
              have hs_146 : QTq I_136 J_137 x = s_13 := (qq_fq wqqx hFI_136 hGJ_137 (by decide) (by decide)).trans hs_13
              exact g_zret (ty := .boolean) (r := x_135) B K rfl (nar_z (rg_w rx_135 (by decide) (by decide))) ⟨hUI_136, hF_139, hG_140, rg_w rx_135 (by decide) (by decide), (by (try simp only [h_30, (nlt h_30), c_125, h_126, h_129, f_132, (eq_true h_133), c_141, if_true, if_false, mqM_tp, mqM_size, mqM_limit, mqM_to, mqM_frm, mqM_kind, mqM_number, mqM_sign, mqM_word, MT_.w_tp, MT_.w_size, MT_.w_limit, MT_.w_to, MT_.w_frm, MT_.w_kind, MT_.w_number, MT_.w_sign, MT_.w_word, nqM_rd, nqM_rn, nqM_taped, nqM_mfault, nqM_mplace, nqM_told, nqM_hl, nqM_hd, NR_.w_rd, NR_.w_rn, NR_.w_taped, NR_.w_mfault, NR_.w_mplace, NR_.w_told, NR_.w_hl, NR_.w_hd, qqM_om, QT_.w_om, vqM_nv, NV_.w_nv, zqM_nw, NW_.w_nw] at hQ_28); (try simp only [h_30, (nlt h_30), c_125, h_126, h_129, f_132, (eq_true h_133), c_141, if_true, if_false, mqM_tp, mqM_size, mqM_limit, mqM_to, mqM_frm, mqM_kind, mqM_number, mqM_sign, mqM_word, MT_.w_tp, MT_.w_size, MT_.w_limit, MT_.w_to, MT_.w_frm, MT_.w_kind, MT_.w_number, MT_.w_sign, MT_.w_word, nqM_rd, nqM_rn, nqM_taped, nqM_mfault, nqM_mplace, nqM_told, nqM_hl, nqM_hd, NR_.w_rd, NR_.w_rn, NR_.w_taped, NR_.w_mfault, NR_.w_mplace, NR_.w_told, NR_.w_hl, NR_.w_hd, qqM_om, QT_.w_om, vqM_nv, NV_.w_nv, zqM_nw, NW_.w_nw] at u_29); simp only [mSd0, mSd1, mSd2, mBadQ, evqx, hs_144, hs_5, ezqx, hs_145, hs_7, emqx, hs_142, hs_9, enqx, hs_143, hs_12, eqqx, hs_146, hs_13, hQ_28, u_29, h_30, (nlt h_30), c_125, h_126, h_129, f_132, (eq_true h_133), c_141, if_true, if_false, mqM_tp, mqM_size, mqM_limit, mqM_to, mqM_frm, mqM_kind, mqM_number, mqM_sign, mqM_word, MT_.w_tp, MT_.w_size, MT_.w_limit, MT_.w_to, MT_.w_frm, MT_.w_kind, MT_.w_number, MT_.w_sign, MT_.w_word, nqM_rd, nqM_rn, nqM_taped, nqM_mfault, nqM_mplace, nqM_told, nqM_hl, nqM_hd, NR_.w_rd, NR_.w_rn, NR_.w_taped, NR_.w_mfault, NR_.w_mplace, NR_.w_told, NR_.w_hl, NR_.w_hd, qqM_om, QT_.w_om, vqM_nv, NV_.w_nv, zqM_nw, NW_.w_nw]), (fun q => ne_no q rx_135 rc_0), (fq_at hFI_136 hLx hkx (by decide) (by decide) q_22)⟩ dX12_readSaid_69
            · skip
              have n_147 : ¬ v_17 = 20 := h_133
              have r_148 := ne_hi (hi := 19) n_147 rv_17 rc_20 rfl (by decide)
              refine g_aload_n C 0 dX12_readSaid_55 rfl rfl ?_
              refine g_getI C K hLx hkx f_12_398 (v := 7) q_22 dX12_readSaid_56 ?_
              refine g_bipush C (v := 8) dX12_readSaid_59 (by decide) ?_
              refine g_icmp_ne C (tgt := 70) dX12_readSaid_61 (by decide) (fun h_149 => ?_) (fun h_149 => ?_)
              · skip
                refine g_aload_n C 0 dX12_readSaid_70 rfl rfl ?_
                refine g_dup C dX12_readSaid_71 rfl ?_
                refine g_getI C K hLx hkx f_12_395 (v := v_17) q_21 dX12_readSaid_72 ?_
                refine g_iconst C (v := 1) dX12_readSaid_75 (by decide) ?_
                obtain ⟨x_150, hx_150, rx_150, tx_150⟩ := ex_add 1 20 r_148 rc_1 (by decide) (by decide) (by decide) (by decide)
                refine g_iadd C (v := x_150) dX12_readSaid_76 hx_150 ?_
                refine h_putI C K hLx hkx f_12_395 p_12_48 dX12_readSaid_77 (fun I_151 hI_151 => ?_)
                have hU_152 := iw_put W9 hU hI_151 (ro_o hkx (by decide)) (lo := 0) (hi := 20) (rfl) (rg_w rx_150 (by decide) (by decide)) rfl
                have hF_153 := fq_puto hF hI_151 hkx (by decide) (by decide)
                have hs_154 : NVq I_151 J x b_4 = s_5 := by rw [hI_151]; exact (vq_oI wvqx (ro_o hkx (by decide)) (by decide)).trans hs_5
                have hs_155 : NWq I_151 J x b_6 = s_7 := by rw [hI_151]; exact (zq_oI wzqx (ro_o hkx (by decide)) (by decide)).trans hs_7
                have hs_156 : MTq I_151 J x b_8 = s_9 := by rw [hI_151]; exact (mq_uIt wmqx (by decide)).trans hs_9
                have hs_157 : NRq I_151 J x b_10 b_11 = s_12 := by rw [hI_151]; exact (nq_uIt wnqx (by decide)).trans hs_12
                have hs_158 : QTq I_151 J x = (QT_.w_om s_13 (x_150)) := by rw [hI_151]; exact ((qq_om wqqx).trans (congrArg (fun z : QT_ => QT_.w_om z (x_150)) hs_13)).trans rfl
                refine g_aload_n C 0 dX12_readSaid_80 rfl rfl ?_
                refine g_dup C dX12_readSaid_81 rfl ?_
                refine g_getI C K hLx hkx f_12_398 (v := 7) (kp_j hI_151 (by decide) q_22) dX12_readSaid_82 ?_
                refine g_iconst C (v := 1) dX12_readSaid_85 (by decide) ?_
                refine g_iadd C (v := 8) dX12_readSaid_86 (by decide) ?_
                refine h_putI C K hLx hkx f_12_398 p_12_49 dX12_readSaid_87 (fun I_159 hI_159 => ?_)
                have hU_160 := iw_put W9 hU_152 hI_159 (ro_o hkx (by decide)) (lo := 0) (hi := 8) (rfl) (rg_w rc_8 (by decide) (by decide)) rfl
                have hF_161 := fq_puto hF_153 hI_159 hkx (by decide) (by decide)
                have hs_162 : NVq I_159 J x b_4 = s_5 := by rw [hI_159]; exact (vq_oI wvqx (ro_o hkx (by decide)) (by decide)).trans hs_154
                have hs_163 : NWq I_159 J x b_6 = s_7 := by rw [hI_159]; exact (zq_oI wzqx (ro_o hkx (by decide)) (by decide)).trans hs_155
                have hs_164 : MTq I_159 J x b_8 = s_9 := by rw [hI_159]; exact (mq_uIt wmqx (by decide)).trans hs_156
                have hs_165 : NRq I_159 J x b_10 b_11 = s_12 := by rw [hI_159]; exact (nq_uIt wnqx (by decide)).trans hs_157
                have hs_166 : QTq I_159 J x = (QT_.w_om s_13 (x_150)) := by rw [hI_159]; exact (qq_uIt wqqx (by decide)).trans hs_158
                refine g_aload_n C 0 dX12_readSaid_90 rfl rfl ?_
                refine g_callVV C K (c_X12_go W9 hLx hkx   hU_160) hLx hkx (by decide) rfl v_12_156 rfl ⟨rfl, rfl⟩ ⟨Nat.le_of_ble_eq_true rfl, Nat.le_of_ble_eq_true rfl⟩ (Nat.le_of_ble_eq_true rfl) ⟨Nat.le_of_ble_eq_true rfl, Nat.le_of_ble_eq_true rfl⟩ dX12_readSaid_91 rfl (st := []) (fun I_168 J_169 h_170 => ?_)
                obtain ⟨hUI_168, hFI_168, hGJ_169, fx_167, ex_167⟩ := h_170
                have hF_171 := fq_tr hF_161 hFI_168 (by decide)
                have hG_172 := fq_tr hG hGJ_169 (by decide)
                obtain ⟨s_174, hs_174⟩ : ∃ z, MTq I_168 J_169 x b_8 = z := ⟨_, rfl⟩
                have c_173 : mGo (s_9) = s_174 := by have q := fx_167; simp only [emqx, hs_164, hs_174] at q; exact q.symm
                have hs_175 : NVq I_168 J_169 x b_4 = s_5 := (vq_fq wvqx hFI_168 hGJ_169 (by decide) (by decide)).trans hs_162
                have hs_176 : NWq I_168 J_169 x b_6 = s_7 := (zq_fq wzqx hFI_168 hGJ_169 (by decide) (by decide)).trans hs_163
                have hs_177 : NRq I_168 J_169 x b_10 b_11 = s_12 := (nq_fq wnqx hFI_168 hGJ_169 (by decide) (by decide)).trans hs_165
                have hs_178 : QTq I_168 J_169 x = (QT_.w_om s_13 (x_150)) := (qq_fq wqqx hFI_168 hGJ_169 (by decide) (by decide)).trans hs_166
                refine g_iconst C (v := 1) dX12_readSaid_94 (by decide) ?_
                refine g_istore_n C dX12_readSaid_95 rfl (by decide) (lo2 := [(3, .int 1), (0, .ref x), (1, .int v_14), (2, .int v_15)]) rfl ?_
                refine g_iload_n C 2 dX12_readSaid_96 rfl rfl ?_
                refine g_if_eq C (tgt := 108) dX12_readSaid_97 (by decide) (fun h_179 => ?_) (fun h_179 => ?_)
                · skip
                  exact eq_no (h_179) r_131 rc_0 (by decide)
                · skip
                  have n_180 : ¬ v_14 = 0 := h_179
                  refine g_aload_n C 1 dX12_readSaid_100 rfl rfl ?_
                  refine g_callVI C K (c_X12_readBracket_8 W9 hLx hkx   hUI_168  (by rw [(fq_at hFI_168 hLx hkx (by decide) (by decide) (kp_j hI_159 (by decide) (kp_j hI_151 (by decide) q_20))), (fq_at hFI_168 hLx hkx (by decide) (by decide) (kp_j hI_159 (by decide) (kp_s hI_151)))]; have := (ti_k tx_150 rc_1); omega) ((fq_at hFI_168 hLx hkx (by decide) (by decide) (kp_s hI_159)))) hLx hkx (by decide) rfl v_12_401 rfl ⟨rfl, rfl⟩ ⟨Nat.le_of_ble_eq_true rfl, Nat.le_of_ble_eq_true rfl⟩ (Nat.le_of_ble_eq_true rfl) ⟨Nat.le_of_ble_eq_true rfl, Nat.le_of_ble_eq_true rfl⟩ dX12_readSaid_101 rfl (st := []) (fun x_181 I_182 J_183 h_184 => ?_)
                  obtain ⟨hUI_182, hFI_182, hGJ_183, rx_181, fx_181, ex_181⟩ := h_184
                  have hF_185 := fq_tr hF_171 hFI_182 (by decide)
                  have hG_186 := fq_tr hG_172 hGJ_183 (by decide)
                  obtain ⟨s_188, hs_188⟩ : ∃ z, MTq I_182 J_183 x b_8 = z := ⟨_, rfl⟩
                  obtain ⟨s_189, hs_189⟩ : ∃ z, NRq I_182 J_183 x b_10 b_11 = z := ⟨_, rfl⟩
                  obtain ⟨s_190, hs_190⟩ : ∃ z, QTq I_182 J_183 x = z := ⟨_, rfl⟩
                  have c_187 : mBrK 0 (s_5) (s_7) (s_174) (s_12) ((QT_.w_om s_13 (x_150))) = (x_181, s_188, s_189, s_190) := by have q := fx_181; simp only [evqx, ezqx, emqx, enqx, eqqx, hs_175, hs_176, hs_174, hs_177, hs_178, hs_188, hs_189, hs_190] at q; exact q.symm
                  have hs_191 : NVq I_182 J_183 x b_4 = s_5 := (vq_fq wvqx hFI_182 hGJ_183 (by decide) (by decide)).trans hs_175
                  have hs_192 : NWq I_182 J_183 x b_6 = s_7 := (zq_fq wzqx hFI_182 hGJ_183 (by decide) (by decide)).trans hs_176
                  have f_193 : s_190.om = x_150 := (congrArg QT_.om hs_190).symm.trans (fq_at hFI_182 hLx hkx (by decide) (by decide) (fq_at hFI_168 hLx hkx (by decide) (by decide) (kp_j hI_159 (by decide) (kp_s hI_151))))
                  refine g_istore_n C dX12_readSaid_104 rfl (by decide) (lo2 := [(3, .int x_181), (0, .ref x), (1, .int v_14), (2, .int v_15)]) rfl ?_
                  refine g_goto C (tgt := 166) dX12_readSaid_105 (by decide) ?_
                  refine g_aload_n C 1 dX12_readSaid_166 rfl rfl ?_
                  refine g_dup C dX12_readSaid_167 rfl ?_
                  refine g_getI C K hLx hkx f_12_398 (v := 8) ex_181.2 dX12_readSaid_168 ?_
                  refine g_iconst C (v := 1) dX12_readSaid_171 (by decide) ?_
                  refine g_isub C (v := 7) dX12_readSaid_172 (by decide) ?_
                  refine h_putI C K hLx hkx f_12_398 p_12_49 dX12_readSaid_173 (fun I_194 hI_194 => ?_)
                  have hU_195 := iw_put W9 hUI_182 hI_194 (ro_o hkx (by decide)) (lo := 0) (hi := 8) (rfl) (rg_w rc_7 (by decide) (by decide)) rfl
                  have hF_196 := fq_puto hF_185 hI_194 hkx (by decide) (by decide)
                  have hs_197 : NVq I_194 J_183 x b_4 = s_5 := by rw [hI_194]; exact (vq_oI wvqx (ro_o hkx (by decide)) (by decide)).trans hs_191
                  have hs_198 : NWq I_194 J_183 x b_6 = s_7 := by rw [hI_194]; exact (zq_oI wzqx (ro_o hkx (by decide)) (by decide)).trans hs_192
                  have hs_199 : MTq I_194 J_183 x b_8 = s_188 := by rw [hI_194]; exact (mq_uIt wmqx (by decide)).trans hs_188
                  have hs_200 : NRq I_194 J_183 x b_10 b_11 = s_189 := by rw [hI_194]; exact (nq_uIt wnqx (by decide)).trans hs_189
                  have hs_201 : QTq I_194 J_183 x = s_190 := by rw [hI_194]; exact (qq_uIt wqqx (by decide)).trans hs_190
                  refine g_iload_n C 0 dX12_readSaid_176 rfl rfl ?_
                  exact g_zret (ty := .boolean) (r := x_181) B K rfl (nar_z (rg_w rx_181 (by decide) (by decide))) ⟨hU_195, hF_196, hG_186, rg_w rx_181 (by decide) (by decide), (by (try simp only [h_30, (nlt h_30), c_125, h_126, h_129, f_132, h_133, h_149, hx_150, c_173, h_179, f_193, if_true, if_false, mqM_tp, mqM_size, mqM_limit, mqM_to, mqM_frm, mqM_kind, mqM_number, mqM_sign, mqM_word, MT_.w_tp, MT_.w_size, MT_.w_limit, MT_.w_to, MT_.w_frm, MT_.w_kind, MT_.w_number, MT_.w_sign, MT_.w_word, nqM_rd, nqM_rn, nqM_taped, nqM_mfault, nqM_mplace, nqM_told, nqM_hl, nqM_hd, NR_.w_rd, NR_.w_rn, NR_.w_taped, NR_.w_mfault, NR_.w_mplace, NR_.w_told, NR_.w_hl, NR_.w_hd, qqM_om, QT_.w_om, vqM_nv, NV_.w_nv, zqM_nw, NW_.w_nw] at hQ_28); (try simp only [h_30, (nlt h_30), c_125, h_126, h_129, f_132, h_133, h_149, hx_150, c_173, h_179, f_193, if_true, if_false, mqM_tp, mqM_size, mqM_limit, mqM_to, mqM_frm, mqM_kind, mqM_number, mqM_sign, mqM_word, MT_.w_tp, MT_.w_size, MT_.w_limit, MT_.w_to, MT_.w_frm, MT_.w_kind, MT_.w_number, MT_.w_sign, MT_.w_word, nqM_rd, nqM_rn, nqM_taped, nqM_mfault, nqM_mplace, nqM_told, nqM_hl, nqM_hd, NR_.w_rd, NR_.w_rn, NR_.w_taped, NR_.w_mfault, NR_.w_mplace, NR_.w_told, NR_.w_hl, NR_.w_hd, qqM_om, QT_.w_om, vqM_nv, NV_.w_nv, zqM_nw, NW_.w_nw] at u_29); (try simp only [h_30, (nlt h_30), c_125, h_126, h_129, f_132, h_133, h_149, hx_150, c_173, h_179, f_193, if_true, if_false, mqM_tp, mqM_size, mqM_limit, mqM_to, mqM_frm, mqM_kind, mqM_number, mqM_sign, mqM_word, MT_.w_tp, MT_.w_size, MT_.w_limit, MT_.w_to, MT_.w_frm, MT_.w_kind, MT_.w_number, MT_.w_sign, MT_.w_word, nqM_rd, nqM_rn, nqM_taped, nqM_mfault, nqM_mplace, nqM_told, nqM_hl, nqM_hd, NR_.w_rd, NR_.w_rn, NR_.w_taped, NR_.w_mfault, NR_.w_mplace, NR_.w_told, NR_.w_hl, NR_.w_hd, qqM_om, QT_.w_om, vqM_nv, NV_.w_nv, zqM_nw, NW_.w_nw] at c_187); simp only [mSd0, mSd1, mSd2, mBadQ, evqx, hs_197, hs_5, ezqx, hs_198, hs_7, emqx, hs_199, hs_9, enqx, hs_200, hs_12, eqqx, hs_201, hs_13, hQ_28, u_29, h_30, (nlt h_30), c_125, h_126, h_129, f_132, h_133, h_149, hx_150, c_173, h_179, c_187, f_193, if_true, if_false, mqM_tp, mqM_size, mqM_limit, mqM_to, mqM_frm, mqM_kind, mqM_number, mqM_sign, mqM_word, MT_.w_tp, MT_.w_size, MT_.w_limit, MT_.w_to, MT_.w_frm, MT_.w_kind, MT_.w_number, MT_.w_sign, MT_.w_word, nqM_rd, nqM_rn, nqM_taped, nqM_mfault, nqM_mplace, nqM_told, nqM_hl, nqM_hd, NR_.w_rd, NR_.w_rn, NR_.w_taped, NR_.w_mfault, NR_.w_mplace, NR_.w_told, NR_.w_hl, NR_.w_hd, qqM_om, QT_.w_om, vqM_nv, NV_.w_nv, zqM_nw, NW_.w_nw]), (fun q => ne_no q rx_181 rc_0), (kp_s hI_194)⟩ dX12_readSaid_177
              · skip
                exact absurd (h_149) (by decide)
          · skip
            have r_202 := (⟨(rv_14).1, (eq_rg (h_129) rc_0).2⟩ : Rg 0 0 v_14)
            refine g_iload_n C 2 dX12_readSaid_34 rfl rfl ?_
            refine g_bipush C (v := 27) dX12_readSaid_35 (by decide) ?_
            refine g_icmp_le C (tgt := 46) dX12_readSaid_37 (by decide) (fun h_203 => ?_) (fun h_203 => ?_)
            · skip
              refine g_aload_n C 0 dX12_readSaid_46 rfl rfl ?_
              have f_204 : s_13.om = v_17 := (congrArg QT_.om hs_13).symm.trans q_21
              refine g_getI C K hLx hkx f_12_395 (v := v_17) q_21 dX12_readSaid_47 ?_
              refine g_bipush C (v := 20) dX12_readSaid_50 (by decide) ?_
              refine g_icmp_eq C (tgt := 64) dX12_readSaid_52 (by decide) (fun h_205 => ?_) (fun h_205 => ?_)
              · skip
                have r_206 := (⟨(eq_rg (h_205) rc_20).1, (rv_17).2⟩ : Rg 20 20 v_17)
                refine g_aload_n C 0 dX12_readSaid_64 rfl rfl ?_
                refine g_iconst C (v := 4) dX12_readSaid_65 (by decide) ?_
                refine g_callVI C K (c_X12_bad W9 hLx hkx 4 (rg_w rc_4 (by decide) (by decide)) hU) hLx hkx (by decide) rfl v_12_146 rfl ⟨rfl, rfl⟩ ⟨Nat.le_of_ble_eq_true rfl, Nat.le_of_ble_eq_true rfl⟩ (Nat.le_of_ble_eq_true rfl) ⟨Nat.le_of_ble_eq_true rfl, Nat.le_of_ble_eq_true rfl⟩ dX12_readSaid_66 rfl (st := []) (fun x_207 I_208 J_209 h_210 => ?_)
                obtain ⟨hUI_208, hFI_208, hGJ_209, rx_207, fx_207⟩ := h_210
                have hF_211 := fq_tr hF hFI_208 (by decide)
                have hG_212 := fq_tr hG hGJ_209 (by decide)
                obtain ⟨s_214, hs_214⟩ : ∃ z, MTq I_208 J_209 x b_8 = z := ⟨_, rfl⟩
                obtain ⟨s_215, hs_215⟩ : ∃ z, NRq I_208 J_209 x b_10 b_11 = z := ⟨_, rfl⟩
                have c_213 : mBad (4) (s_9) (s_12) = (x_207, s_214, s_215) := by have q := fx_207; simp only [emqx, enqx, hs_9, hs_12, hs_214, hs_215] at q; exact q.symm
                have hs_216 : NVq I_208 J_209 x b_4 = s_5 := (vq_fq wvqx hFI_208 hGJ_209 (by decide) (by decide)).trans hs_5
                have hs_217 : NWq I_208 J_209 x b_6 = s_7 := (zq_fq wzqx hFI_208 hGJ_209 (by decide) (by decide)).trans hs_7
                have hs_218 : QTq I_208 J_209 x = s_13 := (qq_fq wqqx hFI_208 hGJ_209 (by decide) (by decide)).trans hs_13
                exact g_zret (ty := .boolean) (r := x_207) B K rfl (nar_z (rg_w rx_207 (by decide) (by decide))) ⟨hUI_208, hF_211, hG_212, rg_w rx_207 (by decide) (by decide), (by (try simp only [h_30, (nlt h_30), c_125, h_126, (eq_true h_129), h_203, f_204, (eq_true h_205), c_213, if_true, if_false, mqM_tp, mqM_size, mqM_limit, mqM_to, mqM_frm, mqM_kind, mqM_number, mqM_sign, mqM_word, MT_.w_tp, MT_.w_size, MT_.w_limit, MT_.w_to, MT_.w_frm, MT_.w_kind, MT_.w_number, MT_.w_sign, MT_.w_word, nqM_rd, nqM_rn, nqM_taped, nqM_mfault, nqM_mplace, nqM_told, nqM_hl, nqM_hd, NR_.w_rd, NR_.w_rn, NR_.w_taped, NR_.w_mfault, NR_.w_mplace, NR_.w_told, NR_.w_hl, NR_.w_hd, qqM_om, QT_.w_om, vqM_nv, NV_.w_nv, zqM_nw, NW_.w_nw] at hQ_28); (try simp only [h_30, (nlt h_30), c_125, h_126, (eq_true h_129), h_203, f_204, (eq_true h_205), c_213, if_true, if_false, mqM_tp, mqM_size, mqM_limit, mqM_to, mqM_frm, mqM_kind, mqM_number, mqM_sign, mqM_word, MT_.w_tp, MT_.w_size, MT_.w_limit, MT_.w_to, MT_.w_frm, MT_.w_kind, MT_.w_number, MT_.w_sign, MT_.w_word, nqM_rd, nqM_rn, nqM_taped, nqM_mfault, nqM_mplace, nqM_told, nqM_hl, nqM_hd, NR_.w_rd, NR_.w_rn, NR_.w_taped, NR_.w_mfault, NR_.w_mplace, NR_.w_told, NR_.w_hl, NR_.w_hd, qqM_om, QT_.w_om, vqM_nv, NV_.w_nv, zqM_nw, NW_.w_nw] at u_29); simp only [mSd0, mSd1, mSd2, mBadQ, evqx, hs_216, hs_5, ezqx, hs_217, hs_7, emqx, hs_214, hs_9, enqx, hs_215, hs_12, eqqx, hs_218, hs_13, hQ_28, u_29, h_30, (nlt h_30), c_125, h_126, (eq_true h_129), h_203, f_204, (eq_true h_205), c_213, if_true, if_false, mqM_tp, mqM_size, mqM_limit, mqM_to, mqM_frm, mqM_kind, mqM_number, mqM_sign, mqM_word, MT_.w_tp, MT_.w_size, MT_.w_limit, MT_.w_to, MT_.w_frm, MT_.w_kind, MT_.w_number, MT_.w_sign, MT_.w_word, nqM_rd, nqM_rn, nqM_taped, nqM_mfault, nqM_mplace, nqM_told, nqM_hl, nqM_hd, NR_.w_rd, NR_.w_rn, NR_.w_taped, NR_.w_mfault, NR_.w_mplace, NR_.w_told, NR_.w_hl, NR_.w_hd, qqM_om, QT_.w_om, vqM_nv, NV_.w_nv, zqM_nw, NW_.w_nw]), (fun q => ne_no q rx_207 rc_0), (fq_at hFI_208 hLx hkx (by decide) (by decide) q_22)⟩ dX12_readSaid_69
              · skip
                have n_219 : ¬ v_17 = 20 := h_205
                have r_220 := ne_hi (hi := 19) n_219 rv_17 rc_20 rfl (by decide)
                refine g_aload_n C 0 dX12_readSaid_55 rfl rfl ?_
                refine g_getI C K hLx hkx f_12_398 (v := 7) q_22 dX12_readSaid_56 ?_
                refine g_bipush C (v := 8) dX12_readSaid_59 (by decide) ?_
                refine g_icmp_ne C (tgt := 70) dX12_readSaid_61 (by decide) (fun h_221 => ?_) (fun h_221 => ?_)
                · skip
                  refine g_aload_n C 0 dX12_readSaid_70 rfl rfl ?_
                  refine g_dup C dX12_readSaid_71 rfl ?_
                  refine g_getI C K hLx hkx f_12_395 (v := v_17) q_21 dX12_readSaid_72 ?_
                  refine g_iconst C (v := 1) dX12_readSaid_75 (by decide) ?_
                  obtain ⟨x_222, hx_222, rx_222, tx_222⟩ := ex_add 1 20 r_220 rc_1 (by decide) (by decide) (by decide) (by decide)
                  refine g_iadd C (v := x_222) dX12_readSaid_76 hx_222 ?_
                  refine h_putI C K hLx hkx f_12_395 p_12_48 dX12_readSaid_77 (fun I_223 hI_223 => ?_)
                  have hU_224 := iw_put W9 hU hI_223 (ro_o hkx (by decide)) (lo := 0) (hi := 20) (rfl) (rg_w rx_222 (by decide) (by decide)) rfl
                  have hF_225 := fq_puto hF hI_223 hkx (by decide) (by decide)
                  have hs_226 : NVq I_223 J x b_4 = s_5 := by rw [hI_223]; exact (vq_oI wvqx (ro_o hkx (by decide)) (by decide)).trans hs_5
                  have hs_227 : NWq I_223 J x b_6 = s_7 := by rw [hI_223]; exact (zq_oI wzqx (ro_o hkx (by decide)) (by decide)).trans hs_7
                  have hs_228 : MTq I_223 J x b_8 = s_9 := by rw [hI_223]; exact (mq_uIt wmqx (by decide)).trans hs_9
                  have hs_229 : NRq I_223 J x b_10 b_11 = s_12 := by rw [hI_223]; exact (nq_uIt wnqx (by decide)).trans hs_12
                  have hs_230 : QTq I_223 J x = (QT_.w_om s_13 (x_222)) := by rw [hI_223]; exact ((qq_om wqqx).trans (congrArg (fun z : QT_ => QT_.w_om z (x_222)) hs_13)).trans rfl
                  refine g_aload_n C 0 dX12_readSaid_80 rfl rfl ?_
                  refine g_dup C dX12_readSaid_81 rfl ?_
                  refine g_getI C K hLx hkx f_12_398 (v := 7) (kp_j hI_223 (by decide) q_22) dX12_readSaid_82 ?_
                  refine g_iconst C (v := 1) dX12_readSaid_85 (by decide) ?_
                  refine g_iadd C (v := 8) dX12_readSaid_86 (by decide) ?_
                  refine h_putI C K hLx hkx f_12_398 p_12_49 dX12_readSaid_87 (fun I_231 hI_231 => ?_)
                  have hU_232 := iw_put W9 hU_224 hI_231 (ro_o hkx (by decide)) (lo := 0) (hi := 8) (rfl) (rg_w rc_8 (by decide) (by decide)) rfl
                  have hF_233 := fq_puto hF_225 hI_231 hkx (by decide) (by decide)
                  have hs_234 : NVq I_231 J x b_4 = s_5 := by rw [hI_231]; exact (vq_oI wvqx (ro_o hkx (by decide)) (by decide)).trans hs_226
                  have hs_235 : NWq I_231 J x b_6 = s_7 := by rw [hI_231]; exact (zq_oI wzqx (ro_o hkx (by decide)) (by decide)).trans hs_227
                  have hs_236 : MTq I_231 J x b_8 = s_9 := by rw [hI_231]; exact (mq_uIt wmqx (by decide)).trans hs_228
                  have hs_237 : NRq I_231 J x b_10 b_11 = s_12 := by rw [hI_231]; exact (nq_uIt wnqx (by decide)).trans hs_229
                  have hs_238 : QTq I_231 J x = (QT_.w_om s_13 (x_222)) := by rw [hI_231]; exact (qq_uIt wqqx (by decide)).trans hs_230
                  refine g_aload_n C 0 dX12_readSaid_90 rfl rfl ?_
                  refine g_callVV C K (c_X12_go W9 hLx hkx   hU_232) hLx hkx (by decide) rfl v_12_156 rfl ⟨rfl, rfl⟩ ⟨Nat.le_of_ble_eq_true rfl, Nat.le_of_ble_eq_true rfl⟩ (Nat.le_of_ble_eq_true rfl) ⟨Nat.le_of_ble_eq_true rfl, Nat.le_of_ble_eq_true rfl⟩ dX12_readSaid_91 rfl (st := []) (fun I_240 J_241 h_242 => ?_)
                  obtain ⟨hUI_240, hFI_240, hGJ_241, fx_239, ex_239⟩ := h_242
                  have hF_243 := fq_tr hF_233 hFI_240 (by decide)
                  have hG_244 := fq_tr hG hGJ_241 (by decide)
                  obtain ⟨s_246, hs_246⟩ : ∃ z, MTq I_240 J_241 x b_8 = z := ⟨_, rfl⟩
                  have c_245 : mGo (s_9) = s_246 := by have q := fx_239; simp only [emqx, hs_236, hs_246] at q; exact q.symm
                  have hs_247 : NVq I_240 J_241 x b_4 = s_5 := (vq_fq wvqx hFI_240 hGJ_241 (by decide) (by decide)).trans hs_234
                  have hs_248 : NWq I_240 J_241 x b_6 = s_7 := (zq_fq wzqx hFI_240 hGJ_241 (by decide) (by decide)).trans hs_235
                  have hs_249 : NRq I_240 J_241 x b_10 b_11 = s_12 := (nq_fq wnqx hFI_240 hGJ_241 (by decide) (by decide)).trans hs_237
                  have hs_250 : QTq I_240 J_241 x = (QT_.w_om s_13 (x_222)) := (qq_fq wqqx hFI_240 hGJ_241 (by decide) (by decide)).trans hs_238
                  refine g_iconst C (v := 1) dX12_readSaid_94 (by decide) ?_
                  refine g_istore_n C dX12_readSaid_95 rfl (by decide) (lo2 := [(3, .int 1), (0, .ref x), (1, .int v_14), (2, .int v_15)]) rfl ?_
                  refine g_iload_n C 2 dX12_readSaid_96 rfl rfl ?_
                  refine g_if_eq C (tgt := 108) dX12_readSaid_97 (by decide) (fun h_251 => ?_) (fun h_251 => ?_)
                  · skip
                    refine g_iload_n C 3 dX12_readSaid_108 rfl rfl ?_
                    refine g_bipush C (v := 18) dX12_readSaid_109 (by decide) ?_
                    refine g_icmp_ne C (tgt := 122) dX12_readSaid_111 (by decide) (fun h_252 => ?_) (fun h_252 => ?_)
                    · skip
                      have n_253 : ¬ v_15 = 18 := h_252
                      have r_254 := ne_lo (lo := 19) n_253 r_120 rc_18 rfl (by decide)
                      refine g_iload_n C 3 dX12_readSaid_122 rfl rfl ?_
                      refine g_bipush C (v := 22) dX12_readSaid_123 (by decide) ?_
                      refine g_icmp_ge C (tgt := 146) dX12_readSaid_125 (by decide) (fun h_255 => ?_) (fun h_255 => ?_)
                      · skip
                        have r_256 := le_r (h_255) rc_22 r_254
                        refine g_iload_n C 3 dX12_readSaid_146 rfl rfl ?_
                        refine g_bipush C (v := 24) dX12_readSaid_147 (by decide) ?_
                        refine g_icmp_ge C (tgt := 160) dX12_readSaid_149 (by decide) (fun h_257 => ?_) (fun h_257 => ?_)
                        · skip
                          have r_258 := le_r (h_257) rc_24 r_256
                          refine g_aload_n C 1 dX12_readSaid_160 rfl rfl ?_
                          refine g_iload_n C 3 dX12_readSaid_161 rfl rfl ?_
                          refine g_callVI C K (c_X12_readCompare W9 hLx hkx v_15 (r_258) hUI_240  (by rw [(fq_at hFI_240 hLx hkx (by decide) (by decide) (kp_j hI_231 (by decide) (kp_j hI_223 (by decide) q_20))), (fq_at hFI_240 hLx hkx (by decide) (by decide) (kp_j hI_231 (by decide) (kp_s hI_223)))]; have := (ti_k tx_222 rc_1); omega)) hLx hkx (by decide) rfl v_12_410 rfl ⟨rfl, rfl⟩ ⟨Nat.le_of_ble_eq_true rfl, Nat.le_of_ble_eq_true rfl⟩ (Nat.le_of_ble_eq_true rfl) ⟨Nat.le_of_ble_eq_true rfl, Nat.le_of_ble_eq_true rfl⟩ dX12_readSaid_162 rfl (st := []) (fun x_259 I_260 J_261 h_262 => ?_)
                          obtain ⟨hUI_260, hFI_260, hGJ_261, rx_259, fx_259, ex_259⟩ := h_262
                          have hF_263 := fq_tr hF_243 hFI_260 (by decide)
                          have hG_264 := fq_tr hG_244 hGJ_261 (by decide)
                          obtain ⟨s_266, hs_266⟩ : ∃ z, MTq I_260 J_261 x b_8 = z := ⟨_, rfl⟩
                          obtain ⟨s_267, hs_267⟩ : ∃ z, NRq I_260 J_261 x b_10 b_11 = z := ⟨_, rfl⟩
                          obtain ⟨s_268, hs_268⟩ : ∃ z, QTq I_260 J_261 x = z := ⟨_, rfl⟩
                          have c_265 : mCmp (s_246) (s_12) ((QT_.w_om s_13 (x_222))) = (x_259, s_266, s_267, s_268) := by have q := fx_259; simp only [emqx, enqx, eqqx, hs_246, hs_249, hs_250, hs_266, hs_267, hs_268] at q; exact q.symm
                          have hs_269 : NVq I_260 J_261 x b_4 = s_5 := (vq_fq wvqx hFI_260 hGJ_261 (by decide) (by decide)).trans hs_247
                          have hs_270 : NWq I_260 J_261 x b_6 = s_7 := (zq_fq wzqx hFI_260 hGJ_261 (by decide) (by decide)).trans hs_248
                          obtain ⟨x_271, hx_271, rx_271⟩ := ex_getw (I := I_260) (a := x) (j := 47) (lo := 0) (hi := 60) hUI_260.1 hLx (ro_o hkx (by decide)) rfl
                          obtain ⟨x_272, hx_272, rx_272⟩ := ex_getw (I := I_260) (a := x) (j := 50) (lo := 0) (hi := 59) hUI_260.1 hLx (ro_o hkx (by decide)) rfl
                          refine g_istore_n C dX12_readSaid_165 rfl (by decide) (lo2 := [(3, .int x_259), (0, .ref x), (1, .int v_14), (2, .int v_15)]) rfl ?_
                          refine g_aload_n C 1 dX12_readSaid_166 rfl rfl ?_
                          refine g_dup C dX12_readSaid_167 rfl ?_
                          refine g_getI C K hLx hkx f_12_398 (v := 8) (fq_at hFI_260 hLx hkx (by decide) (by decide) (fq_at hFI_240 hLx hkx (by decide) (by decide) (kp_s hI_231))) dX12_readSaid_168 ?_
                          refine g_iconst C (v := 1) dX12_readSaid_171 (by decide) ?_
                          refine g_isub C (v := 7) dX12_readSaid_172 (by decide) ?_
                          refine h_putI C K hLx hkx f_12_398 p_12_49 dX12_readSaid_173 (fun I_273 hI_273 => ?_)
                          have hU_274 := iw_put W9 hUI_260 hI_273 (ro_o hkx (by decide)) (lo := 0) (hi := 8) (rfl) (rg_w rc_7 (by decide) (by decide)) rfl
                          have hF_275 := fq_puto hF_263 hI_273 hkx (by decide) (by decide)
                          have hs_276 : NVq I_273 J_261 x b_4 = s_5 := by rw [hI_273]; exact (vq_oI wvqx (ro_o hkx (by decide)) (by decide)).trans hs_269
                          have hs_277 : NWq I_273 J_261 x b_6 = s_7 := by rw [hI_273]; exact (zq_oI wzqx (ro_o hkx (by decide)) (by decide)).trans hs_270
                          have hs_278 : MTq I_273 J_261 x b_8 = s_266 := by rw [hI_273]; exact (mq_uIt wmqx (by decide)).trans hs_266
                          have hs_279 : NRq I_273 J_261 x b_10 b_11 = s_267 := by rw [hI_273]; exact (nq_uIt wnqx (by decide)).trans hs_267
                          have hs_280 : QTq I_273 J_261 x = s_268 := by rw [hI_273]; exact (qq_uIt wqqx (by decide)).trans hs_268
                          refine g_iload_n C 0 dX12_readSaid_176 rfl rfl ?_
                          exact g_zret (ty := .boolean) (r := x_259) B K rfl (nar_z (rx_259)) ⟨hU_274, hF_275, hG_264, rx_259, (by (try simp only [h_30, (nlt h_30), c_125, h_126, (eq_true h_129), h_203, f_204, h_205, h_221, hx_222, c_245, (eq_true h_251), h_252, h_255, h_257, hx_271, hx_272, if_true, if_false, mqM_tp, mqM_size, mqM_limit, mqM_to, mqM_frm, mqM_kind, mqM_number, mqM_sign, mqM_word, MT_.w_tp, MT_.w_size, MT_.w_limit, MT_.w_to, MT_.w_frm, MT_.w_kind, MT_.w_number, MT_.w_sign, MT_.w_word, nqM_rd, nqM_rn, nqM_taped, nqM_mfault, nqM_mplace, nqM_told, nqM_hl, nqM_hd, NR_.w_rd, NR_.w_rn, NR_.w_taped, NR_.w_mfault, NR_.w_mplace, NR_.w_told, NR_.w_hl, NR_.w_hd, qqM_om, QT_.w_om, vqM_nv, NV_.w_nv, zqM_nw, NW_.w_nw] at hQ_28); (try simp only [h_30, (nlt h_30), c_125, h_126, (eq_true h_129), h_203, f_204, h_205, h_221, hx_222, c_245, (eq_true h_251), h_252, h_255, h_257, hx_271, hx_272, if_true, if_false, mqM_tp, mqM_size, mqM_limit, mqM_to, mqM_frm, mqM_kind, mqM_number, mqM_sign, mqM_word, MT_.w_tp, MT_.w_size, MT_.w_limit, MT_.w_to, MT_.w_frm, MT_.w_kind, MT_.w_number, MT_.w_sign, MT_.w_word, nqM_rd, nqM_rn, nqM_taped, nqM_mfault, nqM_mplace, nqM_told, nqM_hl, nqM_hd, NR_.w_rd, NR_.w_rn, NR_.w_taped, NR_.w_mfault, NR_.w_mplace, NR_.w_told, NR_.w_hl, NR_.w_hd, qqM_om, QT_.w_om, vqM_nv, NV_.w_nv, zqM_nw, NW_.w_nw] at u_29); (try simp only [h_30, (nlt h_30), c_125, h_126, (eq_true h_129), h_203, f_204, h_205, h_221, hx_222, c_245, (eq_true h_251), h_252, h_255, h_257, hx_271, hx_272, if_true, if_false, mqM_tp, mqM_size, mqM_limit, mqM_to, mqM_frm, mqM_kind, mqM_number, mqM_sign, mqM_word, MT_.w_tp, MT_.w_size, MT_.w_limit, MT_.w_to, MT_.w_frm, MT_.w_kind, MT_.w_number, MT_.w_sign, MT_.w_word, nqM_rd, nqM_rn, nqM_taped, nqM_mfault, nqM_mplace, nqM_told, nqM_hl, nqM_hd, NR_.w_rd, NR_.w_rn, NR_.w_taped, NR_.w_mfault, NR_.w_mplace, NR_.w_told, NR_.w_hl, NR_.w_hd, qqM_om, QT_.w_om, vqM_nv, NV_.w_nv, zqM_nw, NW_.w_nw] at c_265); simp only [mSd0, mSd1, mSd2, mBadQ, evqx, hs_276, hs_5, ezqx, hs_277, hs_7, emqx, hs_278, hs_9, enqx, hs_279, hs_12, eqqx, hs_280, hs_13, hQ_28, u_29, h_30, (nlt h_30), c_125, h_126, (eq_true h_129), h_203, f_204, h_205, h_221, hx_222, c_245, (eq_true h_251), h_252, h_255, h_257, c_265, hx_271, hx_272, if_true, if_false, mqM_tp, mqM_size, mqM_limit, mqM_to, mqM_frm, mqM_kind, mqM_number, mqM_sign, mqM_word, MT_.w_tp, MT_.w_size, MT_.w_limit, MT_.w_to, MT_.w_frm, MT_.w_kind, MT_.w_number, MT_.w_sign, MT_.w_word, nqM_rd, nqM_rn, nqM_taped, nqM_mfault, nqM_mplace, nqM_told, nqM_hl, nqM_hd, NR_.w_rd, NR_.w_rn, NR_.w_taped, NR_.w_mfault, NR_.w_mplace, NR_.w_told, NR_.w_hl, NR_.w_hd, qqM_om, QT_.w_om, vqM_nv, NV_.w_nv, zqM_nw, NW_.w_nw]), (fun hq => by have n_281 : ¬ x_259 = 0 := hq; have r_282 := ne_lo (lo := 1) n_281 rx_259 rc_0 rfl (by decide); have f_283 := sl_v (fq_at hFI_240 hLx hkx (by decide) (by decide) (kp_j hI_231 (by decide) (kp_j hI_223 (by decide) q_20))) hx_271 hx_272 (ex_259 n_281); have f_284 : s_268.om = x_222 := (congrArg QT_.om hs_280).symm.trans (kp_j hI_273 (by decide) (fq_at hFI_260 hLx hkx (by decide) (by decide) (fq_at hFI_240 hLx hkx (by decide) (by decide) (kp_j hI_231 (by decide) (kp_s hI_223))))); exact (sz_m hx_1 hx_2 (kp_j hI_273 (by decide) hx_271) (kp_j hI_273 (by decide) (fq_at hFI_260 hLx hkx (by decide) (by decide) (fq_at hFI_240 hLx hkx (by decide) (by decide) (kp_j hI_231 (by decide) (kp_s hI_223))))) (kp_j hI_273 (by decide) hx_272) ⟨by have := (ti_k tx_222 rc_1); omega, by have := (ti_k tx_222 rc_1); omega, by have := (ti_k tx_222 rc_1); omega, by have := (ti_k tx_222 rc_1); omega⟩)), (kp_s hI_273)⟩ dX12_readSaid_177
                        · skip
                          have r_285 := lt_l (hi := 23) (nle h_257) r_256 rc_24 (by decide)
                          refine g_aload_n C 1 dX12_readSaid_152 rfl rfl ?_
                          refine g_iload_n C 3 dX12_readSaid_153 rfl rfl ?_
                          refine g_callVI C K (c_X12_readOf W9 hLx hkx v_15 (r_285) hUI_240  (by rw [(fq_at hFI_240 hLx hkx (by decide) (by decide) (kp_j hI_231 (by decide) (kp_j hI_223 (by decide) q_20))), (fq_at hFI_240 hLx hkx (by decide) (by decide) (kp_j hI_231 (by decide) (kp_s hI_223)))]; have := (ti_k tx_222 rc_1); omega)) hLx hkx (by decide) rfl v_12_407 rfl ⟨rfl, rfl⟩ ⟨Nat.le_of_ble_eq_true rfl, Nat.le_of_ble_eq_true rfl⟩ (Nat.le_of_ble_eq_true rfl) ⟨Nat.le_of_ble_eq_true rfl, Nat.le_of_ble_eq_true rfl⟩ dX12_readSaid_154 rfl (st := []) (fun x_286 I_287 J_288 h_289 => ?_)
                          obtain ⟨hUI_287, hFI_287, hGJ_288, rx_286, fx_286, ex_286⟩ := h_289
                          have hF_290 := fq_tr hF_243 hFI_287 (by decide)
                          have hG_291 := fq_tr hG_244 hGJ_288 (by decide)
                          obtain ⟨s_293, hs_293⟩ : ∃ z, MTq I_287 J_288 x b_8 = z := ⟨_, rfl⟩
                          obtain ⟨s_294, hs_294⟩ : ∃ z, NRq I_287 J_288 x b_10 b_11 = z := ⟨_, rfl⟩
                          obtain ⟨s_295, hs_295⟩ : ∃ z, QTq I_287 J_288 x = z := ⟨_, rfl⟩
                          have c_292 : mOf (v_15) (s_5) (s_7) (s_246) (s_12) ((QT_.w_om s_13 (x_222))) = (x_286, s_293, s_294, s_295) := by have q := fx_286; simp only [evqx, ezqx, emqx, enqx, eqqx, hs_247, hs_248, hs_246, hs_249, hs_250, hs_293, hs_294, hs_295] at q; exact q.symm
                          have hs_296 : NVq I_287 J_288 x b_4 = s_5 := (vq_fq wvqx hFI_287 hGJ_288 (by decide) (by decide)).trans hs_247
                          have hs_297 : NWq I_287 J_288 x b_6 = s_7 := (zq_fq wzqx hFI_287 hGJ_288 (by decide) (by decide)).trans hs_248
                          obtain ⟨x_298, hx_298, rx_298⟩ := ex_getw (I := I_287) (a := x) (j := 47) (lo := 0) (hi := 60) hUI_287.1 hLx (ro_o hkx (by decide)) rfl
                          obtain ⟨x_299, hx_299, rx_299⟩ := ex_getw (I := I_287) (a := x) (j := 50) (lo := 0) (hi := 59) hUI_287.1 hLx (ro_o hkx (by decide)) rfl
                          refine g_goto C (tgt := 165) dX12_readSaid_157 (by decide) ?_
                          refine g_istore_n C dX12_readSaid_165 rfl (by decide) (lo2 := [(3, .int x_286), (0, .ref x), (1, .int v_14), (2, .int v_15)]) rfl ?_
                          refine g_aload_n C 1 dX12_readSaid_166 rfl rfl ?_
                          refine g_dup C dX12_readSaid_167 rfl ?_
                          refine g_getI C K hLx hkx f_12_398 (v := 8) (fq_at hFI_287 hLx hkx (by decide) (by decide) (fq_at hFI_240 hLx hkx (by decide) (by decide) (kp_s hI_231))) dX12_readSaid_168 ?_
                          refine g_iconst C (v := 1) dX12_readSaid_171 (by decide) ?_
                          refine g_isub C (v := 7) dX12_readSaid_172 (by decide) ?_
                          refine h_putI C K hLx hkx f_12_398 p_12_49 dX12_readSaid_173 (fun I_300 hI_300 => ?_)
                          have hU_301 := iw_put W9 hUI_287 hI_300 (ro_o hkx (by decide)) (lo := 0) (hi := 8) (rfl) (rg_w rc_7 (by decide) (by decide)) rfl
                          have hF_302 := fq_puto hF_290 hI_300 hkx (by decide) (by decide)
                          have hs_303 : NVq I_300 J_288 x b_4 = s_5 := by rw [hI_300]; exact (vq_oI wvqx (ro_o hkx (by decide)) (by decide)).trans hs_296
                          have hs_304 : NWq I_300 J_288 x b_6 = s_7 := by rw [hI_300]; exact (zq_oI wzqx (ro_o hkx (by decide)) (by decide)).trans hs_297
                          have hs_305 : MTq I_300 J_288 x b_8 = s_293 := by rw [hI_300]; exact (mq_uIt wmqx (by decide)).trans hs_293
                          have hs_306 : NRq I_300 J_288 x b_10 b_11 = s_294 := by rw [hI_300]; exact (nq_uIt wnqx (by decide)).trans hs_294
                          have hs_307 : QTq I_300 J_288 x = s_295 := by rw [hI_300]; exact (qq_uIt wqqx (by decide)).trans hs_295
                          refine g_iload_n C 0 dX12_readSaid_176 rfl rfl ?_
                          exact g_zret (ty := .boolean) (r := x_286) B K rfl (nar_z (rx_286)) ⟨hU_301, hF_302, hG_291, rx_286, (by first | ((try simp only [h_30, (nlt h_30), c_125, h_126, (eq_true h_129), h_203, f_204, h_205, h_221, hx_222, c_245, (eq_true h_251), h_252, h_255, h_257, (nle h_257), hx_298, hx_299, if_true, if_false, mqM_tp, mqM_size, mqM_limit, mqM_to, mqM_frm, mqM_kind, mqM_number, mqM_sign, mqM_word, MT_.w_tp, MT_.w_size, MT_.w_limit, MT_.w_to, MT_.w_frm, MT_.w_kind, MT_.w_number, MT_.w_sign, MT_.w_word, nqM_rd, nqM_rn, nqM_taped, nqM_mfault, nqM_mplace, nqM_told, nqM_hl, nqM_hd, NR_.w_rd, NR_.w_rn, NR_.w_taped, NR_.w_mfault, NR_.w_mplace, NR_.w_told, NR_.w_hl, NR_.w_hd, qqM_om, QT_.w_om, vqM_nv, NV_.w_nv, zqM_nw, NW_.w_nw] at hQ_28); (try simp only [h_30, (nlt h_30), c_125, h_126, (eq_true h_129), h_203, f_204, h_205, h_221, hx_222, c_245, (eq_true h_251), h_252, h_255, h_257, (nle h_257), hx_298, hx_299, if_true, if_false, mqM_tp, mqM_size, mqM_limit, mqM_to, mqM_frm, mqM_kind, mqM_number, mqM_sign, mqM_word, MT_.w_tp, MT_.w_size, MT_.w_limit, MT_.w_to, MT_.w_frm, MT_.w_kind, MT_.w_number, MT_.w_sign, MT_.w_word, nqM_rd, nqM_rn, nqM_taped, nqM_mfault, nqM_mplace, nqM_told, nqM_hl, nqM_hd, NR_.w_rd, NR_.w_rn, NR_.w_taped, NR_.w_mfault, NR_.w_mplace, NR_.w_told, NR_.w_hl, NR_.w_hd, qqM_om, QT_.w_om, vqM_nv, NV_.w_nv, zqM_nw, NW_.w_nw] at u_29); (try simp only [h_30, (nlt h_30), c_125, h_126, (eq_true h_129), h_203, f_204, h_205, h_221, hx_222, c_245, (eq_true h_251), h_252, h_255, h_257, (nle h_257), hx_298, hx_299, if_true, if_false, mqM_tp, mqM_size, mqM_limit, mqM_to, mqM_frm, mqM_kind, mqM_number, mqM_sign, mqM_word, MT_.w_tp, MT_.w_size, MT_.w_limit, MT_.w_to, MT_.w_frm, MT_.w_kind, MT_.w_number, MT_.w_sign, MT_.w_word, nqM_rd, nqM_rn, nqM_taped, nqM_mfault, nqM_mplace, nqM_told, nqM_hl, nqM_hd, NR_.w_rd, NR_.w_rn, NR_.w_taped, NR_.w_mfault, NR_.w_mplace, NR_.w_told, NR_.w_hl, NR_.w_hd, qqM_om, QT_.w_om, vqM_nv, NV_.w_nv, zqM_nw, NW_.w_nw] at c_292); simp only [mSd0, mSd1, mSd2, mBadQ, evqx, hs_303, hs_5, ezqx, hs_304, hs_7, emqx, hs_305, hs_9, enqx, hs_306, hs_12, eqqx, hs_307, hs_13, hQ_28, u_29, h_30, (nlt h_30), c_125, h_126, (eq_true h_129), h_203, f_204, h_205, h_221, hx_222, c_245, (eq_true h_251), h_252, h_255, h_257, (nle h_257), c_292, hx_298, hx_299, if_true, if_false, mqM_tp, mqM_size, mqM_limit, mqM_to, mqM_frm, mqM_kind, mqM_number, mqM_sign, mqM_word, MT_.w_tp, MT_.w_size, MT_.w_limit, MT_.w_to, MT_.w_frm, MT_.w_kind, MT_.w_number, MT_.w_sign, MT_.w_word, nqM_rd, nqM_rn, nqM_taped, nqM_mfault, nqM_mplace, nqM_told, nqM_hl, nqM_hd, NR_.w_rd, NR_.w_rn, NR_.w_taped, NR_.w_mfault, NR_.w_mplace, NR_.w_told, NR_.w_hl, NR_.w_hd, qqM_om, QT_.w_om, vqM_nv, NV_.w_nv, zqM_nw, NW_.w_nw]; done) | exact absurd (nle h_257) h_30), (fun hq => by have n_308 : ¬ x_286 = 0 := hq; have r_309 := ne_lo (lo := 1) n_308 rx_286 rc_0 rfl (by decide); have f_310 := sl_v (fq_at hFI_240 hLx hkx (by decide) (by decide) (kp_j hI_231 (by decide) (kp_j hI_223 (by decide) q_20))) hx_298 hx_299 (ex_286 n_308); have f_311 : s_295.om = x_222 := (congrArg QT_.om hs_307).symm.trans (kp_j hI_300 (by decide) (fq_at hFI_287 hLx hkx (by decide) (by decide) (fq_at hFI_240 hLx hkx (by decide) (by decide) (kp_j hI_231 (by decide) (kp_s hI_223))))); exact (sz_m hx_1 hx_2 (kp_j hI_300 (by decide) hx_298) (kp_j hI_300 (by decide) (fq_at hFI_287 hLx hkx (by decide) (by decide) (fq_at hFI_240 hLx hkx (by decide) (by decide) (kp_j hI_231 (by decide) (kp_s hI_223))))) (kp_j hI_300 (by decide) hx_299) ⟨by have := (ti_k tx_222 rc_1); omega, by have := (ti_k tx_222 rc_1); omega, by have := (ti_k tx_222 rc_1); omega, by have := (ti_k tx_222 rc_1); omega⟩)), (kp_s hI_300)⟩ dX12_readSaid_177
                      · skip
                        have r_312 := lt_l (hi := 21) (nle h_255) r_254 rc_22 (by decide)
                        refine g_aload_n C 1 dX12_readSaid_128 rfl rfl ?_
                        refine g_aload_n C 1 dX12_readSaid_129 rfl rfl ?_
                        refine g_bipush C (v := 50) dX12_readSaid_130 (by decide) ?_
                        refine g_iload_n C 3 dX12_readSaid_132 rfl rfl ?_
                        obtain ⟨x_313, hx_313, rx_313, tx_313⟩ := ex_add 69 71 rc_50 r_312 (by decide) (by decide) (by decide) (by decide)
                        refine g_iadd C (v := x_313) dX12_readSaid_133 hx_313 ?_
                        refine g_iconst C (v := 0) dX12_readSaid_134 (by decide) ?_
                        refine g_iconst C (v := 0) dX12_readSaid_135 (by decide) ?_
                        refine g_iconst C (v := 0) dX12_readSaid_136 (by decide) ?_
                        have r_314 := (show Rg 0 59 v_16 from by have q1 := rv_16; have q2 := rx_222; unfold Rg at *; omega)
                        refine g_callVI C K (c_X12_saysOne W9 hLx hkx x_313 0 0 0 (rg_w rx_313 (by decide) (by decide)) (rg_w rc_0 (by decide) (by decide)) (rg_w rc_0 (by decide) (by decide)) hUI_240  (eq_rg (fq_at hFI_240 hLx hkx (by decide) (by decide) (kp_j hI_231 (by decide) (kp_j hI_223 (by decide) q_20))) (r_314)) (by rw [(fq_at hFI_240 hLx hkx (by decide) (by decide) (kp_j hI_231 (by decide) (kp_j hI_223 (by decide) q_20)))]; exact ⟨fun q => by rcases q with q | q | q; exact absurd q (rg_nek rx_313 rc_1 (by decide)); exact absurd q (rg_nek rx_313 rc_2 (by decide)); exact absurd q (rg_nek rx_313 rc_3 (by decide)), fun q => by rcases q with q | q; exact absurd q (rg_nek rx_313 rc_2 (by decide)); exact absurd q (rg_nek rx_313 rc_3 (by decide)), fun q => absurd q (rg_nek rx_313 rc_73 (by decide))⟩)) hLx hkx (by decide) rfl v_12_389 rfl ⟨rfl, rfl⟩ ⟨Nat.le_of_ble_eq_true rfl, Nat.le_of_ble_eq_true rfl⟩ (Nat.le_of_ble_eq_true rfl) ⟨Nat.le_of_ble_eq_true rfl, Nat.le_of_ble_eq_true rfl⟩ dX12_readSaid_137 rfl (st := [.ref x]) (fun x_315 I_316 J_317 h_318 => ?_)
                        obtain ⟨hUI_316, hFI_316, hGJ_317, rx_315, ex_315⟩ := h_318
                        have hF_319 := fq_tr hF_243 hFI_316 (by decide)
                        have hG_320 := fq_tr hG_244 hGJ_317 (by decide)
                        have hs_321 : NVq I_316 J_317 x b_4 = s_5 := (vq_fq wvqx hFI_316 hGJ_317 (by decide) (by decide)).trans hs_247
                        have hs_322 : NWq I_316 J_317 x b_6 = s_7 := (zq_fq wzqx hFI_316 hGJ_317 (by decide) (by decide)).trans hs_248
                        have hs_323 : MTq I_316 J_317 x b_8 = s_246 := (mq_fq wmqx hFI_316 hGJ_317 (by decide) (by decide)).trans hs_246
                        have hs_324 : NRq I_316 J_317 x b_10 b_11 = s_12 := (nq_fq wnqx hFI_316 hGJ_317 (by decide) (by decide)).trans hs_249
                        have hs_325 : QTq I_316 J_317 x = (QT_.w_om s_13 (x_222)) := (qq_fq wqqx hFI_316 hGJ_317 (by decide) (by decide)).trans hs_250
                        obtain ⟨x_326, hx_326, rx_326, tx_326, ux_326⟩ := sa_b (lo := 1) (hi := 60) ex_315 (fq_at hFI_240 hLx hkx (by decide) (by decide) (kp_j hI_231 (by decide) (kp_j hI_223 (by decide) q_20))) r_314 (by decide) (by decide)
                        have r_327 := (show Rg 0 59 x_315 from by have q1 := ux_326; have q2 := r_314; unfold Rg at *; omega)
                        refine h_putI C K hLx hkx f_12_386 p_12_50 dX12_readSaid_140 (fun I_328 hI_328 => ?_)
                        have hU_329 := iw_put W9 hUI_316 hI_328 (ro_o hkx (by decide)) (lo := 0) (hi := 59) (rfl) (r_327) rfl
                        have hF_330 := fq_puto hF_319 hI_328 hkx (by decide) (by decide)
                        have hs_331 : NVq I_328 J_317 x b_4 = s_5 := by rw [hI_328]; exact (vq_oI wvqx (ro_o hkx (by decide)) (by decide)).trans hs_321
                        have hs_332 : NWq I_328 J_317 x b_6 = s_7 := by rw [hI_328]; exact (zq_oI wzqx (ro_o hkx (by decide)) (by decide)).trans hs_322
                        have hs_333 : MTq I_328 J_317 x b_8 = s_246 := by rw [hI_328]; exact (mq_uIt wmqx (by decide)).trans hs_323
                        have hs_334 : NRq I_328 J_317 x b_10 b_11 = s_12 := by rw [hI_328]; exact (nq_uIt wnqx (by decide)).trans hs_324
                        have hs_335 : QTq I_328 J_317 x = (QT_.w_om s_13 (x_222)) := by rw [hI_328]; exact (qq_uIt wqqx (by decide)).trans hs_325
                        refine g_goto C (tgt := 166) dX12_readSaid_143 (by decide) ?_
                        refine g_aload_n C 1 dX12_readSaid_166 rfl rfl ?_
                        refine g_dup C dX12_readSaid_167 rfl ?_
                        refine g_getI C K hLx hkx f_12_398 (v := 8) (kp_j hI_328 (by decide) (fq_at hFI_316 hLx hkx (by decide) (by decide) (fq_at hFI_240 hLx hkx (by decide) (by decide) (kp_s hI_231)))) dX12_readSaid_168 ?_
                        refine g_iconst C (v := 1) dX12_readSaid_171 (by decide) ?_
                        refine g_isub C (v := 7) dX12_readSaid_172 (by decide) ?_
                        refine h_putI C K hLx hkx f_12_398 p_12_49 dX12_readSaid_173 (fun I_336 hI_336 => ?_)
                        have hU_337 := iw_put W9 hU_329 hI_336 (ro_o hkx (by decide)) (lo := 0) (hi := 8) (rfl) (rg_w rc_7 (by decide) (by decide)) rfl
                        have hF_338 := fq_puto hF_330 hI_336 hkx (by decide) (by decide)
                        have hs_339 : NVq I_336 J_317 x b_4 = s_5 := by rw [hI_336]; exact (vq_oI wvqx (ro_o hkx (by decide)) (by decide)).trans hs_331
                        have hs_340 : NWq I_336 J_317 x b_6 = s_7 := by rw [hI_336]; exact (zq_oI wzqx (ro_o hkx (by decide)) (by decide)).trans hs_332
                        have hs_341 : MTq I_336 J_317 x b_8 = s_246 := by rw [hI_336]; exact (mq_uIt wmqx (by decide)).trans hs_333
                        have hs_342 : NRq I_336 J_317 x b_10 b_11 = s_12 := by rw [hI_336]; exact (nq_uIt wnqx (by decide)).trans hs_334
                        have hs_343 : QTq I_336 J_317 x = (QT_.w_om s_13 (x_222)) := by rw [hI_336]; exact (qq_uIt wqqx (by decide)).trans hs_335
                        refine g_iload_n C 0 dX12_readSaid_176 rfl rfl ?_
                        exact g_zret (ty := .boolean) (r := 1) B K rfl (rfl) ⟨hU_337, hF_338, hG_320, rg_w rc_1 (by decide) (by decide), (by first | ((try simp only [h_30, (nlt h_30), c_125, h_126, (eq_true h_129), h_203, f_204, h_205, h_221, hx_222, c_245, (eq_true h_251), h_252, h_255, (nle h_255), hx_313, hx_326, if_true, if_false, mqM_tp, mqM_size, mqM_limit, mqM_to, mqM_frm, mqM_kind, mqM_number, mqM_sign, mqM_word, MT_.w_tp, MT_.w_size, MT_.w_limit, MT_.w_to, MT_.w_frm, MT_.w_kind, MT_.w_number, MT_.w_sign, MT_.w_word, nqM_rd, nqM_rn, nqM_taped, nqM_mfault, nqM_mplace, nqM_told, nqM_hl, nqM_hd, NR_.w_rd, NR_.w_rn, NR_.w_taped, NR_.w_mfault, NR_.w_mplace, NR_.w_told, NR_.w_hl, NR_.w_hd, qqM_om, QT_.w_om, vqM_nv, NV_.w_nv, zqM_nw, NW_.w_nw] at hQ_28); (try simp only [h_30, (nlt h_30), c_125, h_126, (eq_true h_129), h_203, f_204, h_205, h_221, hx_222, c_245, (eq_true h_251), h_252, h_255, (nle h_255), hx_313, hx_326, if_true, if_false, mqM_tp, mqM_size, mqM_limit, mqM_to, mqM_frm, mqM_kind, mqM_number, mqM_sign, mqM_word, MT_.w_tp, MT_.w_size, MT_.w_limit, MT_.w_to, MT_.w_frm, MT_.w_kind, MT_.w_number, MT_.w_sign, MT_.w_word, nqM_rd, nqM_rn, nqM_taped, nqM_mfault, nqM_mplace, nqM_told, nqM_hl, nqM_hd, NR_.w_rd, NR_.w_rn, NR_.w_taped, NR_.w_mfault, NR_.w_mplace, NR_.w_told, NR_.w_hl, NR_.w_hd, qqM_om, QT_.w_om, vqM_nv, NV_.w_nv, zqM_nw, NW_.w_nw] at u_29); simp only [mSd0, mSd1, mSd2, mBadQ, evqx, hs_339, hs_5, ezqx, hs_340, hs_7, emqx, hs_341, hs_9, enqx, hs_342, hs_12, eqqx, hs_343, hs_13, hQ_28, u_29, h_30, (nlt h_30), c_125, h_126, (eq_true h_129), h_203, f_204, h_205, h_221, hx_222, c_245, (eq_true h_251), h_252, h_255, (nle h_255), hx_313, hx_326, if_true, if_false, mqM_tp, mqM_size, mqM_limit, mqM_to, mqM_frm, mqM_kind, mqM_number, mqM_sign, mqM_word, MT_.w_tp, MT_.w_size, MT_.w_limit, MT_.w_to, MT_.w_frm, MT_.w_kind, MT_.w_number, MT_.w_sign, MT_.w_word, nqM_rd, nqM_rn, nqM_taped, nqM_mfault, nqM_mplace, nqM_told, nqM_hl, nqM_hd, NR_.w_rd, NR_.w_rn, NR_.w_taped, NR_.w_mfault, NR_.w_mplace, NR_.w_told, NR_.w_hl, NR_.w_hd, qqM_om, QT_.w_om, vqM_nv, NV_.w_nv, zqM_nw, NW_.w_nw]; done) | exact absurd (nle h_255) h_30), (fun _ => (sz_m hx_1 hx_2 (kp_j hI_336 (by decide) (kp_j hI_328 (by decide) hx_326)) (kp_j hI_336 (by decide) (kp_j hI_328 (by decide) (fq_at hFI_316 hLx hkx (by decide) (by decide) (fq_at hFI_240 hLx hkx (by decide) (by decide) (kp_j hI_231 (by decide) (kp_s hI_223)))))) (kp_j hI_336 (by decide) (kp_s hI_328)) ⟨by have := tx_326; have := (ti_k tx_222 rc_1); omega, by have := tx_326; have := (ti_k tx_222 rc_1); omega, by have := tx_326; have := (ti_k tx_222 rc_1); omega, by have := tx_326; have := (ti_k tx_222 rc_1); omega⟩)), (kp_s hI_336)⟩ dX12_readSaid_177
                    · skip
                      have r_344 := (⟨(r_120).1, (eq_rg (h_252) rc_18).2⟩ : Rg 18 18 v_15)
                      refine g_aload_n C 1 dX12_readSaid_114 rfl rfl ?_
                      refine g_callVI C K (c_X12_readNot_8 W9 hLx hkx   hUI_240  (by rw [(fq_at hFI_240 hLx hkx (by decide) (by decide) (kp_j hI_231 (by decide) (kp_j hI_223 (by decide) q_20))), (fq_at hFI_240 hLx hkx (by decide) (by decide) (kp_j hI_231 (by decide) (kp_s hI_223)))]; have := (ti_k tx_222 rc_1); omega) ((fq_at hFI_240 hLx hkx (by decide) (by decide) (kp_s hI_231)))) hLx hkx (by decide) rfl v_12_404 rfl ⟨rfl, rfl⟩ ⟨Nat.le_of_ble_eq_true rfl, Nat.le_of_ble_eq_true rfl⟩ (Nat.le_of_ble_eq_true rfl) ⟨Nat.le_of_ble_eq_true rfl, Nat.le_of_ble_eq_true rfl⟩ dX12_readSaid_115 rfl (st := []) (fun x_345 I_346 J_347 h_348 => ?_)
                      obtain ⟨hUI_346, hFI_346, hGJ_347, rx_345, fx_345, ex_345⟩ := h_348
                      have hF_349 := fq_tr hF_243 hFI_346 (by decide)
                      have hG_350 := fq_tr hG_244 hGJ_347 (by decide)
                      obtain ⟨s_352, hs_352⟩ : ∃ z, MTq I_346 J_347 x b_8 = z := ⟨_, rfl⟩
                      obtain ⟨s_353, hs_353⟩ : ∃ z, NRq I_346 J_347 x b_10 b_11 = z := ⟨_, rfl⟩
                      obtain ⟨s_354, hs_354⟩ : ∃ z, QTq I_346 J_347 x = z := ⟨_, rfl⟩
                      have c_351 : mNtK 0 (s_5) (s_7) (s_246) (s_12) ((QT_.w_om s_13 (x_222))) = (x_345, s_352, s_353, s_354) := by have q := fx_345; simp only [evqx, ezqx, emqx, enqx, eqqx, hs_247, hs_248, hs_246, hs_249, hs_250, hs_352, hs_353, hs_354] at q; exact q.symm
                      have hs_355 : NVq I_346 J_347 x b_4 = s_5 := (vq_fq wvqx hFI_346 hGJ_347 (by decide) (by decide)).trans hs_247
                      have hs_356 : NWq I_346 J_347 x b_6 = s_7 := (zq_fq wzqx hFI_346 hGJ_347 (by decide) (by decide)).trans hs_248
                      have f_357 : s_354.om = x_222 := (congrArg QT_.om hs_354).symm.trans (fq_at hFI_346 hLx hkx (by decide) (by decide) (fq_at hFI_240 hLx hkx (by decide) (by decide) (kp_j hI_231 (by decide) (kp_s hI_223))))
                      refine g_istore_n C dX12_readSaid_118 rfl (by decide) (lo2 := [(3, .int x_345), (0, .ref x), (1, .int v_14), (2, .int v_15)]) rfl ?_
                      refine g_goto C (tgt := 166) dX12_readSaid_119 (by decide) ?_
                      refine g_aload_n C 1 dX12_readSaid_166 rfl rfl ?_
                      refine g_dup C dX12_readSaid_167 rfl ?_
                      refine g_getI C K hLx hkx f_12_398 (v := 8) ex_345.2 dX12_readSaid_168 ?_
                      refine g_iconst C (v := 1) dX12_readSaid_171 (by decide) ?_
                      refine g_isub C (v := 7) dX12_readSaid_172 (by decide) ?_
                      refine h_putI C K hLx hkx f_12_398 p_12_49 dX12_readSaid_173 (fun I_358 hI_358 => ?_)
                      have hU_359 := iw_put W9 hUI_346 hI_358 (ro_o hkx (by decide)) (lo := 0) (hi := 8) (rfl) (rg_w rc_7 (by decide) (by decide)) rfl
                      have hF_360 := fq_puto hF_349 hI_358 hkx (by decide) (by decide)
                      have hs_361 : NVq I_358 J_347 x b_4 = s_5 := by rw [hI_358]; exact (vq_oI wvqx (ro_o hkx (by decide)) (by decide)).trans hs_355
                      have hs_362 : NWq I_358 J_347 x b_6 = s_7 := by rw [hI_358]; exact (zq_oI wzqx (ro_o hkx (by decide)) (by decide)).trans hs_356
                      have hs_363 : MTq I_358 J_347 x b_8 = s_352 := by rw [hI_358]; exact (mq_uIt wmqx (by decide)).trans hs_352
                      have hs_364 : NRq I_358 J_347 x b_10 b_11 = s_353 := by rw [hI_358]; exact (nq_uIt wnqx (by decide)).trans hs_353
                      have hs_365 : QTq I_358 J_347 x = s_354 := by rw [hI_358]; exact (qq_uIt wqqx (by decide)).trans hs_354
                      refine g_iload_n C 0 dX12_readSaid_176 rfl rfl ?_
                      exact g_zret (ty := .boolean) (r := x_345) B K rfl (nar_z (rg_w rx_345 (by decide) (by decide))) ⟨hU_359, hF_360, hG_350, rg_w rx_345 (by decide) (by decide), (by (try simp only [h_30, (nlt h_30), c_125, h_126, (eq_true h_129), h_203, f_204, h_205, h_221, hx_222, c_245, (eq_true h_251), (eq_true h_252), f_357, if_true, if_false, mqM_tp, mqM_size, mqM_limit, mqM_to, mqM_frm, mqM_kind, mqM_number, mqM_sign, mqM_word, MT_.w_tp, MT_.w_size, MT_.w_limit, MT_.w_to, MT_.w_frm, MT_.w_kind, MT_.w_number, MT_.w_sign, MT_.w_word, nqM_rd, nqM_rn, nqM_taped, nqM_mfault, nqM_mplace, nqM_told, nqM_hl, nqM_hd, NR_.w_rd, NR_.w_rn, NR_.w_taped, NR_.w_mfault, NR_.w_mplace, NR_.w_told, NR_.w_hl, NR_.w_hd, qqM_om, QT_.w_om, vqM_nv, NV_.w_nv, zqM_nw, NW_.w_nw] at hQ_28); (try simp only [h_30, (nlt h_30), c_125, h_126, (eq_true h_129), h_203, f_204, h_205, h_221, hx_222, c_245, (eq_true h_251), (eq_true h_252), f_357, if_true, if_false, mqM_tp, mqM_size, mqM_limit, mqM_to, mqM_frm, mqM_kind, mqM_number, mqM_sign, mqM_word, MT_.w_tp, MT_.w_size, MT_.w_limit, MT_.w_to, MT_.w_frm, MT_.w_kind, MT_.w_number, MT_.w_sign, MT_.w_word, nqM_rd, nqM_rn, nqM_taped, nqM_mfault, nqM_mplace, nqM_told, nqM_hl, nqM_hd, NR_.w_rd, NR_.w_rn, NR_.w_taped, NR_.w_mfault, NR_.w_mplace, NR_.w_told, NR_.w_hl, NR_.w_hd, qqM_om, QT_.w_om, vqM_nv, NV_.w_nv, zqM_nw, NW_.w_nw] at u_29); (try simp only [h_30, (nlt h_30), c_125, h_126, (eq_true h_129), h_203, f_204, h_205, h_221, hx_222, c_245, (eq_true h_251), (eq_true h_252), f_357, if_true, if_false, mqM_tp, mqM_size, mqM_limit, mqM_to, mqM_frm, mqM_kind, mqM_number, mqM_sign, mqM_word, MT_.w_tp, MT_.w_size, MT_.w_limit, MT_.w_to, MT_.w_frm, MT_.w_kind, MT_.w_number, MT_.w_sign, MT_.w_word, nqM_rd, nqM_rn, nqM_taped, nqM_mfault, nqM_mplace, nqM_told, nqM_hl, nqM_hd, NR_.w_rd, NR_.w_rn, NR_.w_taped, NR_.w_mfault, NR_.w_mplace, NR_.w_told, NR_.w_hl, NR_.w_hd, qqM_om, QT_.w_om, vqM_nv, NV_.w_nv, zqM_nw, NW_.w_nw] at c_351); simp only [mSd0, mSd1, mSd2, mBadQ, evqx, hs_361, hs_5, ezqx, hs_362, hs_7, emqx, hs_363, hs_9, enqx, hs_364, hs_12, eqqx, hs_365, hs_13, hQ_28, u_29, h_30, (nlt h_30), c_125, h_126, (eq_true h_129), h_203, f_204, h_205, h_221, hx_222, c_245, (eq_true h_251), (eq_true h_252), c_351, f_357, if_true, if_false, mqM_tp, mqM_size, mqM_limit, mqM_to, mqM_frm, mqM_kind, mqM_number, mqM_sign, mqM_word, MT_.w_tp, MT_.w_size, MT_.w_limit, MT_.w_to, MT_.w_frm, MT_.w_kind, MT_.w_number, MT_.w_sign, MT_.w_word, nqM_rd, nqM_rn, nqM_taped, nqM_mfault, nqM_mplace, nqM_told, nqM_hl, nqM_hd, NR_.w_rd, NR_.w_rn, NR_.w_taped, NR_.w_mfault, NR_.w_mplace, NR_.w_told, NR_.w_hl, NR_.w_hd, qqM_om, QT_.w_om, vqM_nv, NV_.w_nv, zqM_nw, NW_.w_nw]), (fun q => ne_no q rx_345 rc_0), (kp_s hI_358)⟩ dX12_readSaid_177
                  · skip
                    exact ne_no (h_251) r_202 rc_0
                · skip
                  exact absurd (h_221) (by decide)
            · skip
              have r_366 := lt_r (lo := 28) (nle h_203) rc_27 r_120 (by decide)
              exact rg_no r_366 (by decide)
        · skip
          have r_367 := (⟨(rx_121).1, (eq_rg (h_126) rc_0).2⟩ : Rg 0 0 x_121)
          obtain ⟨x_368, hx_368, rx_368, tx_368⟩ := ex_add (y := 1) 19 28 r_120 rc_1 (by decide) (by decide) (by decide) (by decide)
          refine g_iinc C dX12_readSaid_24 (k := 2) (v := x_368) rfl hx_368 (by decide) (lo2 := [(2, .int x_368), (0, .ref x), (1, .int v_14)]) rfl ?_
          refine g_goto C (tgt := 10) dX12_readSaid_27 (by decide) ?_
          have f_369 : s_13.om = v_17 := (congrArg QT_.om hs_13).symm.trans q_21
          refine g_lo (is := [1, 2, 0]) (lo2 := [(0, .ref x), (1, .int v_14), (2, .int x_368)]) rfl ?_
          exact ih_10 v_14 (rv_14) x_368 (rg_w rx_368 (by decide) (by decide)) v_16 (rv_16) v_17 (rv_17) v_18 (rv_18) v_19 (rv_19) q_20 q_21 q_22 q_23 q_24 (by (try simp only [h_30, (nlt h_30), c_125, (eq_true h_126), hx_368, if_true, if_false, mqM_tp, mqM_size, mqM_limit, mqM_to, mqM_frm, mqM_kind, mqM_number, mqM_sign, mqM_word, MT_.w_tp, MT_.w_size, MT_.w_limit, MT_.w_to, MT_.w_frm, MT_.w_kind, MT_.w_number, MT_.w_sign, MT_.w_word, nqM_rd, nqM_rn, nqM_taped, nqM_mfault, nqM_mplace, nqM_told, nqM_hl, nqM_hd, NR_.w_rd, NR_.w_rn, NR_.w_taped, NR_.w_mfault, NR_.w_mplace, NR_.w_told, NR_.w_hl, NR_.w_hd, qqM_om, QT_.w_om, vqM_nv, NV_.w_nv, zqM_nw, NW_.w_nw] at hQ_28); (try simp only [h_30, (nlt h_30), c_125, (eq_true h_126), hx_368, if_true, if_false, mqM_tp, mqM_size, mqM_limit, mqM_to, mqM_frm, mqM_kind, mqM_number, mqM_sign, mqM_word, MT_.w_tp, MT_.w_size, MT_.w_limit, MT_.w_to, MT_.w_frm, MT_.w_kind, MT_.w_number, MT_.w_sign, MT_.w_word, nqM_rd, nqM_rn, nqM_taped, nqM_mfault, nqM_mplace, nqM_told, nqM_hl, nqM_hd, NR_.w_rd, NR_.w_rn, NR_.w_taped, NR_.w_mfault, NR_.w_mplace, NR_.w_told, NR_.w_hl, NR_.w_hd, qqM_om, QT_.w_om, vqM_nv, NV_.w_nv, zqM_nw, NW_.w_nw] at u_29); simp only [mSd0, mSd1, mSd2, mBadQ, evqx, hs_5, ezqx, hs_7, emqx, hs_9, enqx, hs_12, eqqx, hs_13, hQ_28, u_29, h_30, (nlt h_30), c_125, (eq_true h_126), hx_368, if_true, if_false, mqM_tp, mqM_size, mqM_limit, mqM_to, mqM_frm, mqM_kind, mqM_number, mqM_sign, mqM_word, MT_.w_tp, MT_.w_size, MT_.w_limit, MT_.w_to, MT_.w_frm, MT_.w_kind, MT_.w_number, MT_.w_sign, MT_.w_word, nqM_rd, nqM_rn, nqM_taped, nqM_mfault, nqM_mplace, nqM_told, nqM_hl, nqM_hd, NR_.w_rd, NR_.w_rn, NR_.w_taped, NR_.w_mfault, NR_.w_mplace, NR_.w_told, NR_.w_hl, NR_.w_hd, qqM_om, QT_.w_om, vqM_nv, NV_.w_nv, zqM_nw, NW_.w_nw]) ⟨by omega, by omega⟩ (ms_1 hm_27 (ti_k tx_368 rc_1) (by decide))
  refine g_aload_n C 0 dX12_readSaid_0 rfl rfl ?_
  refine g_bipush C (v := 40) dX12_readSaid_1 (by decide) ?_
  obtain ⟨x_370, hx_370, rx_370⟩ := ex_getw (I := I) (a := x) (j := 7) (lo := 0) (hi := 4) hU.1 hLx (ro_o hkx (by decide)) rfl
  have f_371 : s_9.kind = x_370 := (congrArg MT_.kind hs_9).symm.trans hx_370
  refine g_callVI C K (c_X12_isSign W9 hLx hkx 40 (rg_w rc_40 (by decide) (by decide)) hU) hLx hkx (by decide) rfl v_12_159 rfl ⟨rfl, rfl⟩ ⟨Nat.le_of_ble_eq_true rfl, Nat.le_of_ble_eq_true rfl⟩ (Nat.le_of_ble_eq_true rfl) ⟨Nat.le_of_ble_eq_true rfl, Nat.le_of_ble_eq_true rfl⟩ dX12_readSaid_3 rfl (st := []) (fun x_372 I_373 J_374 h_375 => ?_)
  obtain ⟨rfl, rfl, rx_372, fx_372, ex_372⟩ := h_375
  have c_376 : mIsSign (40) (s_9) = x_372 := by have q := fx_372; simp only [emqx, hs_9] at q; exact q.symm
  have q_377 := hx_370
  refine g_istore_n C dX12_readSaid_6 rfl (by decide) (lo2 := [(1, .int x_372), (0, .ref x)]) rfl ?_
  refine g_bipush C (v := 18) dX12_readSaid_7 (by decide) ?_
  refine g_istore_n C dX12_readSaid_9 rfl (by decide) (lo2 := [(2, .int 18), (1, .int x_372), (0, .ref x)]) rfl ?_
  have f_378 : s_13.om = x_2 := (congrArg QT_.om hs_13).symm.trans hx_2
  refine g_lo (is := [2, 1, 0]) (lo2 := [(0, .ref x), (1, .int x_372), (2, .int 18)]) rfl ?_
  exact l_10 11 x_372 (rx_372) 18 (rg_w rc_18 (by decide) (by decide)) x_1 (rx_1) x_2 (rx_2) x_3 (rx_3) x_370 (rx_370) hx_1 hx_2 hwi hx_3 hx_370 (by simp only [mSaid_k1, mSd0, mSd1, mSd2, mBadQ, evqx, hs_5, ezqx, hs_7, emqx, hs_9, enqx, hs_12, eqqx, hs_13, hx_1, hx_2, hx_3, hx_370, f_371, c_376, if_true, if_false, mqM_tp, mqM_size, mqM_limit, mqM_to, mqM_frm, mqM_kind, mqM_number, mqM_sign, mqM_word, MT_.w_tp, MT_.w_size, MT_.w_limit, MT_.w_to, MT_.w_frm, MT_.w_kind, MT_.w_number, MT_.w_sign, MT_.w_word, nqM_rd, nqM_rn, nqM_taped, nqM_mfault, nqM_mplace, nqM_told, nqM_hl, nqM_hd, NR_.w_rd, NR_.w_rn, NR_.w_taped, NR_.w_mfault, NR_.w_mplace, NR_.w_told, NR_.w_hl, NR_.w_hd, qqM_om, QT_.w_om, vqM_nv, NV_.w_nv, zqM_nw, NW_.w_nw]) ⟨by omega, by omega⟩ (ms_s (a := 18) (b := 28) (N := 11) (rg_w rc_18 (by decide) (by decide)) (by decide))
set_option maxRecDepth 100000 in
set_option maxHeartbeats 8000000 in
theorem c_X12_readAnd_7 {l : Launch} {D : va_G} {cy : Nat → ClassId} {L : List Nat} {κ ln : Nat → Nat} {R : Nat → Nat → Option Nat} {I : Nat → Nat → Int32} {J : Nat → Nat → Int64} {ow : Nat → Nat × Nat} (W9 : ∀ a ∈ L, Shp L κ ln R ow a) {x : Nat} (hLx : x ∈ L) (hkx : κ x = 12) (hU : Iw L κ R ow I) (hn : (I x 47).toInt ≤ 2 * (I x 48).toInt) (hwi : I x 49 = 7) : CtI l yX12_readAnd cX12_readAnd 2 (some .boolean) { frames := 8, cells := 0, slots := 0, locals := 177 } D cy L κ ln R I J [.ref x] (fun r I2 J2 => Iw L κ R ow I2 ∧ Fq L κ ow [1205, 1206, 1207, 1208, 1209, 1210, 1211, 1213, 1247, 1248, 1249, 1250, 86600] I I2 ∧ Fq L κ ow [1212] J J2 ∧ Rg 0 1 r ∧ ((r, MTf R I2 J2 x, NRf R I2 J2 x, QTf R I2 J2 x) = mAndK 1 (NVf R I J x) (NWf R I J x) (MTf R I J x) (NRf R I J x) (QTf R I J x)) ∧ (¬ r = 0 → Sz_ x I I2 1) ∧ (I2 x 49 = 7)) := by
  obtain ⟨x_1, hx_1, rx_1⟩ := ex_getw (I := I) (a := x) (j := 47) (lo := 0) (hi := 60) hU.1 hLx (ro_o hkx (by decide)) rfl
  obtain ⟨x_2, hx_2, rx_2⟩ := ex_getw (I := I) (a := x) (j := 48) (lo := 0) (hi := 20) hU.1 hLx (ro_o hkx (by decide)) rfl
  rw [hx_1, hx_2] at hn
  obtain ⟨x_3, hx_3, rx_3⟩ := ex_getw (I := I) (a := x) (j := 50) (lo := 0) (hi := 59) hU.1 hLx (ro_o hkx (by decide)) rfl
  refine CtI.of (by decide +kernel) (Nat.le_of_ble_eq_true rfl) ?_
  intro p e s m below meth c B K
  have C := B.1
  have hF : Fq L κ ow [1205, 1206, 1207, 1208, 1209, 1210, 1211, 1213, 1247, 1248, 1249, 1250, 86600] I I := fq_rf
  have hG : Fq L κ ow [1212] J J := fq_rf
  obtain ⟨b_4, hb_4, hb_4L, hb_4k, hb_4n, hb_4o⟩ := shp_a (W9 x hLx) hkx 19 15 13 rfl (by decide)
  have evqx : ∀ I J, NVf R I J x = NVq I J x b_4 := fun I J => by simp only [NVf, rr_, Option.getD_some, hb_4]
  have wvqx : vqw_ L κ ow x b_4 := ⟨⟨hLx, hb_4L⟩, ⟨(ro_o hkx (by decide)), (ro_a hb_4k (by decide) hb_4o hkx rfl)⟩⟩
  obtain ⟨s_5, hs_5⟩ : ∃ z, NVq I J x b_4 = z := ⟨_, rfl⟩
  obtain ⟨b_6, hb_6, hb_6L, hb_6k, hb_6n, hb_6o⟩ := shp_a (W9 x hLx) hkx 14 14 389 rfl (by decide)
  have ezqx : ∀ I J, NWf R I J x = NWq I J x b_6 := fun I J => by simp only [NWf, rr_, Option.getD_some, hb_6]
  have wzqx : zqw_ L κ ow x b_6 := ⟨⟨hLx, hb_6L⟩, ⟨(ro_o hkx (by decide)), (ro_a hb_6k (by decide) hb_6o hkx rfl)⟩⟩
  obtain ⟨s_7, hs_7⟩ : ∃ z, NWq I J x b_6 = z := ⟨_, rfl⟩
  obtain ⟨b_8, hb_8, hb_8L, hb_8k, hb_8n, hb_8o⟩ := shp_a (W9 x hLx) hkx 1 14 940 rfl (by decide)
  have emqx : ∀ I J, MTf R I J x = MTq I J x b_8 := fun I J => by simp only [MTf, rr_, Option.getD_some, hb_8]
  have wmqx : mqw_ L κ ow x b_8 := ⟨⟨hLx, hb_8L⟩, ⟨(ro_o hkx (by decide)), (ro_a hb_8k (by decide) hb_8o hkx rfl)⟩⟩
  obtain ⟨s_9, hs_9⟩ : ∃ z, MTq I J x b_8 = z := ⟨_, rfl⟩
  obtain ⟨b_10, hb_10, hb_10L, hb_10k, hb_10n, hb_10o⟩ := shp_a (W9 x hLx) hkx 15 14 72 rfl (by decide)
  obtain ⟨b_11, hb_11, hb_11L, hb_11k, hb_11n, hb_11o⟩ := shp_a (W9 x hLx) hkx 20 15 13 rfl (by decide)
  have enqx : ∀ I J, NRf R I J x = NRq I J x b_10 b_11 := fun I J => by simp only [NRf, rr_, Option.getD_some, hb_10, hb_11]
  have wnqx : nqw_ L κ ow x b_10 b_11 := ⟨⟨hLx, hb_10L, hb_11L⟩, ⟨(ro_o hkx (by decide)), (ro_a hb_10k (by decide) hb_10o hkx rfl), (ro_a hb_11k (by decide) hb_11o hkx rfl)⟩⟩
  obtain ⟨s_12, hs_12⟩ : ∃ z, NRq I J x b_10 b_11 = z := ⟨_, rfl⟩
  have eqqx : ∀ I J, QTf R I J x = QTq I J x := fun I J => by simp only [QTf, rr_, Option.getD_some]
  have wqqx : qqw_ L κ ow x := ⟨hLx, (ro_o hkx (by decide))⟩
  obtain ⟨s_13, hs_13⟩ : ∃ z, QTq I J x = z := ⟨_, rfl⟩
  refine g_lo (is := [0]) (lo2 := [(0, .ref x)]) rfl ?_
  have l_14 : ∀ (n_14 : Nat) (I_14 : Nat → Nat → Int32) (J_15 : Nat → Nat → Int64) (hU_16 : Iw L κ R ow I_14) (hF_17 : Fq L κ ow [1205, 1206, 1207, 1208, 1209, 1210, 1211, 1213, 1247, 1248, 1249, 1250, 86600] I I_14) (hG_18 : Fq L κ ow [1212] J J_15) (v_19 : Int32) (rv_19 : Rg 0 59 v_19) (v_20 : Int32) (rv_20 : Rg 0 60 v_20) (v_21 : Int32) (rv_21 : Rg 0 20 v_21) (v_22 : Int32) (rv_22 : Rg 0 59 v_22) (q_23 : I_14 x 47 = v_20) (q_24 : I_14 x 48 = v_21) (q_25 : I_14 x 49 = 7) (q_26 : I_14 x 50 = v_22) (hq_27 : mLp (mSaid 1 (NVq I_14 J_15 x b_4) (NWq I_14 J_15 x b_6)) 17 n_14 (MTq I_14 J_15 x b_8) (NRq I_14 J_15 x b_10 b_11) (QTq I_14 J_15 x) = mAndK 1 s_5 s_7 s_9 s_12 s_13) (hj_28 : x_1.toInt ≤ v_20.toInt ∧ x_2.toInt + 1 ≤ v_21.toInt ∧ 2 * x_2.toInt - x_1.toInt + 1 ≤ 2 * v_21.toInt - v_20.toInt ∧ v_19.toInt < v_20.toInt) (hm_29 : 20 < v_21.toInt + (n_14 : Int)), WG p l e { frames := 8, cells := 0, slots := 0, locals := 177 } s m ([.ref x] : List Value).toArray below meth c 2 0 0 (MQ below (Qi_ D cy L κ ln R (fun r I2 J2 => Iw L κ R ow I2 ∧ Fq L κ ow [1205, 1206, 1207, 1208, 1209, 1210, 1211, 1213, 1247, 1248, 1249, 1250, 86600] I I2 ∧ Fq L κ ow [1212] J J2 ∧ Rg 0 1 r ∧ ((r, MTf R I2 J2 x, NRf R I2 J2 x, QTf R I2 J2 x) = mAndK 1 (NVf R I J x) (NWf R I J x) (MTf R I J x) (NRf R I J x) (QTf R I J x)) ∧ (¬ r = 0 → Sz_ x I I2 1) ∧ (I2 x 49 = 7))) ([.ref x] : List Value).toArray s 0 0 (Al_ L)) D cy (Al_ L) s.heap L κ ln R I_14 J_15 14 [(0, .ref x), (1, .int v_19)] [] := by
    intro n_14
    induction n_14 with
    | zero =>
      intro I_14 J_15 hU_16 hF_17 hG_18 v_19 rv_19 v_20 rv_20 v_21 rv_21 v_22 rv_22 q_23 q_24 q_25 q_26 hq_27 hj_28 hm_29
      exact absurd hm_29 (by have := (rv_21).2; omega)
    | succ n_14 ih_14 =>
      intro I_14 J_15 hU_16 hF_17 hG_18 v_19 rv_19 v_20 rv_20 v_21 rv_21 v_22 rv_22 q_23 q_24 q_25 q_26 hq_27 hj_28 hm_29
      obtain ⟨s_30, hs_30⟩ : ∃ z, NVq I_14 J_15 x b_4 = z := ⟨_, rfl⟩
      obtain ⟨s_31, hs_31⟩ : ∃ z, NWq I_14 J_15 x b_6 = z := ⟨_, rfl⟩
      obtain ⟨s_32, hs_32⟩ : ∃ z, MTq I_14 J_15 x b_8 = z := ⟨_, rfl⟩
      obtain ⟨s_33, hs_33⟩ : ∃ z, NRq I_14 J_15 x b_10 b_11 = z := ⟨_, rfl⟩
      obtain ⟨s_34, hs_34⟩ : ∃ z, QTq I_14 J_15 x = z := ⟨_, rfl⟩
      simp only [hs_30, hs_31, hs_32, hs_33, hs_34] at hq_27
      have hQ_35 := hq_27.symm
      have u_36 := mLp_eq (rd := mSaid 1 s_30 s_31) (k := 17) (f := n_14) (m := s_32) (n := s_33) (q := s_34)
      refine g_aload_n C 0 dX12_readAnd_14 rfl rfl ?_
      refine g_bipush C (v := 17) dX12_readAnd_15 (by decide) ?_
      refine g_callVI C K (c_X12_isWord W9 hLx hkx 17 (rg_w rc_17 (by decide) (by decide)) hU_16) hLx hkx (by decide) rfl v_12_191 rfl ⟨rfl, rfl⟩ ⟨Nat.le_of_ble_eq_true rfl, Nat.le_of_ble_eq_true rfl⟩ (Nat.le_of_ble_eq_true rfl) ⟨Nat.le_of_ble_eq_true rfl, Nat.le_of_ble_eq_true rfl⟩ dX12_readAnd_17 rfl (st := []) (fun x_37 I_38 J_39 h_40 => ?_)
      obtain ⟨rfl, rfl, rx_37, fx_37⟩ := h_40
      have c_41 : mIsWord (17) (s_32) = x_37 := by have q := fx_37; simp only [emqx, hs_32] at q; exact q.symm
      refine g_if_eq C (tgt := 51) dX12_readAnd_20 (by decide) (fun h_42 => ?_) (fun h_42 => ?_)
      · skip
        have r_43 := (⟨(rx_37).1, (eq_rg (h_42) rc_0).2⟩ : Rg 0 0 x_37)
        refine g_aload_n C 0 dX12_readAnd_51 rfl rfl ?_
        refine g_iload_n C 1 dX12_readAnd_52 rfl rfl ?_
        refine h_putI C K hLx hkx f_12_386 p_12_50 dX12_readAnd_53 (fun I_44 hI_44 => ?_)
        have hU_45 := iw_put W9 hU_16 hI_44 (ro_o hkx (by decide)) (lo := 0) (hi := 59) (rfl) (rv_19) rfl
        have hF_46 := fq_puto hF_17 hI_44 hkx (by decide) (by decide)
        have hs_47 : NVq I_44 J_15 x b_4 = s_30 := by rw [hI_44]; exact (vq_oI wvqx (ro_o hkx (by decide)) (by decide)).trans hs_30
        have hs_48 : NWq I_44 J_15 x b_6 = s_31 := by rw [hI_44]; exact (zq_oI wzqx (ro_o hkx (by decide)) (by decide)).trans hs_31
        have hs_49 : MTq I_44 J_15 x b_8 = s_32 := by rw [hI_44]; exact (mq_uIt wmqx (by decide)).trans hs_32
        have hs_50 : NRq I_44 J_15 x b_10 b_11 = s_33 := by rw [hI_44]; exact (nq_uIt wnqx (by decide)).trans hs_33
        have hs_51 : QTq I_44 J_15 x = s_34 := by rw [hI_44]; exact (qq_uIt wqqx (by decide)).trans hs_34
        refine g_iconst C (v := 1) dX12_readAnd_56 (by decide) ?_
        have f_52 : s_34.om = v_21 := (congrArg QT_.om hs_51).symm.trans (kp_j hI_44 (by decide) q_24)
        exact g_zret (ty := .boolean) (r := 1) B K rfl (rfl) ⟨hU_45, hF_46, hG_18, rg_w rc_1 (by decide) (by decide), (by (try simp only [c_41, (eq_true h_42), if_true, if_false, mqM_tp, mqM_size, mqM_limit, mqM_to, mqM_frm, mqM_kind, mqM_number, mqM_sign, mqM_word, MT_.w_tp, MT_.w_size, MT_.w_limit, MT_.w_to, MT_.w_frm, MT_.w_kind, MT_.w_number, MT_.w_sign, MT_.w_word, nqM_rd, nqM_rn, nqM_taped, nqM_mfault, nqM_mplace, nqM_told, nqM_hl, nqM_hd, NR_.w_rd, NR_.w_rn, NR_.w_taped, NR_.w_mfault, NR_.w_mplace, NR_.w_told, NR_.w_hl, NR_.w_hd, qqM_om, QT_.w_om, vqM_nv, NV_.w_nv, zqM_nw, NW_.w_nw] at hQ_35); (try simp only [c_41, (eq_true h_42), if_true, if_false, mqM_tp, mqM_size, mqM_limit, mqM_to, mqM_frm, mqM_kind, mqM_number, mqM_sign, mqM_word, MT_.w_tp, MT_.w_size, MT_.w_limit, MT_.w_to, MT_.w_frm, MT_.w_kind, MT_.w_number, MT_.w_sign, MT_.w_word, nqM_rd, nqM_rn, nqM_taped, nqM_mfault, nqM_mplace, nqM_told, nqM_hl, nqM_hd, NR_.w_rd, NR_.w_rn, NR_.w_taped, NR_.w_mfault, NR_.w_mplace, NR_.w_told, NR_.w_hl, NR_.w_hd, qqM_om, QT_.w_om, vqM_nv, NV_.w_nv, zqM_nw, NW_.w_nw] at u_36); simp only [evqx, hs_47, hs_5, ezqx, hs_48, hs_7, emqx, hs_49, hs_9, enqx, hs_50, hs_12, eqqx, hs_51, hs_13, hQ_35, u_36, c_41, (eq_true h_42), if_true, if_false, mqM_tp, mqM_size, mqM_limit, mqM_to, mqM_frm, mqM_kind, mqM_number, mqM_sign, mqM_word, MT_.w_tp, MT_.w_size, MT_.w_limit, MT_.w_to, MT_.w_frm, MT_.w_kind, MT_.w_number, MT_.w_sign, MT_.w_word, nqM_rd, nqM_rn, nqM_taped, nqM_mfault, nqM_mplace, nqM_told, nqM_hl, nqM_hd, NR_.w_rd, NR_.w_rn, NR_.w_taped, NR_.w_mfault, NR_.w_mplace, NR_.w_told, NR_.w_hl, NR_.w_hd, qqM_om, QT_.w_om, vqM_nv, NV_.w_nv, zqM_nw, NW_.w_nw]), (fun _ => (sz_m hx_1 hx_2 (kp_j hI_44 (by decide) q_23) (kp_j hI_44 (by decide) q_24) (kp_s hI_44) ⟨by omega, by omega, by omega, by omega⟩)), (kp_j hI_44 (by decide) q_25)⟩ dX12_readAnd_57
      · skip
        have n_53 : ¬ x_37 = 0 := h_42
        have r_54 := ne_lo (lo := 1) n_53 rx_37 rc_0 rfl (by decide)
        refine g_aload_n C 0 dX12_readAnd_23 rfl rfl ?_
        refine g_callVV C K (c_X12_go W9 hLx hkx   hU_16) hLx hkx (by decide) rfl v_12_156 rfl ⟨rfl, rfl⟩ ⟨Nat.le_of_ble_eq_true rfl, Nat.le_of_ble_eq_true rfl⟩ (Nat.le_of_ble_eq_true rfl) ⟨Nat.le_of_ble_eq_true rfl, Nat.le_of_ble_eq_true rfl⟩ dX12_readAnd_24 rfl (st := []) (fun I_56 J_57 h_58 => ?_)
        obtain ⟨hUI_56, hFI_56, hGJ_57, fx_55, ex_55⟩ := h_58
        have hF_59 := fq_tr hF_17 hFI_56 (by decide)
        have hG_60 := fq_tr hG_18 hGJ_57 (by decide)
        obtain ⟨s_62, hs_62⟩ : ∃ z, MTq I_56 J_57 x b_8 = z := ⟨_, rfl⟩
        have c_61 : mGo (s_32) = s_62 := by have q := fx_55; simp only [emqx, hs_32, hs_62] at q; exact q.symm
        have hs_63 : NVq I_56 J_57 x b_4 = s_30 := (vq_fq wvqx hFI_56 hGJ_57 (by decide) (by decide)).trans hs_30
        have hs_64 : NWq I_56 J_57 x b_6 = s_31 := (zq_fq wzqx hFI_56 hGJ_57 (by decide) (by decide)).trans hs_31
        have hs_65 : NRq I_56 J_57 x b_10 b_11 = s_33 := (nq_fq wnqx hFI_56 hGJ_57 (by decide) (by decide)).trans hs_33
        have hs_66 : QTq I_56 J_57 x = s_34 := (qq_fq wqqx hFI_56 hGJ_57 (by decide) (by decide)).trans hs_34
        refine g_aload_n C 0 dX12_readAnd_27 rfl rfl ?_
        have f_67 : s_34.om = v_21 := (congrArg QT_.om hs_66).symm.trans (fq_at hFI_56 hLx hkx (by decide) (by decide) q_24)
        refine g_callVI C K (c_X12_readSaid_7 W9 hLx hkx   hUI_56  (by rw [(fq_at hFI_56 hLx hkx (by decide) (by decide) q_23), (fq_at hFI_56 hLx hkx (by decide) (by decide) q_24)]; omega) ((fq_at hFI_56 hLx hkx (by decide) (by decide) q_25))) hLx hkx (by decide) rfl v_12_392 rfl ⟨rfl, rfl⟩ ⟨Nat.le_of_ble_eq_true rfl, Nat.le_of_ble_eq_true rfl⟩ (Nat.le_of_ble_eq_true rfl) ⟨Nat.le_of_ble_eq_true rfl, Nat.le_of_ble_eq_true rfl⟩ dX12_readAnd_28 rfl (st := []) (fun x_68 I_69 J_70 h_71 => ?_)
        obtain ⟨hUI_69, hFI_69, hGJ_70, rx_68, fx_68, ex_68⟩ := h_71
        have hF_72 := fq_tr hF_59 hFI_69 (by decide)
        have hG_73 := fq_tr hG_60 hGJ_70 (by decide)
        obtain ⟨s_75, hs_75⟩ : ∃ z, MTq I_69 J_70 x b_8 = z := ⟨_, rfl⟩
        obtain ⟨s_76, hs_76⟩ : ∃ z, NRq I_69 J_70 x b_10 b_11 = z := ⟨_, rfl⟩
        obtain ⟨s_77, hs_77⟩ : ∃ z, QTq I_69 J_70 x = z := ⟨_, rfl⟩
        have c_74 : mSaid 1 (s_30) (s_31) (s_62) (s_33) (s_34) = (x_68, s_75, s_76, s_77) := by have q := fx_68; simp only [evqx, ezqx, emqx, enqx, eqqx, hs_63, hs_64, hs_62, hs_65, hs_66, hs_75, hs_76, hs_77] at q; exact q.symm
        have hs_78 : NVq I_69 J_70 x b_4 = s_30 := (vq_fq wvqx hFI_69 hGJ_70 (by decide) (by decide)).trans hs_63
        have hs_79 : NWq I_69 J_70 x b_6 = s_31 := (zq_fq wzqx hFI_69 hGJ_70 (by decide) (by decide)).trans hs_64
        obtain ⟨x_80, hx_80, rx_80⟩ := ex_getw (I := I_69) (a := x) (j := 47) (lo := 0) (hi := 60) hUI_69.1 hLx (ro_o hkx (by decide)) rfl
        obtain ⟨x_81, hx_81, rx_81⟩ := ex_getw (I := I_69) (a := x) (j := 50) (lo := 0) (hi := 59) hUI_69.1 hLx (ro_o hkx (by decide)) rfl
        obtain ⟨x_82, hx_82, rx_82⟩ := ex_getw (I := I_69) (a := x) (j := 48) (lo := 0) (hi := 20) hUI_69.1 hLx (ro_o hkx (by decide)) rfl
        have f_83 : s_77.om = x_82 := (congrArg QT_.om hs_77).symm.trans hx_82
        refine g_if_ne C (tgt := 36) dX12_readAnd_31 (by decide) (fun h_84 => ?_) (fun h_84 => ?_)
        · skip
          have n_85 : ¬ x_68 = 0 := h_84
          have r_86 := ne_lo (lo := 1) n_85 rx_68 rc_0 rfl (by decide)
          have f_87 := sz_v (fq_at hFI_56 hLx hkx (by decide) (by decide) q_23) (fq_at hFI_56 hLx hkx (by decide) (by decide) q_24) hx_80 hx_82 hx_81 (ex_68.1 n_85)
          refine g_aload_n C 0 dX12_readAnd_36 rfl rfl ?_
          refine g_iconst C (v := 2) dX12_readAnd_37 (by decide) ?_
          refine g_iload_n C 1 dX12_readAnd_38 rfl rfl ?_
          refine g_aload_n C 0 dX12_readAnd_39 rfl rfl ?_
          refine g_getI C K hLx hkx f_12_386 (v := x_81) hx_81 dX12_readAnd_40 ?_
          refine g_iconst C (v := 0) dX12_readAnd_43 (by decide) ?_
          have r_88 := (show Rg 0 59 x_80 from by have q1 := rx_80; have q2 := rx_82; unfold Rg at *; omega)
          refine g_callVI C K (c_X12_saysOne W9 hLx hkx 2 v_19 x_81 0 (rg_w rc_2 (by decide) (by decide)) (rv_19) (rg_w rx_81 (by decide) (by decide)) hUI_69  (eq_rg hx_80 (r_88)) (by rw [hx_80]; exact ⟨fun _ => ⟨by have := (rv_19).1; omega, by omega⟩, fun _ => ⟨by have := (rx_81).1; omega, by omega⟩, fun q => absurd q (by decide)⟩)) hLx hkx (by decide) rfl v_12_389 rfl ⟨rfl, rfl⟩ ⟨Nat.le_of_ble_eq_true rfl, Nat.le_of_ble_eq_true rfl⟩ (Nat.le_of_ble_eq_true rfl) ⟨Nat.le_of_ble_eq_true rfl, Nat.le_of_ble_eq_true rfl⟩ dX12_readAnd_44 rfl (st := []) (fun x_89 I_90 J_91 h_92 => ?_)
          obtain ⟨hUI_90, hFI_90, hGJ_91, rx_89, ex_89⟩ := h_92
          have hF_93 := fq_tr hF_72 hFI_90 (by decide)
          have hG_94 := fq_tr hG_73 hGJ_91 (by decide)
          have hs_95 : NVq I_90 J_91 x b_4 = s_30 := (vq_fq wvqx hFI_90 hGJ_91 (by decide) (by decide)).trans hs_78
          have hs_96 : NWq I_90 J_91 x b_6 = s_31 := (zq_fq wzqx hFI_90 hGJ_91 (by decide) (by decide)).trans hs_79
          have hs_97 : MTq I_90 J_91 x b_8 = s_75 := (mq_fq wmqx hFI_90 hGJ_91 (by decide) (by decide)).trans hs_75
          have hs_98 : NRq I_90 J_91 x b_10 b_11 = s_76 := (nq_fq wnqx hFI_90 hGJ_91 (by decide) (by decide)).trans hs_76
          have hs_99 : QTq I_90 J_91 x = s_77 := (qq_fq wqqx hFI_90 hGJ_91 (by decide) (by decide)).trans hs_77
          obtain ⟨x_100, hx_100, rx_100, tx_100, ux_100⟩ := sa_b (lo := 1) (hi := 60) ex_89 hx_80 r_88 (by decide) (by decide)
          have r_101 := (show Rg 0 59 x_89 from by have q1 := ux_100; have q2 := r_88; unfold Rg at *; omega)
          refine g_istore_n C dX12_readAnd_47 rfl (by decide) (lo2 := [(1, .int x_89), (0, .ref x)]) rfl ?_
          refine g_goto C (tgt := 14) dX12_readAnd_48 (by decide) ?_
          refine g_lo (is := [1, 0]) (lo2 := [(0, .ref x), (1, .int x_89)]) rfl ?_
          exact ih_14 I_90 J_91 hUI_90 hF_93 hG_94 x_89 (r_101) x_100 (rg_w rx_100 (by decide) (by decide)) x_82 (rx_82) x_81 (rx_81) hx_100 (fq_at hFI_90 hLx hkx (by decide) (by decide) hx_82) (fq_at hFI_90 hLx hkx (by decide) (by decide) ex_68.2) (fq_at hFI_90 hLx hkx (by decide) (by decide) hx_81) (by (try simp only [c_41, h_42, c_61, f_67, c_74, hx_80, hx_81, hx_82, f_83, h_84, hx_100, if_true, if_false, mqM_tp, mqM_size, mqM_limit, mqM_to, mqM_frm, mqM_kind, mqM_number, mqM_sign, mqM_word, MT_.w_tp, MT_.w_size, MT_.w_limit, MT_.w_to, MT_.w_frm, MT_.w_kind, MT_.w_number, MT_.w_sign, MT_.w_word, nqM_rd, nqM_rn, nqM_taped, nqM_mfault, nqM_mplace, nqM_told, nqM_hl, nqM_hd, NR_.w_rd, NR_.w_rn, NR_.w_taped, NR_.w_mfault, NR_.w_mplace, NR_.w_told, NR_.w_hl, NR_.w_hd, qqM_om, QT_.w_om, vqM_nv, NV_.w_nv, zqM_nw, NW_.w_nw] at hQ_35); (try simp only [c_41, h_42, c_61, f_67, c_74, hx_80, hx_81, hx_82, f_83, h_84, hx_100, if_true, if_false, mqM_tp, mqM_size, mqM_limit, mqM_to, mqM_frm, mqM_kind, mqM_number, mqM_sign, mqM_word, MT_.w_tp, MT_.w_size, MT_.w_limit, MT_.w_to, MT_.w_frm, MT_.w_kind, MT_.w_number, MT_.w_sign, MT_.w_word, nqM_rd, nqM_rn, nqM_taped, nqM_mfault, nqM_mplace, nqM_told, nqM_hl, nqM_hd, NR_.w_rd, NR_.w_rn, NR_.w_taped, NR_.w_mfault, NR_.w_mplace, NR_.w_told, NR_.w_hl, NR_.w_hd, qqM_om, QT_.w_om, vqM_nv, NV_.w_nv, zqM_nw, NW_.w_nw] at u_36); simp only [evqx, hs_95, hs_5, ezqx, hs_96, hs_7, emqx, hs_97, hs_9, enqx, hs_98, hs_12, eqqx, hs_99, hs_13, hQ_35, u_36, c_41, h_42, c_61, f_67, c_74, hx_80, hx_81, hx_82, f_83, h_84, hx_100, if_true, if_false, mqM_tp, mqM_size, mqM_limit, mqM_to, mqM_frm, mqM_kind, mqM_number, mqM_sign, mqM_word, MT_.w_tp, MT_.w_size, MT_.w_limit, MT_.w_to, MT_.w_frm, MT_.w_kind, MT_.w_number, MT_.w_sign, MT_.w_word, nqM_rd, nqM_rn, nqM_taped, nqM_mfault, nqM_mplace, nqM_told, nqM_hl, nqM_hd, NR_.w_rd, NR_.w_rn, NR_.w_taped, NR_.w_mfault, NR_.w_mplace, NR_.w_told, NR_.w_hl, NR_.w_hd, qqM_om, QT_.w_om, vqM_nv, NV_.w_nv, zqM_nw, NW_.w_nw]) ⟨by have := tx_100; omega, by have := tx_100; omega, by have := tx_100; omega, by have := tx_100; omega⟩ (by have q9 := hm_29; have := tx_100; omega)
        · skip
          have r_102 := (⟨(rx_68).1, (eq_rg (h_84) rc_0).2⟩ : Rg 0 0 x_68)
          refine g_iconst C (v := 0) dX12_readAnd_34 (by decide) ?_
          exact g_zret (ty := .boolean) (r := 0) B K rfl (rfl) ⟨hUI_69, hF_72, hG_73, rg_w rc_0 (by decide) (by decide), (by (try simp only [c_41, h_42, c_61, f_67, c_74, hx_80, hx_81, hx_82, f_83, (eq_true h_84), if_true, if_false, mqM_tp, mqM_size, mqM_limit, mqM_to, mqM_frm, mqM_kind, mqM_number, mqM_sign, mqM_word, MT_.w_tp, MT_.w_size, MT_.w_limit, MT_.w_to, MT_.w_frm, MT_.w_kind, MT_.w_number, MT_.w_sign, MT_.w_word, nqM_rd, nqM_rn, nqM_taped, nqM_mfault, nqM_mplace, nqM_told, nqM_hl, nqM_hd, NR_.w_rd, NR_.w_rn, NR_.w_taped, NR_.w_mfault, NR_.w_mplace, NR_.w_told, NR_.w_hl, NR_.w_hd, qqM_om, QT_.w_om, vqM_nv, NV_.w_nv, zqM_nw, NW_.w_nw] at hQ_35); (try simp only [c_41, h_42, c_61, f_67, c_74, hx_80, hx_81, hx_82, f_83, (eq_true h_84), if_true, if_false, mqM_tp, mqM_size, mqM_limit, mqM_to, mqM_frm, mqM_kind, mqM_number, mqM_sign, mqM_word, MT_.w_tp, MT_.w_size, MT_.w_limit, MT_.w_to, MT_.w_frm, MT_.w_kind, MT_.w_number, MT_.w_sign, MT_.w_word, nqM_rd, nqM_rn, nqM_taped, nqM_mfault, nqM_mplace, nqM_told, nqM_hl, nqM_hd, NR_.w_rd, NR_.w_rn, NR_.w_taped, NR_.w_mfault, NR_.w_mplace, NR_.w_told, NR_.w_hl, NR_.w_hd, qqM_om, QT_.w_om, vqM_nv, NV_.w_nv, zqM_nw, NW_.w_nw] at u_36); simp only [evqx, hs_78, hs_5, ezqx, hs_79, hs_7, emqx, hs_75, hs_9, enqx, hs_76, hs_12, eqqx, hs_77, hs_13, hQ_35, u_36, c_41, h_42, c_61, f_67, c_74, hx_80, hx_81, hx_82, f_83, (eq_true h_84), if_true, if_false, mqM_tp, mqM_size, mqM_limit, mqM_to, mqM_frm, mqM_kind, mqM_number, mqM_sign, mqM_word, MT_.w_tp, MT_.w_size, MT_.w_limit, MT_.w_to, MT_.w_frm, MT_.w_kind, MT_.w_number, MT_.w_sign, MT_.w_word, nqM_rd, nqM_rn, nqM_taped, nqM_mfault, nqM_mplace, nqM_told, nqM_hl, nqM_hd, NR_.w_rd, NR_.w_rn, NR_.w_taped, NR_.w_mfault, NR_.w_mplace, NR_.w_told, NR_.w_hl, NR_.w_hd, qqM_om, QT_.w_om, vqM_nv, NV_.w_nv, zqM_nw, NW_.w_nw]), (fun q => absurd rfl q), ex_68.2⟩ dX12_readAnd_35
  refine g_aload_n C 0 dX12_readAnd_0 rfl rfl ?_
  have f_103 : s_13.om = x_2 := (congrArg QT_.om hs_13).symm.trans hx_2
  refine g_callVI C K (c_X12_readSaid_7 W9 hLx hkx   hU  (by rw [hx_1, hx_2]; omega) (hwi)) hLx hkx (by decide) rfl v_12_392 rfl ⟨rfl, rfl⟩ ⟨Nat.le_of_ble_eq_true rfl, Nat.le_of_ble_eq_true rfl⟩ (Nat.le_of_ble_eq_true rfl) ⟨Nat.le_of_ble_eq_true rfl, Nat.le_of_ble_eq_true rfl⟩ dX12_readAnd_1 rfl (st := []) (fun x_104 I_105 J_106 h_107 => ?_)
  obtain ⟨hUI_105, hFI_105, hGJ_106, rx_104, fx_104, ex_104⟩ := h_107
  have hF_108 := fq_tr hF hFI_105 (by decide)
  have hG_109 := fq_tr hG hGJ_106 (by decide)
  obtain ⟨s_111, hs_111⟩ : ∃ z, MTq I_105 J_106 x b_8 = z := ⟨_, rfl⟩
  obtain ⟨s_112, hs_112⟩ : ∃ z, NRq I_105 J_106 x b_10 b_11 = z := ⟨_, rfl⟩
  obtain ⟨s_113, hs_113⟩ : ∃ z, QTq I_105 J_106 x = z := ⟨_, rfl⟩
  have c_110 : mSaid 1 (s_5) (s_7) (s_9) (s_12) (s_13) = (x_104, s_111, s_112, s_113) := by have q := fx_104; simp only [evqx, ezqx, emqx, enqx, eqqx, hs_5, hs_7, hs_9, hs_12, hs_13, hs_111, hs_112, hs_113] at q; exact q.symm
  have hs_114 : NVq I_105 J_106 x b_4 = s_5 := (vq_fq wvqx hFI_105 hGJ_106 (by decide) (by decide)).trans hs_5
  have hs_115 : NWq I_105 J_106 x b_6 = s_7 := (zq_fq wzqx hFI_105 hGJ_106 (by decide) (by decide)).trans hs_7
  obtain ⟨x_116, hx_116, rx_116⟩ := ex_getw (I := I_105) (a := x) (j := 47) (lo := 0) (hi := 60) hUI_105.1 hLx (ro_o hkx (by decide)) rfl
  obtain ⟨x_117, hx_117, rx_117⟩ := ex_getw (I := I_105) (a := x) (j := 50) (lo := 0) (hi := 59) hUI_105.1 hLx (ro_o hkx (by decide)) rfl
  obtain ⟨x_118, hx_118, rx_118⟩ := ex_getw (I := I_105) (a := x) (j := 48) (lo := 0) (hi := 20) hUI_105.1 hLx (ro_o hkx (by decide)) rfl
  have f_119 : s_113.om = x_118 := (congrArg QT_.om hs_113).symm.trans hx_118
  refine g_if_ne C (tgt := 9) dX12_readAnd_4 (by decide) (fun h_120 => ?_) (fun h_120 => ?_)
  · skip
    have n_121 : ¬ x_104 = 0 := h_120
    have r_122 := ne_lo (lo := 1) n_121 rx_104 rc_0 rfl (by decide)
    have f_123 := sz_v hx_1 hx_2 hx_116 hx_118 hx_117 (ex_104.1 n_121)
    refine g_aload_n C 0 dX12_readAnd_9 rfl rfl ?_
    refine g_getI C K hLx hkx f_12_386 (v := x_117) hx_117 dX12_readAnd_10 ?_
    refine g_istore_n C dX12_readAnd_13 rfl (by decide) (lo2 := [(1, .int x_117), (0, .ref x)]) rfl ?_
    refine g_lo (is := [1, 0]) (lo2 := [(0, .ref x), (1, .int x_117)]) rfl ?_
    exact l_14 21 I_105 J_106 hUI_105 hF_108 hG_109 x_117 (rx_117) x_116 (rx_116) x_118 (rx_118) x_117 (rx_117) hx_116 hx_118 ex_104.2 hx_117 (by simp only [mAndK, evqx, hs_114, hs_5, ezqx, hs_115, hs_7, emqx, hs_111, hs_9, enqx, hs_112, hs_12, eqqx, hs_113, hs_13, hx_1, hx_2, hx_3, f_103, c_110, hx_116, hx_117, hx_118, f_119, h_120, if_true, if_false, mqM_tp, mqM_size, mqM_limit, mqM_to, mqM_frm, mqM_kind, mqM_number, mqM_sign, mqM_word, MT_.w_tp, MT_.w_size, MT_.w_limit, MT_.w_to, MT_.w_frm, MT_.w_kind, MT_.w_number, MT_.w_sign, MT_.w_word, nqM_rd, nqM_rn, nqM_taped, nqM_mfault, nqM_mplace, nqM_told, nqM_hl, nqM_hd, NR_.w_rd, NR_.w_rn, NR_.w_taped, NR_.w_mfault, NR_.w_mplace, NR_.w_told, NR_.w_hl, NR_.w_hd, qqM_om, QT_.w_om, vqM_nv, NV_.w_nv, zqM_nw, NW_.w_nw]) ⟨by omega, by omega, by omega, by omega⟩ (by have := (rx_118).1; omega)
  · skip
    have r_124 := (⟨(rx_104).1, (eq_rg (h_120) rc_0).2⟩ : Rg 0 0 x_104)
    refine g_iconst C (v := 0) dX12_readAnd_7 (by decide) ?_
    exact g_zret (ty := .boolean) (r := 0) B K rfl (rfl) ⟨hUI_105, hF_108, hG_109, rg_w rc_0 (by decide) (by decide), (by simp only [mAndK, evqx, hs_114, hs_5, ezqx, hs_115, hs_7, emqx, hs_111, hs_9, enqx, hs_112, hs_12, eqqx, hs_113, hs_13, hx_1, hx_2, hx_3, f_103, c_110, hx_116, hx_117, hx_118, f_119, (eq_true h_120), if_true, if_false, mqM_tp, mqM_size, mqM_limit, mqM_to, mqM_frm, mqM_kind, mqM_number, mqM_sign, mqM_word, MT_.w_tp, MT_.w_size, MT_.w_limit, MT_.w_to, MT_.w_frm, MT_.w_kind, MT_.w_number, MT_.w_sign, MT_.w_word, nqM_rd, nqM_rn, nqM_taped, nqM_mfault, nqM_mplace, nqM_told, nqM_hl, nqM_hd, NR_.w_rd, NR_.w_rn, NR_.w_taped, NR_.w_mfault, NR_.w_mplace, NR_.w_told, NR_.w_hl, NR_.w_hd, qqM_om, QT_.w_om, vqM_nv, NV_.w_nv, zqM_nw, NW_.w_nw]), (fun q => absurd rfl q), ex_104.2⟩ dX12_readAnd_8
set_option maxRecDepth 100000 in
set_option maxHeartbeats 8000000 in
theorem c_X12_readOr_7 {l : Launch} {D : va_G} {cy : Nat → ClassId} {L : List Nat} {κ ln : Nat → Nat} {R : Nat → Nat → Option Nat} {I : Nat → Nat → Int32} {J : Nat → Nat → Int64} {ow : Nat → Nat × Nat} (W9 : ∀ a ∈ L, Shp L κ ln R ow a) {x : Nat} (hLx : x ∈ L) (hkx : κ x = 12) (hU : Iw L κ R ow I) (hn : (I x 47).toInt ≤ 2 * (I x 48).toInt) (hwi : I x 49 = 7) : CtI l yX12_readOr cX12_readOr 2 (some .boolean) { frames := 9, cells := 0, slots := 0, locals := 198 } D cy L κ ln R I J [.ref x] (fun r I2 J2 => Iw L κ R ow I2 ∧ Fq L κ ow [1205, 1206, 1207, 1208, 1209, 1210, 1211, 1213, 1247, 1248, 1249, 1250, 86600] I I2 ∧ Fq L κ ow [1212] J J2 ∧ Rg 0 1 r ∧ ((r, MTf R I2 J2 x, NRf R I2 J2 x, QTf R I2 J2 x) = mOrK 1 (NVf R I J x) (NWf R I J x) (MTf R I J x) (NRf R I J x) (QTf R I J x)) ∧ (¬ r = 0 → Sz_ x I I2 1) ∧ (I2 x 49 = 7)) := by
  obtain ⟨x_1, hx_1, rx_1⟩ := ex_getw (I := I) (a := x) (j := 47) (lo := 0) (hi := 60) hU.1 hLx (ro_o hkx (by decide)) rfl
  obtain ⟨x_2, hx_2, rx_2⟩ := ex_getw (I := I) (a := x) (j := 48) (lo := 0) (hi := 20) hU.1 hLx (ro_o hkx (by decide)) rfl
  rw [hx_1, hx_2] at hn
  obtain ⟨x_3, hx_3, rx_3⟩ := ex_getw (I := I) (a := x) (j := 50) (lo := 0) (hi := 59) hU.1 hLx (ro_o hkx (by decide)) rfl
  refine CtI.of (by decide +kernel) (Nat.le_of_ble_eq_true rfl) ?_
  intro p e s m below meth c B K
  have C := B.1
  have hF : Fq L κ ow [1205, 1206, 1207, 1208, 1209, 1210, 1211, 1213, 1247, 1248, 1249, 1250, 86600] I I := fq_rf
  have hG : Fq L κ ow [1212] J J := fq_rf
  obtain ⟨b_4, hb_4, hb_4L, hb_4k, hb_4n, hb_4o⟩ := shp_a (W9 x hLx) hkx 19 15 13 rfl (by decide)
  have evqx : ∀ I J, NVf R I J x = NVq I J x b_4 := fun I J => by simp only [NVf, rr_, Option.getD_some, hb_4]
  have wvqx : vqw_ L κ ow x b_4 := ⟨⟨hLx, hb_4L⟩, ⟨(ro_o hkx (by decide)), (ro_a hb_4k (by decide) hb_4o hkx rfl)⟩⟩
  obtain ⟨s_5, hs_5⟩ : ∃ z, NVq I J x b_4 = z := ⟨_, rfl⟩
  obtain ⟨b_6, hb_6, hb_6L, hb_6k, hb_6n, hb_6o⟩ := shp_a (W9 x hLx) hkx 14 14 389 rfl (by decide)
  have ezqx : ∀ I J, NWf R I J x = NWq I J x b_6 := fun I J => by simp only [NWf, rr_, Option.getD_some, hb_6]
  have wzqx : zqw_ L κ ow x b_6 := ⟨⟨hLx, hb_6L⟩, ⟨(ro_o hkx (by decide)), (ro_a hb_6k (by decide) hb_6o hkx rfl)⟩⟩
  obtain ⟨s_7, hs_7⟩ : ∃ z, NWq I J x b_6 = z := ⟨_, rfl⟩
  obtain ⟨b_8, hb_8, hb_8L, hb_8k, hb_8n, hb_8o⟩ := shp_a (W9 x hLx) hkx 1 14 940 rfl (by decide)
  have emqx : ∀ I J, MTf R I J x = MTq I J x b_8 := fun I J => by simp only [MTf, rr_, Option.getD_some, hb_8]
  have wmqx : mqw_ L κ ow x b_8 := ⟨⟨hLx, hb_8L⟩, ⟨(ro_o hkx (by decide)), (ro_a hb_8k (by decide) hb_8o hkx rfl)⟩⟩
  obtain ⟨s_9, hs_9⟩ : ∃ z, MTq I J x b_8 = z := ⟨_, rfl⟩
  obtain ⟨b_10, hb_10, hb_10L, hb_10k, hb_10n, hb_10o⟩ := shp_a (W9 x hLx) hkx 15 14 72 rfl (by decide)
  obtain ⟨b_11, hb_11, hb_11L, hb_11k, hb_11n, hb_11o⟩ := shp_a (W9 x hLx) hkx 20 15 13 rfl (by decide)
  have enqx : ∀ I J, NRf R I J x = NRq I J x b_10 b_11 := fun I J => by simp only [NRf, rr_, Option.getD_some, hb_10, hb_11]
  have wnqx : nqw_ L κ ow x b_10 b_11 := ⟨⟨hLx, hb_10L, hb_11L⟩, ⟨(ro_o hkx (by decide)), (ro_a hb_10k (by decide) hb_10o hkx rfl), (ro_a hb_11k (by decide) hb_11o hkx rfl)⟩⟩
  obtain ⟨s_12, hs_12⟩ : ∃ z, NRq I J x b_10 b_11 = z := ⟨_, rfl⟩
  have eqqx : ∀ I J, QTf R I J x = QTq I J x := fun I J => by simp only [QTf, rr_, Option.getD_some]
  have wqqx : qqw_ L κ ow x := ⟨hLx, (ro_o hkx (by decide))⟩
  obtain ⟨s_13, hs_13⟩ : ∃ z, QTq I J x = z := ⟨_, rfl⟩
  refine g_lo (is := [0]) (lo2 := [(0, .ref x)]) rfl ?_
  have l_14 : ∀ (n_14 : Nat) (I_14 : Nat → Nat → Int32) (J_15 : Nat → Nat → Int64) (hU_16 : Iw L κ R ow I_14) (hF_17 : Fq L κ ow [1205, 1206, 1207, 1208, 1209, 1210, 1211, 1213, 1247, 1248, 1249, 1250, 86600] I I_14) (hG_18 : Fq L κ ow [1212] J J_15) (v_19 : Int32) (rv_19 : Rg 0 59 v_19) (v_20 : Int32) (rv_20 : Rg 0 60 v_20) (v_21 : Int32) (rv_21 : Rg 0 20 v_21) (v_22 : Int32) (rv_22 : Rg 0 59 v_22) (q_23 : I_14 x 47 = v_20) (q_24 : I_14 x 48 = v_21) (q_25 : I_14 x 49 = 7) (q_26 : I_14 x 50 = v_22) (hq_27 : mLp (mAndK 1 (NVq I_14 J_15 x b_4) (NWq I_14 J_15 x b_6)) 16 n_14 (MTq I_14 J_15 x b_8) (NRq I_14 J_15 x b_10 b_11) (QTq I_14 J_15 x) = mOrK 1 s_5 s_7 s_9 s_12 s_13) (hj_28 : x_1.toInt ≤ v_20.toInt ∧ x_2.toInt + 1 ≤ v_21.toInt ∧ 2 * x_2.toInt - x_1.toInt + 1 ≤ 2 * v_21.toInt - v_20.toInt ∧ v_19.toInt < v_20.toInt) (hm_29 : 20 < v_21.toInt + (n_14 : Int)), WG p l e { frames := 9, cells := 0, slots := 0, locals := 198 } s m ([.ref x] : List Value).toArray below meth c 2 0 0 (MQ below (Qi_ D cy L κ ln R (fun r I2 J2 => Iw L κ R ow I2 ∧ Fq L κ ow [1205, 1206, 1207, 1208, 1209, 1210, 1211, 1213, 1247, 1248, 1249, 1250, 86600] I I2 ∧ Fq L κ ow [1212] J J2 ∧ Rg 0 1 r ∧ ((r, MTf R I2 J2 x, NRf R I2 J2 x, QTf R I2 J2 x) = mOrK 1 (NVf R I J x) (NWf R I J x) (MTf R I J x) (NRf R I J x) (QTf R I J x)) ∧ (¬ r = 0 → Sz_ x I I2 1) ∧ (I2 x 49 = 7))) ([.ref x] : List Value).toArray s 0 0 (Al_ L)) D cy (Al_ L) s.heap L κ ln R I_14 J_15 14 [(0, .ref x), (1, .int v_19)] [] := by
    intro n_14
    induction n_14 with
    | zero =>
      intro I_14 J_15 hU_16 hF_17 hG_18 v_19 rv_19 v_20 rv_20 v_21 rv_21 v_22 rv_22 q_23 q_24 q_25 q_26 hq_27 hj_28 hm_29
      exact absurd hm_29 (by have := (rv_21).2; omega)
    | succ n_14 ih_14 =>
      intro I_14 J_15 hU_16 hF_17 hG_18 v_19 rv_19 v_20 rv_20 v_21 rv_21 v_22 rv_22 q_23 q_24 q_25 q_26 hq_27 hj_28 hm_29
      obtain ⟨s_30, hs_30⟩ : ∃ z, NVq I_14 J_15 x b_4 = z := ⟨_, rfl⟩
      obtain ⟨s_31, hs_31⟩ : ∃ z, NWq I_14 J_15 x b_6 = z := ⟨_, rfl⟩
      obtain ⟨s_32, hs_32⟩ : ∃ z, MTq I_14 J_15 x b_8 = z := ⟨_, rfl⟩
      obtain ⟨s_33, hs_33⟩ : ∃ z, NRq I_14 J_15 x b_10 b_11 = z := ⟨_, rfl⟩
      obtain ⟨s_34, hs_34⟩ : ∃ z, QTq I_14 J_15 x = z := ⟨_, rfl⟩
      simp only [hs_30, hs_31, hs_32, hs_33, hs_34] at hq_27
      have hQ_35 := hq_27.symm
      have u_36 := mLp_eq (rd := mAndK 1 s_30 s_31) (k := 16) (f := n_14) (m := s_32) (n := s_33) (q := s_34)
      refine g_aload_n C 0 dX12_readOr_14 rfl rfl ?_
      refine g_bipush C (v := 16) dX12_readOr_15 (by decide) ?_
      refine g_callVI C K (c_X12_isWord W9 hLx hkx 16 (rg_w rc_16 (by decide) (by decide)) hU_16) hLx hkx (by decide) rfl v_12_191 rfl ⟨rfl, rfl⟩ ⟨Nat.le_of_ble_eq_true rfl, Nat.le_of_ble_eq_true rfl⟩ (Nat.le_of_ble_eq_true rfl) ⟨Nat.le_of_ble_eq_true rfl, Nat.le_of_ble_eq_true rfl⟩ dX12_readOr_17 rfl (st := []) (fun x_37 I_38 J_39 h_40 => ?_)
      obtain ⟨rfl, rfl, rx_37, fx_37⟩ := h_40
      have c_41 : mIsWord (16) (s_32) = x_37 := by have q := fx_37; simp only [emqx, hs_32] at q; exact q.symm
      refine g_if_eq C (tgt := 51) dX12_readOr_20 (by decide) (fun h_42 => ?_) (fun h_42 => ?_)
      · skip
        have r_43 := (⟨(rx_37).1, (eq_rg (h_42) rc_0).2⟩ : Rg 0 0 x_37)
        refine g_aload_n C 0 dX12_readOr_51 rfl rfl ?_
        refine g_iload_n C 1 dX12_readOr_52 rfl rfl ?_
        refine h_putI C K hLx hkx f_12_386 p_12_50 dX12_readOr_53 (fun I_44 hI_44 => ?_)
        have hU_45 := iw_put W9 hU_16 hI_44 (ro_o hkx (by decide)) (lo := 0) (hi := 59) (rfl) (rv_19) rfl
        have hF_46 := fq_puto hF_17 hI_44 hkx (by decide) (by decide)
        have hs_47 : NVq I_44 J_15 x b_4 = s_30 := by rw [hI_44]; exact (vq_oI wvqx (ro_o hkx (by decide)) (by decide)).trans hs_30
        have hs_48 : NWq I_44 J_15 x b_6 = s_31 := by rw [hI_44]; exact (zq_oI wzqx (ro_o hkx (by decide)) (by decide)).trans hs_31
        have hs_49 : MTq I_44 J_15 x b_8 = s_32 := by rw [hI_44]; exact (mq_uIt wmqx (by decide)).trans hs_32
        have hs_50 : NRq I_44 J_15 x b_10 b_11 = s_33 := by rw [hI_44]; exact (nq_uIt wnqx (by decide)).trans hs_33
        have hs_51 : QTq I_44 J_15 x = s_34 := by rw [hI_44]; exact (qq_uIt wqqx (by decide)).trans hs_34
        refine g_iconst C (v := 1) dX12_readOr_56 (by decide) ?_
        have f_52 : s_34.om = v_21 := (congrArg QT_.om hs_51).symm.trans (kp_j hI_44 (by decide) q_24)
        exact g_zret (ty := .boolean) (r := 1) B K rfl (rfl) ⟨hU_45, hF_46, hG_18, rg_w rc_1 (by decide) (by decide), (by (try simp only [c_41, (eq_true h_42), if_true, if_false, mqM_tp, mqM_size, mqM_limit, mqM_to, mqM_frm, mqM_kind, mqM_number, mqM_sign, mqM_word, MT_.w_tp, MT_.w_size, MT_.w_limit, MT_.w_to, MT_.w_frm, MT_.w_kind, MT_.w_number, MT_.w_sign, MT_.w_word, nqM_rd, nqM_rn, nqM_taped, nqM_mfault, nqM_mplace, nqM_told, nqM_hl, nqM_hd, NR_.w_rd, NR_.w_rn, NR_.w_taped, NR_.w_mfault, NR_.w_mplace, NR_.w_told, NR_.w_hl, NR_.w_hd, qqM_om, QT_.w_om, vqM_nv, NV_.w_nv, zqM_nw, NW_.w_nw] at hQ_35); (try simp only [c_41, (eq_true h_42), if_true, if_false, mqM_tp, mqM_size, mqM_limit, mqM_to, mqM_frm, mqM_kind, mqM_number, mqM_sign, mqM_word, MT_.w_tp, MT_.w_size, MT_.w_limit, MT_.w_to, MT_.w_frm, MT_.w_kind, MT_.w_number, MT_.w_sign, MT_.w_word, nqM_rd, nqM_rn, nqM_taped, nqM_mfault, nqM_mplace, nqM_told, nqM_hl, nqM_hd, NR_.w_rd, NR_.w_rn, NR_.w_taped, NR_.w_mfault, NR_.w_mplace, NR_.w_told, NR_.w_hl, NR_.w_hd, qqM_om, QT_.w_om, vqM_nv, NV_.w_nv, zqM_nw, NW_.w_nw] at u_36); simp only [evqx, hs_47, hs_5, ezqx, hs_48, hs_7, emqx, hs_49, hs_9, enqx, hs_50, hs_12, eqqx, hs_51, hs_13, hQ_35, u_36, c_41, (eq_true h_42), if_true, if_false, mqM_tp, mqM_size, mqM_limit, mqM_to, mqM_frm, mqM_kind, mqM_number, mqM_sign, mqM_word, MT_.w_tp, MT_.w_size, MT_.w_limit, MT_.w_to, MT_.w_frm, MT_.w_kind, MT_.w_number, MT_.w_sign, MT_.w_word, nqM_rd, nqM_rn, nqM_taped, nqM_mfault, nqM_mplace, nqM_told, nqM_hl, nqM_hd, NR_.w_rd, NR_.w_rn, NR_.w_taped, NR_.w_mfault, NR_.w_mplace, NR_.w_told, NR_.w_hl, NR_.w_hd, qqM_om, QT_.w_om, vqM_nv, NV_.w_nv, zqM_nw, NW_.w_nw]), (fun _ => (sz_m hx_1 hx_2 (kp_j hI_44 (by decide) q_23) (kp_j hI_44 (by decide) q_24) (kp_s hI_44) ⟨by omega, by omega, by omega, by omega⟩)), (kp_j hI_44 (by decide) q_25)⟩ dX12_readOr_57
      · skip
        have n_53 : ¬ x_37 = 0 := h_42
        have r_54 := ne_lo (lo := 1) n_53 rx_37 rc_0 rfl (by decide)
        refine g_aload_n C 0 dX12_readOr_23 rfl rfl ?_
        refine g_callVV C K (c_X12_go W9 hLx hkx   hU_16) hLx hkx (by decide) rfl v_12_156 rfl ⟨rfl, rfl⟩ ⟨Nat.le_of_ble_eq_true rfl, Nat.le_of_ble_eq_true rfl⟩ (Nat.le_of_ble_eq_true rfl) ⟨Nat.le_of_ble_eq_true rfl, Nat.le_of_ble_eq_true rfl⟩ dX12_readOr_24 rfl (st := []) (fun I_56 J_57 h_58 => ?_)
        obtain ⟨hUI_56, hFI_56, hGJ_57, fx_55, ex_55⟩ := h_58
        have hF_59 := fq_tr hF_17 hFI_56 (by decide)
        have hG_60 := fq_tr hG_18 hGJ_57 (by decide)
        obtain ⟨s_62, hs_62⟩ : ∃ z, MTq I_56 J_57 x b_8 = z := ⟨_, rfl⟩
        have c_61 : mGo (s_32) = s_62 := by have q := fx_55; simp only [emqx, hs_32, hs_62] at q; exact q.symm
        have hs_63 : NVq I_56 J_57 x b_4 = s_30 := (vq_fq wvqx hFI_56 hGJ_57 (by decide) (by decide)).trans hs_30
        have hs_64 : NWq I_56 J_57 x b_6 = s_31 := (zq_fq wzqx hFI_56 hGJ_57 (by decide) (by decide)).trans hs_31
        have hs_65 : NRq I_56 J_57 x b_10 b_11 = s_33 := (nq_fq wnqx hFI_56 hGJ_57 (by decide) (by decide)).trans hs_33
        have hs_66 : QTq I_56 J_57 x = s_34 := (qq_fq wqqx hFI_56 hGJ_57 (by decide) (by decide)).trans hs_34
        refine g_aload_n C 0 dX12_readOr_27 rfl rfl ?_
        have f_67 : s_34.om = v_21 := (congrArg QT_.om hs_66).symm.trans (fq_at hFI_56 hLx hkx (by decide) (by decide) q_24)
        refine g_callVI C K (c_X12_readAnd_7 W9 hLx hkx   hUI_56  (by rw [(fq_at hFI_56 hLx hkx (by decide) (by decide) q_23), (fq_at hFI_56 hLx hkx (by decide) (by decide) q_24)]; omega) ((fq_at hFI_56 hLx hkx (by decide) (by decide) q_25))) hLx hkx (by decide) rfl v_12_383 rfl ⟨rfl, rfl⟩ ⟨Nat.le_of_ble_eq_true rfl, Nat.le_of_ble_eq_true rfl⟩ (Nat.le_of_ble_eq_true rfl) ⟨Nat.le_of_ble_eq_true rfl, Nat.le_of_ble_eq_true rfl⟩ dX12_readOr_28 rfl (st := []) (fun x_68 I_69 J_70 h_71 => ?_)
        obtain ⟨hUI_69, hFI_69, hGJ_70, rx_68, fx_68, ex_68⟩ := h_71
        have hF_72 := fq_tr hF_59 hFI_69 (by decide)
        have hG_73 := fq_tr hG_60 hGJ_70 (by decide)
        obtain ⟨s_75, hs_75⟩ : ∃ z, MTq I_69 J_70 x b_8 = z := ⟨_, rfl⟩
        obtain ⟨s_76, hs_76⟩ : ∃ z, NRq I_69 J_70 x b_10 b_11 = z := ⟨_, rfl⟩
        obtain ⟨s_77, hs_77⟩ : ∃ z, QTq I_69 J_70 x = z := ⟨_, rfl⟩
        have c_74 : mAndK 1 (s_30) (s_31) (s_62) (s_33) (s_34) = (x_68, s_75, s_76, s_77) := by have q := fx_68; simp only [evqx, ezqx, emqx, enqx, eqqx, hs_63, hs_64, hs_62, hs_65, hs_66, hs_75, hs_76, hs_77] at q; exact q.symm
        have hs_78 : NVq I_69 J_70 x b_4 = s_30 := (vq_fq wvqx hFI_69 hGJ_70 (by decide) (by decide)).trans hs_63
        have hs_79 : NWq I_69 J_70 x b_6 = s_31 := (zq_fq wzqx hFI_69 hGJ_70 (by decide) (by decide)).trans hs_64
        obtain ⟨x_80, hx_80, rx_80⟩ := ex_getw (I := I_69) (a := x) (j := 47) (lo := 0) (hi := 60) hUI_69.1 hLx (ro_o hkx (by decide)) rfl
        obtain ⟨x_81, hx_81, rx_81⟩ := ex_getw (I := I_69) (a := x) (j := 50) (lo := 0) (hi := 59) hUI_69.1 hLx (ro_o hkx (by decide)) rfl
        obtain ⟨x_82, hx_82, rx_82⟩ := ex_getw (I := I_69) (a := x) (j := 48) (lo := 0) (hi := 20) hUI_69.1 hLx (ro_o hkx (by decide)) rfl
        have f_83 : s_77.om = x_82 := (congrArg QT_.om hs_77).symm.trans hx_82
        refine g_if_ne C (tgt := 36) dX12_readOr_31 (by decide) (fun h_84 => ?_) (fun h_84 => ?_)
        · skip
          have n_85 : ¬ x_68 = 0 := h_84
          have r_86 := ne_lo (lo := 1) n_85 rx_68 rc_0 rfl (by decide)
          have f_87 := sz_v (fq_at hFI_56 hLx hkx (by decide) (by decide) q_23) (fq_at hFI_56 hLx hkx (by decide) (by decide) q_24) hx_80 hx_82 hx_81 (ex_68.1 n_85)
          refine g_aload_n C 0 dX12_readOr_36 rfl rfl ?_
          refine g_iconst C (v := 3) dX12_readOr_37 (by decide) ?_
          refine g_iload_n C 1 dX12_readOr_38 rfl rfl ?_
          refine g_aload_n C 0 dX12_readOr_39 rfl rfl ?_
          refine g_getI C K hLx hkx f_12_386 (v := x_81) hx_81 dX12_readOr_40 ?_
          refine g_iconst C (v := 0) dX12_readOr_43 (by decide) ?_
          have r_88 := (show Rg 0 59 x_80 from by have q1 := rx_80; have q2 := rx_82; unfold Rg at *; omega)
          refine g_callVI C K (c_X12_saysOne W9 hLx hkx 3 v_19 x_81 0 (rg_w rc_3 (by decide) (by decide)) (rv_19) (rg_w rx_81 (by decide) (by decide)) hUI_69  (eq_rg hx_80 (r_88)) (by rw [hx_80]; exact ⟨fun _ => ⟨by have := (rv_19).1; omega, by omega⟩, fun _ => ⟨by have := (rx_81).1; omega, by omega⟩, fun q => absurd q (by decide)⟩)) hLx hkx (by decide) rfl v_12_389 rfl ⟨rfl, rfl⟩ ⟨Nat.le_of_ble_eq_true rfl, Nat.le_of_ble_eq_true rfl⟩ (Nat.le_of_ble_eq_true rfl) ⟨Nat.le_of_ble_eq_true rfl, Nat.le_of_ble_eq_true rfl⟩ dX12_readOr_44 rfl (st := []) (fun x_89 I_90 J_91 h_92 => ?_)
          obtain ⟨hUI_90, hFI_90, hGJ_91, rx_89, ex_89⟩ := h_92
          have hF_93 := fq_tr hF_72 hFI_90 (by decide)
          have hG_94 := fq_tr hG_73 hGJ_91 (by decide)
          have hs_95 : NVq I_90 J_91 x b_4 = s_30 := (vq_fq wvqx hFI_90 hGJ_91 (by decide) (by decide)).trans hs_78
          have hs_96 : NWq I_90 J_91 x b_6 = s_31 := (zq_fq wzqx hFI_90 hGJ_91 (by decide) (by decide)).trans hs_79
          have hs_97 : MTq I_90 J_91 x b_8 = s_75 := (mq_fq wmqx hFI_90 hGJ_91 (by decide) (by decide)).trans hs_75
          have hs_98 : NRq I_90 J_91 x b_10 b_11 = s_76 := (nq_fq wnqx hFI_90 hGJ_91 (by decide) (by decide)).trans hs_76
          have hs_99 : QTq I_90 J_91 x = s_77 := (qq_fq wqqx hFI_90 hGJ_91 (by decide) (by decide)).trans hs_77
          obtain ⟨x_100, hx_100, rx_100, tx_100, ux_100⟩ := sa_b (lo := 1) (hi := 60) ex_89 hx_80 r_88 (by decide) (by decide)
          have r_101 := (show Rg 0 59 x_89 from by have q1 := ux_100; have q2 := r_88; unfold Rg at *; omega)
          refine g_istore_n C dX12_readOr_47 rfl (by decide) (lo2 := [(1, .int x_89), (0, .ref x)]) rfl ?_
          refine g_goto C (tgt := 14) dX12_readOr_48 (by decide) ?_
          refine g_lo (is := [1, 0]) (lo2 := [(0, .ref x), (1, .int x_89)]) rfl ?_
          exact ih_14 I_90 J_91 hUI_90 hF_93 hG_94 x_89 (r_101) x_100 (rg_w rx_100 (by decide) (by decide)) x_82 (rx_82) x_81 (rx_81) hx_100 (fq_at hFI_90 hLx hkx (by decide) (by decide) hx_82) (fq_at hFI_90 hLx hkx (by decide) (by decide) ex_68.2) (fq_at hFI_90 hLx hkx (by decide) (by decide) hx_81) (by (try simp only [c_41, h_42, c_61, f_67, c_74, hx_80, hx_81, hx_82, f_83, h_84, hx_100, if_true, if_false, mqM_tp, mqM_size, mqM_limit, mqM_to, mqM_frm, mqM_kind, mqM_number, mqM_sign, mqM_word, MT_.w_tp, MT_.w_size, MT_.w_limit, MT_.w_to, MT_.w_frm, MT_.w_kind, MT_.w_number, MT_.w_sign, MT_.w_word, nqM_rd, nqM_rn, nqM_taped, nqM_mfault, nqM_mplace, nqM_told, nqM_hl, nqM_hd, NR_.w_rd, NR_.w_rn, NR_.w_taped, NR_.w_mfault, NR_.w_mplace, NR_.w_told, NR_.w_hl, NR_.w_hd, qqM_om, QT_.w_om, vqM_nv, NV_.w_nv, zqM_nw, NW_.w_nw] at hQ_35); (try simp only [c_41, h_42, c_61, f_67, c_74, hx_80, hx_81, hx_82, f_83, h_84, hx_100, if_true, if_false, mqM_tp, mqM_size, mqM_limit, mqM_to, mqM_frm, mqM_kind, mqM_number, mqM_sign, mqM_word, MT_.w_tp, MT_.w_size, MT_.w_limit, MT_.w_to, MT_.w_frm, MT_.w_kind, MT_.w_number, MT_.w_sign, MT_.w_word, nqM_rd, nqM_rn, nqM_taped, nqM_mfault, nqM_mplace, nqM_told, nqM_hl, nqM_hd, NR_.w_rd, NR_.w_rn, NR_.w_taped, NR_.w_mfault, NR_.w_mplace, NR_.w_told, NR_.w_hl, NR_.w_hd, qqM_om, QT_.w_om, vqM_nv, NV_.w_nv, zqM_nw, NW_.w_nw] at u_36); simp only [evqx, hs_95, hs_5, ezqx, hs_96, hs_7, emqx, hs_97, hs_9, enqx, hs_98, hs_12, eqqx, hs_99, hs_13, hQ_35, u_36, c_41, h_42, c_61, f_67, c_74, hx_80, hx_81, hx_82, f_83, h_84, hx_100, if_true, if_false, mqM_tp, mqM_size, mqM_limit, mqM_to, mqM_frm, mqM_kind, mqM_number, mqM_sign, mqM_word, MT_.w_tp, MT_.w_size, MT_.w_limit, MT_.w_to, MT_.w_frm, MT_.w_kind, MT_.w_number, MT_.w_sign, MT_.w_word, nqM_rd, nqM_rn, nqM_taped, nqM_mfault, nqM_mplace, nqM_told, nqM_hl, nqM_hd, NR_.w_rd, NR_.w_rn, NR_.w_taped, NR_.w_mfault, NR_.w_mplace, NR_.w_told, NR_.w_hl, NR_.w_hd, qqM_om, QT_.w_om, vqM_nv, NV_.w_nv, zqM_nw, NW_.w_nw]) ⟨by have := tx_100; omega, by have := tx_100; omega, by have := tx_100; omega, by have := tx_100; omega⟩ (by have q9 := hm_29; have := tx_100; omega)
        · skip
          have r_102 := (⟨(rx_68).1, (eq_rg (h_84) rc_0).2⟩ : Rg 0 0 x_68)
          refine g_iconst C (v := 0) dX12_readOr_34 (by decide) ?_
          exact g_zret (ty := .boolean) (r := 0) B K rfl (rfl) ⟨hUI_69, hF_72, hG_73, rg_w rc_0 (by decide) (by decide), (by (try simp only [c_41, h_42, c_61, f_67, c_74, hx_80, hx_81, hx_82, f_83, (eq_true h_84), if_true, if_false, mqM_tp, mqM_size, mqM_limit, mqM_to, mqM_frm, mqM_kind, mqM_number, mqM_sign, mqM_word, MT_.w_tp, MT_.w_size, MT_.w_limit, MT_.w_to, MT_.w_frm, MT_.w_kind, MT_.w_number, MT_.w_sign, MT_.w_word, nqM_rd, nqM_rn, nqM_taped, nqM_mfault, nqM_mplace, nqM_told, nqM_hl, nqM_hd, NR_.w_rd, NR_.w_rn, NR_.w_taped, NR_.w_mfault, NR_.w_mplace, NR_.w_told, NR_.w_hl, NR_.w_hd, qqM_om, QT_.w_om, vqM_nv, NV_.w_nv, zqM_nw, NW_.w_nw] at hQ_35); (try simp only [c_41, h_42, c_61, f_67, c_74, hx_80, hx_81, hx_82, f_83, (eq_true h_84), if_true, if_false, mqM_tp, mqM_size, mqM_limit, mqM_to, mqM_frm, mqM_kind, mqM_number, mqM_sign, mqM_word, MT_.w_tp, MT_.w_size, MT_.w_limit, MT_.w_to, MT_.w_frm, MT_.w_kind, MT_.w_number, MT_.w_sign, MT_.w_word, nqM_rd, nqM_rn, nqM_taped, nqM_mfault, nqM_mplace, nqM_told, nqM_hl, nqM_hd, NR_.w_rd, NR_.w_rn, NR_.w_taped, NR_.w_mfault, NR_.w_mplace, NR_.w_told, NR_.w_hl, NR_.w_hd, qqM_om, QT_.w_om, vqM_nv, NV_.w_nv, zqM_nw, NW_.w_nw] at u_36); simp only [evqx, hs_78, hs_5, ezqx, hs_79, hs_7, emqx, hs_75, hs_9, enqx, hs_76, hs_12, eqqx, hs_77, hs_13, hQ_35, u_36, c_41, h_42, c_61, f_67, c_74, hx_80, hx_81, hx_82, f_83, (eq_true h_84), if_true, if_false, mqM_tp, mqM_size, mqM_limit, mqM_to, mqM_frm, mqM_kind, mqM_number, mqM_sign, mqM_word, MT_.w_tp, MT_.w_size, MT_.w_limit, MT_.w_to, MT_.w_frm, MT_.w_kind, MT_.w_number, MT_.w_sign, MT_.w_word, nqM_rd, nqM_rn, nqM_taped, nqM_mfault, nqM_mplace, nqM_told, nqM_hl, nqM_hd, NR_.w_rd, NR_.w_rn, NR_.w_taped, NR_.w_mfault, NR_.w_mplace, NR_.w_told, NR_.w_hl, NR_.w_hd, qqM_om, QT_.w_om, vqM_nv, NV_.w_nv, zqM_nw, NW_.w_nw]), (fun q => absurd rfl q), ex_68.2⟩ dX12_readOr_35
  refine g_aload_n C 0 dX12_readOr_0 rfl rfl ?_
  have f_103 : s_13.om = x_2 := (congrArg QT_.om hs_13).symm.trans hx_2
  refine g_callVI C K (c_X12_readAnd_7 W9 hLx hkx   hU  (by rw [hx_1, hx_2]; omega) (hwi)) hLx hkx (by decide) rfl v_12_383 rfl ⟨rfl, rfl⟩ ⟨Nat.le_of_ble_eq_true rfl, Nat.le_of_ble_eq_true rfl⟩ (Nat.le_of_ble_eq_true rfl) ⟨Nat.le_of_ble_eq_true rfl, Nat.le_of_ble_eq_true rfl⟩ dX12_readOr_1 rfl (st := []) (fun x_104 I_105 J_106 h_107 => ?_)
  obtain ⟨hUI_105, hFI_105, hGJ_106, rx_104, fx_104, ex_104⟩ := h_107
  have hF_108 := fq_tr hF hFI_105 (by decide)
  have hG_109 := fq_tr hG hGJ_106 (by decide)
  obtain ⟨s_111, hs_111⟩ : ∃ z, MTq I_105 J_106 x b_8 = z := ⟨_, rfl⟩
  obtain ⟨s_112, hs_112⟩ : ∃ z, NRq I_105 J_106 x b_10 b_11 = z := ⟨_, rfl⟩
  obtain ⟨s_113, hs_113⟩ : ∃ z, QTq I_105 J_106 x = z := ⟨_, rfl⟩
  have c_110 : mAndK 1 (s_5) (s_7) (s_9) (s_12) (s_13) = (x_104, s_111, s_112, s_113) := by have q := fx_104; simp only [evqx, ezqx, emqx, enqx, eqqx, hs_5, hs_7, hs_9, hs_12, hs_13, hs_111, hs_112, hs_113] at q; exact q.symm
  have hs_114 : NVq I_105 J_106 x b_4 = s_5 := (vq_fq wvqx hFI_105 hGJ_106 (by decide) (by decide)).trans hs_5
  have hs_115 : NWq I_105 J_106 x b_6 = s_7 := (zq_fq wzqx hFI_105 hGJ_106 (by decide) (by decide)).trans hs_7
  obtain ⟨x_116, hx_116, rx_116⟩ := ex_getw (I := I_105) (a := x) (j := 47) (lo := 0) (hi := 60) hUI_105.1 hLx (ro_o hkx (by decide)) rfl
  obtain ⟨x_117, hx_117, rx_117⟩ := ex_getw (I := I_105) (a := x) (j := 50) (lo := 0) (hi := 59) hUI_105.1 hLx (ro_o hkx (by decide)) rfl
  obtain ⟨x_118, hx_118, rx_118⟩ := ex_getw (I := I_105) (a := x) (j := 48) (lo := 0) (hi := 20) hUI_105.1 hLx (ro_o hkx (by decide)) rfl
  have f_119 : s_113.om = x_118 := (congrArg QT_.om hs_113).symm.trans hx_118
  refine g_if_ne C (tgt := 9) dX12_readOr_4 (by decide) (fun h_120 => ?_) (fun h_120 => ?_)
  · skip
    have n_121 : ¬ x_104 = 0 := h_120
    have r_122 := ne_lo (lo := 1) n_121 rx_104 rc_0 rfl (by decide)
    have f_123 := sz_v hx_1 hx_2 hx_116 hx_118 hx_117 (ex_104.1 n_121)
    refine g_aload_n C 0 dX12_readOr_9 rfl rfl ?_
    refine g_getI C K hLx hkx f_12_386 (v := x_117) hx_117 dX12_readOr_10 ?_
    refine g_istore_n C dX12_readOr_13 rfl (by decide) (lo2 := [(1, .int x_117), (0, .ref x)]) rfl ?_
    refine g_lo (is := [1, 0]) (lo2 := [(0, .ref x), (1, .int x_117)]) rfl ?_
    exact l_14 21 I_105 J_106 hUI_105 hF_108 hG_109 x_117 (rx_117) x_116 (rx_116) x_118 (rx_118) x_117 (rx_117) hx_116 hx_118 ex_104.2 hx_117 (by simp only [mOrK, evqx, hs_114, hs_5, ezqx, hs_115, hs_7, emqx, hs_111, hs_9, enqx, hs_112, hs_12, eqqx, hs_113, hs_13, hx_1, hx_2, hx_3, f_103, c_110, hx_116, hx_117, hx_118, f_119, h_120, if_true, if_false, mqM_tp, mqM_size, mqM_limit, mqM_to, mqM_frm, mqM_kind, mqM_number, mqM_sign, mqM_word, MT_.w_tp, MT_.w_size, MT_.w_limit, MT_.w_to, MT_.w_frm, MT_.w_kind, MT_.w_number, MT_.w_sign, MT_.w_word, nqM_rd, nqM_rn, nqM_taped, nqM_mfault, nqM_mplace, nqM_told, nqM_hl, nqM_hd, NR_.w_rd, NR_.w_rn, NR_.w_taped, NR_.w_mfault, NR_.w_mplace, NR_.w_told, NR_.w_hl, NR_.w_hd, qqM_om, QT_.w_om, vqM_nv, NV_.w_nv, zqM_nw, NW_.w_nw]) ⟨by omega, by omega, by omega, by omega⟩ (by have := (rx_118).1; omega)
  · skip
    have r_124 := (⟨(rx_104).1, (eq_rg (h_120) rc_0).2⟩ : Rg 0 0 x_104)
    refine g_iconst C (v := 0) dX12_readOr_7 (by decide) ?_
    exact g_zret (ty := .boolean) (r := 0) B K rfl (rfl) ⟨hUI_105, hF_108, hG_109, rg_w rc_0 (by decide) (by decide), (by simp only [mOrK, evqx, hs_114, hs_5, ezqx, hs_115, hs_7, emqx, hs_111, hs_9, enqx, hs_112, hs_12, eqqx, hs_113, hs_13, hx_1, hx_2, hx_3, f_103, c_110, hx_116, hx_117, hx_118, f_119, (eq_true h_120), if_true, if_false, mqM_tp, mqM_size, mqM_limit, mqM_to, mqM_frm, mqM_kind, mqM_number, mqM_sign, mqM_word, MT_.w_tp, MT_.w_size, MT_.w_limit, MT_.w_to, MT_.w_frm, MT_.w_kind, MT_.w_number, MT_.w_sign, MT_.w_word, nqM_rd, nqM_rn, nqM_taped, nqM_mfault, nqM_mplace, nqM_told, nqM_hl, nqM_hd, NR_.w_rd, NR_.w_rn, NR_.w_taped, NR_.w_mfault, NR_.w_mplace, NR_.w_told, NR_.w_hl, NR_.w_hd, qqM_om, QT_.w_om, vqM_nv, NV_.w_nv, zqM_nw, NW_.w_nw]), (fun q => absurd rfl q), ex_104.2⟩ dX12_readOr_8
set_option maxRecDepth 100000 in
set_option maxHeartbeats 8000000 in
theorem c_X12_readBracket_7 {l : Launch} {D : va_G} {cy : Nat → ClassId} {L : List Nat} {κ ln : Nat → Nat} {R : Nat → Nat → Option Nat} {I : Nat → Nat → Int32} {J : Nat → Nat → Int64} {ow : Nat → Nat × Nat} (W9 : ∀ a ∈ L, Shp L κ ln R ow a) {x : Nat} (hLx : x ∈ L) (hkx : κ x = 12) (hU : Iw L κ R ow I) (hn : (I x 47).toInt ≤ 2 * (I x 48).toInt) (hwi : I x 49 = 7) : CtI l yX12_readBracket cX12_readBracket 1 (some .boolean) { frames := 10, cells := 0, slots := 0, locals := 219 } D cy L κ ln R I J [.ref x] (fun r I2 J2 => Iw L κ R ow I2 ∧ Fq L κ ow [1205, 1206, 1207, 1208, 1209, 1210, 1211, 1213, 1247, 1248, 1249, 1250, 86600] I I2 ∧ Fq L κ ow [1212] J J2 ∧ Rg 0 1 r ∧ ((r, MTf R I2 J2 x, NRf R I2 J2 x, QTf R I2 J2 x) = mBrK 1 (NVf R I J x) (NWf R I J x) (MTf R I J x) (NRf R I J x) (QTf R I J x)) ∧ (¬ r = 0 → Sz_ x I I2 1) ∧ (I2 x 49 = 7)) := by
  obtain ⟨x_1, hx_1, rx_1⟩ := ex_getw (I := I) (a := x) (j := 47) (lo := 0) (hi := 60) hU.1 hLx (ro_o hkx (by decide)) rfl
  obtain ⟨x_2, hx_2, rx_2⟩ := ex_getw (I := I) (a := x) (j := 48) (lo := 0) (hi := 20) hU.1 hLx (ro_o hkx (by decide)) rfl
  rw [hx_1, hx_2] at hn
  obtain ⟨x_3, hx_3, rx_3⟩ := ex_getw (I := I) (a := x) (j := 50) (lo := 0) (hi := 59) hU.1 hLx (ro_o hkx (by decide)) rfl
  refine CtI.of (by decide +kernel) (Nat.le_of_ble_eq_true rfl) ?_
  intro p e s m below meth c B K
  have C := B.1
  have hF : Fq L κ ow [1205, 1206, 1207, 1208, 1209, 1210, 1211, 1213, 1247, 1248, 1249, 1250, 86600] I I := fq_rf
  have hG : Fq L κ ow [1212] J J := fq_rf
  obtain ⟨b_4, hb_4, hb_4L, hb_4k, hb_4n, hb_4o⟩ := shp_a (W9 x hLx) hkx 19 15 13 rfl (by decide)
  have evqx : ∀ I J, NVf R I J x = NVq I J x b_4 := fun I J => by simp only [NVf, rr_, Option.getD_some, hb_4]
  have wvqx : vqw_ L κ ow x b_4 := ⟨⟨hLx, hb_4L⟩, ⟨(ro_o hkx (by decide)), (ro_a hb_4k (by decide) hb_4o hkx rfl)⟩⟩
  obtain ⟨s_5, hs_5⟩ : ∃ z, NVq I J x b_4 = z := ⟨_, rfl⟩
  obtain ⟨b_6, hb_6, hb_6L, hb_6k, hb_6n, hb_6o⟩ := shp_a (W9 x hLx) hkx 14 14 389 rfl (by decide)
  have ezqx : ∀ I J, NWf R I J x = NWq I J x b_6 := fun I J => by simp only [NWf, rr_, Option.getD_some, hb_6]
  have wzqx : zqw_ L κ ow x b_6 := ⟨⟨hLx, hb_6L⟩, ⟨(ro_o hkx (by decide)), (ro_a hb_6k (by decide) hb_6o hkx rfl)⟩⟩
  obtain ⟨s_7, hs_7⟩ : ∃ z, NWq I J x b_6 = z := ⟨_, rfl⟩
  obtain ⟨b_8, hb_8, hb_8L, hb_8k, hb_8n, hb_8o⟩ := shp_a (W9 x hLx) hkx 1 14 940 rfl (by decide)
  have emqx : ∀ I J, MTf R I J x = MTq I J x b_8 := fun I J => by simp only [MTf, rr_, Option.getD_some, hb_8]
  have wmqx : mqw_ L κ ow x b_8 := ⟨⟨hLx, hb_8L⟩, ⟨(ro_o hkx (by decide)), (ro_a hb_8k (by decide) hb_8o hkx rfl)⟩⟩
  obtain ⟨s_9, hs_9⟩ : ∃ z, MTq I J x b_8 = z := ⟨_, rfl⟩
  obtain ⟨b_10, hb_10, hb_10L, hb_10k, hb_10n, hb_10o⟩ := shp_a (W9 x hLx) hkx 15 14 72 rfl (by decide)
  obtain ⟨b_11, hb_11, hb_11L, hb_11k, hb_11n, hb_11o⟩ := shp_a (W9 x hLx) hkx 20 15 13 rfl (by decide)
  have enqx : ∀ I J, NRf R I J x = NRq I J x b_10 b_11 := fun I J => by simp only [NRf, rr_, Option.getD_some, hb_10, hb_11]
  have wnqx : nqw_ L κ ow x b_10 b_11 := ⟨⟨hLx, hb_10L, hb_11L⟩, ⟨(ro_o hkx (by decide)), (ro_a hb_10k (by decide) hb_10o hkx rfl), (ro_a hb_11k (by decide) hb_11o hkx rfl)⟩⟩
  obtain ⟨s_12, hs_12⟩ : ∃ z, NRq I J x b_10 b_11 = z := ⟨_, rfl⟩
  have eqqx : ∀ I J, QTf R I J x = QTq I J x := fun I J => by simp only [QTf, rr_, Option.getD_some]
  have wqqx : qqw_ L κ ow x := ⟨hLx, (ro_o hkx (by decide))⟩
  obtain ⟨s_13, hs_13⟩ : ∃ z, QTq I J x = z := ⟨_, rfl⟩
  refine g_lo (is := [0]) (lo2 := [(0, .ref x)]) rfl ?_
  refine g_aload_n C 0 dX12_readBracket_0 rfl rfl ?_
  have f_14 : s_13.om = x_2 := (congrArg QT_.om hs_13).symm.trans hx_2
  refine g_callVI C K (c_X12_readOr_7 W9 hLx hkx   hU  (by rw [hx_1, hx_2]; omega) (hwi)) hLx hkx (by decide) rfl v_12_413 rfl ⟨rfl, rfl⟩ ⟨Nat.le_of_ble_eq_true rfl, Nat.le_of_ble_eq_true rfl⟩ (Nat.le_of_ble_eq_true rfl) ⟨Nat.le_of_ble_eq_true rfl, Nat.le_of_ble_eq_true rfl⟩ dX12_readBracket_1 rfl (st := []) (fun x_15 I_16 J_17 h_18 => ?_)
  obtain ⟨hUI_16, hFI_16, hGJ_17, rx_15, fx_15, ex_15⟩ := h_18
  have hF_19 := fq_tr hF hFI_16 (by decide)
  have hG_20 := fq_tr hG hGJ_17 (by decide)
  obtain ⟨s_22, hs_22⟩ : ∃ z, MTq I_16 J_17 x b_8 = z := ⟨_, rfl⟩
  obtain ⟨s_23, hs_23⟩ : ∃ z, NRq I_16 J_17 x b_10 b_11 = z := ⟨_, rfl⟩
  obtain ⟨s_24, hs_24⟩ : ∃ z, QTq I_16 J_17 x = z := ⟨_, rfl⟩
  have c_21 : mOrK 1 (s_5) (s_7) (s_9) (s_12) (s_13) = (x_15, s_22, s_23, s_24) := by have q := fx_15; simp only [evqx, ezqx, emqx, enqx, eqqx, hs_5, hs_7, hs_9, hs_12, hs_13, hs_22, hs_23, hs_24] at q; exact q.symm
  have hs_25 : NVq I_16 J_17 x b_4 = s_5 := (vq_fq wvqx hFI_16 hGJ_17 (by decide) (by decide)).trans hs_5
  have hs_26 : NWq I_16 J_17 x b_6 = s_7 := (zq_fq wzqx hFI_16 hGJ_17 (by decide) (by decide)).trans hs_7
  obtain ⟨x_27, hx_27, rx_27⟩ := ex_getw (I := I_16) (a := x) (j := 47) (lo := 0) (hi := 60) hUI_16.1 hLx (ro_o hkx (by decide)) rfl
  obtain ⟨x_28, hx_28, rx_28⟩ := ex_getw (I := I_16) (a := x) (j := 50) (lo := 0) (hi := 59) hUI_16.1 hLx (ro_o hkx (by decide)) rfl
  obtain ⟨x_29, hx_29, rx_29⟩ := ex_getw (I := I_16) (a := x) (j := 48) (lo := 0) (hi := 20) hUI_16.1 hLx (ro_o hkx (by decide)) rfl
  have f_30 : s_24.om = x_29 := (congrArg QT_.om hs_24).symm.trans hx_29
  refine g_if_ne C (tgt := 9) dX12_readBracket_4 (by decide) (fun h_31 => ?_) (fun h_31 => ?_)
  · skip
    have n_32 : ¬ x_15 = 0 := h_31
    have r_33 := ne_lo (lo := 1) n_32 rx_15 rc_0 rfl (by decide)
    have f_34 := sz_v hx_1 hx_2 hx_27 hx_29 hx_28 (ex_15.1 n_32)
    refine g_aload_n C 0 dX12_readBracket_9 rfl rfl ?_
    refine g_bipush C (v := 41) dX12_readBracket_10 (by decide) ?_
    obtain ⟨x_35, hx_35, rx_35⟩ := ex_getw (I := I_16) (a := x) (j := 7) (lo := 0) (hi := 4) hUI_16.1 hLx (ro_o hkx (by decide)) rfl
    have f_36 : s_22.kind = x_35 := (congrArg MT_.kind hs_22).symm.trans hx_35
    refine g_callVI C K (c_X12_isSign W9 hLx hkx 41 (rg_w rc_41 (by decide) (by decide)) hUI_16) hLx hkx (by decide) rfl v_12_159 rfl ⟨rfl, rfl⟩ ⟨Nat.le_of_ble_eq_true rfl, Nat.le_of_ble_eq_true rfl⟩ (Nat.le_of_ble_eq_true rfl) ⟨Nat.le_of_ble_eq_true rfl, Nat.le_of_ble_eq_true rfl⟩ dX12_readBracket_12 rfl (st := []) (fun x_37 I_38 J_39 h_40 => ?_)
    obtain ⟨rfl, rfl, rx_37, fx_37, ex_37⟩ := h_40
    have c_41 : mIsSign (41) (s_22) = x_37 := by have q := fx_37; simp only [emqx, hs_22] at q; exact q.symm
    have q_42 := hx_35
    refine g_if_ne C (tgt := 24) dX12_readBracket_15 (by decide) (fun h_43 => ?_) (fun h_43 => ?_)
    · skip
      have n_44 : ¬ x_37 = 0 := h_43
      have r_45 := ne_lo (lo := 1) n_44 rx_37 rc_0 rfl (by decide)
      have r_46 := rg_i rx_35 (eq_rg q_42.symm ((ex_37) n_44)) (lo := 4) (hi := 4) (by decide) (by decide)
      refine g_aload_n C 0 dX12_readBracket_24 rfl rfl ?_
      refine g_callVV C K (c_X12_go W9 hLx hkx   hUI_16) hLx hkx (by decide) rfl v_12_156 rfl ⟨rfl, rfl⟩ ⟨Nat.le_of_ble_eq_true rfl, Nat.le_of_ble_eq_true rfl⟩ (Nat.le_of_ble_eq_true rfl) ⟨Nat.le_of_ble_eq_true rfl, Nat.le_of_ble_eq_true rfl⟩ dX12_readBracket_25 rfl (st := []) (fun I_48 J_49 h_50 => ?_)
      obtain ⟨hUI_48, hFI_48, hGJ_49, fx_47, ex_47⟩ := h_50
      have hF_51 := fq_tr hF_19 hFI_48 (by decide)
      have hG_52 := fq_tr hG_20 hGJ_49 (by decide)
      obtain ⟨s_54, hs_54⟩ : ∃ z, MTq I_48 J_49 x b_8 = z := ⟨_, rfl⟩
      have c_53 : mGo (s_22) = s_54 := by have q := fx_47; simp only [emqx, hs_22, hs_54] at q; exact q.symm
      have hs_55 : NVq I_48 J_49 x b_4 = s_5 := (vq_fq wvqx hFI_48 hGJ_49 (by decide) (by decide)).trans hs_25
      have hs_56 : NWq I_48 J_49 x b_6 = s_7 := (zq_fq wzqx hFI_48 hGJ_49 (by decide) (by decide)).trans hs_26
      have hs_57 : NRq I_48 J_49 x b_10 b_11 = s_23 := (nq_fq wnqx hFI_48 hGJ_49 (by decide) (by decide)).trans hs_23
      have hs_58 : QTq I_48 J_49 x = s_24 := (qq_fq wqqx hFI_48 hGJ_49 (by decide) (by decide)).trans hs_24
      refine g_iconst C (v := 1) dX12_readBracket_28 (by decide) ?_
      exact g_zret (ty := .boolean) (r := 1) B K rfl (rfl) ⟨hUI_48, hF_51, hG_52, rg_w rc_1 (by decide) (by decide), (by simp only [mBrK, mBadQ, evqx, hs_55, hs_5, ezqx, hs_56, hs_7, emqx, hs_54, hs_9, enqx, hs_57, hs_12, eqqx, hs_58, hs_13, hx_1, hx_2, hx_3, f_14, c_21, hx_27, hx_28, hx_29, f_30, h_31, hx_35, f_36, c_41, h_43, c_53, if_true, if_false, mqM_tp, mqM_size, mqM_limit, mqM_to, mqM_frm, mqM_kind, mqM_number, mqM_sign, mqM_word, MT_.w_tp, MT_.w_size, MT_.w_limit, MT_.w_to, MT_.w_frm, MT_.w_kind, MT_.w_number, MT_.w_sign, MT_.w_word, nqM_rd, nqM_rn, nqM_taped, nqM_mfault, nqM_mplace, nqM_told, nqM_hl, nqM_hd, NR_.w_rd, NR_.w_rn, NR_.w_taped, NR_.w_mfault, NR_.w_mplace, NR_.w_told, NR_.w_hl, NR_.w_hd, qqM_om, QT_.w_om, vqM_nv, NV_.w_nv, zqM_nw, NW_.w_nw]), (fun _ => (sz_m hx_1 hx_2 (fq_at hFI_48 hLx hkx (by decide) (by decide) hx_27) (fq_at hFI_48 hLx hkx (by decide) (by decide) hx_29) (fq_at hFI_48 hLx hkx (by decide) (by decide) hx_28) ⟨by omega, by omega, by omega, by omega⟩)), (fq_at hFI_48 hLx hkx (by decide) (by decide) ex_15.2)⟩ dX12_readBracket_29
    · skip
      have r_59 := (⟨(rx_37).1, (eq_rg (h_43) rc_0).2⟩ : Rg 0 0 x_37)
      refine g_aload_n C 0 dX12_readBracket_18 rfl rfl ?_
      refine g_iconst C (v := 1) dX12_readBracket_19 (by decide) ?_
      refine g_callVI C K (c_X12_bad W9 hLx hkx 1 (rg_w rc_1 (by decide) (by decide)) hUI_16) hLx hkx (by decide) rfl v_12_146 rfl ⟨rfl, rfl⟩ ⟨Nat.le_of_ble_eq_true rfl, Nat.le_of_ble_eq_true rfl⟩ (Nat.le_of_ble_eq_true rfl) ⟨Nat.le_of_ble_eq_true rfl, Nat.le_of_ble_eq_true rfl⟩ dX12_readBracket_20 rfl (st := []) (fun x_60 I_61 J_62 h_63 => ?_)
      obtain ⟨hUI_61, hFI_61, hGJ_62, rx_60, fx_60⟩ := h_63
      have hF_64 := fq_tr hF_19 hFI_61 (by decide)
      have hG_65 := fq_tr hG_20 hGJ_62 (by decide)
      obtain ⟨s_67, hs_67⟩ : ∃ z, MTq I_61 J_62 x b_8 = z := ⟨_, rfl⟩
      obtain ⟨s_68, hs_68⟩ : ∃ z, NRq I_61 J_62 x b_10 b_11 = z := ⟨_, rfl⟩
      have c_66 : mBad (1) (s_22) (s_23) = (x_60, s_67, s_68) := by have q := fx_60; simp only [emqx, enqx, hs_22, hs_23, hs_67, hs_68] at q; exact q.symm
      have hs_69 : NVq I_61 J_62 x b_4 = s_5 := (vq_fq wvqx hFI_61 hGJ_62 (by decide) (by decide)).trans hs_25
      have hs_70 : NWq I_61 J_62 x b_6 = s_7 := (zq_fq wzqx hFI_61 hGJ_62 (by decide) (by decide)).trans hs_26
      have hs_71 : QTq I_61 J_62 x = s_24 := (qq_fq wqqx hFI_61 hGJ_62 (by decide) (by decide)).trans hs_24
      exact g_zret (ty := .boolean) (r := x_60) B K rfl (nar_z (rg_w rx_60 (by decide) (by decide))) ⟨hUI_61, hF_64, hG_65, rg_w rx_60 (by decide) (by decide), (by simp only [mBrK, mBadQ, evqx, hs_69, hs_5, ezqx, hs_70, hs_7, emqx, hs_67, hs_9, enqx, hs_68, hs_12, eqqx, hs_71, hs_13, hx_1, hx_2, hx_3, f_14, c_21, hx_27, hx_28, hx_29, f_30, h_31, hx_35, f_36, c_41, (eq_true h_43), c_66, if_true, if_false, mqM_tp, mqM_size, mqM_limit, mqM_to, mqM_frm, mqM_kind, mqM_number, mqM_sign, mqM_word, MT_.w_tp, MT_.w_size, MT_.w_limit, MT_.w_to, MT_.w_frm, MT_.w_kind, MT_.w_number, MT_.w_sign, MT_.w_word, nqM_rd, nqM_rn, nqM_taped, nqM_mfault, nqM_mplace, nqM_told, nqM_hl, nqM_hd, NR_.w_rd, NR_.w_rn, NR_.w_taped, NR_.w_mfault, NR_.w_mplace, NR_.w_told, NR_.w_hl, NR_.w_hd, qqM_om, QT_.w_om, vqM_nv, NV_.w_nv, zqM_nw, NW_.w_nw]), (fun q => ne_no q rx_60 rc_0), (fq_at hFI_61 hLx hkx (by decide) (by decide) ex_15.2)⟩ dX12_readBracket_23
  · skip
    have r_72 := (⟨(rx_15).1, (eq_rg (h_31) rc_0).2⟩ : Rg 0 0 x_15)
    refine g_iconst C (v := 0) dX12_readBracket_7 (by decide) ?_
    exact g_zret (ty := .boolean) (r := 0) B K rfl (rfl) ⟨hUI_16, hF_19, hG_20, rg_w rc_0 (by decide) (by decide), (by simp only [mBrK, mBadQ, evqx, hs_25, hs_5, ezqx, hs_26, hs_7, emqx, hs_22, hs_9, enqx, hs_23, hs_12, eqqx, hs_24, hs_13, hx_1, hx_2, hx_3, f_14, c_21, hx_27, hx_28, hx_29, f_30, (eq_true h_31), if_true, if_false, mqM_tp, mqM_size, mqM_limit, mqM_to, mqM_frm, mqM_kind, mqM_number, mqM_sign, mqM_word, MT_.w_tp, MT_.w_size, MT_.w_limit, MT_.w_to, MT_.w_frm, MT_.w_kind, MT_.w_number, MT_.w_sign, MT_.w_word, nqM_rd, nqM_rn, nqM_taped, nqM_mfault, nqM_mplace, nqM_told, nqM_hl, nqM_hd, NR_.w_rd, NR_.w_rn, NR_.w_taped, NR_.w_mfault, NR_.w_mplace, NR_.w_told, NR_.w_hl, NR_.w_hd, qqM_om, QT_.w_om, vqM_nv, NV_.w_nv, zqM_nw, NW_.w_nw]), (fun q => absurd rfl q), ex_15.2⟩ dX12_readBracket_8
set_option maxRecDepth 100000 in
set_option maxHeartbeats 8000000 in
theorem c_X12_readNot_7 {l : Launch} {D : va_G} {cy : Nat → ClassId} {L : List Nat} {κ ln : Nat → Nat} {R : Nat → Nat → Option Nat} {I : Nat → Nat → Int32} {J : Nat → Nat → Int64} {ow : Nat → Nat × Nat} (W9 : ∀ a ∈ L, Shp L κ ln R ow a) {x : Nat} (hLx : x ∈ L) (hkx : κ x = 12) (hU : Iw L κ R ow I) (hn : (I x 47).toInt ≤ 2 * (I x 48).toInt) (hwi : I x 49 = 7) : CtI l yX12_readNot cX12_readNot 1 (some .boolean) { frames := 8, cells := 0, slots := 0, locals := 177 } D cy L κ ln R I J [.ref x] (fun r I2 J2 => Iw L κ R ow I2 ∧ Fq L κ ow [1205, 1206, 1207, 1208, 1209, 1210, 1211, 1213, 1247, 1248, 1249, 1250, 86600] I I2 ∧ Fq L κ ow [1212] J J2 ∧ Rg 0 1 r ∧ ((r, MTf R I2 J2 x, NRf R I2 J2 x, QTf R I2 J2 x) = mNtK 1 (NVf R I J x) (NWf R I J x) (MTf R I J x) (NRf R I J x) (QTf R I J x)) ∧ (¬ r = 0 → Sz_ x I I2 0) ∧ (I2 x 49 = 7)) := by
  obtain ⟨x_1, hx_1, rx_1⟩ := ex_getw (I := I) (a := x) (j := 47) (lo := 0) (hi := 60) hU.1 hLx (ro_o hkx (by decide)) rfl
  obtain ⟨x_2, hx_2, rx_2⟩ := ex_getw (I := I) (a := x) (j := 48) (lo := 0) (hi := 20) hU.1 hLx (ro_o hkx (by decide)) rfl
  rw [hx_1, hx_2] at hn
  obtain ⟨x_3, hx_3, rx_3⟩ := ex_getw (I := I) (a := x) (j := 50) (lo := 0) (hi := 59) hU.1 hLx (ro_o hkx (by decide)) rfl
  refine CtI.of (by decide +kernel) (Nat.le_of_ble_eq_true rfl) ?_
  intro p e s m below meth c B K
  have C := B.1
  have hF : Fq L κ ow [1205, 1206, 1207, 1208, 1209, 1210, 1211, 1213, 1247, 1248, 1249, 1250, 86600] I I := fq_rf
  have hG : Fq L κ ow [1212] J J := fq_rf
  obtain ⟨b_4, hb_4, hb_4L, hb_4k, hb_4n, hb_4o⟩ := shp_a (W9 x hLx) hkx 19 15 13 rfl (by decide)
  have evqx : ∀ I J, NVf R I J x = NVq I J x b_4 := fun I J => by simp only [NVf, rr_, Option.getD_some, hb_4]
  have wvqx : vqw_ L κ ow x b_4 := ⟨⟨hLx, hb_4L⟩, ⟨(ro_o hkx (by decide)), (ro_a hb_4k (by decide) hb_4o hkx rfl)⟩⟩
  obtain ⟨s_5, hs_5⟩ : ∃ z, NVq I J x b_4 = z := ⟨_, rfl⟩
  obtain ⟨b_6, hb_6, hb_6L, hb_6k, hb_6n, hb_6o⟩ := shp_a (W9 x hLx) hkx 14 14 389 rfl (by decide)
  have ezqx : ∀ I J, NWf R I J x = NWq I J x b_6 := fun I J => by simp only [NWf, rr_, Option.getD_some, hb_6]
  have wzqx : zqw_ L κ ow x b_6 := ⟨⟨hLx, hb_6L⟩, ⟨(ro_o hkx (by decide)), (ro_a hb_6k (by decide) hb_6o hkx rfl)⟩⟩
  obtain ⟨s_7, hs_7⟩ : ∃ z, NWq I J x b_6 = z := ⟨_, rfl⟩
  obtain ⟨b_8, hb_8, hb_8L, hb_8k, hb_8n, hb_8o⟩ := shp_a (W9 x hLx) hkx 1 14 940 rfl (by decide)
  have emqx : ∀ I J, MTf R I J x = MTq I J x b_8 := fun I J => by simp only [MTf, rr_, Option.getD_some, hb_8]
  have wmqx : mqw_ L κ ow x b_8 := ⟨⟨hLx, hb_8L⟩, ⟨(ro_o hkx (by decide)), (ro_a hb_8k (by decide) hb_8o hkx rfl)⟩⟩
  obtain ⟨s_9, hs_9⟩ : ∃ z, MTq I J x b_8 = z := ⟨_, rfl⟩
  obtain ⟨b_10, hb_10, hb_10L, hb_10k, hb_10n, hb_10o⟩ := shp_a (W9 x hLx) hkx 15 14 72 rfl (by decide)
  obtain ⟨b_11, hb_11, hb_11L, hb_11k, hb_11n, hb_11o⟩ := shp_a (W9 x hLx) hkx 20 15 13 rfl (by decide)
  have enqx : ∀ I J, NRf R I J x = NRq I J x b_10 b_11 := fun I J => by simp only [NRf, rr_, Option.getD_some, hb_10, hb_11]
  have wnqx : nqw_ L κ ow x b_10 b_11 := ⟨⟨hLx, hb_10L, hb_11L⟩, ⟨(ro_o hkx (by decide)), (ro_a hb_10k (by decide) hb_10o hkx rfl), (ro_a hb_11k (by decide) hb_11o hkx rfl)⟩⟩
  obtain ⟨s_12, hs_12⟩ : ∃ z, NRq I J x b_10 b_11 = z := ⟨_, rfl⟩
  have eqqx : ∀ I J, QTf R I J x = QTq I J x := fun I J => by simp only [QTf, rr_, Option.getD_some]
  have wqqx : qqw_ L κ ow x := ⟨hLx, (ro_o hkx (by decide))⟩
  obtain ⟨s_13, hs_13⟩ : ∃ z, QTq I J x = z := ⟨_, rfl⟩
  refine g_lo (is := [0]) (lo2 := [(0, .ref x)]) rfl ?_
  refine g_aload_n C 0 dX12_readNot_0 rfl rfl ?_
  have f_14 : s_13.om = x_2 := (congrArg QT_.om hs_13).symm.trans hx_2
  refine g_callVI C K (c_X12_readSaid_7 W9 hLx hkx   hU  (by rw [hx_1, hx_2]; omega) (hwi)) hLx hkx (by decide) rfl v_12_392 rfl ⟨rfl, rfl⟩ ⟨Nat.le_of_ble_eq_true rfl, Nat.le_of_ble_eq_true rfl⟩ (Nat.le_of_ble_eq_true rfl) ⟨Nat.le_of_ble_eq_true rfl, Nat.le_of_ble_eq_true rfl⟩ dX12_readNot_1 rfl (st := []) (fun x_15 I_16 J_17 h_18 => ?_)
  obtain ⟨hUI_16, hFI_16, hGJ_17, rx_15, fx_15, ex_15⟩ := h_18
  have hF_19 := fq_tr hF hFI_16 (by decide)
  have hG_20 := fq_tr hG hGJ_17 (by decide)
  obtain ⟨s_22, hs_22⟩ : ∃ z, MTq I_16 J_17 x b_8 = z := ⟨_, rfl⟩
  obtain ⟨s_23, hs_23⟩ : ∃ z, NRq I_16 J_17 x b_10 b_11 = z := ⟨_, rfl⟩
  obtain ⟨s_24, hs_24⟩ : ∃ z, QTq I_16 J_17 x = z := ⟨_, rfl⟩
  have c_21 : mSaid 1 (s_5) (s_7) (s_9) (s_12) (s_13) = (x_15, s_22, s_23, s_24) := by have q := fx_15; simp only [evqx, ezqx, emqx, enqx, eqqx, hs_5, hs_7, hs_9, hs_12, hs_13, hs_22, hs_23, hs_24] at q; exact q.symm
  have hs_25 : NVq I_16 J_17 x b_4 = s_5 := (vq_fq wvqx hFI_16 hGJ_17 (by decide) (by decide)).trans hs_5
  have hs_26 : NWq I_16 J_17 x b_6 = s_7 := (zq_fq wzqx hFI_16 hGJ_17 (by decide) (by decide)).trans hs_7
  obtain ⟨x_27, hx_27, rx_27⟩ := ex_getw (I := I_16) (a := x) (j := 47) (lo := 0) (hi := 60) hUI_16.1 hLx (ro_o hkx (by decide)) rfl
  obtain ⟨x_28, hx_28, rx_28⟩ := ex_getw (I := I_16) (a := x) (j := 50) (lo := 0) (hi := 59) hUI_16.1 hLx (ro_o hkx (by decide)) rfl
  obtain ⟨x_29, hx_29, rx_29⟩ := ex_getw (I := I_16) (a := x) (j := 48) (lo := 0) (hi := 20) hUI_16.1 hLx (ro_o hkx (by decide)) rfl
  have f_30 : s_24.om = x_29 := (congrArg QT_.om hs_24).symm.trans hx_29
  refine g_if_ne C (tgt := 9) dX12_readNot_4 (by decide) (fun h_31 => ?_) (fun h_31 => ?_)
  · skip
    have n_32 : ¬ x_15 = 0 := h_31
    have r_33 := ne_lo (lo := 1) n_32 rx_15 rc_0 rfl (by decide)
    have f_34 := sz_v hx_1 hx_2 hx_27 hx_29 hx_28 (ex_15.1 n_32)
    refine g_aload_n C 0 dX12_readNot_9 rfl rfl ?_
    refine g_aload_n C 0 dX12_readNot_10 rfl rfl ?_
    refine g_iconst C (v := 1) dX12_readNot_11 (by decide) ?_
    refine g_aload_n C 0 dX12_readNot_12 rfl rfl ?_
    refine g_getI C K hLx hkx f_12_386 (v := x_28) hx_28 dX12_readNot_13 ?_
    refine g_iconst C (v := 0) dX12_readNot_16 (by decide) ?_
    refine g_iconst C (v := 0) dX12_readNot_17 (by decide) ?_
    have r_35 := (show Rg 0 59 x_27 from by have q1 := rx_27; have q2 := rx_29; unfold Rg at *; omega)
    refine g_callVI C K (c_X12_saysOne W9 hLx hkx 1 x_28 0 0 (rg_w rc_1 (by decide) (by decide)) (rx_28) (rg_w rc_0 (by decide) (by decide)) hUI_16  (eq_rg hx_27 (r_35)) (by rw [hx_27]; exact ⟨fun _ => ⟨by have := (rx_28).1; omega, by omega⟩, fun q => absurd q (by decide), fun q => absurd q (by decide)⟩)) hLx hkx (by decide) rfl v_12_389 rfl ⟨rfl, rfl⟩ ⟨Nat.le_of_ble_eq_true rfl, Nat.le_of_ble_eq_true rfl⟩ (Nat.le_of_ble_eq_true rfl) ⟨Nat.le_of_ble_eq_true rfl, Nat.le_of_ble_eq_true rfl⟩ dX12_readNot_18 rfl (st := [.ref x]) (fun x_36 I_37 J_38 h_39 => ?_)
    obtain ⟨hUI_37, hFI_37, hGJ_38, rx_36, ex_36⟩ := h_39
    have hF_40 := fq_tr hF_19 hFI_37 (by decide)
    have hG_41 := fq_tr hG_20 hGJ_38 (by decide)
    have hs_42 : NVq I_37 J_38 x b_4 = s_5 := (vq_fq wvqx hFI_37 hGJ_38 (by decide) (by decide)).trans hs_25
    have hs_43 : NWq I_37 J_38 x b_6 = s_7 := (zq_fq wzqx hFI_37 hGJ_38 (by decide) (by decide)).trans hs_26
    have hs_44 : MTq I_37 J_38 x b_8 = s_22 := (mq_fq wmqx hFI_37 hGJ_38 (by decide) (by decide)).trans hs_22
    have hs_45 : NRq I_37 J_38 x b_10 b_11 = s_23 := (nq_fq wnqx hFI_37 hGJ_38 (by decide) (by decide)).trans hs_23
    have hs_46 : QTq I_37 J_38 x = s_24 := (qq_fq wqqx hFI_37 hGJ_38 (by decide) (by decide)).trans hs_24
    obtain ⟨x_47, hx_47, rx_47, tx_47, ux_47⟩ := sa_b (lo := 1) (hi := 60) ex_36 hx_27 r_35 (by decide) (by decide)
    have r_48 := (show Rg 0 59 x_36 from by have q1 := ux_47; have q2 := r_35; unfold Rg at *; omega)
    refine h_putI C K hLx hkx f_12_386 p_12_50 dX12_readNot_21 (fun I_49 hI_49 => ?_)
    have hU_50 := iw_put W9 hUI_37 hI_49 (ro_o hkx (by decide)) (lo := 0) (hi := 59) (rfl) (r_48) rfl
    have hF_51 := fq_puto hF_40 hI_49 hkx (by decide) (by decide)
    have hs_52 : NVq I_49 J_38 x b_4 = s_5 := by rw [hI_49]; exact (vq_oI wvqx (ro_o hkx (by decide)) (by decide)).trans hs_42
    have hs_53 : NWq I_49 J_38 x b_6 = s_7 := by rw [hI_49]; exact (zq_oI wzqx (ro_o hkx (by decide)) (by decide)).trans hs_43
    have hs_54 : MTq I_49 J_38 x b_8 = s_22 := by rw [hI_49]; exact (mq_uIt wmqx (by decide)).trans hs_44
    have hs_55 : NRq I_49 J_38 x b_10 b_11 = s_23 := by rw [hI_49]; exact (nq_uIt wnqx (by decide)).trans hs_45
    have hs_56 : QTq I_49 J_38 x = s_24 := by rw [hI_49]; exact (qq_uIt wqqx (by decide)).trans hs_46
    refine g_iconst C (v := 1) dX12_readNot_24 (by decide) ?_
    exact g_zret (ty := .boolean) (r := 1) B K rfl (rfl) ⟨hU_50, hF_51, hG_41, rg_w rc_1 (by decide) (by decide), (by simp only [mNtK, evqx, hs_52, hs_5, ezqx, hs_53, hs_7, emqx, hs_54, hs_9, enqx, hs_55, hs_12, eqqx, hs_56, hs_13, hx_1, hx_2, hx_3, f_14, c_21, hx_27, hx_28, hx_29, f_30, h_31, hx_47, if_true, if_false, mqM_tp, mqM_size, mqM_limit, mqM_to, mqM_frm, mqM_kind, mqM_number, mqM_sign, mqM_word, MT_.w_tp, MT_.w_size, MT_.w_limit, MT_.w_to, MT_.w_frm, MT_.w_kind, MT_.w_number, MT_.w_sign, MT_.w_word, nqM_rd, nqM_rn, nqM_taped, nqM_mfault, nqM_mplace, nqM_told, nqM_hl, nqM_hd, NR_.w_rd, NR_.w_rn, NR_.w_taped, NR_.w_mfault, NR_.w_mplace, NR_.w_told, NR_.w_hl, NR_.w_hd, qqM_om, QT_.w_om, vqM_nv, NV_.w_nv, zqM_nw, NW_.w_nw]), (fun _ => (sz_m hx_1 hx_2 (kp_j hI_49 (by decide) hx_47) (kp_j hI_49 (by decide) (fq_at hFI_37 hLx hkx (by decide) (by decide) hx_29)) (kp_s hI_49) ⟨by have := tx_47; omega, by have := tx_47; omega, by have := tx_47; omega, by have := tx_47; omega⟩)), (kp_j hI_49 (by decide) (fq_at hFI_37 hLx hkx (by decide) (by decide) ex_15.2))⟩ dX12_readNot_25
  · skip
    have r_57 := (⟨(rx_15).1, (eq_rg (h_31) rc_0).2⟩ : Rg 0 0 x_15)
    refine g_iconst C (v := 0) dX12_readNot_7 (by decide) ?_
    exact g_zret (ty := .boolean) (r := 0) B K rfl (rfl) ⟨hUI_16, hF_19, hG_20, rg_w rc_0 (by decide) (by decide), (by simp only [mNtK, evqx, hs_25, hs_5, ezqx, hs_26, hs_7, emqx, hs_22, hs_9, enqx, hs_23, hs_12, eqqx, hs_24, hs_13, hx_1, hx_2, hx_3, f_14, c_21, hx_27, hx_28, hx_29, f_30, (eq_true h_31), if_true, if_false, mqM_tp, mqM_size, mqM_limit, mqM_to, mqM_frm, mqM_kind, mqM_number, mqM_sign, mqM_word, MT_.w_tp, MT_.w_size, MT_.w_limit, MT_.w_to, MT_.w_frm, MT_.w_kind, MT_.w_number, MT_.w_sign, MT_.w_word, nqM_rd, nqM_rn, nqM_taped, nqM_mfault, nqM_mplace, nqM_told, nqM_hl, nqM_hd, NR_.w_rd, NR_.w_rn, NR_.w_taped, NR_.w_mfault, NR_.w_mplace, NR_.w_told, NR_.w_hl, NR_.w_hd, qqM_om, QT_.w_om, vqM_nv, NV_.w_nv, zqM_nw, NW_.w_nw]), (fun q => absurd rfl q), ex_15.2⟩ dX12_readNot_8
set_option maxRecDepth 100000 in
set_option maxHeartbeats 8000000 in
theorem c_X12_readSaid_6 {l : Launch} {D : va_G} {cy : Nat → ClassId} {L : List Nat} {κ ln : Nat → Nat} {R : Nat → Nat → Option Nat} {I : Nat → Nat → Int32} {J : Nat → Nat → Int64} {ow : Nat → Nat × Nat} (W9 : ∀ a ∈ L, Shp L κ ln R ow a) {x : Nat} (hLx : x ∈ L) (hkx : κ x = 12) (hU : Iw L κ R ow I) (hn : (I x 47).toInt ≤ 2 * (I x 48).toInt) (hwi : I x 49 = 6) : CtI l yX12_readSaid cX12_readSaid 4 (some .boolean) { frames := 11, cells := 0, slots := 0, locals := 239 } D cy L κ ln R I J [.ref x] (fun r I2 J2 => Iw L κ R ow I2 ∧ Fq L κ ow [1205, 1206, 1207, 1208, 1209, 1210, 1211, 1213, 1247, 1248, 1249, 1250, 86600] I I2 ∧ Fq L κ ow [1212] J J2 ∧ Rg 0 1 r ∧ ((r, MTf R I2 J2 x, NRf R I2 J2 x, QTf R I2 J2 x) = mSaid 2 (NVf R I J x) (NWf R I J x) (MTf R I J x) (NRf R I J x) (QTf R I J x)) ∧ (¬ r = 0 → Sz_ x I I2 1) ∧ (I2 x 49 = 6)) := by
  obtain ⟨x_1, hx_1, rx_1⟩ := ex_getw (I := I) (a := x) (j := 47) (lo := 0) (hi := 60) hU.1 hLx (ro_o hkx (by decide)) rfl
  obtain ⟨x_2, hx_2, rx_2⟩ := ex_getw (I := I) (a := x) (j := 48) (lo := 0) (hi := 20) hU.1 hLx (ro_o hkx (by decide)) rfl
  rw [hx_1, hx_2] at hn
  obtain ⟨x_3, hx_3, rx_3⟩ := ex_getw (I := I) (a := x) (j := 50) (lo := 0) (hi := 59) hU.1 hLx (ro_o hkx (by decide)) rfl
  refine CtI.of (by decide +kernel) (Nat.le_of_ble_eq_true rfl) ?_
  intro p e s m below meth c B K
  have C := B.1
  have hF : Fq L κ ow [1205, 1206, 1207, 1208, 1209, 1210, 1211, 1213, 1247, 1248, 1249, 1250, 86600] I I := fq_rf
  have hG : Fq L κ ow [1212] J J := fq_rf
  obtain ⟨b_4, hb_4, hb_4L, hb_4k, hb_4n, hb_4o⟩ := shp_a (W9 x hLx) hkx 19 15 13 rfl (by decide)
  have evqx : ∀ I J, NVf R I J x = NVq I J x b_4 := fun I J => by simp only [NVf, rr_, Option.getD_some, hb_4]
  have wvqx : vqw_ L κ ow x b_4 := ⟨⟨hLx, hb_4L⟩, ⟨(ro_o hkx (by decide)), (ro_a hb_4k (by decide) hb_4o hkx rfl)⟩⟩
  obtain ⟨s_5, hs_5⟩ : ∃ z, NVq I J x b_4 = z := ⟨_, rfl⟩
  obtain ⟨b_6, hb_6, hb_6L, hb_6k, hb_6n, hb_6o⟩ := shp_a (W9 x hLx) hkx 14 14 389 rfl (by decide)
  have ezqx : ∀ I J, NWf R I J x = NWq I J x b_6 := fun I J => by simp only [NWf, rr_, Option.getD_some, hb_6]
  have wzqx : zqw_ L κ ow x b_6 := ⟨⟨hLx, hb_6L⟩, ⟨(ro_o hkx (by decide)), (ro_a hb_6k (by decide) hb_6o hkx rfl)⟩⟩
  obtain ⟨s_7, hs_7⟩ : ∃ z, NWq I J x b_6 = z := ⟨_, rfl⟩
  obtain ⟨b_8, hb_8, hb_8L, hb_8k, hb_8n, hb_8o⟩ := shp_a (W9 x hLx) hkx 1 14 940 rfl (by decide)
  have emqx : ∀ I J, MTf R I J x = MTq I J x b_8 := fun I J => by simp only [MTf, rr_, Option.getD_some, hb_8]
  have wmqx : mqw_ L κ ow x b_8 := ⟨⟨hLx, hb_8L⟩, ⟨(ro_o hkx (by decide)), (ro_a hb_8k (by decide) hb_8o hkx rfl)⟩⟩
  obtain ⟨s_9, hs_9⟩ : ∃ z, MTq I J x b_8 = z := ⟨_, rfl⟩
  obtain ⟨b_10, hb_10, hb_10L, hb_10k, hb_10n, hb_10o⟩ := shp_a (W9 x hLx) hkx 15 14 72 rfl (by decide)
  obtain ⟨b_11, hb_11, hb_11L, hb_11k, hb_11n, hb_11o⟩ := shp_a (W9 x hLx) hkx 20 15 13 rfl (by decide)
  have enqx : ∀ I J, NRf R I J x = NRq I J x b_10 b_11 := fun I J => by simp only [NRf, rr_, Option.getD_some, hb_10, hb_11]
  have wnqx : nqw_ L κ ow x b_10 b_11 := ⟨⟨hLx, hb_10L, hb_11L⟩, ⟨(ro_o hkx (by decide)), (ro_a hb_10k (by decide) hb_10o hkx rfl), (ro_a hb_11k (by decide) hb_11o hkx rfl)⟩⟩
  obtain ⟨s_12, hs_12⟩ : ∃ z, NRq I J x b_10 b_11 = z := ⟨_, rfl⟩
  have eqqx : ∀ I J, QTf R I J x = QTq I J x := fun I J => by simp only [QTf, rr_, Option.getD_some]
  have wqqx : qqw_ L κ ow x := ⟨hLx, (ro_o hkx (by decide))⟩
  obtain ⟨s_13, hs_13⟩ : ∃ z, QTq I J x = z := ⟨_, rfl⟩
  refine g_lo (is := [0]) (lo2 := [(0, .ref x)]) rfl ?_
  have l_10 : ∀ (n_10 : Nat) (v_14 : Int32) (rv_14 : Rg 0 1 v_14) (v_15 : Int32) (rv_15 : Rg 18 28 v_15) (v_16 : Int32) (rv_16 : Rg 0 60 v_16) (v_17 : Int32) (rv_17 : Rg 0 20 v_17) (v_18 : Int32) (rv_18 : Rg 0 59 v_18) (v_19 : Int32) (rv_19 : Rg 0 4 v_19) (q_20 : I x 47 = v_16) (q_21 : I x 48 = v_17) (q_22 : I x 49 = 6) (q_23 : I x 50 = v_18) (q_24 : I x 7 = v_19) (hq_25 : mSd1 (mBrK 1 s_5 s_7) (mNtK 1 s_5 s_7) s_5 s_7 v_14 (mww v_15 s_9) s_9 s_12 s_13 = mSaid 2 s_5 s_7 s_9 s_12 s_13) (hj_26 : v_16.toInt = x_1.toInt ∧ v_17.toInt = x_2.toInt) (hm_27 : 28 < (v_15 : Int32).toInt + (n_10 : Int)), WG p l e { frames := 11, cells := 0, slots := 0, locals := 239 } s m ([.ref x] : List Value).toArray below meth c 4 0 0 (MQ below (Qi_ D cy L κ ln R (fun r I2 J2 => Iw L κ R ow I2 ∧ Fq L κ ow [1205, 1206, 1207, 1208, 1209, 1210, 1211, 1213, 1247, 1248, 1249, 1250, 86600] I I2 ∧ Fq L κ ow [1212] J J2 ∧ Rg 0 1 r ∧ ((r, MTf R I2 J2 x, NRf R I2 J2 x, QTf R I2 J2 x) = mSaid 2 (NVf R I J x) (NWf R I J x) (MTf R I J x) (NRf R I J x) (QTf R I J x)) ∧ (¬ r = 0 → Sz_ x I I2 1) ∧ (I2 x 49 = 6))) ([.ref x] : List Value).toArray s 0 0 (Al_ L)) D cy (Al_ L) s.heap L κ ln R I J 10 [(0, .ref x), (1, .int v_14), (2, .int v_15)] [] := by
    intro n_10
    induction n_10 with
    | zero =>
      intro v_14 rv_14 v_15 rv_15 v_16 rv_16 v_17 rv_17 v_18 rv_18 v_19 rv_19 q_20 q_21 q_22 q_23 q_24 hq_25 hj_26 hm_27
      exact ms_0 rv_15 hm_27
    | succ n_10 ih_10 =>
      intro v_14 rv_14 v_15 rv_15 v_16 rv_16 v_17 rv_17 v_18 rv_18 v_19 rv_19 q_20 q_21 q_22 q_23 q_24 hq_25 hj_26 hm_27
      have hQ_28 := hq_25.symm
      have u_29 := mww_eq (w := v_15) (m := s_9) (rg_w rv_15 (by decide) (by decide))
      refine g_iload_n C 2 dX12_readSaid_10 rfl rfl ?_
      refine g_bipush C (v := 27) dX12_readSaid_11 (by decide) ?_
      refine g_icmp_gt C (tgt := 30) dX12_readSaid_13 (by decide) (fun h_30 => ?_) (fun h_30 => ?_)
      · skip
        have r_31 := lt_r (lo := 28) (h_30) rc_27 rv_15 (by decide)
        refine g_iload_n C 1 dX12_readSaid_30 rfl rfl ?_
        refine g_if_ne C (tgt := 46) dX12_readSaid_31 (by decide) (fun h_32 => ?_) (fun h_32 => ?_)
        · skip
          have n_33 : ¬ v_14 = 0 := h_32
          have r_34 := ne_lo (lo := 1) n_33 rv_14 rc_0 rfl (by decide)
          refine g_aload_n C 0 dX12_readSaid_46 rfl rfl ?_
          have f_35 : s_13.om = v_17 := (congrArg QT_.om hs_13).symm.trans q_21
          refine g_getI C K hLx hkx f_12_395 (v := v_17) q_21 dX12_readSaid_47 ?_
          refine g_bipush C (v := 20) dX12_readSaid_50 (by decide) ?_
          refine g_icmp_eq C (tgt := 64) dX12_readSaid_52 (by decide) (fun h_36 => ?_) (fun h_36 => ?_)
          · skip
            have r_37 := (⟨(eq_rg (h_36) rc_20).1, (rv_17).2⟩ : Rg 20 20 v_17)
            refine g_aload_n C 0 dX12_readSaid_64 rfl rfl ?_
            refine g_iconst C (v := 4) dX12_readSaid_65 (by decide) ?_
            refine g_callVI C K (c_X12_bad W9 hLx hkx 4 (rg_w rc_4 (by decide) (by decide)) hU) hLx hkx (by decide) rfl v_12_146 rfl ⟨rfl, rfl⟩ ⟨Nat.le_of_ble_eq_true rfl, Nat.le_of_ble_eq_true rfl⟩ (Nat.le_of_ble_eq_true rfl) ⟨Nat.le_of_ble_eq_true rfl, Nat.le_of_ble_eq_true rfl⟩ dX12_readSaid_66 rfl (st := []) (fun x_38 I_39 J_40 h_41 => ?_)
            obtain ⟨hUI_39, hFI_39, hGJ_40, rx_38, fx_38⟩ := h_41
            have hF_42 := fq_tr hF hFI_39 (by decide)
            have hG_43 := fq_tr hG hGJ_40 (by decide)
            obtain ⟨s_45, hs_45⟩ : ∃ z, MTq I_39 J_40 x b_8 = z := ⟨_, rfl⟩
            obtain ⟨s_46, hs_46⟩ : ∃ z, NRq I_39 J_40 x b_10 b_11 = z := ⟨_, rfl⟩
            have c_44 : mBad (4) (s_9) (s_12) = (x_38, s_45, s_46) := by have q := fx_38; simp only [emqx, enqx, hs_9, hs_12, hs_45, hs_46] at q; exact q.symm
            have hs_47 : NVq I_39 J_40 x b_4 = s_5 := (vq_fq wvqx hFI_39 hGJ_40 (by decide) (by decide)).trans hs_5
            have hs_48 : NWq I_39 J_40 x b_6 = s_7 := (zq_fq wzqx hFI_39 hGJ_40 (by decide) (by decide)).trans hs_7
            have hs_49 : QTq I_39 J_40 x = s_13 := (qq_fq wqqx hFI_39 hGJ_40 (by decide) (by decide)).trans hs_13
            exact g_zret (ty := .boolean) (r := x_38) B K rfl (nar_z (rg_w rx_38 (by decide) (by decide))) ⟨hUI_39, hF_42, hG_43, rg_w rx_38 (by decide) (by decide), (by (try simp only [h_30, h_32, f_35, (eq_true h_36), c_44, if_true, if_false, mqM_tp, mqM_size, mqM_limit, mqM_to, mqM_frm, mqM_kind, mqM_number, mqM_sign, mqM_word, MT_.w_tp, MT_.w_size, MT_.w_limit, MT_.w_to, MT_.w_frm, MT_.w_kind, MT_.w_number, MT_.w_sign, MT_.w_word, nqM_rd, nqM_rn, nqM_taped, nqM_mfault, nqM_mplace, nqM_told, nqM_hl, nqM_hd, NR_.w_rd, NR_.w_rn, NR_.w_taped, NR_.w_mfault, NR_.w_mplace, NR_.w_told, NR_.w_hl, NR_.w_hd, qqM_om, QT_.w_om, vqM_nv, NV_.w_nv, zqM_nw, NW_.w_nw] at hQ_28); (try simp only [h_30, h_32, f_35, (eq_true h_36), c_44, if_true, if_false, mqM_tp, mqM_size, mqM_limit, mqM_to, mqM_frm, mqM_kind, mqM_number, mqM_sign, mqM_word, MT_.w_tp, MT_.w_size, MT_.w_limit, MT_.w_to, MT_.w_frm, MT_.w_kind, MT_.w_number, MT_.w_sign, MT_.w_word, nqM_rd, nqM_rn, nqM_taped, nqM_mfault, nqM_mplace, nqM_told, nqM_hl, nqM_hd, NR_.w_rd, NR_.w_rn, NR_.w_taped, NR_.w_mfault, NR_.w_mplace, NR_.w_told, NR_.w_hl, NR_.w_hd, qqM_om, QT_.w_om, vqM_nv, NV_.w_nv, zqM_nw, NW_.w_nw] at u_29); simp only [mSd0, mSd1, mSd2, mBadQ, evqx, hs_47, hs_5, ezqx, hs_48, hs_7, emqx, hs_45, hs_9, enqx, hs_46, hs_12, eqqx, hs_49, hs_13, hQ_28, u_29, h_30, h_32, f_35, (eq_true h_36), c_44, if_true, if_false, mqM_tp, mqM_size, mqM_limit, mqM_to, mqM_frm, mqM_kind, mqM_number, mqM_sign, mqM_word, MT_.w_tp, MT_.w_size, MT_.w_limit, MT_.w_to, MT_.w_frm, MT_.w_kind, MT_.w_number, MT_.w_sign, MT_.w_word, nqM_rd, nqM_rn, nqM_taped, nqM_mfault, nqM_mplace, nqM_told, nqM_hl, nqM_hd, NR_.w_rd, NR_.w_rn, NR_.w_taped, NR_.w_mfault, NR_.w_mplace, NR_.w_told, NR_.w_hl, NR_.w_hd, qqM_om, QT_.w_om, vqM_nv, NV_.w_nv, zqM_nw, NW_.w_nw]), (fun q => ne_no q rx_38 rc_0), (fq_at hFI_39 hLx hkx (by decide) (by decide) q_22)⟩ dX12_readSaid_69
          · skip
            have n_50 : ¬ v_17 = 20 := h_36
            have r_51 := ne_hi (hi := 19) n_50 rv_17 rc_20 rfl (by decide)
            refine g_aload_n C 0 dX12_readSaid_55 rfl rfl ?_
            refine g_getI C K hLx hkx f_12_398 (v := 6) q_22 dX12_readSaid_56 ?_
            refine g_bipush C (v := 8) dX12_readSaid_59 (by decide) ?_
            refine g_icmp_ne C (tgt := 70) dX12_readSaid_61 (by decide) (fun h_52 => ?_) (fun h_52 => ?_)
            · skip
              refine g_aload_n C 0 dX12_readSaid_70 rfl rfl ?_
              refine g_dup C dX12_readSaid_71 rfl ?_
              refine g_getI C K hLx hkx f_12_395 (v := v_17) q_21 dX12_readSaid_72 ?_
              refine g_iconst C (v := 1) dX12_readSaid_75 (by decide) ?_
              obtain ⟨x_53, hx_53, rx_53, tx_53⟩ := ex_add 1 20 r_51 rc_1 (by decide) (by decide) (by decide) (by decide)
              refine g_iadd C (v := x_53) dX12_readSaid_76 hx_53 ?_
              refine h_putI C K hLx hkx f_12_395 p_12_48 dX12_readSaid_77 (fun I_54 hI_54 => ?_)
              have hU_55 := iw_put W9 hU hI_54 (ro_o hkx (by decide)) (lo := 0) (hi := 20) (rfl) (rg_w rx_53 (by decide) (by decide)) rfl
              have hF_56 := fq_puto hF hI_54 hkx (by decide) (by decide)
              have hs_57 : NVq I_54 J x b_4 = s_5 := by rw [hI_54]; exact (vq_oI wvqx (ro_o hkx (by decide)) (by decide)).trans hs_5
              have hs_58 : NWq I_54 J x b_6 = s_7 := by rw [hI_54]; exact (zq_oI wzqx (ro_o hkx (by decide)) (by decide)).trans hs_7
              have hs_59 : MTq I_54 J x b_8 = s_9 := by rw [hI_54]; exact (mq_uIt wmqx (by decide)).trans hs_9
              have hs_60 : NRq I_54 J x b_10 b_11 = s_12 := by rw [hI_54]; exact (nq_uIt wnqx (by decide)).trans hs_12
              have hs_61 : QTq I_54 J x = (QT_.w_om s_13 (x_53)) := by rw [hI_54]; exact ((qq_om wqqx).trans (congrArg (fun z : QT_ => QT_.w_om z (x_53)) hs_13)).trans rfl
              refine g_aload_n C 0 dX12_readSaid_80 rfl rfl ?_
              refine g_dup C dX12_readSaid_81 rfl ?_
              refine g_getI C K hLx hkx f_12_398 (v := 6) (kp_j hI_54 (by decide) q_22) dX12_readSaid_82 ?_
              refine g_iconst C (v := 1) dX12_readSaid_85 (by decide) ?_
              refine g_iadd C (v := 7) dX12_readSaid_86 (by decide) ?_
              refine h_putI C K hLx hkx f_12_398 p_12_49 dX12_readSaid_87 (fun I_62 hI_62 => ?_)
              have hU_63 := iw_put W9 hU_55 hI_62 (ro_o hkx (by decide)) (lo := 0) (hi := 8) (rfl) (rg_w rc_7 (by decide) (by decide)) rfl
              have hF_64 := fq_puto hF_56 hI_62 hkx (by decide) (by decide)
              have hs_65 : NVq I_62 J x b_4 = s_5 := by rw [hI_62]; exact (vq_oI wvqx (ro_o hkx (by decide)) (by decide)).trans hs_57
              have hs_66 : NWq I_62 J x b_6 = s_7 := by rw [hI_62]; exact (zq_oI wzqx (ro_o hkx (by decide)) (by decide)).trans hs_58
              have hs_67 : MTq I_62 J x b_8 = s_9 := by rw [hI_62]; exact (mq_uIt wmqx (by decide)).trans hs_59
              have hs_68 : NRq I_62 J x b_10 b_11 = s_12 := by rw [hI_62]; exact (nq_uIt wnqx (by decide)).trans hs_60
              have hs_69 : QTq I_62 J x = (QT_.w_om s_13 (x_53)) := by rw [hI_62]; exact (qq_uIt wqqx (by decide)).trans hs_61
              refine g_aload_n C 0 dX12_readSaid_90 rfl rfl ?_
              refine g_callVV C K (c_X12_go W9 hLx hkx   hU_63) hLx hkx (by decide) rfl v_12_156 rfl ⟨rfl, rfl⟩ ⟨Nat.le_of_ble_eq_true rfl, Nat.le_of_ble_eq_true rfl⟩ (Nat.le_of_ble_eq_true rfl) ⟨Nat.le_of_ble_eq_true rfl, Nat.le_of_ble_eq_true rfl⟩ dX12_readSaid_91 rfl (st := []) (fun I_71 J_72 h_73 => ?_)
              obtain ⟨hUI_71, hFI_71, hGJ_72, fx_70, ex_70⟩ := h_73
              have hF_74 := fq_tr hF_64 hFI_71 (by decide)
              have hG_75 := fq_tr hG hGJ_72 (by decide)
              obtain ⟨s_77, hs_77⟩ : ∃ z, MTq I_71 J_72 x b_8 = z := ⟨_, rfl⟩
              have c_76 : mGo (s_9) = s_77 := by have q := fx_70; simp only [emqx, hs_67, hs_77] at q; exact q.symm
              have hs_78 : NVq I_71 J_72 x b_4 = s_5 := (vq_fq wvqx hFI_71 hGJ_72 (by decide) (by decide)).trans hs_65
              have hs_79 : NWq I_71 J_72 x b_6 = s_7 := (zq_fq wzqx hFI_71 hGJ_72 (by decide) (by decide)).trans hs_66
              have hs_80 : NRq I_71 J_72 x b_10 b_11 = s_12 := (nq_fq wnqx hFI_71 hGJ_72 (by decide) (by decide)).trans hs_68
              have hs_81 : QTq I_71 J_72 x = (QT_.w_om s_13 (x_53)) := (qq_fq wqqx hFI_71 hGJ_72 (by decide) (by decide)).trans hs_69
              refine g_iconst C (v := 1) dX12_readSaid_94 (by decide) ?_
              refine g_istore_n C dX12_readSaid_95 rfl (by decide) (lo2 := [(3, .int 1), (0, .ref x), (1, .int v_14), (2, .int v_15)]) rfl ?_
              refine g_iload_n C 2 dX12_readSaid_96 rfl rfl ?_
              refine g_if_eq C (tgt := 108) dX12_readSaid_97 (by decide) (fun h_82 => ?_) (fun h_82 => ?_)
              · skip
                exact eq_no (h_82) r_34 rc_0 (by decide)
              · skip
                have n_83 : ¬ v_14 = 0 := h_82
                refine g_aload_n C 1 dX12_readSaid_100 rfl rfl ?_
                refine g_callVI C K (c_X12_readBracket_7 W9 hLx hkx   hUI_71  (by rw [(fq_at hFI_71 hLx hkx (by decide) (by decide) (kp_j hI_62 (by decide) (kp_j hI_54 (by decide) q_20))), (fq_at hFI_71 hLx hkx (by decide) (by decide) (kp_j hI_62 (by decide) (kp_s hI_54)))]; have := (ti_k tx_53 rc_1); omega) ((fq_at hFI_71 hLx hkx (by decide) (by decide) (kp_s hI_62)))) hLx hkx (by decide) rfl v_12_401 rfl ⟨rfl, rfl⟩ ⟨Nat.le_of_ble_eq_true rfl, Nat.le_of_ble_eq_true rfl⟩ (Nat.le_of_ble_eq_true rfl) ⟨Nat.le_of_ble_eq_true rfl, Nat.le_of_ble_eq_true rfl⟩ dX12_readSaid_101 rfl (st := []) (fun x_84 I_85 J_86 h_87 => ?_)
                obtain ⟨hUI_85, hFI_85, hGJ_86, rx_84, fx_84, ex_84⟩ := h_87
                have hF_88 := fq_tr hF_74 hFI_85 (by decide)
                have hG_89 := fq_tr hG_75 hGJ_86 (by decide)
                obtain ⟨s_91, hs_91⟩ : ∃ z, MTq I_85 J_86 x b_8 = z := ⟨_, rfl⟩
                obtain ⟨s_92, hs_92⟩ : ∃ z, NRq I_85 J_86 x b_10 b_11 = z := ⟨_, rfl⟩
                obtain ⟨s_93, hs_93⟩ : ∃ z, QTq I_85 J_86 x = z := ⟨_, rfl⟩
                have c_90 : mBrK 1 (s_5) (s_7) (s_77) (s_12) ((QT_.w_om s_13 (x_53))) = (x_84, s_91, s_92, s_93) := by have q := fx_84; simp only [evqx, ezqx, emqx, enqx, eqqx, hs_78, hs_79, hs_77, hs_80, hs_81, hs_91, hs_92, hs_93] at q; exact q.symm
                have hs_94 : NVq I_85 J_86 x b_4 = s_5 := (vq_fq wvqx hFI_85 hGJ_86 (by decide) (by decide)).trans hs_78
                have hs_95 : NWq I_85 J_86 x b_6 = s_7 := (zq_fq wzqx hFI_85 hGJ_86 (by decide) (by decide)).trans hs_79
                obtain ⟨x_96, hx_96, rx_96⟩ := ex_getw (I := I_85) (a := x) (j := 47) (lo := 0) (hi := 60) hUI_85.1 hLx (ro_o hkx (by decide)) rfl
                obtain ⟨x_97, hx_97, rx_97⟩ := ex_getw (I := I_85) (a := x) (j := 50) (lo := 0) (hi := 59) hUI_85.1 hLx (ro_o hkx (by decide)) rfl
                obtain ⟨x_98, hx_98, rx_98⟩ := ex_getw (I := I_85) (a := x) (j := 48) (lo := 0) (hi := 20) hUI_85.1 hLx (ro_o hkx (by decide)) rfl
                have f_99 : s_93.om = x_98 := (congrArg QT_.om hs_93).symm.trans hx_98
                refine g_istore_n C dX12_readSaid_104 rfl (by decide) (lo2 := [(3, .int x_84), (0, .ref x), (1, .int v_14), (2, .int v_15)]) rfl ?_
                refine g_goto C (tgt := 166) dX12_readSaid_105 (by decide) ?_
                refine g_aload_n C 1 dX12_readSaid_166 rfl rfl ?_
                refine g_dup C dX12_readSaid_167 rfl ?_
                refine g_getI C K hLx hkx f_12_398 (v := 7) ex_84.2 dX12_readSaid_168 ?_
                refine g_iconst C (v := 1) dX12_readSaid_171 (by decide) ?_
                refine g_isub C (v := 6) dX12_readSaid_172 (by decide) ?_
                refine h_putI C K hLx hkx f_12_398 p_12_49 dX12_readSaid_173 (fun I_100 hI_100 => ?_)
                have hU_101 := iw_put W9 hUI_85 hI_100 (ro_o hkx (by decide)) (lo := 0) (hi := 8) (rfl) (rg_w rc_6 (by decide) (by decide)) rfl
                have hF_102 := fq_puto hF_88 hI_100 hkx (by decide) (by decide)
                have hs_103 : NVq I_100 J_86 x b_4 = s_5 := by rw [hI_100]; exact (vq_oI wvqx (ro_o hkx (by decide)) (by decide)).trans hs_94
                have hs_104 : NWq I_100 J_86 x b_6 = s_7 := by rw [hI_100]; exact (zq_oI wzqx (ro_o hkx (by decide)) (by decide)).trans hs_95
                have hs_105 : MTq I_100 J_86 x b_8 = s_91 := by rw [hI_100]; exact (mq_uIt wmqx (by decide)).trans hs_91
                have hs_106 : NRq I_100 J_86 x b_10 b_11 = s_92 := by rw [hI_100]; exact (nq_uIt wnqx (by decide)).trans hs_92
                have hs_107 : QTq I_100 J_86 x = s_93 := by rw [hI_100]; exact (qq_uIt wqqx (by decide)).trans hs_93
                refine g_iload_n C 0 dX12_readSaid_176 rfl rfl ?_
                exact g_zret (ty := .boolean) (r := x_84) B K rfl (nar_z (rx_84)) ⟨hU_101, hF_102, hG_89, rx_84, (by (try simp only [h_30, h_32, f_35, h_36, h_52, hx_53, c_76, h_82, hx_96, hx_97, hx_98, f_99, if_true, if_false, mqM_tp, mqM_size, mqM_limit, mqM_to, mqM_frm, mqM_kind, mqM_number, mqM_sign, mqM_word, MT_.w_tp, MT_.w_size, MT_.w_limit, MT_.w_to, MT_.w_frm, MT_.w_kind, MT_.w_number, MT_.w_sign, MT_.w_word, nqM_rd, nqM_rn, nqM_taped, nqM_mfault, nqM_mplace, nqM_told, nqM_hl, nqM_hd, NR_.w_rd, NR_.w_rn, NR_.w_taped, NR_.w_mfault, NR_.w_mplace, NR_.w_told, NR_.w_hl, NR_.w_hd, qqM_om, QT_.w_om, vqM_nv, NV_.w_nv, zqM_nw, NW_.w_nw] at hQ_28); (try simp only [h_30, h_32, f_35, h_36, h_52, hx_53, c_76, h_82, hx_96, hx_97, hx_98, f_99, if_true, if_false, mqM_tp, mqM_size, mqM_limit, mqM_to, mqM_frm, mqM_kind, mqM_number, mqM_sign, mqM_word, MT_.w_tp, MT_.w_size, MT_.w_limit, MT_.w_to, MT_.w_frm, MT_.w_kind, MT_.w_number, MT_.w_sign, MT_.w_word, nqM_rd, nqM_rn, nqM_taped, nqM_mfault, nqM_mplace, nqM_told, nqM_hl, nqM_hd, NR_.w_rd, NR_.w_rn, NR_.w_taped, NR_.w_mfault, NR_.w_mplace, NR_.w_told, NR_.w_hl, NR_.w_hd, qqM_om, QT_.w_om, vqM_nv, NV_.w_nv, zqM_nw, NW_.w_nw] at u_29); (try simp only [h_30, h_32, f_35, h_36, h_52, hx_53, c_76, h_82, hx_96, hx_97, hx_98, f_99, if_true, if_false, mqM_tp, mqM_size, mqM_limit, mqM_to, mqM_frm, mqM_kind, mqM_number, mqM_sign, mqM_word, MT_.w_tp, MT_.w_size, MT_.w_limit, MT_.w_to, MT_.w_frm, MT_.w_kind, MT_.w_number, MT_.w_sign, MT_.w_word, nqM_rd, nqM_rn, nqM_taped, nqM_mfault, nqM_mplace, nqM_told, nqM_hl, nqM_hd, NR_.w_rd, NR_.w_rn, NR_.w_taped, NR_.w_mfault, NR_.w_mplace, NR_.w_told, NR_.w_hl, NR_.w_hd, qqM_om, QT_.w_om, vqM_nv, NV_.w_nv, zqM_nw, NW_.w_nw] at c_90); simp only [mSd0, mSd1, mSd2, mBadQ, evqx, hs_103, hs_5, ezqx, hs_104, hs_7, emqx, hs_105, hs_9, enqx, hs_106, hs_12, eqqx, hs_107, hs_13, hQ_28, u_29, h_30, h_32, f_35, h_36, h_52, hx_53, c_76, h_82, c_90, hx_96, hx_97, hx_98, f_99, if_true, if_false, mqM_tp, mqM_size, mqM_limit, mqM_to, mqM_frm, mqM_kind, mqM_number, mqM_sign, mqM_word, MT_.w_tp, MT_.w_size, MT_.w_limit, MT_.w_to, MT_.w_frm, MT_.w_kind, MT_.w_number, MT_.w_sign, MT_.w_word, nqM_rd, nqM_rn, nqM_taped, nqM_mfault, nqM_mplace, nqM_told, nqM_hl, nqM_hd, NR_.w_rd, NR_.w_rn, NR_.w_taped, NR_.w_mfault, NR_.w_mplace, NR_.w_told, NR_.w_hl, NR_.w_hd, qqM_om, QT_.w_om, vqM_nv, NV_.w_nv, zqM_nw, NW_.w_nw]), (fun hq => by have n_108 : ¬ x_84 = 0 := hq; have r_109 := ne_lo (lo := 1) n_108 rx_84 rc_0 rfl (by decide); have f_110 := sz_v (fq_at hFI_71 hLx hkx (by decide) (by decide) (kp_j hI_62 (by decide) (kp_j hI_54 (by decide) q_20))) (fq_at hFI_71 hLx hkx (by decide) (by decide) (kp_j hI_62 (by decide) (kp_s hI_54))) hx_96 hx_98 hx_97 (ex_84.1 n_108); have f_111 := (ti_k tx_53 rc_1); exact (sz_m hx_1 hx_2 (kp_j hI_100 (by decide) hx_96) (kp_j hI_100 (by decide) hx_98) (kp_j hI_100 (by decide) hx_97) ⟨by omega, by omega, by omega, by omega⟩)), (kp_s hI_100)⟩ dX12_readSaid_177
            · skip
              exact absurd (h_52) (by decide)
        · skip
          have r_112 := (⟨(rv_14).1, (eq_rg (h_32) rc_0).2⟩ : Rg 0 0 v_14)
          refine g_iload_n C 2 dX12_readSaid_34 rfl rfl ?_
          refine g_bipush C (v := 27) dX12_readSaid_35 (by decide) ?_
          refine g_icmp_le C (tgt := 46) dX12_readSaid_37 (by decide) (fun h_113 => ?_) (fun h_113 => ?_)
          · skip
            have r_114 := le_l (h_113) r_31 rc_27
            exact rg_no r_114 (by decide)
          · skip
            refine g_aload_n C 0 dX12_readSaid_40 rfl rfl ?_
            refine g_iconst C (v := 1) dX12_readSaid_41 (by decide) ?_
            refine g_callVI C K (c_X12_bad W9 hLx hkx 1 (rg_w rc_1 (by decide) (by decide)) hU) hLx hkx (by decide) rfl v_12_146 rfl ⟨rfl, rfl⟩ ⟨Nat.le_of_ble_eq_true rfl, Nat.le_of_ble_eq_true rfl⟩ (Nat.le_of_ble_eq_true rfl) ⟨Nat.le_of_ble_eq_true rfl, Nat.le_of_ble_eq_true rfl⟩ dX12_readSaid_42 rfl (st := []) (fun x_115 I_116 J_117 h_118 => ?_)
            obtain ⟨hUI_116, hFI_116, hGJ_117, rx_115, fx_115⟩ := h_118
            have hF_119 := fq_tr hF hFI_116 (by decide)
            have hG_120 := fq_tr hG hGJ_117 (by decide)
            obtain ⟨s_122, hs_122⟩ : ∃ z, MTq I_116 J_117 x b_8 = z := ⟨_, rfl⟩
            obtain ⟨s_123, hs_123⟩ : ∃ z, NRq I_116 J_117 x b_10 b_11 = z := ⟨_, rfl⟩
            have c_121 : mBad (1) (s_9) (s_12) = (x_115, s_122, s_123) := by have q := fx_115; simp only [emqx, enqx, hs_9, hs_12, hs_122, hs_123] at q; exact q.symm
            have hs_124 : NVq I_116 J_117 x b_4 = s_5 := (vq_fq wvqx hFI_116 hGJ_117 (by decide) (by decide)).trans hs_5
            have hs_125 : NWq I_116 J_117 x b_6 = s_7 := (zq_fq wzqx hFI_116 hGJ_117 (by decide) (by decide)).trans hs_7
            have hs_126 : QTq I_116 J_117 x = s_13 := (qq_fq wqqx hFI_116 hGJ_117 (by decide) (by decide)).trans hs_13
            exact g_zret (ty := .boolean) (r := x_115) B K rfl (nar_z (rg_w rx_115 (by decide) (by decide))) ⟨hUI_116, hF_119, hG_120, rg_w rx_115 (by decide) (by decide), (by (try simp only [h_30, (eq_true h_32), h_113, (nle h_113), c_121, if_true, if_false, mqM_tp, mqM_size, mqM_limit, mqM_to, mqM_frm, mqM_kind, mqM_number, mqM_sign, mqM_word, MT_.w_tp, MT_.w_size, MT_.w_limit, MT_.w_to, MT_.w_frm, MT_.w_kind, MT_.w_number, MT_.w_sign, MT_.w_word, nqM_rd, nqM_rn, nqM_taped, nqM_mfault, nqM_mplace, nqM_told, nqM_hl, nqM_hd, NR_.w_rd, NR_.w_rn, NR_.w_taped, NR_.w_mfault, NR_.w_mplace, NR_.w_told, NR_.w_hl, NR_.w_hd, qqM_om, QT_.w_om, vqM_nv, NV_.w_nv, zqM_nw, NW_.w_nw] at hQ_28); (try simp only [h_30, (eq_true h_32), h_113, (nle h_113), c_121, if_true, if_false, mqM_tp, mqM_size, mqM_limit, mqM_to, mqM_frm, mqM_kind, mqM_number, mqM_sign, mqM_word, MT_.w_tp, MT_.w_size, MT_.w_limit, MT_.w_to, MT_.w_frm, MT_.w_kind, MT_.w_number, MT_.w_sign, MT_.w_word, nqM_rd, nqM_rn, nqM_taped, nqM_mfault, nqM_mplace, nqM_told, nqM_hl, nqM_hd, NR_.w_rd, NR_.w_rn, NR_.w_taped, NR_.w_mfault, NR_.w_mplace, NR_.w_told, NR_.w_hl, NR_.w_hd, qqM_om, QT_.w_om, vqM_nv, NV_.w_nv, zqM_nw, NW_.w_nw] at u_29); simp only [mSd0, mSd1, mSd2, mBadQ, evqx, hs_124, hs_5, ezqx, hs_125, hs_7, emqx, hs_122, hs_9, enqx, hs_123, hs_12, eqqx, hs_126, hs_13, hQ_28, u_29, h_30, (eq_true h_32), h_113, (nle h_113), c_121, if_true, if_false, mqM_tp, mqM_size, mqM_limit, mqM_to, mqM_frm, mqM_kind, mqM_number, mqM_sign, mqM_word, MT_.w_tp, MT_.w_size, MT_.w_limit, MT_.w_to, MT_.w_frm, MT_.w_kind, MT_.w_number, MT_.w_sign, MT_.w_word, nqM_rd, nqM_rn, nqM_taped, nqM_mfault, nqM_mplace, nqM_told, nqM_hl, nqM_hd, NR_.w_rd, NR_.w_rn, NR_.w_taped, NR_.w_mfault, NR_.w_mplace, NR_.w_told, NR_.w_hl, NR_.w_hd, qqM_om, QT_.w_om, vqM_nv, NV_.w_nv, zqM_nw, NW_.w_nw]), (fun q => ne_no q rx_115 rc_0), (fq_at hFI_116 hLx hkx (by decide) (by decide) q_22)⟩ dX12_readSaid_45
      · skip
        have r_127 := le_l (nlt h_30) rv_15 rc_27
        refine g_aload_n C 0 dX12_readSaid_16 rfl rfl ?_
        refine g_iload_n C 2 dX12_readSaid_17 rfl rfl ?_
        refine g_callVI C K (c_X12_isWord W9 hLx hkx v_15 (rg_w r_127 (by decide) (by decide)) hU) hLx hkx (by decide) rfl v_12_191 rfl ⟨rfl, rfl⟩ ⟨Nat.le_of_ble_eq_true rfl, Nat.le_of_ble_eq_true rfl⟩ (Nat.le_of_ble_eq_true rfl) ⟨Nat.le_of_ble_eq_true rfl, Nat.le_of_ble_eq_true rfl⟩ dX12_readSaid_18 rfl (st := []) (fun x_128 I_129 J_130 h_131 => ?_)
        obtain ⟨rfl, rfl, rx_128, fx_128⟩ := h_131
        have c_132 : mIsWord (v_15) (s_9) = x_128 := by have q := fx_128; simp only [emqx, hs_9] at q; exact q.symm
        refine g_if_ne C (tgt := 30) dX12_readSaid_21 (by decide) (fun h_133 => ?_) (fun h_133 => ?_)
        · skip
          have n_134 : ¬ x_128 = 0 := h_133
          have r_135 := ne_lo (lo := 1) n_134 rx_128 rc_0 rfl (by decide)
          refine g_iload_n C 1 dX12_readSaid_30 rfl rfl ?_
          refine g_if_ne C (tgt := 46) dX12_readSaid_31 (by decide) (fun h_136 => ?_) (fun h_136 => ?_)
          · skip
            have n_137 : ¬ v_14 = 0 := h_136
            have r_138 := ne_lo (lo := 1) n_137 rv_14 rc_0 rfl (by decide)
            refine g_aload_n C 0 dX12_readSaid_46 rfl rfl ?_
            have f_139 : s_13.om = v_17 := (congrArg QT_.om hs_13).symm.trans q_21
            refine g_getI C K hLx hkx f_12_395 (v := v_17) q_21 dX12_readSaid_47 ?_
            refine g_bipush C (v := 20) dX12_readSaid_50 (by decide) ?_
            refine g_icmp_eq C (tgt := 64) dX12_readSaid_52 (by decide) (fun h_140 => ?_) (fun h_140 => ?_)
            · skip
              have r_141 := (⟨(eq_rg (h_140) rc_20).1, (rv_17).2⟩ : Rg 20 20 v_17)
              refine g_aload_n C 0 dX12_readSaid_64 rfl rfl ?_
              refine g_iconst C (v := 4) dX12_readSaid_65 (by decide) ?_
              refine g_callVI C K (c_X12_bad W9 hLx hkx 4 (rg_w rc_4 (by decide) (by decide)) hU) hLx hkx (by decide) rfl v_12_146 rfl ⟨rfl, rfl⟩ ⟨Nat.le_of_ble_eq_true rfl, Nat.le_of_ble_eq_true rfl⟩ (Nat.le_of_ble_eq_true rfl) ⟨Nat.le_of_ble_eq_true rfl, Nat.le_of_ble_eq_true rfl⟩ dX12_readSaid_66 rfl (st := []) (fun x_142 I_143 J_144 h_145 => ?_)
              obtain ⟨hUI_143, hFI_143, hGJ_144, rx_142, fx_142⟩ := h_145
              have hF_146 := fq_tr hF hFI_143 (by decide)
              have hG_147 := fq_tr hG hGJ_144 (by decide)
              obtain ⟨s_149, hs_149⟩ : ∃ z, MTq I_143 J_144 x b_8 = z := ⟨_, rfl⟩
              obtain ⟨s_150, hs_150⟩ : ∃ z, NRq I_143 J_144 x b_10 b_11 = z := ⟨_, rfl⟩
              have c_148 : mBad (4) (s_9) (s_12) = (x_142, s_149, s_150) := by have q := fx_142; simp only [emqx, enqx, hs_9, hs_12, hs_149, hs_150] at q; exact q.symm
              have hs_151 : NVq I_143 J_144 x b_4 = s_5 := (vq_fq wvqx hFI_143 hGJ_144 (by decide) (by decide)).trans hs_5
              have hs_152 : NWq I_143 J_144 x b_6 = s_7 := (zq_fq wzqx hFI_143 hGJ_144 (by decide) (by decide)).trans hs_7
              have hs_153 : QTq I_143 J_144 x = s_13 := (qq_fq wqqx hFI_143 hGJ_144 (by decide) (by decide)).trans hs_13
              exact g_zret (ty := .boolean) (r := x_142) B K rfl (nar_z (rg_w rx_142 (by decide) (by decide))) ⟨hUI_143, hF_146, hG_147, rg_w rx_142 (by decide) (by decide), (by (try simp only [h_30, (nlt h_30), c_132, h_133, h_136, f_139, (eq_true h_140), c_148, if_true, if_false, mqM_tp, mqM_size, mqM_limit, mqM_to, mqM_frm, mqM_kind, mqM_number, mqM_sign, mqM_word, MT_.w_tp, MT_.w_size, MT_.w_limit, MT_.w_to, MT_.w_frm, MT_.w_kind, MT_.w_number, MT_.w_sign, MT_.w_word, nqM_rd, nqM_rn, nqM_taped, nqM_mfault, nqM_mplace, nqM_told, nqM_hl, nqM_hd, NR_.w_rd, NR_.w_rn, NR_.w_taped, NR_.w_mfault, NR_.w_mplace, NR_.w_told, NR_.w_hl, NR_.w_hd, qqM_om, QT_.w_om, vqM_nv, NV_.w_nv, zqM_nw, NW_.w_nw] at hQ_28); (try simp only [h_30, (nlt h_30), c_132, h_133, h_136, f_139, (eq_true h_140), c_148, if_true, if_false, mqM_tp, mqM_size, mqM_limit, mqM_to, mqM_frm, mqM_kind, mqM_number, mqM_sign, mqM_word, MT_.w_tp, MT_.w_size, MT_.w_limit, MT_.w_to, MT_.w_frm, MT_.w_kind, MT_.w_number, MT_.w_sign, MT_.w_word, nqM_rd, nqM_rn, nqM_taped, nqM_mfault, nqM_mplace, nqM_told, nqM_hl, nqM_hd, NR_.w_rd, NR_.w_rn, NR_.w_taped, NR_.w_mfault, NR_.w_mplace, NR_.w_told, NR_.w_hl, NR_.w_hd, qqM_om, QT_.w_om, vqM_nv, NV_.w_nv, zqM_nw, NW_.w_nw] at u_29); simp only [mSd0, mSd1, mSd2, mBadQ, evqx, hs_151, hs_5, ezqx, hs_152, hs_7, emqx, hs_149, hs_9, enqx, hs_150, hs_12, eqqx, hs_153, hs_13, hQ_28, u_29, h_30, (nlt h_30), c_132, h_133, h_136, f_139, (eq_true h_140), c_148, if_true, if_false, mqM_tp, mqM_size, mqM_limit, mqM_to, mqM_frm, mqM_kind, mqM_number, mqM_sign, mqM_word, MT_.w_tp, MT_.w_size, MT_.w_limit, MT_.w_to, MT_.w_frm, MT_.w_kind, MT_.w_number, MT_.w_sign, MT_.w_word, nqM_rd, nqM_rn, nqM_taped, nqM_mfault, nqM_mplace, nqM_told, nqM_hl, nqM_hd, NR_.w_rd, NR_.w_rn, NR_.w_taped, NR_.w_mfault, NR_.w_mplace, NR_.w_told, NR_.w_hl, NR_.w_hd, qqM_om, QT_.w_om, vqM_nv, NV_.w_nv, zqM_nw, NW_.w_nw]), (fun q => ne_no q rx_142 rc_0), (fq_at hFI_143 hLx hkx (by decide) (by decide) q_22)⟩ dX12_readSaid_69
            · skip
              have n_154 : ¬ v_17 = 20 := h_140
              have r_155 := ne_hi (hi := 19) n_154 rv_17 rc_20 rfl (by decide)
              refine g_aload_n C 0 dX12_readSaid_55 rfl rfl ?_
              refine g_getI C K hLx hkx f_12_398 (v := 6) q_22 dX12_readSaid_56 ?_
              refine g_bipush C (v := 8) dX12_readSaid_59 (by decide) ?_
              refine g_icmp_ne C (tgt := 70) dX12_readSaid_61 (by decide) (fun h_156 => ?_) (fun h_156 => ?_)
              · skip
                refine g_aload_n C 0 dX12_readSaid_70 rfl rfl ?_
                refine g_dup C dX12_readSaid_71 rfl ?_
                refine g_getI C K hLx hkx f_12_395 (v := v_17) q_21 dX12_readSaid_72 ?_
                refine g_iconst C (v := 1) dX12_readSaid_75 (by decide) ?_
                obtain ⟨x_157, hx_157, rx_157, tx_157⟩ := ex_add 1 20 r_155 rc_1 (by decide) (by decide) (by decide) (by decide)
                refine g_iadd C (v := x_157) dX12_readSaid_76 hx_157 ?_
                refine h_putI C K hLx hkx f_12_395 p_12_48 dX12_readSaid_77 (fun I_158 hI_158 => ?_)
                have hU_159 := iw_put W9 hU hI_158 (ro_o hkx (by decide)) (lo := 0) (hi := 20) (rfl) (rg_w rx_157 (by decide) (by decide)) rfl
                have hF_160 := fq_puto hF hI_158 hkx (by decide) (by decide)
                have hs_161 : NVq I_158 J x b_4 = s_5 := by rw [hI_158]; exact (vq_oI wvqx (ro_o hkx (by decide)) (by decide)).trans hs_5
                have hs_162 : NWq I_158 J x b_6 = s_7 := by rw [hI_158]; exact (zq_oI wzqx (ro_o hkx (by decide)) (by decide)).trans hs_7
                have hs_163 : MTq I_158 J x b_8 = s_9 := by rw [hI_158]; exact (mq_uIt wmqx (by decide)).trans hs_9
                have hs_164 : NRq I_158 J x b_10 b_11 = s_12 := by rw [hI_158]; exact (nq_uIt wnqx (by decide)).trans hs_12
                have hs_165 : QTq I_158 J x = (QT_.w_om s_13 (x_157)) := by rw [hI_158]; exact ((qq_om wqqx).trans (congrArg (fun z : QT_ => QT_.w_om z (x_157)) hs_13)).trans rfl
                refine g_aload_n C 0 dX12_readSaid_80 rfl rfl ?_
                refine g_dup C dX12_readSaid_81 rfl ?_
                refine g_getI C K hLx hkx f_12_398 (v := 6) (kp_j hI_158 (by decide) q_22) dX12_readSaid_82 ?_
                refine g_iconst C (v := 1) dX12_readSaid_85 (by decide) ?_
                refine g_iadd C (v := 7) dX12_readSaid_86 (by decide) ?_
                refine h_putI C K hLx hkx f_12_398 p_12_49 dX12_readSaid_87 (fun I_166 hI_166 => ?_)
                have hU_167 := iw_put W9 hU_159 hI_166 (ro_o hkx (by decide)) (lo := 0) (hi := 8) (rfl) (rg_w rc_7 (by decide) (by decide)) rfl
                have hF_168 := fq_puto hF_160 hI_166 hkx (by decide) (by decide)
                have hs_169 : NVq I_166 J x b_4 = s_5 := by rw [hI_166]; exact (vq_oI wvqx (ro_o hkx (by decide)) (by decide)).trans hs_161
                have hs_170 : NWq I_166 J x b_6 = s_7 := by rw [hI_166]; exact (zq_oI wzqx (ro_o hkx (by decide)) (by decide)).trans hs_162
                have hs_171 : MTq I_166 J x b_8 = s_9 := by rw [hI_166]; exact (mq_uIt wmqx (by decide)).trans hs_163
                have hs_172 : NRq I_166 J x b_10 b_11 = s_12 := by rw [hI_166]; exact (nq_uIt wnqx (by decide)).trans hs_164
                have hs_173 : QTq I_166 J x = (QT_.w_om s_13 (x_157)) := by rw [hI_166]; exact (qq_uIt wqqx (by decide)).trans hs_165
                refine g_aload_n C 0 dX12_readSaid_90 rfl rfl ?_
                refine g_callVV C K (c_X12_go W9 hLx hkx   hU_167) hLx hkx (by decide) rfl v_12_156 rfl ⟨rfl, rfl⟩ ⟨Nat.le_of_ble_eq_true rfl, Nat.le_of_ble_eq_true rfl⟩ (Nat.le_of_ble_eq_true rfl) ⟨Nat.le_of_ble_eq_true rfl, Nat.le_of_ble_eq_true rfl⟩ dX12_readSaid_91 rfl (st := []) (fun I_175 J_176 h_177 => ?_)
                obtain ⟨hUI_175, hFI_175, hGJ_176, fx_174, ex_174⟩ := h_177
                have hF_178 := fq_tr hF_168 hFI_175 (by decide)
                have hG_179 := fq_tr hG hGJ_176 (by decide)
                obtain ⟨s_181, hs_181⟩ : ∃ z, MTq I_175 J_176 x b_8 = z := ⟨_, rfl⟩
                have c_180 : mGo (s_9) = s_181 := by have q := fx_174; simp only [emqx, hs_171, hs_181] at q; exact q.symm
                have hs_182 : NVq I_175 J_176 x b_4 = s_5 := (vq_fq wvqx hFI_175 hGJ_176 (by decide) (by decide)).trans hs_169
                have hs_183 : NWq I_175 J_176 x b_6 = s_7 := (zq_fq wzqx hFI_175 hGJ_176 (by decide) (by decide)).trans hs_170
                have hs_184 : NRq I_175 J_176 x b_10 b_11 = s_12 := (nq_fq wnqx hFI_175 hGJ_176 (by decide) (by decide)).trans hs_172
                have hs_185 : QTq I_175 J_176 x = (QT_.w_om s_13 (x_157)) := (qq_fq wqqx hFI_175 hGJ_176 (by decide) (by decide)).trans hs_173
                refine g_iconst C (v := 1) dX12_readSaid_94 (by decide) ?_
                refine g_istore_n C dX12_readSaid_95 rfl (by decide) (lo2 := [(3, .int 1), (0, .ref x), (1, .int v_14), (2, .int v_15)]) rfl ?_
                refine g_iload_n C 2 dX12_readSaid_96 rfl rfl ?_
                refine g_if_eq C (tgt := 108) dX12_readSaid_97 (by decide) (fun h_186 => ?_) (fun h_186 => ?_)
                · skip
                  exact eq_no (h_186) r_138 rc_0 (by decide)
                · skip
                  have n_187 : ¬ v_14 = 0 := h_186
                  refine g_aload_n C 1 dX12_readSaid_100 rfl rfl ?_
                  refine g_callVI C K (c_X12_readBracket_7 W9 hLx hkx   hUI_175  (by rw [(fq_at hFI_175 hLx hkx (by decide) (by decide) (kp_j hI_166 (by decide) (kp_j hI_158 (by decide) q_20))), (fq_at hFI_175 hLx hkx (by decide) (by decide) (kp_j hI_166 (by decide) (kp_s hI_158)))]; have := (ti_k tx_157 rc_1); omega) ((fq_at hFI_175 hLx hkx (by decide) (by decide) (kp_s hI_166)))) hLx hkx (by decide) rfl v_12_401 rfl ⟨rfl, rfl⟩ ⟨Nat.le_of_ble_eq_true rfl, Nat.le_of_ble_eq_true rfl⟩ (Nat.le_of_ble_eq_true rfl) ⟨Nat.le_of_ble_eq_true rfl, Nat.le_of_ble_eq_true rfl⟩ dX12_readSaid_101 rfl (st := []) (fun x_188 I_189 J_190 h_191 => ?_)
                  obtain ⟨hUI_189, hFI_189, hGJ_190, rx_188, fx_188, ex_188⟩ := h_191
                  have hF_192 := fq_tr hF_178 hFI_189 (by decide)
                  have hG_193 := fq_tr hG_179 hGJ_190 (by decide)
                  obtain ⟨s_195, hs_195⟩ : ∃ z, MTq I_189 J_190 x b_8 = z := ⟨_, rfl⟩
                  obtain ⟨s_196, hs_196⟩ : ∃ z, NRq I_189 J_190 x b_10 b_11 = z := ⟨_, rfl⟩
                  obtain ⟨s_197, hs_197⟩ : ∃ z, QTq I_189 J_190 x = z := ⟨_, rfl⟩
                  have c_194 : mBrK 1 (s_5) (s_7) (s_181) (s_12) ((QT_.w_om s_13 (x_157))) = (x_188, s_195, s_196, s_197) := by have q := fx_188; simp only [evqx, ezqx, emqx, enqx, eqqx, hs_182, hs_183, hs_181, hs_184, hs_185, hs_195, hs_196, hs_197] at q; exact q.symm
                  have hs_198 : NVq I_189 J_190 x b_4 = s_5 := (vq_fq wvqx hFI_189 hGJ_190 (by decide) (by decide)).trans hs_182
                  have hs_199 : NWq I_189 J_190 x b_6 = s_7 := (zq_fq wzqx hFI_189 hGJ_190 (by decide) (by decide)).trans hs_183
                  obtain ⟨x_200, hx_200, rx_200⟩ := ex_getw (I := I_189) (a := x) (j := 47) (lo := 0) (hi := 60) hUI_189.1 hLx (ro_o hkx (by decide)) rfl
                  obtain ⟨x_201, hx_201, rx_201⟩ := ex_getw (I := I_189) (a := x) (j := 50) (lo := 0) (hi := 59) hUI_189.1 hLx (ro_o hkx (by decide)) rfl
                  obtain ⟨x_202, hx_202, rx_202⟩ := ex_getw (I := I_189) (a := x) (j := 48) (lo := 0) (hi := 20) hUI_189.1 hLx (ro_o hkx (by decide)) rfl
                  have f_203 : s_197.om = x_202 := (congrArg QT_.om hs_197).symm.trans hx_202
                  refine g_istore_n C dX12_readSaid_104 rfl (by decide) (lo2 := [(3, .int x_188), (0, .ref x), (1, .int v_14), (2, .int v_15)]) rfl ?_
                  refine g_goto C (tgt := 166) dX12_readSaid_105 (by decide) ?_
                  refine g_aload_n C 1 dX12_readSaid_166 rfl rfl ?_
                  refine g_dup C dX12_readSaid_167 rfl ?_
                  refine g_getI C K hLx hkx f_12_398 (v := 7) ex_188.2 dX12_readSaid_168 ?_
                  refine g_iconst C (v := 1) dX12_readSaid_171 (by decide) ?_
                  refine g_isub C (v := 6) dX12_readSaid_172 (by decide) ?_
                  refine h_putI C K hLx hkx f_12_398 p_12_49 dX12_readSaid_173 (fun I_204 hI_204 => ?_)
                  have hU_205 := iw_put W9 hUI_189 hI_204 (ro_o hkx (by decide)) (lo := 0) (hi := 8) (rfl) (rg_w rc_6 (by decide) (by decide)) rfl
                  have hF_206 := fq_puto hF_192 hI_204 hkx (by decide) (by decide)
                  have hs_207 : NVq I_204 J_190 x b_4 = s_5 := by rw [hI_204]; exact (vq_oI wvqx (ro_o hkx (by decide)) (by decide)).trans hs_198
                  have hs_208 : NWq I_204 J_190 x b_6 = s_7 := by rw [hI_204]; exact (zq_oI wzqx (ro_o hkx (by decide)) (by decide)).trans hs_199
                  have hs_209 : MTq I_204 J_190 x b_8 = s_195 := by rw [hI_204]; exact (mq_uIt wmqx (by decide)).trans hs_195
                  have hs_210 : NRq I_204 J_190 x b_10 b_11 = s_196 := by rw [hI_204]; exact (nq_uIt wnqx (by decide)).trans hs_196
                  have hs_211 : QTq I_204 J_190 x = s_197 := by rw [hI_204]; exact (qq_uIt wqqx (by decide)).trans hs_197
                  refine g_iload_n C 0 dX12_readSaid_176 rfl rfl ?_
                  exact g_zret (ty := .boolean) (r := x_188) B K rfl (nar_z (rx_188)) ⟨hU_205, hF_206, hG_193, rx_188, (by (try simp only [h_30, (nlt h_30), c_132, h_133, h_136, f_139, h_140, h_156, hx_157, c_180, h_186, hx_200, hx_201, hx_202, f_203, if_true, if_false, mqM_tp, mqM_size, mqM_limit, mqM_to, mqM_frm, mqM_kind, mqM_number, mqM_sign, mqM_word, MT_.w_tp, MT_.w_size, MT_.w_limit, MT_.w_to, MT_.w_frm, MT_.w_kind, MT_.w_number, MT_.w_sign, MT_.w_word, nqM_rd, nqM_rn, nqM_taped, nqM_mfault, nqM_mplace, nqM_told, nqM_hl, nqM_hd, NR_.w_rd, NR_.w_rn, NR_.w_taped, NR_.w_mfault, NR_.w_mplace, NR_.w_told, NR_.w_hl, NR_.w_hd, qqM_om, QT_.w_om, vqM_nv, NV_.w_nv, zqM_nw, NW_.w_nw] at hQ_28); (try simp only [h_30, (nlt h_30), c_132, h_133, h_136, f_139, h_140, h_156, hx_157, c_180, h_186, hx_200, hx_201, hx_202, f_203, if_true, if_false, mqM_tp, mqM_size, mqM_limit, mqM_to, mqM_frm, mqM_kind, mqM_number, mqM_sign, mqM_word, MT_.w_tp, MT_.w_size, MT_.w_limit, MT_.w_to, MT_.w_frm, MT_.w_kind, MT_.w_number, MT_.w_sign, MT_.w_word, nqM_rd, nqM_rn, nqM_taped, nqM_mfault, nqM_mplace, nqM_told, nqM_hl, nqM_hd, NR_.w_rd, NR_.w_rn, NR_.w_taped, NR_.w_mfault, NR_.w_mplace, NR_.w_told, NR_.w_hl, NR_.w_hd, qqM_om, QT_.w_om, vqM_nv, NV_.w_nv, zqM_nw, NW_.w_nw] at u_29); (try simp only [h_30, (nlt h_30), c_132, h_133, h_136, f_139, h_140, h_156, hx_157, c_180, h_186, hx_200, hx_201, hx_202, f_203, if_true, if_false, mqM_tp, mqM_size, mqM_limit, mqM_to, mqM_frm, mqM_kind, mqM_number, mqM_sign, mqM_word, MT_.w_tp, MT_.w_size, MT_.w_limit, MT_.w_to, MT_.w_frm, MT_.w_kind, MT_.w_number, MT_.w_sign, MT_.w_word, nqM_rd, nqM_rn, nqM_taped, nqM_mfault, nqM_mplace, nqM_told, nqM_hl, nqM_hd, NR_.w_rd, NR_.w_rn, NR_.w_taped, NR_.w_mfault, NR_.w_mplace, NR_.w_told, NR_.w_hl, NR_.w_hd, qqM_om, QT_.w_om, vqM_nv, NV_.w_nv, zqM_nw, NW_.w_nw] at c_194); simp only [mSd0, mSd1, mSd2, mBadQ, evqx, hs_207, hs_5, ezqx, hs_208, hs_7, emqx, hs_209, hs_9, enqx, hs_210, hs_12, eqqx, hs_211, hs_13, hQ_28, u_29, h_30, (nlt h_30), c_132, h_133, h_136, f_139, h_140, h_156, hx_157, c_180, h_186, c_194, hx_200, hx_201, hx_202, f_203, if_true, if_false, mqM_tp, mqM_size, mqM_limit, mqM_to, mqM_frm, mqM_kind, mqM_number, mqM_sign, mqM_word, MT_.w_tp, MT_.w_size, MT_.w_limit, MT_.w_to, MT_.w_frm, MT_.w_kind, MT_.w_number, MT_.w_sign, MT_.w_word, nqM_rd, nqM_rn, nqM_taped, nqM_mfault, nqM_mplace, nqM_told, nqM_hl, nqM_hd, NR_.w_rd, NR_.w_rn, NR_.w_taped, NR_.w_mfault, NR_.w_mplace, NR_.w_told, NR_.w_hl, NR_.w_hd, qqM_om, QT_.w_om, vqM_nv, NV_.w_nv, zqM_nw, NW_.w_nw]), (fun hq => by have n_212 : ¬ x_188 = 0 := hq; have r_213 := ne_lo (lo := 1) n_212 rx_188 rc_0 rfl (by decide); have f_214 := sz_v (fq_at hFI_175 hLx hkx (by decide) (by decide) (kp_j hI_166 (by decide) (kp_j hI_158 (by decide) q_20))) (fq_at hFI_175 hLx hkx (by decide) (by decide) (kp_j hI_166 (by decide) (kp_s hI_158))) hx_200 hx_202 hx_201 (ex_188.1 n_212); have f_215 := (ti_k tx_157 rc_1); exact (sz_m hx_1 hx_2 (kp_j hI_204 (by decide) hx_200) (kp_j hI_204 (by decide) hx_202) (kp_j hI_204 (by decide) hx_201) ⟨by omega, by omega, by omega, by omega⟩)), (kp_s hI_204)⟩ dX12_readSaid_177
              · skip
                exact absurd (h_156) (by decide)
          · skip
            have r_216 := (⟨(rv_14).1, (eq_rg (h_136) rc_0).2⟩ : Rg 0 0 v_14)
            refine g_iload_n C 2 dX12_readSaid_34 rfl rfl ?_
            refine g_bipush C (v := 27) dX12_readSaid_35 (by decide) ?_
            refine g_icmp_le C (tgt := 46) dX12_readSaid_37 (by decide) (fun h_217 => ?_) (fun h_217 => ?_)
            · skip
              refine g_aload_n C 0 dX12_readSaid_46 rfl rfl ?_
              have f_218 : s_13.om = v_17 := (congrArg QT_.om hs_13).symm.trans q_21
              refine g_getI C K hLx hkx f_12_395 (v := v_17) q_21 dX12_readSaid_47 ?_
              refine g_bipush C (v := 20) dX12_readSaid_50 (by decide) ?_
              refine g_icmp_eq C (tgt := 64) dX12_readSaid_52 (by decide) (fun h_219 => ?_) (fun h_219 => ?_)
              · skip
                have r_220 := (⟨(eq_rg (h_219) rc_20).1, (rv_17).2⟩ : Rg 20 20 v_17)
                refine g_aload_n C 0 dX12_readSaid_64 rfl rfl ?_
                refine g_iconst C (v := 4) dX12_readSaid_65 (by decide) ?_
                refine g_callVI C K (c_X12_bad W9 hLx hkx 4 (rg_w rc_4 (by decide) (by decide)) hU) hLx hkx (by decide) rfl v_12_146 rfl ⟨rfl, rfl⟩ ⟨Nat.le_of_ble_eq_true rfl, Nat.le_of_ble_eq_true rfl⟩ (Nat.le_of_ble_eq_true rfl) ⟨Nat.le_of_ble_eq_true rfl, Nat.le_of_ble_eq_true rfl⟩ dX12_readSaid_66 rfl (st := []) (fun x_221 I_222 J_223 h_224 => ?_)
                obtain ⟨hUI_222, hFI_222, hGJ_223, rx_221, fx_221⟩ := h_224
                have hF_225 := fq_tr hF hFI_222 (by decide)
                have hG_226 := fq_tr hG hGJ_223 (by decide)
                obtain ⟨s_228, hs_228⟩ : ∃ z, MTq I_222 J_223 x b_8 = z := ⟨_, rfl⟩
                obtain ⟨s_229, hs_229⟩ : ∃ z, NRq I_222 J_223 x b_10 b_11 = z := ⟨_, rfl⟩
                have c_227 : mBad (4) (s_9) (s_12) = (x_221, s_228, s_229) := by have q := fx_221; simp only [emqx, enqx, hs_9, hs_12, hs_228, hs_229] at q; exact q.symm
                have hs_230 : NVq I_222 J_223 x b_4 = s_5 := (vq_fq wvqx hFI_222 hGJ_223 (by decide) (by decide)).trans hs_5
                have hs_231 : NWq I_222 J_223 x b_6 = s_7 := (zq_fq wzqx hFI_222 hGJ_223 (by decide) (by decide)).trans hs_7
                have hs_232 : QTq I_222 J_223 x = s_13 := (qq_fq wqqx hFI_222 hGJ_223 (by decide) (by decide)).trans hs_13
                exact g_zret (ty := .boolean) (r := x_221) B K rfl (nar_z (rg_w rx_221 (by decide) (by decide))) ⟨hUI_222, hF_225, hG_226, rg_w rx_221 (by decide) (by decide), (by (try simp only [h_30, (nlt h_30), c_132, h_133, (eq_true h_136), h_217, f_218, (eq_true h_219), c_227, if_true, if_false, mqM_tp, mqM_size, mqM_limit, mqM_to, mqM_frm, mqM_kind, mqM_number, mqM_sign, mqM_word, MT_.w_tp, MT_.w_size, MT_.w_limit, MT_.w_to, MT_.w_frm, MT_.w_kind, MT_.w_number, MT_.w_sign, MT_.w_word, nqM_rd, nqM_rn, nqM_taped, nqM_mfault, nqM_mplace, nqM_told, nqM_hl, nqM_hd, NR_.w_rd, NR_.w_rn, NR_.w_taped, NR_.w_mfault, NR_.w_mplace, NR_.w_told, NR_.w_hl, NR_.w_hd, qqM_om, QT_.w_om, vqM_nv, NV_.w_nv, zqM_nw, NW_.w_nw] at hQ_28); (try simp only [h_30, (nlt h_30), c_132, h_133, (eq_true h_136), h_217, f_218, (eq_true h_219), c_227, if_true, if_false, mqM_tp, mqM_size, mqM_limit, mqM_to, mqM_frm, mqM_kind, mqM_number, mqM_sign, mqM_word, MT_.w_tp, MT_.w_size, MT_.w_limit, MT_.w_to, MT_.w_frm, MT_.w_kind, MT_.w_number, MT_.w_sign, MT_.w_word, nqM_rd, nqM_rn, nqM_taped, nqM_mfault, nqM_mplace, nqM_told, nqM_hl, nqM_hd, NR_.w_rd, NR_.w_rn, NR_.w_taped, NR_.w_mfault, NR_.w_mplace, NR_.w_told, NR_.w_hl, NR_.w_hd, qqM_om, QT_.w_om, vqM_nv, NV_.w_nv, zqM_nw, NW_.w_nw] at u_29); simp only [mSd0, mSd1, mSd2, mBadQ, evqx, hs_230, hs_5, ezqx, hs_231, hs_7, emqx, hs_228, hs_9, enqx, hs_229, hs_12, eqqx, hs_232, hs_13, hQ_28, u_29, h_30, (nlt h_30), c_132, h_133, (eq_true h_136), h_217, f_218, (eq_true h_219), c_227, if_true, if_false, mqM_tp, mqM_size, mqM_limit, mqM_to, mqM_frm, mqM_kind, mqM_number, mqM_sign, mqM_word, MT_.w_tp, MT_.w_size, MT_.w_limit, MT_.w_to, MT_.w_frm, MT_.w_kind, MT_.w_number, MT_.w_sign, MT_.w_word, nqM_rd, nqM_rn, nqM_taped, nqM_mfault, nqM_mplace, nqM_told, nqM_hl, nqM_hd, NR_.w_rd, NR_.w_rn, NR_.w_taped, NR_.w_mfault, NR_.w_mplace, NR_.w_told, NR_.w_hl, NR_.w_hd, qqM_om, QT_.w_om, vqM_nv, NV_.w_nv, zqM_nw, NW_.w_nw]), (fun q => ne_no q rx_221 rc_0), (fq_at hFI_222 hLx hkx (by decide) (by decide) q_22)⟩ dX12_readSaid_69
              · skip
                have n_233 : ¬ v_17 = 20 := h_219
                have r_234 := ne_hi (hi := 19) n_233 rv_17 rc_20 rfl (by decide)
                refine g_aload_n C 0 dX12_readSaid_55 rfl rfl ?_
                refine g_getI C K hLx hkx f_12_398 (v := 6) q_22 dX12_readSaid_56 ?_
                refine g_bipush C (v := 8) dX12_readSaid_59 (by decide) ?_
                refine g_icmp_ne C (tgt := 70) dX12_readSaid_61 (by decide) (fun h_235 => ?_) (fun h_235 => ?_)
                · skip
                  refine g_aload_n C 0 dX12_readSaid_70 rfl rfl ?_
                  refine g_dup C dX12_readSaid_71 rfl ?_
                  refine g_getI C K hLx hkx f_12_395 (v := v_17) q_21 dX12_readSaid_72 ?_
                  refine g_iconst C (v := 1) dX12_readSaid_75 (by decide) ?_
                  obtain ⟨x_236, hx_236, rx_236, tx_236⟩ := ex_add 1 20 r_234 rc_1 (by decide) (by decide) (by decide) (by decide)
                  refine g_iadd C (v := x_236) dX12_readSaid_76 hx_236 ?_
                  refine h_putI C K hLx hkx f_12_395 p_12_48 dX12_readSaid_77 (fun I_237 hI_237 => ?_)
                  have hU_238 := iw_put W9 hU hI_237 (ro_o hkx (by decide)) (lo := 0) (hi := 20) (rfl) (rg_w rx_236 (by decide) (by decide)) rfl
                  have hF_239 := fq_puto hF hI_237 hkx (by decide) (by decide)
                  have hs_240 : NVq I_237 J x b_4 = s_5 := by rw [hI_237]; exact (vq_oI wvqx (ro_o hkx (by decide)) (by decide)).trans hs_5
                  have hs_241 : NWq I_237 J x b_6 = s_7 := by rw [hI_237]; exact (zq_oI wzqx (ro_o hkx (by decide)) (by decide)).trans hs_7
                  have hs_242 : MTq I_237 J x b_8 = s_9 := by rw [hI_237]; exact (mq_uIt wmqx (by decide)).trans hs_9
                  have hs_243 : NRq I_237 J x b_10 b_11 = s_12 := by rw [hI_237]; exact (nq_uIt wnqx (by decide)).trans hs_12
                  have hs_244 : QTq I_237 J x = (QT_.w_om s_13 (x_236)) := by rw [hI_237]; exact ((qq_om wqqx).trans (congrArg (fun z : QT_ => QT_.w_om z (x_236)) hs_13)).trans rfl
                  refine g_aload_n C 0 dX12_readSaid_80 rfl rfl ?_
                  refine g_dup C dX12_readSaid_81 rfl ?_
                  refine g_getI C K hLx hkx f_12_398 (v := 6) (kp_j hI_237 (by decide) q_22) dX12_readSaid_82 ?_
                  refine g_iconst C (v := 1) dX12_readSaid_85 (by decide) ?_
                  refine g_iadd C (v := 7) dX12_readSaid_86 (by decide) ?_
                  refine h_putI C K hLx hkx f_12_398 p_12_49 dX12_readSaid_87 (fun I_245 hI_245 => ?_)
                  have hU_246 := iw_put W9 hU_238 hI_245 (ro_o hkx (by decide)) (lo := 0) (hi := 8) (rfl) (rg_w rc_7 (by decide) (by decide)) rfl
                  have hF_247 := fq_puto hF_239 hI_245 hkx (by decide) (by decide)
                  have hs_248 : NVq I_245 J x b_4 = s_5 := by rw [hI_245]; exact (vq_oI wvqx (ro_o hkx (by decide)) (by decide)).trans hs_240
                  have hs_249 : NWq I_245 J x b_6 = s_7 := by rw [hI_245]; exact (zq_oI wzqx (ro_o hkx (by decide)) (by decide)).trans hs_241
                  have hs_250 : MTq I_245 J x b_8 = s_9 := by rw [hI_245]; exact (mq_uIt wmqx (by decide)).trans hs_242
                  have hs_251 : NRq I_245 J x b_10 b_11 = s_12 := by rw [hI_245]; exact (nq_uIt wnqx (by decide)).trans hs_243
                  have hs_252 : QTq I_245 J x = (QT_.w_om s_13 (x_236)) := by rw [hI_245]; exact (qq_uIt wqqx (by decide)).trans hs_244
                  refine g_aload_n C 0 dX12_readSaid_90 rfl rfl ?_
                  refine g_callVV C K (c_X12_go W9 hLx hkx   hU_246) hLx hkx (by decide) rfl v_12_156 rfl ⟨rfl, rfl⟩ ⟨Nat.le_of_ble_eq_true rfl, Nat.le_of_ble_eq_true rfl⟩ (Nat.le_of_ble_eq_true rfl) ⟨Nat.le_of_ble_eq_true rfl, Nat.le_of_ble_eq_true rfl⟩ dX12_readSaid_91 rfl (st := []) (fun I_254 J_255 h_256 => ?_)
                  obtain ⟨hUI_254, hFI_254, hGJ_255, fx_253, ex_253⟩ := h_256
                  have hF_257 := fq_tr hF_247 hFI_254 (by decide)
                  have hG_258 := fq_tr hG hGJ_255 (by decide)
                  obtain ⟨s_260, hs_260⟩ : ∃ z, MTq I_254 J_255 x b_8 = z := ⟨_, rfl⟩
                  have c_259 : mGo (s_9) = s_260 := by have q := fx_253; simp only [emqx, hs_250, hs_260] at q; exact q.symm
                  have hs_261 : NVq I_254 J_255 x b_4 = s_5 := (vq_fq wvqx hFI_254 hGJ_255 (by decide) (by decide)).trans hs_248
                  have hs_262 : NWq I_254 J_255 x b_6 = s_7 := (zq_fq wzqx hFI_254 hGJ_255 (by decide) (by decide)).trans hs_249
                  have hs_263 : NRq I_254 J_255 x b_10 b_11 = s_12 := (nq_fq wnqx hFI_254 hGJ_255 (by decide) (by decide)).trans hs_251
                  have hs_264 : QTq I_254 J_255 x = (QT_.w_om s_13 (x_236)) := (qq_fq wqqx hFI_254 hGJ_255 (by decide) (by decide)).trans hs_252
                  refine g_iconst C (v := 1) dX12_readSaid_94 (by decide) ?_
                  refine g_istore_n C dX12_readSaid_95 rfl (by decide) (lo2 := [(3, .int 1), (0, .ref x), (1, .int v_14), (2, .int v_15)]) rfl ?_
                  refine g_iload_n C 2 dX12_readSaid_96 rfl rfl ?_
                  refine g_if_eq C (tgt := 108) dX12_readSaid_97 (by decide) (fun h_265 => ?_) (fun h_265 => ?_)
                  · skip
                    refine g_iload_n C 3 dX12_readSaid_108 rfl rfl ?_
                    refine g_bipush C (v := 18) dX12_readSaid_109 (by decide) ?_
                    refine g_icmp_ne C (tgt := 122) dX12_readSaid_111 (by decide) (fun h_266 => ?_) (fun h_266 => ?_)
                    · skip
                      have n_267 : ¬ v_15 = 18 := h_266
                      have r_268 := ne_lo (lo := 19) n_267 r_127 rc_18 rfl (by decide)
                      refine g_iload_n C 3 dX12_readSaid_122 rfl rfl ?_
                      refine g_bipush C (v := 22) dX12_readSaid_123 (by decide) ?_
                      refine g_icmp_ge C (tgt := 146) dX12_readSaid_125 (by decide) (fun h_269 => ?_) (fun h_269 => ?_)
                      · skip
                        have r_270 := le_r (h_269) rc_22 r_268
                        refine g_iload_n C 3 dX12_readSaid_146 rfl rfl ?_
                        refine g_bipush C (v := 24) dX12_readSaid_147 (by decide) ?_
                        refine g_icmp_ge C (tgt := 160) dX12_readSaid_149 (by decide) (fun h_271 => ?_) (fun h_271 => ?_)
                        · skip
                          have r_272 := le_r (h_271) rc_24 r_270
                          refine g_aload_n C 1 dX12_readSaid_160 rfl rfl ?_
                          refine g_iload_n C 3 dX12_readSaid_161 rfl rfl ?_
                          refine g_callVI C K (c_X12_readCompare W9 hLx hkx v_15 (r_272) hUI_254  (by rw [(fq_at hFI_254 hLx hkx (by decide) (by decide) (kp_j hI_245 (by decide) (kp_j hI_237 (by decide) q_20))), (fq_at hFI_254 hLx hkx (by decide) (by decide) (kp_j hI_245 (by decide) (kp_s hI_237)))]; have := (ti_k tx_236 rc_1); omega)) hLx hkx (by decide) rfl v_12_410 rfl ⟨rfl, rfl⟩ ⟨Nat.le_of_ble_eq_true rfl, Nat.le_of_ble_eq_true rfl⟩ (Nat.le_of_ble_eq_true rfl) ⟨Nat.le_of_ble_eq_true rfl, Nat.le_of_ble_eq_true rfl⟩ dX12_readSaid_162 rfl (st := []) (fun x_273 I_274 J_275 h_276 => ?_)
                          obtain ⟨hUI_274, hFI_274, hGJ_275, rx_273, fx_273, ex_273⟩ := h_276
                          have hF_277 := fq_tr hF_257 hFI_274 (by decide)
                          have hG_278 := fq_tr hG_258 hGJ_275 (by decide)
                          obtain ⟨s_280, hs_280⟩ : ∃ z, MTq I_274 J_275 x b_8 = z := ⟨_, rfl⟩
                          obtain ⟨s_281, hs_281⟩ : ∃ z, NRq I_274 J_275 x b_10 b_11 = z := ⟨_, rfl⟩
                          obtain ⟨s_282, hs_282⟩ : ∃ z, QTq I_274 J_275 x = z := ⟨_, rfl⟩
                          have c_279 : mCmp (s_260) (s_12) ((QT_.w_om s_13 (x_236))) = (x_273, s_280, s_281, s_282) := by have q := fx_273; simp only [emqx, enqx, eqqx, hs_260, hs_263, hs_264, hs_280, hs_281, hs_282] at q; exact q.symm
                          have hs_283 : NVq I_274 J_275 x b_4 = s_5 := (vq_fq wvqx hFI_274 hGJ_275 (by decide) (by decide)).trans hs_261
                          have hs_284 : NWq I_274 J_275 x b_6 = s_7 := (zq_fq wzqx hFI_274 hGJ_275 (by decide) (by decide)).trans hs_262
                          obtain ⟨x_285, hx_285, rx_285⟩ := ex_getw (I := I_274) (a := x) (j := 47) (lo := 0) (hi := 60) hUI_274.1 hLx (ro_o hkx (by decide)) rfl
                          obtain ⟨x_286, hx_286, rx_286⟩ := ex_getw (I := I_274) (a := x) (j := 50) (lo := 0) (hi := 59) hUI_274.1 hLx (ro_o hkx (by decide)) rfl
                          refine g_istore_n C dX12_readSaid_165 rfl (by decide) (lo2 := [(3, .int x_273), (0, .ref x), (1, .int v_14), (2, .int v_15)]) rfl ?_
                          refine g_aload_n C 1 dX12_readSaid_166 rfl rfl ?_
                          refine g_dup C dX12_readSaid_167 rfl ?_
                          refine g_getI C K hLx hkx f_12_398 (v := 7) (fq_at hFI_274 hLx hkx (by decide) (by decide) (fq_at hFI_254 hLx hkx (by decide) (by decide) (kp_s hI_245))) dX12_readSaid_168 ?_
                          refine g_iconst C (v := 1) dX12_readSaid_171 (by decide) ?_
                          refine g_isub C (v := 6) dX12_readSaid_172 (by decide) ?_
                          refine h_putI C K hLx hkx f_12_398 p_12_49 dX12_readSaid_173 (fun I_287 hI_287 => ?_)
                          have hU_288 := iw_put W9 hUI_274 hI_287 (ro_o hkx (by decide)) (lo := 0) (hi := 8) (rfl) (rg_w rc_6 (by decide) (by decide)) rfl
                          have hF_289 := fq_puto hF_277 hI_287 hkx (by decide) (by decide)
                          have hs_290 : NVq I_287 J_275 x b_4 = s_5 := by rw [hI_287]; exact (vq_oI wvqx (ro_o hkx (by decide)) (by decide)).trans hs_283
                          have hs_291 : NWq I_287 J_275 x b_6 = s_7 := by rw [hI_287]; exact (zq_oI wzqx (ro_o hkx (by decide)) (by decide)).trans hs_284
                          have hs_292 : MTq I_287 J_275 x b_8 = s_280 := by rw [hI_287]; exact (mq_uIt wmqx (by decide)).trans hs_280
                          have hs_293 : NRq I_287 J_275 x b_10 b_11 = s_281 := by rw [hI_287]; exact (nq_uIt wnqx (by decide)).trans hs_281
                          have hs_294 : QTq I_287 J_275 x = s_282 := by rw [hI_287]; exact (qq_uIt wqqx (by decide)).trans hs_282
                          refine g_iload_n C 0 dX12_readSaid_176 rfl rfl ?_
                          exact g_zret (ty := .boolean) (r := x_273) B K rfl (nar_z (rx_273)) ⟨hU_288, hF_289, hG_278, rx_273, (by (try simp only [h_30, (nlt h_30), c_132, h_133, (eq_true h_136), h_217, f_218, h_219, h_235, hx_236, c_259, (eq_true h_265), h_266, h_269, h_271, hx_285, hx_286, if_true, if_false, mqM_tp, mqM_size, mqM_limit, mqM_to, mqM_frm, mqM_kind, mqM_number, mqM_sign, mqM_word, MT_.w_tp, MT_.w_size, MT_.w_limit, MT_.w_to, MT_.w_frm, MT_.w_kind, MT_.w_number, MT_.w_sign, MT_.w_word, nqM_rd, nqM_rn, nqM_taped, nqM_mfault, nqM_mplace, nqM_told, nqM_hl, nqM_hd, NR_.w_rd, NR_.w_rn, NR_.w_taped, NR_.w_mfault, NR_.w_mplace, NR_.w_told, NR_.w_hl, NR_.w_hd, qqM_om, QT_.w_om, vqM_nv, NV_.w_nv, zqM_nw, NW_.w_nw] at hQ_28); (try simp only [h_30, (nlt h_30), c_132, h_133, (eq_true h_136), h_217, f_218, h_219, h_235, hx_236, c_259, (eq_true h_265), h_266, h_269, h_271, hx_285, hx_286, if_true, if_false, mqM_tp, mqM_size, mqM_limit, mqM_to, mqM_frm, mqM_kind, mqM_number, mqM_sign, mqM_word, MT_.w_tp, MT_.w_size, MT_.w_limit, MT_.w_to, MT_.w_frm, MT_.w_kind, MT_.w_number, MT_.w_sign, MT_.w_word, nqM_rd, nqM_rn, nqM_taped, nqM_mfault, nqM_mplace, nqM_told, nqM_hl, nqM_hd, NR_.w_rd, NR_.w_rn, NR_.w_taped, NR_.w_mfault, NR_.w_mplace, NR_.w_told, NR_.w_hl, NR_.w_hd, qqM_om, QT_.w_om, vqM_nv, NV_.w_nv, zqM_nw, NW_.w_nw] at u_29); (try simp only [h_30, (nlt h_30), c_132, h_133, (eq_true h_136), h_217, f_218, h_219, h_235, hx_236, c_259, (eq_true h_265), h_266, h_269, h_271, hx_285, hx_286, if_true, if_false, mqM_tp, mqM_size, mqM_limit, mqM_to, mqM_frm, mqM_kind, mqM_number, mqM_sign, mqM_word, MT_.w_tp, MT_.w_size, MT_.w_limit, MT_.w_to, MT_.w_frm, MT_.w_kind, MT_.w_number, MT_.w_sign, MT_.w_word, nqM_rd, nqM_rn, nqM_taped, nqM_mfault, nqM_mplace, nqM_told, nqM_hl, nqM_hd, NR_.w_rd, NR_.w_rn, NR_.w_taped, NR_.w_mfault, NR_.w_mplace, NR_.w_told, NR_.w_hl, NR_.w_hd, qqM_om, QT_.w_om, vqM_nv, NV_.w_nv, zqM_nw, NW_.w_nw] at c_279); simp only [mSd0, mSd1, mSd2, mBadQ, evqx, hs_290, hs_5, ezqx, hs_291, hs_7, emqx, hs_292, hs_9, enqx, hs_293, hs_12, eqqx, hs_294, hs_13, hQ_28, u_29, h_30, (nlt h_30), c_132, h_133, (eq_true h_136), h_217, f_218, h_219, h_235, hx_236, c_259, (eq_true h_265), h_266, h_269, h_271, c_279, hx_285, hx_286, if_true, if_false, mqM_tp, mqM_size, mqM_limit, mqM_to, mqM_frm, mqM_kind, mqM_number, mqM_sign, mqM_word, MT_.w_tp, MT_.w_size, MT_.w_limit, MT_.w_to, MT_.w_frm, MT_.w_kind, MT_.w_number, MT_.w_sign, MT_.w_word, nqM_rd, nqM_rn, nqM_taped, nqM_mfault, nqM_mplace, nqM_told, nqM_hl, nqM_hd, NR_.w_rd, NR_.w_rn, NR_.w_taped, NR_.w_mfault, NR_.w_mplace, NR_.w_told, NR_.w_hl, NR_.w_hd, qqM_om, QT_.w_om, vqM_nv, NV_.w_nv, zqM_nw, NW_.w_nw]), (fun hq => by have n_295 : ¬ x_273 = 0 := hq; have r_296 := ne_lo (lo := 1) n_295 rx_273 rc_0 rfl (by decide); have f_297 := sl_v (fq_at hFI_254 hLx hkx (by decide) (by decide) (kp_j hI_245 (by decide) (kp_j hI_237 (by decide) q_20))) hx_285 hx_286 (ex_273 n_295); have f_298 : s_282.om = x_236 := (congrArg QT_.om hs_294).symm.trans (kp_j hI_287 (by decide) (fq_at hFI_274 hLx hkx (by decide) (by decide) (fq_at hFI_254 hLx hkx (by decide) (by decide) (kp_j hI_245 (by decide) (kp_s hI_237))))); exact (sz_m hx_1 hx_2 (kp_j hI_287 (by decide) hx_285) (kp_j hI_287 (by decide) (fq_at hFI_274 hLx hkx (by decide) (by decide) (fq_at hFI_254 hLx hkx (by decide) (by decide) (kp_j hI_245 (by decide) (kp_s hI_237))))) (kp_j hI_287 (by decide) hx_286) ⟨by have := (ti_k tx_236 rc_1); omega, by have := (ti_k tx_236 rc_1); omega, by have := (ti_k tx_236 rc_1); omega, by have := (ti_k tx_236 rc_1); omega⟩)), (kp_s hI_287)⟩ dX12_readSaid_177
                        · skip
                          have r_299 := lt_l (hi := 23) (nle h_271) r_270 rc_24 (by decide)
                          refine g_aload_n C 1 dX12_readSaid_152 rfl rfl ?_
                          refine g_iload_n C 3 dX12_readSaid_153 rfl rfl ?_
                          refine g_callVI C K (c_X12_readOf W9 hLx hkx v_15 (r_299) hUI_254  (by rw [(fq_at hFI_254 hLx hkx (by decide) (by decide) (kp_j hI_245 (by decide) (kp_j hI_237 (by decide) q_20))), (fq_at hFI_254 hLx hkx (by decide) (by decide) (kp_j hI_245 (by decide) (kp_s hI_237)))]; have := (ti_k tx_236 rc_1); omega)) hLx hkx (by decide) rfl v_12_407 rfl ⟨rfl, rfl⟩ ⟨Nat.le_of_ble_eq_true rfl, Nat.le_of_ble_eq_true rfl⟩ (Nat.le_of_ble_eq_true rfl) ⟨Nat.le_of_ble_eq_true rfl, Nat.le_of_ble_eq_true rfl⟩ dX12_readSaid_154 rfl (st := []) (fun x_300 I_301 J_302 h_303 => ?_)
                          obtain ⟨hUI_301, hFI_301, hGJ_302, rx_300, fx_300, ex_300⟩ := h_303
                          have hF_304 := fq_tr hF_257 hFI_301 (by decide)
                          have hG_305 := fq_tr hG_258 hGJ_302 (by decide)
                          obtain ⟨s_307, hs_307⟩ : ∃ z, MTq I_301 J_302 x b_8 = z := ⟨_, rfl⟩
                          obtain ⟨s_308, hs_308⟩ : ∃ z, NRq I_301 J_302 x b_10 b_11 = z := ⟨_, rfl⟩
                          obtain ⟨s_309, hs_309⟩ : ∃ z, QTq I_301 J_302 x = z := ⟨_, rfl⟩
                          have c_306 : mOf (v_15) (s_5) (s_7) (s_260) (s_12) ((QT_.w_om s_13 (x_236))) = (x_300, s_307, s_308, s_309) := by have q := fx_300; simp only [evqx, ezqx, emqx, enqx, eqqx, hs_261, hs_262, hs_260, hs_263, hs_264, hs_307, hs_308, hs_309] at q; exact q.symm
                          have hs_310 : NVq I_301 J_302 x b_4 = s_5 := (vq_fq wvqx hFI_301 hGJ_302 (by decide) (by decide)).trans hs_261
                          have hs_311 : NWq I_301 J_302 x b_6 = s_7 := (zq_fq wzqx hFI_301 hGJ_302 (by decide) (by decide)).trans hs_262
                          obtain ⟨x_312, hx_312, rx_312⟩ := ex_getw (I := I_301) (a := x) (j := 47) (lo := 0) (hi := 60) hUI_301.1 hLx (ro_o hkx (by decide)) rfl
                          obtain ⟨x_313, hx_313, rx_313⟩ := ex_getw (I := I_301) (a := x) (j := 50) (lo := 0) (hi := 59) hUI_301.1 hLx (ro_o hkx (by decide)) rfl
                          refine g_goto C (tgt := 165) dX12_readSaid_157 (by decide) ?_
                          refine g_istore_n C dX12_readSaid_165 rfl (by decide) (lo2 := [(3, .int x_300), (0, .ref x), (1, .int v_14), (2, .int v_15)]) rfl ?_
                          refine g_aload_n C 1 dX12_readSaid_166 rfl rfl ?_
                          refine g_dup C dX12_readSaid_167 rfl ?_
                          refine g_getI C K hLx hkx f_12_398 (v := 7) (fq_at hFI_301 hLx hkx (by decide) (by decide) (fq_at hFI_254 hLx hkx (by decide) (by decide) (kp_s hI_245))) dX12_readSaid_168 ?_
                          refine g_iconst C (v := 1) dX12_readSaid_171 (by decide) ?_
                          refine g_isub C (v := 6) dX12_readSaid_172 (by decide) ?_
                          refine h_putI C K hLx hkx f_12_398 p_12_49 dX12_readSaid_173 (fun I_314 hI_314 => ?_)
                          have hU_315 := iw_put W9 hUI_301 hI_314 (ro_o hkx (by decide)) (lo := 0) (hi := 8) (rfl) (rg_w rc_6 (by decide) (by decide)) rfl
                          have hF_316 := fq_puto hF_304 hI_314 hkx (by decide) (by decide)
                          have hs_317 : NVq I_314 J_302 x b_4 = s_5 := by rw [hI_314]; exact (vq_oI wvqx (ro_o hkx (by decide)) (by decide)).trans hs_310
                          have hs_318 : NWq I_314 J_302 x b_6 = s_7 := by rw [hI_314]; exact (zq_oI wzqx (ro_o hkx (by decide)) (by decide)).trans hs_311
                          have hs_319 : MTq I_314 J_302 x b_8 = s_307 := by rw [hI_314]; exact (mq_uIt wmqx (by decide)).trans hs_307
                          have hs_320 : NRq I_314 J_302 x b_10 b_11 = s_308 := by rw [hI_314]; exact (nq_uIt wnqx (by decide)).trans hs_308
                          have hs_321 : QTq I_314 J_302 x = s_309 := by rw [hI_314]; exact (qq_uIt wqqx (by decide)).trans hs_309
                          refine g_iload_n C 0 dX12_readSaid_176 rfl rfl ?_
                          exact g_zret (ty := .boolean) (r := x_300) B K rfl (nar_z (rx_300)) ⟨hU_315, hF_316, hG_305, rx_300, (by first | ((try simp only [h_30, (nlt h_30), c_132, h_133, (eq_true h_136), h_217, f_218, h_219, h_235, hx_236, c_259, (eq_true h_265), h_266, h_269, h_271, (nle h_271), hx_312, hx_313, if_true, if_false, mqM_tp, mqM_size, mqM_limit, mqM_to, mqM_frm, mqM_kind, mqM_number, mqM_sign, mqM_word, MT_.w_tp, MT_.w_size, MT_.w_limit, MT_.w_to, MT_.w_frm, MT_.w_kind, MT_.w_number, MT_.w_sign, MT_.w_word, nqM_rd, nqM_rn, nqM_taped, nqM_mfault, nqM_mplace, nqM_told, nqM_hl, nqM_hd, NR_.w_rd, NR_.w_rn, NR_.w_taped, NR_.w_mfault, NR_.w_mplace, NR_.w_told, NR_.w_hl, NR_.w_hd, qqM_om, QT_.w_om, vqM_nv, NV_.w_nv, zqM_nw, NW_.w_nw] at hQ_28); (try simp only [h_30, (nlt h_30), c_132, h_133, (eq_true h_136), h_217, f_218, h_219, h_235, hx_236, c_259, (eq_true h_265), h_266, h_269, h_271, (nle h_271), hx_312, hx_313, if_true, if_false, mqM_tp, mqM_size, mqM_limit, mqM_to, mqM_frm, mqM_kind, mqM_number, mqM_sign, mqM_word, MT_.w_tp, MT_.w_size, MT_.w_limit, MT_.w_to, MT_.w_frm, MT_.w_kind, MT_.w_number, MT_.w_sign, MT_.w_word, nqM_rd, nqM_rn, nqM_taped, nqM_mfault, nqM_mplace, nqM_told, nqM_hl, nqM_hd, NR_.w_rd, NR_.w_rn, NR_.w_taped, NR_.w_mfault, NR_.w_mplace, NR_.w_told, NR_.w_hl, NR_.w_hd, qqM_om, QT_.w_om, vqM_nv, NV_.w_nv, zqM_nw, NW_.w_nw] at u_29); (try simp only [h_30, (nlt h_30), c_132, h_133, (eq_true h_136), h_217, f_218, h_219, h_235, hx_236, c_259, (eq_true h_265), h_266, h_269, h_271, (nle h_271), hx_312, hx_313, if_true, if_false, mqM_tp, mqM_size, mqM_limit, mqM_to, mqM_frm, mqM_kind, mqM_number, mqM_sign, mqM_word, MT_.w_tp, MT_.w_size, MT_.w_limit, MT_.w_to, MT_.w_frm, MT_.w_kind, MT_.w_number, MT_.w_sign, MT_.w_word, nqM_rd, nqM_rn, nqM_taped, nqM_mfault, nqM_mplace, nqM_told, nqM_hl, nqM_hd, NR_.w_rd, NR_.w_rn, NR_.w_taped, NR_.w_mfault, NR_.w_mplace, NR_.w_told, NR_.w_hl, NR_.w_hd, qqM_om, QT_.w_om, vqM_nv, NV_.w_nv, zqM_nw, NW_.w_nw] at c_306); simp only [mSd0, mSd1, mSd2, mBadQ, evqx, hs_317, hs_5, ezqx, hs_318, hs_7, emqx, hs_319, hs_9, enqx, hs_320, hs_12, eqqx, hs_321, hs_13, hQ_28, u_29, h_30, (nlt h_30), c_132, h_133, (eq_true h_136), h_217, f_218, h_219, h_235, hx_236, c_259, (eq_true h_265), h_266, h_269, h_271, (nle h_271), c_306, hx_312, hx_313, if_true, if_false, mqM_tp, mqM_size, mqM_limit, mqM_to, mqM_frm, mqM_kind, mqM_number, mqM_sign, mqM_word, MT_.w_tp, MT_.w_size, MT_.w_limit, MT_.w_to, MT_.w_frm, MT_.w_kind, MT_.w_number, MT_.w_sign, MT_.w_word, nqM_rd, nqM_rn, nqM_taped, nqM_mfault, nqM_mplace, nqM_told, nqM_hl, nqM_hd, NR_.w_rd, NR_.w_rn, NR_.w_taped, NR_.w_mfault, NR_.w_mplace, NR_.w_told, NR_.w_hl, NR_.w_hd, qqM_om, QT_.w_om, vqM_nv, NV_.w_nv, zqM_nw, NW_.w_nw]; done) | exact absurd (nle h_271) h_30), (fun hq => by have n_322 : ¬ x_300 = 0 := hq; have r_323 := ne_lo (lo := 1) n_322 rx_300 rc_0 rfl (by decide); have f_324 := sl_v (fq_at hFI_254 hLx hkx (by decide) (by decide) (kp_j hI_245 (by decide) (kp_j hI_237 (by decide) q_20))) hx_312 hx_313 (ex_300 n_322); have f_325 : s_309.om = x_236 := (congrArg QT_.om hs_321).symm.trans (kp_j hI_314 (by decide) (fq_at hFI_301 hLx hkx (by decide) (by decide) (fq_at hFI_254 hLx hkx (by decide) (by decide) (kp_j hI_245 (by decide) (kp_s hI_237))))); exact (sz_m hx_1 hx_2 (kp_j hI_314 (by decide) hx_312) (kp_j hI_314 (by decide) (fq_at hFI_301 hLx hkx (by decide) (by decide) (fq_at hFI_254 hLx hkx (by decide) (by decide) (kp_j hI_245 (by decide) (kp_s hI_237))))) (kp_j hI_314 (by decide) hx_313) ⟨by have := (ti_k tx_236 rc_1); omega, by have := (ti_k tx_236 rc_1); omega, by have := (ti_k tx_236 rc_1); omega, by have := (ti_k tx_236 rc_1); omega⟩)), (kp_s hI_314)⟩ dX12_readSaid_177
                      · skip
                        have r_326 := lt_l (hi := 21) (nle h_269) r_268 rc_22 (by decide)
                        refine g_aload_n C 1 dX12_readSaid_128 rfl rfl ?_
                        refine g_aload_n C 1 dX12_readSaid_129 rfl rfl ?_
                        refine g_bipush C (v := 50) dX12_readSaid_130 (by decide) ?_
                        refine g_iload_n C 3 dX12_readSaid_132 rfl rfl ?_
                        obtain ⟨x_327, hx_327, rx_327, tx_327⟩ := ex_add 69 71 rc_50 r_326 (by decide) (by decide) (by decide) (by decide)
                        refine g_iadd C (v := x_327) dX12_readSaid_133 hx_327 ?_
                        refine g_iconst C (v := 0) dX12_readSaid_134 (by decide) ?_
                        refine g_iconst C (v := 0) dX12_readSaid_135 (by decide) ?_
                        refine g_iconst C (v := 0) dX12_readSaid_136 (by decide) ?_
                        have r_328 := (show Rg 0 59 v_16 from by have q1 := rv_16; have q2 := rx_236; unfold Rg at *; omega)
                        refine g_callVI C K (c_X12_saysOne W9 hLx hkx x_327 0 0 0 (rg_w rx_327 (by decide) (by decide)) (rg_w rc_0 (by decide) (by decide)) (rg_w rc_0 (by decide) (by decide)) hUI_254  (eq_rg (fq_at hFI_254 hLx hkx (by decide) (by decide) (kp_j hI_245 (by decide) (kp_j hI_237 (by decide) q_20))) (r_328)) (by rw [(fq_at hFI_254 hLx hkx (by decide) (by decide) (kp_j hI_245 (by decide) (kp_j hI_237 (by decide) q_20)))]; exact ⟨fun q => by rcases q with q | q | q; exact absurd q (rg_nek rx_327 rc_1 (by decide)); exact absurd q (rg_nek rx_327 rc_2 (by decide)); exact absurd q (rg_nek rx_327 rc_3 (by decide)), fun q => by rcases q with q | q; exact absurd q (rg_nek rx_327 rc_2 (by decide)); exact absurd q (rg_nek rx_327 rc_3 (by decide)), fun q => absurd q (rg_nek rx_327 rc_73 (by decide))⟩)) hLx hkx (by decide) rfl v_12_389 rfl ⟨rfl, rfl⟩ ⟨Nat.le_of_ble_eq_true rfl, Nat.le_of_ble_eq_true rfl⟩ (Nat.le_of_ble_eq_true rfl) ⟨Nat.le_of_ble_eq_true rfl, Nat.le_of_ble_eq_true rfl⟩ dX12_readSaid_137 rfl (st := [.ref x]) (fun x_329 I_330 J_331 h_332 => ?_)
                        obtain ⟨hUI_330, hFI_330, hGJ_331, rx_329, ex_329⟩ := h_332
                        have hF_333 := fq_tr hF_257 hFI_330 (by decide)
                        have hG_334 := fq_tr hG_258 hGJ_331 (by decide)
                        have hs_335 : NVq I_330 J_331 x b_4 = s_5 := (vq_fq wvqx hFI_330 hGJ_331 (by decide) (by decide)).trans hs_261
                        have hs_336 : NWq I_330 J_331 x b_6 = s_7 := (zq_fq wzqx hFI_330 hGJ_331 (by decide) (by decide)).trans hs_262
                        have hs_337 : MTq I_330 J_331 x b_8 = s_260 := (mq_fq wmqx hFI_330 hGJ_331 (by decide) (by decide)).trans hs_260
                        have hs_338 : NRq I_330 J_331 x b_10 b_11 = s_12 := (nq_fq wnqx hFI_330 hGJ_331 (by decide) (by decide)).trans hs_263
                        have hs_339 : QTq I_330 J_331 x = (QT_.w_om s_13 (x_236)) := (qq_fq wqqx hFI_330 hGJ_331 (by decide) (by decide)).trans hs_264
                        obtain ⟨x_340, hx_340, rx_340, tx_340, ux_340⟩ := sa_b (lo := 1) (hi := 60) ex_329 (fq_at hFI_254 hLx hkx (by decide) (by decide) (kp_j hI_245 (by decide) (kp_j hI_237 (by decide) q_20))) r_328 (by decide) (by decide)
                        have r_341 := (show Rg 0 59 x_329 from by have q1 := ux_340; have q2 := r_328; unfold Rg at *; omega)
                        refine h_putI C K hLx hkx f_12_386 p_12_50 dX12_readSaid_140 (fun I_342 hI_342 => ?_)
                        have hU_343 := iw_put W9 hUI_330 hI_342 (ro_o hkx (by decide)) (lo := 0) (hi := 59) (rfl) (r_341) rfl
                        have hF_344 := fq_puto hF_333 hI_342 hkx (by decide) (by decide)
                        have hs_345 : NVq I_342 J_331 x b_4 = s_5 := by rw [hI_342]; exact (vq_oI wvqx (ro_o hkx (by decide)) (by decide)).trans hs_335
                        have hs_346 : NWq I_342 J_331 x b_6 = s_7 := by rw [hI_342]; exact (zq_oI wzqx (ro_o hkx (by decide)) (by decide)).trans hs_336
                        have hs_347 : MTq I_342 J_331 x b_8 = s_260 := by rw [hI_342]; exact (mq_uIt wmqx (by decide)).trans hs_337
                        have hs_348 : NRq I_342 J_331 x b_10 b_11 = s_12 := by rw [hI_342]; exact (nq_uIt wnqx (by decide)).trans hs_338
                        have hs_349 : QTq I_342 J_331 x = (QT_.w_om s_13 (x_236)) := by rw [hI_342]; exact (qq_uIt wqqx (by decide)).trans hs_339
                        refine g_goto C (tgt := 166) dX12_readSaid_143 (by decide) ?_
                        refine g_aload_n C 1 dX12_readSaid_166 rfl rfl ?_
                        refine g_dup C dX12_readSaid_167 rfl ?_
                        refine g_getI C K hLx hkx f_12_398 (v := 7) (kp_j hI_342 (by decide) (fq_at hFI_330 hLx hkx (by decide) (by decide) (fq_at hFI_254 hLx hkx (by decide) (by decide) (kp_s hI_245)))) dX12_readSaid_168 ?_
                        refine g_iconst C (v := 1) dX12_readSaid_171 (by decide) ?_
                        refine g_isub C (v := 6) dX12_readSaid_172 (by decide) ?_
                        refine h_putI C K hLx hkx f_12_398 p_12_49 dX12_readSaid_173 (fun I_350 hI_350 => ?_)
                        have hU_351 := iw_put W9 hU_343 hI_350 (ro_o hkx (by decide)) (lo := 0) (hi := 8) (rfl) (rg_w rc_6 (by decide) (by decide)) rfl
                        have hF_352 := fq_puto hF_344 hI_350 hkx (by decide) (by decide)
                        have hs_353 : NVq I_350 J_331 x b_4 = s_5 := by rw [hI_350]; exact (vq_oI wvqx (ro_o hkx (by decide)) (by decide)).trans hs_345
                        have hs_354 : NWq I_350 J_331 x b_6 = s_7 := by rw [hI_350]; exact (zq_oI wzqx (ro_o hkx (by decide)) (by decide)).trans hs_346
                        have hs_355 : MTq I_350 J_331 x b_8 = s_260 := by rw [hI_350]; exact (mq_uIt wmqx (by decide)).trans hs_347
                        have hs_356 : NRq I_350 J_331 x b_10 b_11 = s_12 := by rw [hI_350]; exact (nq_uIt wnqx (by decide)).trans hs_348
                        have hs_357 : QTq I_350 J_331 x = (QT_.w_om s_13 (x_236)) := by rw [hI_350]; exact (qq_uIt wqqx (by decide)).trans hs_349
                        refine g_iload_n C 0 dX12_readSaid_176 rfl rfl ?_
                        exact g_zret (ty := .boolean) (r := 1) B K rfl (rfl) ⟨hU_351, hF_352, hG_334, rg_w rc_1 (by decide) (by decide), (by first | ((try simp only [h_30, (nlt h_30), c_132, h_133, (eq_true h_136), h_217, f_218, h_219, h_235, hx_236, c_259, (eq_true h_265), h_266, h_269, (nle h_269), hx_327, hx_340, if_true, if_false, mqM_tp, mqM_size, mqM_limit, mqM_to, mqM_frm, mqM_kind, mqM_number, mqM_sign, mqM_word, MT_.w_tp, MT_.w_size, MT_.w_limit, MT_.w_to, MT_.w_frm, MT_.w_kind, MT_.w_number, MT_.w_sign, MT_.w_word, nqM_rd, nqM_rn, nqM_taped, nqM_mfault, nqM_mplace, nqM_told, nqM_hl, nqM_hd, NR_.w_rd, NR_.w_rn, NR_.w_taped, NR_.w_mfault, NR_.w_mplace, NR_.w_told, NR_.w_hl, NR_.w_hd, qqM_om, QT_.w_om, vqM_nv, NV_.w_nv, zqM_nw, NW_.w_nw] at hQ_28); (try simp only [h_30, (nlt h_30), c_132, h_133, (eq_true h_136), h_217, f_218, h_219, h_235, hx_236, c_259, (eq_true h_265), h_266, h_269, (nle h_269), hx_327, hx_340, if_true, if_false, mqM_tp, mqM_size, mqM_limit, mqM_to, mqM_frm, mqM_kind, mqM_number, mqM_sign, mqM_word, MT_.w_tp, MT_.w_size, MT_.w_limit, MT_.w_to, MT_.w_frm, MT_.w_kind, MT_.w_number, MT_.w_sign, MT_.w_word, nqM_rd, nqM_rn, nqM_taped, nqM_mfault, nqM_mplace, nqM_told, nqM_hl, nqM_hd, NR_.w_rd, NR_.w_rn, NR_.w_taped, NR_.w_mfault, NR_.w_mplace, NR_.w_told, NR_.w_hl, NR_.w_hd, qqM_om, QT_.w_om, vqM_nv, NV_.w_nv, zqM_nw, NW_.w_nw] at u_29); simp only [mSd0, mSd1, mSd2, mBadQ, evqx, hs_353, hs_5, ezqx, hs_354, hs_7, emqx, hs_355, hs_9, enqx, hs_356, hs_12, eqqx, hs_357, hs_13, hQ_28, u_29, h_30, (nlt h_30), c_132, h_133, (eq_true h_136), h_217, f_218, h_219, h_235, hx_236, c_259, (eq_true h_265), h_266, h_269, (nle h_269), hx_327, hx_340, if_true, if_false, mqM_tp, mqM_size, mqM_limit, mqM_to, mqM_frm, mqM_kind, mqM_number, mqM_sign, mqM_word, MT_.w_tp, MT_.w_size, MT_.w_limit, MT_.w_to, MT_.w_frm, MT_.w_kind, MT_.w_number, MT_.w_sign, MT_.w_word, nqM_rd, nqM_rn, nqM_taped, nqM_mfault, nqM_mplace, nqM_told, nqM_hl, nqM_hd, NR_.w_rd, NR_.w_rn, NR_.w_taped, NR_.w_mfault, NR_.w_mplace, NR_.w_told, NR_.w_hl, NR_.w_hd, qqM_om, QT_.w_om, vqM_nv, NV_.w_nv, zqM_nw, NW_.w_nw]; done) | exact absurd (nle h_269) h_30), (fun _ => (sz_m hx_1 hx_2 (kp_j hI_350 (by decide) (kp_j hI_342 (by decide) hx_340)) (kp_j hI_350 (by decide) (kp_j hI_342 (by decide) (fq_at hFI_330 hLx hkx (by decide) (by decide) (fq_at hFI_254 hLx hkx (by decide) (by decide) (kp_j hI_245 (by decide) (kp_s hI_237)))))) (kp_j hI_350 (by decide) (kp_s hI_342)) ⟨by have := tx_340; have := (ti_k tx_236 rc_1); omega, by have := tx_340; have := (ti_k tx_236 rc_1); omega, by have := tx_340; have := (ti_k tx_236 rc_1); omega, by have := tx_340; have := (ti_k tx_236 rc_1); omega⟩)), (kp_s hI_350)⟩ dX12_readSaid_177
                    · skip
                      have r_358 := (⟨(r_127).1, (eq_rg (h_266) rc_18).2⟩ : Rg 18 18 v_15)
                      refine g_aload_n C 1 dX12_readSaid_114 rfl rfl ?_
                      refine g_callVI C K (c_X12_readNot_7 W9 hLx hkx   hUI_254  (by rw [(fq_at hFI_254 hLx hkx (by decide) (by decide) (kp_j hI_245 (by decide) (kp_j hI_237 (by decide) q_20))), (fq_at hFI_254 hLx hkx (by decide) (by decide) (kp_j hI_245 (by decide) (kp_s hI_237)))]; have := (ti_k tx_236 rc_1); omega) ((fq_at hFI_254 hLx hkx (by decide) (by decide) (kp_s hI_245)))) hLx hkx (by decide) rfl v_12_404 rfl ⟨rfl, rfl⟩ ⟨Nat.le_of_ble_eq_true rfl, Nat.le_of_ble_eq_true rfl⟩ (Nat.le_of_ble_eq_true rfl) ⟨Nat.le_of_ble_eq_true rfl, Nat.le_of_ble_eq_true rfl⟩ dX12_readSaid_115 rfl (st := []) (fun x_359 I_360 J_361 h_362 => ?_)
                      obtain ⟨hUI_360, hFI_360, hGJ_361, rx_359, fx_359, ex_359⟩ := h_362
                      have hF_363 := fq_tr hF_257 hFI_360 (by decide)
                      have hG_364 := fq_tr hG_258 hGJ_361 (by decide)
                      obtain ⟨s_366, hs_366⟩ : ∃ z, MTq I_360 J_361 x b_8 = z := ⟨_, rfl⟩
                      obtain ⟨s_367, hs_367⟩ : ∃ z, NRq I_360 J_361 x b_10 b_11 = z := ⟨_, rfl⟩
                      obtain ⟨s_368, hs_368⟩ : ∃ z, QTq I_360 J_361 x = z := ⟨_, rfl⟩
                      have c_365 : mNtK 1 (s_5) (s_7) (s_260) (s_12) ((QT_.w_om s_13 (x_236))) = (x_359, s_366, s_367, s_368) := by have q := fx_359; simp only [evqx, ezqx, emqx, enqx, eqqx, hs_261, hs_262, hs_260, hs_263, hs_264, hs_366, hs_367, hs_368] at q; exact q.symm
                      have hs_369 : NVq I_360 J_361 x b_4 = s_5 := (vq_fq wvqx hFI_360 hGJ_361 (by decide) (by decide)).trans hs_261
                      have hs_370 : NWq I_360 J_361 x b_6 = s_7 := (zq_fq wzqx hFI_360 hGJ_361 (by decide) (by decide)).trans hs_262
                      obtain ⟨x_371, hx_371, rx_371⟩ := ex_getw (I := I_360) (a := x) (j := 47) (lo := 0) (hi := 60) hUI_360.1 hLx (ro_o hkx (by decide)) rfl
                      obtain ⟨x_372, hx_372, rx_372⟩ := ex_getw (I := I_360) (a := x) (j := 50) (lo := 0) (hi := 59) hUI_360.1 hLx (ro_o hkx (by decide)) rfl
                      obtain ⟨x_373, hx_373, rx_373⟩ := ex_getw (I := I_360) (a := x) (j := 48) (lo := 0) (hi := 20) hUI_360.1 hLx (ro_o hkx (by decide)) rfl
                      have f_374 : s_368.om = x_373 := (congrArg QT_.om hs_368).symm.trans hx_373
                      refine g_istore_n C dX12_readSaid_118 rfl (by decide) (lo2 := [(3, .int x_359), (0, .ref x), (1, .int v_14), (2, .int v_15)]) rfl ?_
                      refine g_goto C (tgt := 166) dX12_readSaid_119 (by decide) ?_
                      refine g_aload_n C 1 dX12_readSaid_166 rfl rfl ?_
                      refine g_dup C dX12_readSaid_167 rfl ?_
                      refine g_getI C K hLx hkx f_12_398 (v := 7) ex_359.2 dX12_readSaid_168 ?_
                      refine g_iconst C (v := 1) dX12_readSaid_171 (by decide) ?_
                      refine g_isub C (v := 6) dX12_readSaid_172 (by decide) ?_
                      refine h_putI C K hLx hkx f_12_398 p_12_49 dX12_readSaid_173 (fun I_375 hI_375 => ?_)
                      have hU_376 := iw_put W9 hUI_360 hI_375 (ro_o hkx (by decide)) (lo := 0) (hi := 8) (rfl) (rg_w rc_6 (by decide) (by decide)) rfl
                      have hF_377 := fq_puto hF_363 hI_375 hkx (by decide) (by decide)
                      have hs_378 : NVq I_375 J_361 x b_4 = s_5 := by rw [hI_375]; exact (vq_oI wvqx (ro_o hkx (by decide)) (by decide)).trans hs_369
                      have hs_379 : NWq I_375 J_361 x b_6 = s_7 := by rw [hI_375]; exact (zq_oI wzqx (ro_o hkx (by decide)) (by decide)).trans hs_370
                      have hs_380 : MTq I_375 J_361 x b_8 = s_366 := by rw [hI_375]; exact (mq_uIt wmqx (by decide)).trans hs_366
                      have hs_381 : NRq I_375 J_361 x b_10 b_11 = s_367 := by rw [hI_375]; exact (nq_uIt wnqx (by decide)).trans hs_367
                      have hs_382 : QTq I_375 J_361 x = s_368 := by rw [hI_375]; exact (qq_uIt wqqx (by decide)).trans hs_368
                      refine g_iload_n C 0 dX12_readSaid_176 rfl rfl ?_
                      exact g_zret (ty := .boolean) (r := x_359) B K rfl (nar_z (rx_359)) ⟨hU_376, hF_377, hG_364, rx_359, (by (try simp only [h_30, (nlt h_30), c_132, h_133, (eq_true h_136), h_217, f_218, h_219, h_235, hx_236, c_259, (eq_true h_265), (eq_true h_266), hx_371, hx_372, hx_373, f_374, if_true, if_false, mqM_tp, mqM_size, mqM_limit, mqM_to, mqM_frm, mqM_kind, mqM_number, mqM_sign, mqM_word, MT_.w_tp, MT_.w_size, MT_.w_limit, MT_.w_to, MT_.w_frm, MT_.w_kind, MT_.w_number, MT_.w_sign, MT_.w_word, nqM_rd, nqM_rn, nqM_taped, nqM_mfault, nqM_mplace, nqM_told, nqM_hl, nqM_hd, NR_.w_rd, NR_.w_rn, NR_.w_taped, NR_.w_mfault, NR_.w_mplace, NR_.w_told, NR_.w_hl, NR_.w_hd, qqM_om, QT_.w_om, vqM_nv, NV_.w_nv, zqM_nw, NW_.w_nw] at hQ_28); (try simp only [h_30, (nlt h_30), c_132, h_133, (eq_true h_136), h_217, f_218, h_219, h_235, hx_236, c_259, (eq_true h_265), (eq_true h_266), hx_371, hx_372, hx_373, f_374, if_true, if_false, mqM_tp, mqM_size, mqM_limit, mqM_to, mqM_frm, mqM_kind, mqM_number, mqM_sign, mqM_word, MT_.w_tp, MT_.w_size, MT_.w_limit, MT_.w_to, MT_.w_frm, MT_.w_kind, MT_.w_number, MT_.w_sign, MT_.w_word, nqM_rd, nqM_rn, nqM_taped, nqM_mfault, nqM_mplace, nqM_told, nqM_hl, nqM_hd, NR_.w_rd, NR_.w_rn, NR_.w_taped, NR_.w_mfault, NR_.w_mplace, NR_.w_told, NR_.w_hl, NR_.w_hd, qqM_om, QT_.w_om, vqM_nv, NV_.w_nv, zqM_nw, NW_.w_nw] at u_29); (try simp only [h_30, (nlt h_30), c_132, h_133, (eq_true h_136), h_217, f_218, h_219, h_235, hx_236, c_259, (eq_true h_265), (eq_true h_266), hx_371, hx_372, hx_373, f_374, if_true, if_false, mqM_tp, mqM_size, mqM_limit, mqM_to, mqM_frm, mqM_kind, mqM_number, mqM_sign, mqM_word, MT_.w_tp, MT_.w_size, MT_.w_limit, MT_.w_to, MT_.w_frm, MT_.w_kind, MT_.w_number, MT_.w_sign, MT_.w_word, nqM_rd, nqM_rn, nqM_taped, nqM_mfault, nqM_mplace, nqM_told, nqM_hl, nqM_hd, NR_.w_rd, NR_.w_rn, NR_.w_taped, NR_.w_mfault, NR_.w_mplace, NR_.w_told, NR_.w_hl, NR_.w_hd, qqM_om, QT_.w_om, vqM_nv, NV_.w_nv, zqM_nw, NW_.w_nw] at c_365); simp only [mSd0, mSd1, mSd2, mBadQ, evqx, hs_378, hs_5, ezqx, hs_379, hs_7, emqx, hs_380, hs_9, enqx, hs_381, hs_12, eqqx, hs_382, hs_13, hQ_28, u_29, h_30, (nlt h_30), c_132, h_133, (eq_true h_136), h_217, f_218, h_219, h_235, hx_236, c_259, (eq_true h_265), (eq_true h_266), c_365, hx_371, hx_372, hx_373, f_374, if_true, if_false, mqM_tp, mqM_size, mqM_limit, mqM_to, mqM_frm, mqM_kind, mqM_number, mqM_sign, mqM_word, MT_.w_tp, MT_.w_size, MT_.w_limit, MT_.w_to, MT_.w_frm, MT_.w_kind, MT_.w_number, MT_.w_sign, MT_.w_word, nqM_rd, nqM_rn, nqM_taped, nqM_mfault, nqM_mplace, nqM_told, nqM_hl, nqM_hd, NR_.w_rd, NR_.w_rn, NR_.w_taped, NR_.w_mfault, NR_.w_mplace, NR_.w_told, NR_.w_hl, NR_.w_hd, qqM_om, QT_.w_om, vqM_nv, NV_.w_nv, zqM_nw, NW_.w_nw]), (fun hq => by have n_383 : ¬ x_359 = 0 := hq; have r_384 := ne_lo (lo := 1) n_383 rx_359 rc_0 rfl (by decide); have f_385 := sz_v (fq_at hFI_254 hLx hkx (by decide) (by decide) (kp_j hI_245 (by decide) (kp_j hI_237 (by decide) q_20))) (fq_at hFI_254 hLx hkx (by decide) (by decide) (kp_j hI_245 (by decide) (kp_s hI_237))) hx_371 hx_373 hx_372 (ex_359.1 n_383); have f_386 := (ti_k tx_236 rc_1); exact (sz_m hx_1 hx_2 (kp_j hI_375 (by decide) hx_371) (kp_j hI_375 (by decide) hx_373) (kp_j hI_375 (by decide) hx_372) ⟨by omega, by omega, by omega, by omega⟩)), (kp_s hI_375)⟩ dX12_readSaid_177
                  · skip
                    exact ne_no (h_265) r_216 rc_0
                · skip
                  exact absurd (h_235) (by decide)
            · skip
              have r_387 := lt_r (lo := 28) (nle h_217) rc_27 r_127 (by decide)
              exact rg_no r_387 (by decide)
        · skip
          have r_388 := (⟨(rx_128).1, (eq_rg (h_133) rc_0).2⟩ : Rg 0 0 x_128)
          obtain ⟨x_389, hx_389, rx_389, tx_389⟩ := ex_add (y := 1) 19 28 r_127 rc_1 (by decide) (by decide) (by decide) (by decide)
          refine g_iinc C dX12_readSaid_24 (k := 2) (v := x_389) rfl hx_389 (by decide) (lo2 := [(2, .int x_389), (0, .ref x), (1, .int v_14)]) rfl ?_
          refine g_goto C (tgt := 10) dX12_readSaid_27 (by decide) ?_
          have f_390 : s_13.om = v_17 := (congrArg QT_.om hs_13).symm.trans q_21
          refine g_lo (is := [1, 2, 0]) (lo2 := [(0, .ref x), (1, .int v_14), (2, .int x_389)]) rfl ?_
          exact ih_10 v_14 (rv_14) x_389 (rg_w rx_389 (by decide) (by decide)) v_16 (rv_16) v_17 (rv_17) v_18 (rv_18) v_19 (rv_19) q_20 q_21 q_22 q_23 q_24 (by (try simp only [h_30, (nlt h_30), c_132, (eq_true h_133), hx_389, if_true, if_false, mqM_tp, mqM_size, mqM_limit, mqM_to, mqM_frm, mqM_kind, mqM_number, mqM_sign, mqM_word, MT_.w_tp, MT_.w_size, MT_.w_limit, MT_.w_to, MT_.w_frm, MT_.w_kind, MT_.w_number, MT_.w_sign, MT_.w_word, nqM_rd, nqM_rn, nqM_taped, nqM_mfault, nqM_mplace, nqM_told, nqM_hl, nqM_hd, NR_.w_rd, NR_.w_rn, NR_.w_taped, NR_.w_mfault, NR_.w_mplace, NR_.w_told, NR_.w_hl, NR_.w_hd, qqM_om, QT_.w_om, vqM_nv, NV_.w_nv, zqM_nw, NW_.w_nw] at hQ_28); (try simp only [h_30, (nlt h_30), c_132, (eq_true h_133), hx_389, if_true, if_false, mqM_tp, mqM_size, mqM_limit, mqM_to, mqM_frm, mqM_kind, mqM_number, mqM_sign, mqM_word, MT_.w_tp, MT_.w_size, MT_.w_limit, MT_.w_to, MT_.w_frm, MT_.w_kind, MT_.w_number, MT_.w_sign, MT_.w_word, nqM_rd, nqM_rn, nqM_taped, nqM_mfault, nqM_mplace, nqM_told, nqM_hl, nqM_hd, NR_.w_rd, NR_.w_rn, NR_.w_taped, NR_.w_mfault, NR_.w_mplace, NR_.w_told, NR_.w_hl, NR_.w_hd, qqM_om, QT_.w_om, vqM_nv, NV_.w_nv, zqM_nw, NW_.w_nw] at u_29); simp only [mSd0, mSd1, mSd2, mBadQ, evqx, hs_5, ezqx, hs_7, emqx, hs_9, enqx, hs_12, eqqx, hs_13, hQ_28, u_29, h_30, (nlt h_30), c_132, (eq_true h_133), hx_389, if_true, if_false, mqM_tp, mqM_size, mqM_limit, mqM_to, mqM_frm, mqM_kind, mqM_number, mqM_sign, mqM_word, MT_.w_tp, MT_.w_size, MT_.w_limit, MT_.w_to, MT_.w_frm, MT_.w_kind, MT_.w_number, MT_.w_sign, MT_.w_word, nqM_rd, nqM_rn, nqM_taped, nqM_mfault, nqM_mplace, nqM_told, nqM_hl, nqM_hd, NR_.w_rd, NR_.w_rn, NR_.w_taped, NR_.w_mfault, NR_.w_mplace, NR_.w_told, NR_.w_hl, NR_.w_hd, qqM_om, QT_.w_om, vqM_nv, NV_.w_nv, zqM_nw, NW_.w_nw]) ⟨by omega, by omega⟩ (ms_1 hm_27 (ti_k tx_389 rc_1) (by decide))
  refine g_aload_n C 0 dX12_readSaid_0 rfl rfl ?_
  refine g_bipush C (v := 40) dX12_readSaid_1 (by decide) ?_
  obtain ⟨x_391, hx_391, rx_391⟩ := ex_getw (I := I) (a := x) (j := 7) (lo := 0) (hi := 4) hU.1 hLx (ro_o hkx (by decide)) rfl
  have f_392 : s_9.kind = x_391 := (congrArg MT_.kind hs_9).symm.trans hx_391
  refine g_callVI C K (c_X12_isSign W9 hLx hkx 40 (rg_w rc_40 (by decide) (by decide)) hU) hLx hkx (by decide) rfl v_12_159 rfl ⟨rfl, rfl⟩ ⟨Nat.le_of_ble_eq_true rfl, Nat.le_of_ble_eq_true rfl⟩ (Nat.le_of_ble_eq_true rfl) ⟨Nat.le_of_ble_eq_true rfl, Nat.le_of_ble_eq_true rfl⟩ dX12_readSaid_3 rfl (st := []) (fun x_393 I_394 J_395 h_396 => ?_)
  obtain ⟨rfl, rfl, rx_393, fx_393, ex_393⟩ := h_396
  have c_397 : mIsSign (40) (s_9) = x_393 := by have q := fx_393; simp only [emqx, hs_9] at q; exact q.symm
  have q_398 := hx_391
  refine g_istore_n C dX12_readSaid_6 rfl (by decide) (lo2 := [(1, .int x_393), (0, .ref x)]) rfl ?_
  refine g_bipush C (v := 18) dX12_readSaid_7 (by decide) ?_
  refine g_istore_n C dX12_readSaid_9 rfl (by decide) (lo2 := [(2, .int 18), (1, .int x_393), (0, .ref x)]) rfl ?_
  have f_399 : s_13.om = x_2 := (congrArg QT_.om hs_13).symm.trans hx_2
  refine g_lo (is := [2, 1, 0]) (lo2 := [(0, .ref x), (1, .int x_393), (2, .int 18)]) rfl ?_
  exact l_10 11 x_393 (rx_393) 18 (rg_w rc_18 (by decide) (by decide)) x_1 (rx_1) x_2 (rx_2) x_3 (rx_3) x_391 (rx_391) hx_1 hx_2 hwi hx_3 hx_391 (by simp only [mSaid_k2, mSd0, mSd1, mSd2, mBadQ, evqx, hs_5, ezqx, hs_7, emqx, hs_9, enqx, hs_12, eqqx, hs_13, hx_1, hx_2, hx_3, hx_391, f_392, c_397, if_true, if_false, mqM_tp, mqM_size, mqM_limit, mqM_to, mqM_frm, mqM_kind, mqM_number, mqM_sign, mqM_word, MT_.w_tp, MT_.w_size, MT_.w_limit, MT_.w_to, MT_.w_frm, MT_.w_kind, MT_.w_number, MT_.w_sign, MT_.w_word, nqM_rd, nqM_rn, nqM_taped, nqM_mfault, nqM_mplace, nqM_told, nqM_hl, nqM_hd, NR_.w_rd, NR_.w_rn, NR_.w_taped, NR_.w_mfault, NR_.w_mplace, NR_.w_told, NR_.w_hl, NR_.w_hd, qqM_om, QT_.w_om, vqM_nv, NV_.w_nv, zqM_nw, NW_.w_nw]) ⟨by omega, by omega⟩ (ms_s (a := 18) (b := 28) (N := 11) (rg_w rc_18 (by decide) (by decide)) (by decide))
set_option maxRecDepth 100000 in
set_option maxHeartbeats 8000000 in
theorem c_X12_readAnd_6 {l : Launch} {D : va_G} {cy : Nat → ClassId} {L : List Nat} {κ ln : Nat → Nat} {R : Nat → Nat → Option Nat} {I : Nat → Nat → Int32} {J : Nat → Nat → Int64} {ow : Nat → Nat × Nat} (W9 : ∀ a ∈ L, Shp L κ ln R ow a) {x : Nat} (hLx : x ∈ L) (hkx : κ x = 12) (hU : Iw L κ R ow I) (hn : (I x 47).toInt ≤ 2 * (I x 48).toInt) (hwi : I x 49 = 6) : CtI l yX12_readAnd cX12_readAnd 2 (some .boolean) { frames := 12, cells := 0, slots := 0, locals := 262 } D cy L κ ln R I J [.ref x] (fun r I2 J2 => Iw L κ R ow I2 ∧ Fq L κ ow [1205, 1206, 1207, 1208, 1209, 1210, 1211, 1213, 1247, 1248, 1249, 1250, 86600] I I2 ∧ Fq L κ ow [1212] J J2 ∧ Rg 0 1 r ∧ ((r, MTf R I2 J2 x, NRf R I2 J2 x, QTf R I2 J2 x) = mAndK 2 (NVf R I J x) (NWf R I J x) (MTf R I J x) (NRf R I J x) (QTf R I J x)) ∧ (¬ r = 0 → Sz_ x I I2 1) ∧ (I2 x 49 = 6)) := by
  obtain ⟨x_1, hx_1, rx_1⟩ := ex_getw (I := I) (a := x) (j := 47) (lo := 0) (hi := 60) hU.1 hLx (ro_o hkx (by decide)) rfl
  obtain ⟨x_2, hx_2, rx_2⟩ := ex_getw (I := I) (a := x) (j := 48) (lo := 0) (hi := 20) hU.1 hLx (ro_o hkx (by decide)) rfl
  rw [hx_1, hx_2] at hn
  obtain ⟨x_3, hx_3, rx_3⟩ := ex_getw (I := I) (a := x) (j := 50) (lo := 0) (hi := 59) hU.1 hLx (ro_o hkx (by decide)) rfl
  refine CtI.of (by decide +kernel) (Nat.le_of_ble_eq_true rfl) ?_
  intro p e s m below meth c B K
  have C := B.1
  have hF : Fq L κ ow [1205, 1206, 1207, 1208, 1209, 1210, 1211, 1213, 1247, 1248, 1249, 1250, 86600] I I := fq_rf
  have hG : Fq L κ ow [1212] J J := fq_rf
  obtain ⟨b_4, hb_4, hb_4L, hb_4k, hb_4n, hb_4o⟩ := shp_a (W9 x hLx) hkx 19 15 13 rfl (by decide)
  have evqx : ∀ I J, NVf R I J x = NVq I J x b_4 := fun I J => by simp only [NVf, rr_, Option.getD_some, hb_4]
  have wvqx : vqw_ L κ ow x b_4 := ⟨⟨hLx, hb_4L⟩, ⟨(ro_o hkx (by decide)), (ro_a hb_4k (by decide) hb_4o hkx rfl)⟩⟩
  obtain ⟨s_5, hs_5⟩ : ∃ z, NVq I J x b_4 = z := ⟨_, rfl⟩
  obtain ⟨b_6, hb_6, hb_6L, hb_6k, hb_6n, hb_6o⟩ := shp_a (W9 x hLx) hkx 14 14 389 rfl (by decide)
  have ezqx : ∀ I J, NWf R I J x = NWq I J x b_6 := fun I J => by simp only [NWf, rr_, Option.getD_some, hb_6]
  have wzqx : zqw_ L κ ow x b_6 := ⟨⟨hLx, hb_6L⟩, ⟨(ro_o hkx (by decide)), (ro_a hb_6k (by decide) hb_6o hkx rfl)⟩⟩
  obtain ⟨s_7, hs_7⟩ : ∃ z, NWq I J x b_6 = z := ⟨_, rfl⟩
  obtain ⟨b_8, hb_8, hb_8L, hb_8k, hb_8n, hb_8o⟩ := shp_a (W9 x hLx) hkx 1 14 940 rfl (by decide)
  have emqx : ∀ I J, MTf R I J x = MTq I J x b_8 := fun I J => by simp only [MTf, rr_, Option.getD_some, hb_8]
  have wmqx : mqw_ L κ ow x b_8 := ⟨⟨hLx, hb_8L⟩, ⟨(ro_o hkx (by decide)), (ro_a hb_8k (by decide) hb_8o hkx rfl)⟩⟩
  obtain ⟨s_9, hs_9⟩ : ∃ z, MTq I J x b_8 = z := ⟨_, rfl⟩
  obtain ⟨b_10, hb_10, hb_10L, hb_10k, hb_10n, hb_10o⟩ := shp_a (W9 x hLx) hkx 15 14 72 rfl (by decide)
  obtain ⟨b_11, hb_11, hb_11L, hb_11k, hb_11n, hb_11o⟩ := shp_a (W9 x hLx) hkx 20 15 13 rfl (by decide)
  have enqx : ∀ I J, NRf R I J x = NRq I J x b_10 b_11 := fun I J => by simp only [NRf, rr_, Option.getD_some, hb_10, hb_11]
  have wnqx : nqw_ L κ ow x b_10 b_11 := ⟨⟨hLx, hb_10L, hb_11L⟩, ⟨(ro_o hkx (by decide)), (ro_a hb_10k (by decide) hb_10o hkx rfl), (ro_a hb_11k (by decide) hb_11o hkx rfl)⟩⟩
  obtain ⟨s_12, hs_12⟩ : ∃ z, NRq I J x b_10 b_11 = z := ⟨_, rfl⟩
  have eqqx : ∀ I J, QTf R I J x = QTq I J x := fun I J => by simp only [QTf, rr_, Option.getD_some]
  have wqqx : qqw_ L κ ow x := ⟨hLx, (ro_o hkx (by decide))⟩
  obtain ⟨s_13, hs_13⟩ : ∃ z, QTq I J x = z := ⟨_, rfl⟩
  refine g_lo (is := [0]) (lo2 := [(0, .ref x)]) rfl ?_
  have l_14 : ∀ (n_14 : Nat) (I_14 : Nat → Nat → Int32) (J_15 : Nat → Nat → Int64) (hU_16 : Iw L κ R ow I_14) (hF_17 : Fq L κ ow [1205, 1206, 1207, 1208, 1209, 1210, 1211, 1213, 1247, 1248, 1249, 1250, 86600] I I_14) (hG_18 : Fq L κ ow [1212] J J_15) (v_19 : Int32) (rv_19 : Rg 0 59 v_19) (v_20 : Int32) (rv_20 : Rg 0 60 v_20) (v_21 : Int32) (rv_21 : Rg 0 20 v_21) (v_22 : Int32) (rv_22 : Rg 0 59 v_22) (q_23 : I_14 x 47 = v_20) (q_24 : I_14 x 48 = v_21) (q_25 : I_14 x 49 = 6) (q_26 : I_14 x 50 = v_22) (hq_27 : mLp (mSaid 2 (NVq I_14 J_15 x b_4) (NWq I_14 J_15 x b_6)) 17 n_14 (MTq I_14 J_15 x b_8) (NRq I_14 J_15 x b_10 b_11) (QTq I_14 J_15 x) = mAndK 2 s_5 s_7 s_9 s_12 s_13) (hj_28 : x_1.toInt ≤ v_20.toInt ∧ x_2.toInt + 1 ≤ v_21.toInt ∧ 2 * x_2.toInt - x_1.toInt + 1 ≤ 2 * v_21.toInt - v_20.toInt ∧ v_19.toInt < v_20.toInt) (hm_29 : 20 < v_21.toInt + (n_14 : Int)), WG p l e { frames := 12, cells := 0, slots := 0, locals := 262 } s m ([.ref x] : List Value).toArray below meth c 2 0 0 (MQ below (Qi_ D cy L κ ln R (fun r I2 J2 => Iw L κ R ow I2 ∧ Fq L κ ow [1205, 1206, 1207, 1208, 1209, 1210, 1211, 1213, 1247, 1248, 1249, 1250, 86600] I I2 ∧ Fq L κ ow [1212] J J2 ∧ Rg 0 1 r ∧ ((r, MTf R I2 J2 x, NRf R I2 J2 x, QTf R I2 J2 x) = mAndK 2 (NVf R I J x) (NWf R I J x) (MTf R I J x) (NRf R I J x) (QTf R I J x)) ∧ (¬ r = 0 → Sz_ x I I2 1) ∧ (I2 x 49 = 6))) ([.ref x] : List Value).toArray s 0 0 (Al_ L)) D cy (Al_ L) s.heap L κ ln R I_14 J_15 14 [(0, .ref x), (1, .int v_19)] [] := by
    intro n_14
    induction n_14 with
    | zero =>
      intro I_14 J_15 hU_16 hF_17 hG_18 v_19 rv_19 v_20 rv_20 v_21 rv_21 v_22 rv_22 q_23 q_24 q_25 q_26 hq_27 hj_28 hm_29
      exact absurd hm_29 (by have := (rv_21).2; omega)
    | succ n_14 ih_14 =>
      intro I_14 J_15 hU_16 hF_17 hG_18 v_19 rv_19 v_20 rv_20 v_21 rv_21 v_22 rv_22 q_23 q_24 q_25 q_26 hq_27 hj_28 hm_29
      obtain ⟨s_30, hs_30⟩ : ∃ z, NVq I_14 J_15 x b_4 = z := ⟨_, rfl⟩
      obtain ⟨s_31, hs_31⟩ : ∃ z, NWq I_14 J_15 x b_6 = z := ⟨_, rfl⟩
      obtain ⟨s_32, hs_32⟩ : ∃ z, MTq I_14 J_15 x b_8 = z := ⟨_, rfl⟩
      obtain ⟨s_33, hs_33⟩ : ∃ z, NRq I_14 J_15 x b_10 b_11 = z := ⟨_, rfl⟩
      obtain ⟨s_34, hs_34⟩ : ∃ z, QTq I_14 J_15 x = z := ⟨_, rfl⟩
      simp only [hs_30, hs_31, hs_32, hs_33, hs_34] at hq_27
      have hQ_35 := hq_27.symm
      have u_36 := mLp_eq (rd := mSaid 2 s_30 s_31) (k := 17) (f := n_14) (m := s_32) (n := s_33) (q := s_34)
      refine g_aload_n C 0 dX12_readAnd_14 rfl rfl ?_
      refine g_bipush C (v := 17) dX12_readAnd_15 (by decide) ?_
      refine g_callVI C K (c_X12_isWord W9 hLx hkx 17 (rg_w rc_17 (by decide) (by decide)) hU_16) hLx hkx (by decide) rfl v_12_191 rfl ⟨rfl, rfl⟩ ⟨Nat.le_of_ble_eq_true rfl, Nat.le_of_ble_eq_true rfl⟩ (Nat.le_of_ble_eq_true rfl) ⟨Nat.le_of_ble_eq_true rfl, Nat.le_of_ble_eq_true rfl⟩ dX12_readAnd_17 rfl (st := []) (fun x_37 I_38 J_39 h_40 => ?_)
      obtain ⟨rfl, rfl, rx_37, fx_37⟩ := h_40
      have c_41 : mIsWord (17) (s_32) = x_37 := by have q := fx_37; simp only [emqx, hs_32] at q; exact q.symm
      refine g_if_eq C (tgt := 51) dX12_readAnd_20 (by decide) (fun h_42 => ?_) (fun h_42 => ?_)
      · skip
        have r_43 := (⟨(rx_37).1, (eq_rg (h_42) rc_0).2⟩ : Rg 0 0 x_37)
        refine g_aload_n C 0 dX12_readAnd_51 rfl rfl ?_
        refine g_iload_n C 1 dX12_readAnd_52 rfl rfl ?_
        refine h_putI C K hLx hkx f_12_386 p_12_50 dX12_readAnd_53 (fun I_44 hI_44 => ?_)
        have hU_45 := iw_put W9 hU_16 hI_44 (ro_o hkx (by decide)) (lo := 0) (hi := 59) (rfl) (rv_19) rfl
        have hF_46 := fq_puto hF_17 hI_44 hkx (by decide) (by decide)
        have hs_47 : NVq I_44 J_15 x b_4 = s_30 := by rw [hI_44]; exact (vq_oI wvqx (ro_o hkx (by decide)) (by decide)).trans hs_30
        have hs_48 : NWq I_44 J_15 x b_6 = s_31 := by rw [hI_44]; exact (zq_oI wzqx (ro_o hkx (by decide)) (by decide)).trans hs_31
        have hs_49 : MTq I_44 J_15 x b_8 = s_32 := by rw [hI_44]; exact (mq_uIt wmqx (by decide)).trans hs_32
        have hs_50 : NRq I_44 J_15 x b_10 b_11 = s_33 := by rw [hI_44]; exact (nq_uIt wnqx (by decide)).trans hs_33
        have hs_51 : QTq I_44 J_15 x = s_34 := by rw [hI_44]; exact (qq_uIt wqqx (by decide)).trans hs_34
        refine g_iconst C (v := 1) dX12_readAnd_56 (by decide) ?_
        have f_52 : s_34.om = v_21 := (congrArg QT_.om hs_51).symm.trans (kp_j hI_44 (by decide) q_24)
        exact g_zret (ty := .boolean) (r := 1) B K rfl (rfl) ⟨hU_45, hF_46, hG_18, rg_w rc_1 (by decide) (by decide), (by (try simp only [c_41, (eq_true h_42), if_true, if_false, mqM_tp, mqM_size, mqM_limit, mqM_to, mqM_frm, mqM_kind, mqM_number, mqM_sign, mqM_word, MT_.w_tp, MT_.w_size, MT_.w_limit, MT_.w_to, MT_.w_frm, MT_.w_kind, MT_.w_number, MT_.w_sign, MT_.w_word, nqM_rd, nqM_rn, nqM_taped, nqM_mfault, nqM_mplace, nqM_told, nqM_hl, nqM_hd, NR_.w_rd, NR_.w_rn, NR_.w_taped, NR_.w_mfault, NR_.w_mplace, NR_.w_told, NR_.w_hl, NR_.w_hd, qqM_om, QT_.w_om, vqM_nv, NV_.w_nv, zqM_nw, NW_.w_nw] at hQ_35); (try simp only [c_41, (eq_true h_42), if_true, if_false, mqM_tp, mqM_size, mqM_limit, mqM_to, mqM_frm, mqM_kind, mqM_number, mqM_sign, mqM_word, MT_.w_tp, MT_.w_size, MT_.w_limit, MT_.w_to, MT_.w_frm, MT_.w_kind, MT_.w_number, MT_.w_sign, MT_.w_word, nqM_rd, nqM_rn, nqM_taped, nqM_mfault, nqM_mplace, nqM_told, nqM_hl, nqM_hd, NR_.w_rd, NR_.w_rn, NR_.w_taped, NR_.w_mfault, NR_.w_mplace, NR_.w_told, NR_.w_hl, NR_.w_hd, qqM_om, QT_.w_om, vqM_nv, NV_.w_nv, zqM_nw, NW_.w_nw] at u_36); simp only [evqx, hs_47, hs_5, ezqx, hs_48, hs_7, emqx, hs_49, hs_9, enqx, hs_50, hs_12, eqqx, hs_51, hs_13, hQ_35, u_36, c_41, (eq_true h_42), if_true, if_false, mqM_tp, mqM_size, mqM_limit, mqM_to, mqM_frm, mqM_kind, mqM_number, mqM_sign, mqM_word, MT_.w_tp, MT_.w_size, MT_.w_limit, MT_.w_to, MT_.w_frm, MT_.w_kind, MT_.w_number, MT_.w_sign, MT_.w_word, nqM_rd, nqM_rn, nqM_taped, nqM_mfault, nqM_mplace, nqM_told, nqM_hl, nqM_hd, NR_.w_rd, NR_.w_rn, NR_.w_taped, NR_.w_mfault, NR_.w_mplace, NR_.w_told, NR_.w_hl, NR_.w_hd, qqM_om, QT_.w_om, vqM_nv, NV_.w_nv, zqM_nw, NW_.w_nw]), (fun _ => (sz_m hx_1 hx_2 (kp_j hI_44 (by decide) q_23) (kp_j hI_44 (by decide) q_24) (kp_s hI_44) ⟨by omega, by omega, by omega, by omega⟩)), (kp_j hI_44 (by decide) q_25)⟩ dX12_readAnd_57
      · skip
        have n_53 : ¬ x_37 = 0 := h_42
        have r_54 := ne_lo (lo := 1) n_53 rx_37 rc_0 rfl (by decide)
        refine g_aload_n C 0 dX12_readAnd_23 rfl rfl ?_
        refine g_callVV C K (c_X12_go W9 hLx hkx   hU_16) hLx hkx (by decide) rfl v_12_156 rfl ⟨rfl, rfl⟩ ⟨Nat.le_of_ble_eq_true rfl, Nat.le_of_ble_eq_true rfl⟩ (Nat.le_of_ble_eq_true rfl) ⟨Nat.le_of_ble_eq_true rfl, Nat.le_of_ble_eq_true rfl⟩ dX12_readAnd_24 rfl (st := []) (fun I_56 J_57 h_58 => ?_)
        obtain ⟨hUI_56, hFI_56, hGJ_57, fx_55, ex_55⟩ := h_58
        have hF_59 := fq_tr hF_17 hFI_56 (by decide)
        have hG_60 := fq_tr hG_18 hGJ_57 (by decide)
        obtain ⟨s_62, hs_62⟩ : ∃ z, MTq I_56 J_57 x b_8 = z := ⟨_, rfl⟩
        have c_61 : mGo (s_32) = s_62 := by have q := fx_55; simp only [emqx, hs_32, hs_62] at q; exact q.symm
        have hs_63 : NVq I_56 J_57 x b_4 = s_30 := (vq_fq wvqx hFI_56 hGJ_57 (by decide) (by decide)).trans hs_30
        have hs_64 : NWq I_56 J_57 x b_6 = s_31 := (zq_fq wzqx hFI_56 hGJ_57 (by decide) (by decide)).trans hs_31
        have hs_65 : NRq I_56 J_57 x b_10 b_11 = s_33 := (nq_fq wnqx hFI_56 hGJ_57 (by decide) (by decide)).trans hs_33
        have hs_66 : QTq I_56 J_57 x = s_34 := (qq_fq wqqx hFI_56 hGJ_57 (by decide) (by decide)).trans hs_34
        refine g_aload_n C 0 dX12_readAnd_27 rfl rfl ?_
        have f_67 : s_34.om = v_21 := (congrArg QT_.om hs_66).symm.trans (fq_at hFI_56 hLx hkx (by decide) (by decide) q_24)
        refine g_callVI C K (c_X12_readSaid_6 W9 hLx hkx   hUI_56  (by rw [(fq_at hFI_56 hLx hkx (by decide) (by decide) q_23), (fq_at hFI_56 hLx hkx (by decide) (by decide) q_24)]; omega) ((fq_at hFI_56 hLx hkx (by decide) (by decide) q_25))) hLx hkx (by decide) rfl v_12_392 rfl ⟨rfl, rfl⟩ ⟨Nat.le_of_ble_eq_true rfl, Nat.le_of_ble_eq_true rfl⟩ (Nat.le_of_ble_eq_true rfl) ⟨Nat.le_of_ble_eq_true rfl, Nat.le_of_ble_eq_true rfl⟩ dX12_readAnd_28 rfl (st := []) (fun x_68 I_69 J_70 h_71 => ?_)
        obtain ⟨hUI_69, hFI_69, hGJ_70, rx_68, fx_68, ex_68⟩ := h_71
        have hF_72 := fq_tr hF_59 hFI_69 (by decide)
        have hG_73 := fq_tr hG_60 hGJ_70 (by decide)
        obtain ⟨s_75, hs_75⟩ : ∃ z, MTq I_69 J_70 x b_8 = z := ⟨_, rfl⟩
        obtain ⟨s_76, hs_76⟩ : ∃ z, NRq I_69 J_70 x b_10 b_11 = z := ⟨_, rfl⟩
        obtain ⟨s_77, hs_77⟩ : ∃ z, QTq I_69 J_70 x = z := ⟨_, rfl⟩
        have c_74 : mSaid 2 (s_30) (s_31) (s_62) (s_33) (s_34) = (x_68, s_75, s_76, s_77) := by have q := fx_68; simp only [evqx, ezqx, emqx, enqx, eqqx, hs_63, hs_64, hs_62, hs_65, hs_66, hs_75, hs_76, hs_77] at q; exact q.symm
        have hs_78 : NVq I_69 J_70 x b_4 = s_30 := (vq_fq wvqx hFI_69 hGJ_70 (by decide) (by decide)).trans hs_63
        have hs_79 : NWq I_69 J_70 x b_6 = s_31 := (zq_fq wzqx hFI_69 hGJ_70 (by decide) (by decide)).trans hs_64
        obtain ⟨x_80, hx_80, rx_80⟩ := ex_getw (I := I_69) (a := x) (j := 47) (lo := 0) (hi := 60) hUI_69.1 hLx (ro_o hkx (by decide)) rfl
        obtain ⟨x_81, hx_81, rx_81⟩ := ex_getw (I := I_69) (a := x) (j := 50) (lo := 0) (hi := 59) hUI_69.1 hLx (ro_o hkx (by decide)) rfl
        obtain ⟨x_82, hx_82, rx_82⟩ := ex_getw (I := I_69) (a := x) (j := 48) (lo := 0) (hi := 20) hUI_69.1 hLx (ro_o hkx (by decide)) rfl
        have f_83 : s_77.om = x_82 := (congrArg QT_.om hs_77).symm.trans hx_82
        refine g_if_ne C (tgt := 36) dX12_readAnd_31 (by decide) (fun h_84 => ?_) (fun h_84 => ?_)
        · skip
          have n_85 : ¬ x_68 = 0 := h_84
          have r_86 := ne_lo (lo := 1) n_85 rx_68 rc_0 rfl (by decide)
          have f_87 := sz_v (fq_at hFI_56 hLx hkx (by decide) (by decide) q_23) (fq_at hFI_56 hLx hkx (by decide) (by decide) q_24) hx_80 hx_82 hx_81 (ex_68.1 n_85)
          refine g_aload_n C 0 dX12_readAnd_36 rfl rfl ?_
          refine g_iconst C (v := 2) dX12_readAnd_37 (by decide) ?_
          refine g_iload_n C 1 dX12_readAnd_38 rfl rfl ?_
          refine g_aload_n C 0 dX12_readAnd_39 rfl rfl ?_
          refine g_getI C K hLx hkx f_12_386 (v := x_81) hx_81 dX12_readAnd_40 ?_
          refine g_iconst C (v := 0) dX12_readAnd_43 (by decide) ?_
          have r_88 := (show Rg 0 59 x_80 from by have q1 := rx_80; have q2 := rx_82; unfold Rg at *; omega)
          refine g_callVI C K (c_X12_saysOne W9 hLx hkx 2 v_19 x_81 0 (rg_w rc_2 (by decide) (by decide)) (rv_19) (rg_w rx_81 (by decide) (by decide)) hUI_69  (eq_rg hx_80 (r_88)) (by rw [hx_80]; exact ⟨fun _ => ⟨by have := (rv_19).1; omega, by omega⟩, fun _ => ⟨by have := (rx_81).1; omega, by omega⟩, fun q => absurd q (by decide)⟩)) hLx hkx (by decide) rfl v_12_389 rfl ⟨rfl, rfl⟩ ⟨Nat.le_of_ble_eq_true rfl, Nat.le_of_ble_eq_true rfl⟩ (Nat.le_of_ble_eq_true rfl) ⟨Nat.le_of_ble_eq_true rfl, Nat.le_of_ble_eq_true rfl⟩ dX12_readAnd_44 rfl (st := []) (fun x_89 I_90 J_91 h_92 => ?_)
          obtain ⟨hUI_90, hFI_90, hGJ_91, rx_89, ex_89⟩ := h_92
          have hF_93 := fq_tr hF_72 hFI_90 (by decide)
          have hG_94 := fq_tr hG_73 hGJ_91 (by decide)
          have hs_95 : NVq I_90 J_91 x b_4 = s_30 := (vq_fq wvqx hFI_90 hGJ_91 (by decide) (by decide)).trans hs_78
          have hs_96 : NWq I_90 J_91 x b_6 = s_31 := (zq_fq wzqx hFI_90 hGJ_91 (by decide) (by decide)).trans hs_79
          have hs_97 : MTq I_90 J_91 x b_8 = s_75 := (mq_fq wmqx hFI_90 hGJ_91 (by decide) (by decide)).trans hs_75
          have hs_98 : NRq I_90 J_91 x b_10 b_11 = s_76 := (nq_fq wnqx hFI_90 hGJ_91 (by decide) (by decide)).trans hs_76
          have hs_99 : QTq I_90 J_91 x = s_77 := (qq_fq wqqx hFI_90 hGJ_91 (by decide) (by decide)).trans hs_77
          obtain ⟨x_100, hx_100, rx_100, tx_100, ux_100⟩ := sa_b (lo := 1) (hi := 60) ex_89 hx_80 r_88 (by decide) (by decide)
          have r_101 := (show Rg 0 59 x_89 from by have q1 := ux_100; have q2 := r_88; unfold Rg at *; omega)
          refine g_istore_n C dX12_readAnd_47 rfl (by decide) (lo2 := [(1, .int x_89), (0, .ref x)]) rfl ?_
          refine g_goto C (tgt := 14) dX12_readAnd_48 (by decide) ?_
          refine g_lo (is := [1, 0]) (lo2 := [(0, .ref x), (1, .int x_89)]) rfl ?_
          exact ih_14 I_90 J_91 hUI_90 hF_93 hG_94 x_89 (r_101) x_100 (rg_w rx_100 (by decide) (by decide)) x_82 (rx_82) x_81 (rx_81) hx_100 (fq_at hFI_90 hLx hkx (by decide) (by decide) hx_82) (fq_at hFI_90 hLx hkx (by decide) (by decide) ex_68.2) (fq_at hFI_90 hLx hkx (by decide) (by decide) hx_81) (by (try simp only [c_41, h_42, c_61, f_67, c_74, hx_80, hx_81, hx_82, f_83, h_84, hx_100, if_true, if_false, mqM_tp, mqM_size, mqM_limit, mqM_to, mqM_frm, mqM_kind, mqM_number, mqM_sign, mqM_word, MT_.w_tp, MT_.w_size, MT_.w_limit, MT_.w_to, MT_.w_frm, MT_.w_kind, MT_.w_number, MT_.w_sign, MT_.w_word, nqM_rd, nqM_rn, nqM_taped, nqM_mfault, nqM_mplace, nqM_told, nqM_hl, nqM_hd, NR_.w_rd, NR_.w_rn, NR_.w_taped, NR_.w_mfault, NR_.w_mplace, NR_.w_told, NR_.w_hl, NR_.w_hd, qqM_om, QT_.w_om, vqM_nv, NV_.w_nv, zqM_nw, NW_.w_nw] at hQ_35); (try simp only [c_41, h_42, c_61, f_67, c_74, hx_80, hx_81, hx_82, f_83, h_84, hx_100, if_true, if_false, mqM_tp, mqM_size, mqM_limit, mqM_to, mqM_frm, mqM_kind, mqM_number, mqM_sign, mqM_word, MT_.w_tp, MT_.w_size, MT_.w_limit, MT_.w_to, MT_.w_frm, MT_.w_kind, MT_.w_number, MT_.w_sign, MT_.w_word, nqM_rd, nqM_rn, nqM_taped, nqM_mfault, nqM_mplace, nqM_told, nqM_hl, nqM_hd, NR_.w_rd, NR_.w_rn, NR_.w_taped, NR_.w_mfault, NR_.w_mplace, NR_.w_told, NR_.w_hl, NR_.w_hd, qqM_om, QT_.w_om, vqM_nv, NV_.w_nv, zqM_nw, NW_.w_nw] at u_36); simp only [evqx, hs_95, hs_5, ezqx, hs_96, hs_7, emqx, hs_97, hs_9, enqx, hs_98, hs_12, eqqx, hs_99, hs_13, hQ_35, u_36, c_41, h_42, c_61, f_67, c_74, hx_80, hx_81, hx_82, f_83, h_84, hx_100, if_true, if_false, mqM_tp, mqM_size, mqM_limit, mqM_to, mqM_frm, mqM_kind, mqM_number, mqM_sign, mqM_word, MT_.w_tp, MT_.w_size, MT_.w_limit, MT_.w_to, MT_.w_frm, MT_.w_kind, MT_.w_number, MT_.w_sign, MT_.w_word, nqM_rd, nqM_rn, nqM_taped, nqM_mfault, nqM_mplace, nqM_told, nqM_hl, nqM_hd, NR_.w_rd, NR_.w_rn, NR_.w_taped, NR_.w_mfault, NR_.w_mplace, NR_.w_told, NR_.w_hl, NR_.w_hd, qqM_om, QT_.w_om, vqM_nv, NV_.w_nv, zqM_nw, NW_.w_nw]) ⟨by have := tx_100; omega, by have := tx_100; omega, by have := tx_100; omega, by have := tx_100; omega⟩ (by have q9 := hm_29; have := tx_100; omega)
        · skip
          have r_102 := (⟨(rx_68).1, (eq_rg (h_84) rc_0).2⟩ : Rg 0 0 x_68)
          refine g_iconst C (v := 0) dX12_readAnd_34 (by decide) ?_
          exact g_zret (ty := .boolean) (r := 0) B K rfl (rfl) ⟨hUI_69, hF_72, hG_73, rg_w rc_0 (by decide) (by decide), (by (try simp only [c_41, h_42, c_61, f_67, c_74, hx_80, hx_81, hx_82, f_83, (eq_true h_84), if_true, if_false, mqM_tp, mqM_size, mqM_limit, mqM_to, mqM_frm, mqM_kind, mqM_number, mqM_sign, mqM_word, MT_.w_tp, MT_.w_size, MT_.w_limit, MT_.w_to, MT_.w_frm, MT_.w_kind, MT_.w_number, MT_.w_sign, MT_.w_word, nqM_rd, nqM_rn, nqM_taped, nqM_mfault, nqM_mplace, nqM_told, nqM_hl, nqM_hd, NR_.w_rd, NR_.w_rn, NR_.w_taped, NR_.w_mfault, NR_.w_mplace, NR_.w_told, NR_.w_hl, NR_.w_hd, qqM_om, QT_.w_om, vqM_nv, NV_.w_nv, zqM_nw, NW_.w_nw] at hQ_35); (try simp only [c_41, h_42, c_61, f_67, c_74, hx_80, hx_81, hx_82, f_83, (eq_true h_84), if_true, if_false, mqM_tp, mqM_size, mqM_limit, mqM_to, mqM_frm, mqM_kind, mqM_number, mqM_sign, mqM_word, MT_.w_tp, MT_.w_size, MT_.w_limit, MT_.w_to, MT_.w_frm, MT_.w_kind, MT_.w_number, MT_.w_sign, MT_.w_word, nqM_rd, nqM_rn, nqM_taped, nqM_mfault, nqM_mplace, nqM_told, nqM_hl, nqM_hd, NR_.w_rd, NR_.w_rn, NR_.w_taped, NR_.w_mfault, NR_.w_mplace, NR_.w_told, NR_.w_hl, NR_.w_hd, qqM_om, QT_.w_om, vqM_nv, NV_.w_nv, zqM_nw, NW_.w_nw] at u_36); simp only [evqx, hs_78, hs_5, ezqx, hs_79, hs_7, emqx, hs_75, hs_9, enqx, hs_76, hs_12, eqqx, hs_77, hs_13, hQ_35, u_36, c_41, h_42, c_61, f_67, c_74, hx_80, hx_81, hx_82, f_83, (eq_true h_84), if_true, if_false, mqM_tp, mqM_size, mqM_limit, mqM_to, mqM_frm, mqM_kind, mqM_number, mqM_sign, mqM_word, MT_.w_tp, MT_.w_size, MT_.w_limit, MT_.w_to, MT_.w_frm, MT_.w_kind, MT_.w_number, MT_.w_sign, MT_.w_word, nqM_rd, nqM_rn, nqM_taped, nqM_mfault, nqM_mplace, nqM_told, nqM_hl, nqM_hd, NR_.w_rd, NR_.w_rn, NR_.w_taped, NR_.w_mfault, NR_.w_mplace, NR_.w_told, NR_.w_hl, NR_.w_hd, qqM_om, QT_.w_om, vqM_nv, NV_.w_nv, zqM_nw, NW_.w_nw]), (fun q => absurd rfl q), ex_68.2⟩ dX12_readAnd_35
  refine g_aload_n C 0 dX12_readAnd_0 rfl rfl ?_
  have f_103 : s_13.om = x_2 := (congrArg QT_.om hs_13).symm.trans hx_2
  refine g_callVI C K (c_X12_readSaid_6 W9 hLx hkx   hU  (by rw [hx_1, hx_2]; omega) (hwi)) hLx hkx (by decide) rfl v_12_392 rfl ⟨rfl, rfl⟩ ⟨Nat.le_of_ble_eq_true rfl, Nat.le_of_ble_eq_true rfl⟩ (Nat.le_of_ble_eq_true rfl) ⟨Nat.le_of_ble_eq_true rfl, Nat.le_of_ble_eq_true rfl⟩ dX12_readAnd_1 rfl (st := []) (fun x_104 I_105 J_106 h_107 => ?_)
  obtain ⟨hUI_105, hFI_105, hGJ_106, rx_104, fx_104, ex_104⟩ := h_107
  have hF_108 := fq_tr hF hFI_105 (by decide)
  have hG_109 := fq_tr hG hGJ_106 (by decide)
  obtain ⟨s_111, hs_111⟩ : ∃ z, MTq I_105 J_106 x b_8 = z := ⟨_, rfl⟩
  obtain ⟨s_112, hs_112⟩ : ∃ z, NRq I_105 J_106 x b_10 b_11 = z := ⟨_, rfl⟩
  obtain ⟨s_113, hs_113⟩ : ∃ z, QTq I_105 J_106 x = z := ⟨_, rfl⟩
  have c_110 : mSaid 2 (s_5) (s_7) (s_9) (s_12) (s_13) = (x_104, s_111, s_112, s_113) := by have q := fx_104; simp only [evqx, ezqx, emqx, enqx, eqqx, hs_5, hs_7, hs_9, hs_12, hs_13, hs_111, hs_112, hs_113] at q; exact q.symm
  have hs_114 : NVq I_105 J_106 x b_4 = s_5 := (vq_fq wvqx hFI_105 hGJ_106 (by decide) (by decide)).trans hs_5
  have hs_115 : NWq I_105 J_106 x b_6 = s_7 := (zq_fq wzqx hFI_105 hGJ_106 (by decide) (by decide)).trans hs_7
  obtain ⟨x_116, hx_116, rx_116⟩ := ex_getw (I := I_105) (a := x) (j := 47) (lo := 0) (hi := 60) hUI_105.1 hLx (ro_o hkx (by decide)) rfl
  obtain ⟨x_117, hx_117, rx_117⟩ := ex_getw (I := I_105) (a := x) (j := 50) (lo := 0) (hi := 59) hUI_105.1 hLx (ro_o hkx (by decide)) rfl
  obtain ⟨x_118, hx_118, rx_118⟩ := ex_getw (I := I_105) (a := x) (j := 48) (lo := 0) (hi := 20) hUI_105.1 hLx (ro_o hkx (by decide)) rfl
  have f_119 : s_113.om = x_118 := (congrArg QT_.om hs_113).symm.trans hx_118
  refine g_if_ne C (tgt := 9) dX12_readAnd_4 (by decide) (fun h_120 => ?_) (fun h_120 => ?_)
  · skip
    have n_121 : ¬ x_104 = 0 := h_120
    have r_122 := ne_lo (lo := 1) n_121 rx_104 rc_0 rfl (by decide)
    have f_123 := sz_v hx_1 hx_2 hx_116 hx_118 hx_117 (ex_104.1 n_121)
    refine g_aload_n C 0 dX12_readAnd_9 rfl rfl ?_
    refine g_getI C K hLx hkx f_12_386 (v := x_117) hx_117 dX12_readAnd_10 ?_
    refine g_istore_n C dX12_readAnd_13 rfl (by decide) (lo2 := [(1, .int x_117), (0, .ref x)]) rfl ?_
    refine g_lo (is := [1, 0]) (lo2 := [(0, .ref x), (1, .int x_117)]) rfl ?_
    exact l_14 21 I_105 J_106 hUI_105 hF_108 hG_109 x_117 (rx_117) x_116 (rx_116) x_118 (rx_118) x_117 (rx_117) hx_116 hx_118 ex_104.2 hx_117 (by simp only [mAndK, evqx, hs_114, hs_5, ezqx, hs_115, hs_7, emqx, hs_111, hs_9, enqx, hs_112, hs_12, eqqx, hs_113, hs_13, hx_1, hx_2, hx_3, f_103, c_110, hx_116, hx_117, hx_118, f_119, h_120, if_true, if_false, mqM_tp, mqM_size, mqM_limit, mqM_to, mqM_frm, mqM_kind, mqM_number, mqM_sign, mqM_word, MT_.w_tp, MT_.w_size, MT_.w_limit, MT_.w_to, MT_.w_frm, MT_.w_kind, MT_.w_number, MT_.w_sign, MT_.w_word, nqM_rd, nqM_rn, nqM_taped, nqM_mfault, nqM_mplace, nqM_told, nqM_hl, nqM_hd, NR_.w_rd, NR_.w_rn, NR_.w_taped, NR_.w_mfault, NR_.w_mplace, NR_.w_told, NR_.w_hl, NR_.w_hd, qqM_om, QT_.w_om, vqM_nv, NV_.w_nv, zqM_nw, NW_.w_nw]) ⟨by omega, by omega, by omega, by omega⟩ (by have := (rx_118).1; omega)
  · skip
    have r_124 := (⟨(rx_104).1, (eq_rg (h_120) rc_0).2⟩ : Rg 0 0 x_104)
    refine g_iconst C (v := 0) dX12_readAnd_7 (by decide) ?_
    exact g_zret (ty := .boolean) (r := 0) B K rfl (rfl) ⟨hUI_105, hF_108, hG_109, rg_w rc_0 (by decide) (by decide), (by simp only [mAndK, evqx, hs_114, hs_5, ezqx, hs_115, hs_7, emqx, hs_111, hs_9, enqx, hs_112, hs_12, eqqx, hs_113, hs_13, hx_1, hx_2, hx_3, f_103, c_110, hx_116, hx_117, hx_118, f_119, (eq_true h_120), if_true, if_false, mqM_tp, mqM_size, mqM_limit, mqM_to, mqM_frm, mqM_kind, mqM_number, mqM_sign, mqM_word, MT_.w_tp, MT_.w_size, MT_.w_limit, MT_.w_to, MT_.w_frm, MT_.w_kind, MT_.w_number, MT_.w_sign, MT_.w_word, nqM_rd, nqM_rn, nqM_taped, nqM_mfault, nqM_mplace, nqM_told, nqM_hl, nqM_hd, NR_.w_rd, NR_.w_rn, NR_.w_taped, NR_.w_mfault, NR_.w_mplace, NR_.w_told, NR_.w_hl, NR_.w_hd, qqM_om, QT_.w_om, vqM_nv, NV_.w_nv, zqM_nw, NW_.w_nw]), (fun q => absurd rfl q), ex_104.2⟩ dX12_readAnd_8
set_option maxRecDepth 100000 in
set_option maxHeartbeats 8000000 in
theorem c_X12_readOr_6 {l : Launch} {D : va_G} {cy : Nat → ClassId} {L : List Nat} {κ ln : Nat → Nat} {R : Nat → Nat → Option Nat} {I : Nat → Nat → Int32} {J : Nat → Nat → Int64} {ow : Nat → Nat × Nat} (W9 : ∀ a ∈ L, Shp L κ ln R ow a) {x : Nat} (hLx : x ∈ L) (hkx : κ x = 12) (hU : Iw L κ R ow I) (hn : (I x 47).toInt ≤ 2 * (I x 48).toInt) (hwi : I x 49 = 6) : CtI l yX12_readOr cX12_readOr 2 (some .boolean) { frames := 13, cells := 0, slots := 0, locals := 283 } D cy L κ ln R I J [.ref x] (fun r I2 J2 => Iw L κ R ow I2 ∧ Fq L κ ow [1205, 1206, 1207, 1208, 1209, 1210, 1211, 1213, 1247, 1248, 1249, 1250, 86600] I I2 ∧ Fq L κ ow [1212] J J2 ∧ Rg 0 1 r ∧ ((r, MTf R I2 J2 x, NRf R I2 J2 x, QTf R I2 J2 x) = mOrK 2 (NVf R I J x) (NWf R I J x) (MTf R I J x) (NRf R I J x) (QTf R I J x)) ∧ (¬ r = 0 → Sz_ x I I2 1) ∧ (I2 x 49 = 6)) := by
  obtain ⟨x_1, hx_1, rx_1⟩ := ex_getw (I := I) (a := x) (j := 47) (lo := 0) (hi := 60) hU.1 hLx (ro_o hkx (by decide)) rfl
  obtain ⟨x_2, hx_2, rx_2⟩ := ex_getw (I := I) (a := x) (j := 48) (lo := 0) (hi := 20) hU.1 hLx (ro_o hkx (by decide)) rfl
  rw [hx_1, hx_2] at hn
  obtain ⟨x_3, hx_3, rx_3⟩ := ex_getw (I := I) (a := x) (j := 50) (lo := 0) (hi := 59) hU.1 hLx (ro_o hkx (by decide)) rfl
  refine CtI.of (by decide +kernel) (Nat.le_of_ble_eq_true rfl) ?_
  intro p e s m below meth c B K
  have C := B.1
  have hF : Fq L κ ow [1205, 1206, 1207, 1208, 1209, 1210, 1211, 1213, 1247, 1248, 1249, 1250, 86600] I I := fq_rf
  have hG : Fq L κ ow [1212] J J := fq_rf
  obtain ⟨b_4, hb_4, hb_4L, hb_4k, hb_4n, hb_4o⟩ := shp_a (W9 x hLx) hkx 19 15 13 rfl (by decide)
  have evqx : ∀ I J, NVf R I J x = NVq I J x b_4 := fun I J => by simp only [NVf, rr_, Option.getD_some, hb_4]
  have wvqx : vqw_ L κ ow x b_4 := ⟨⟨hLx, hb_4L⟩, ⟨(ro_o hkx (by decide)), (ro_a hb_4k (by decide) hb_4o hkx rfl)⟩⟩
  obtain ⟨s_5, hs_5⟩ : ∃ z, NVq I J x b_4 = z := ⟨_, rfl⟩
  obtain ⟨b_6, hb_6, hb_6L, hb_6k, hb_6n, hb_6o⟩ := shp_a (W9 x hLx) hkx 14 14 389 rfl (by decide)
  have ezqx : ∀ I J, NWf R I J x = NWq I J x b_6 := fun I J => by simp only [NWf, rr_, Option.getD_some, hb_6]
  have wzqx : zqw_ L κ ow x b_6 := ⟨⟨hLx, hb_6L⟩, ⟨(ro_o hkx (by decide)), (ro_a hb_6k (by decide) hb_6o hkx rfl)⟩⟩
  obtain ⟨s_7, hs_7⟩ : ∃ z, NWq I J x b_6 = z := ⟨_, rfl⟩
  obtain ⟨b_8, hb_8, hb_8L, hb_8k, hb_8n, hb_8o⟩ := shp_a (W9 x hLx) hkx 1 14 940 rfl (by decide)
  have emqx : ∀ I J, MTf R I J x = MTq I J x b_8 := fun I J => by simp only [MTf, rr_, Option.getD_some, hb_8]
  have wmqx : mqw_ L κ ow x b_8 := ⟨⟨hLx, hb_8L⟩, ⟨(ro_o hkx (by decide)), (ro_a hb_8k (by decide) hb_8o hkx rfl)⟩⟩
  obtain ⟨s_9, hs_9⟩ : ∃ z, MTq I J x b_8 = z := ⟨_, rfl⟩
  obtain ⟨b_10, hb_10, hb_10L, hb_10k, hb_10n, hb_10o⟩ := shp_a (W9 x hLx) hkx 15 14 72 rfl (by decide)
  obtain ⟨b_11, hb_11, hb_11L, hb_11k, hb_11n, hb_11o⟩ := shp_a (W9 x hLx) hkx 20 15 13 rfl (by decide)
  have enqx : ∀ I J, NRf R I J x = NRq I J x b_10 b_11 := fun I J => by simp only [NRf, rr_, Option.getD_some, hb_10, hb_11]
  have wnqx : nqw_ L κ ow x b_10 b_11 := ⟨⟨hLx, hb_10L, hb_11L⟩, ⟨(ro_o hkx (by decide)), (ro_a hb_10k (by decide) hb_10o hkx rfl), (ro_a hb_11k (by decide) hb_11o hkx rfl)⟩⟩
  obtain ⟨s_12, hs_12⟩ : ∃ z, NRq I J x b_10 b_11 = z := ⟨_, rfl⟩
  have eqqx : ∀ I J, QTf R I J x = QTq I J x := fun I J => by simp only [QTf, rr_, Option.getD_some]
  have wqqx : qqw_ L κ ow x := ⟨hLx, (ro_o hkx (by decide))⟩
  obtain ⟨s_13, hs_13⟩ : ∃ z, QTq I J x = z := ⟨_, rfl⟩
  refine g_lo (is := [0]) (lo2 := [(0, .ref x)]) rfl ?_
  have l_14 : ∀ (n_14 : Nat) (I_14 : Nat → Nat → Int32) (J_15 : Nat → Nat → Int64) (hU_16 : Iw L κ R ow I_14) (hF_17 : Fq L κ ow [1205, 1206, 1207, 1208, 1209, 1210, 1211, 1213, 1247, 1248, 1249, 1250, 86600] I I_14) (hG_18 : Fq L κ ow [1212] J J_15) (v_19 : Int32) (rv_19 : Rg 0 59 v_19) (v_20 : Int32) (rv_20 : Rg 0 60 v_20) (v_21 : Int32) (rv_21 : Rg 0 20 v_21) (v_22 : Int32) (rv_22 : Rg 0 59 v_22) (q_23 : I_14 x 47 = v_20) (q_24 : I_14 x 48 = v_21) (q_25 : I_14 x 49 = 6) (q_26 : I_14 x 50 = v_22) (hq_27 : mLp (mAndK 2 (NVq I_14 J_15 x b_4) (NWq I_14 J_15 x b_6)) 16 n_14 (MTq I_14 J_15 x b_8) (NRq I_14 J_15 x b_10 b_11) (QTq I_14 J_15 x) = mOrK 2 s_5 s_7 s_9 s_12 s_13) (hj_28 : x_1.toInt ≤ v_20.toInt ∧ x_2.toInt + 1 ≤ v_21.toInt ∧ 2 * x_2.toInt - x_1.toInt + 1 ≤ 2 * v_21.toInt - v_20.toInt ∧ v_19.toInt < v_20.toInt) (hm_29 : 20 < v_21.toInt + (n_14 : Int)), WG p l e { frames := 13, cells := 0, slots := 0, locals := 283 } s m ([.ref x] : List Value).toArray below meth c 2 0 0 (MQ below (Qi_ D cy L κ ln R (fun r I2 J2 => Iw L κ R ow I2 ∧ Fq L κ ow [1205, 1206, 1207, 1208, 1209, 1210, 1211, 1213, 1247, 1248, 1249, 1250, 86600] I I2 ∧ Fq L κ ow [1212] J J2 ∧ Rg 0 1 r ∧ ((r, MTf R I2 J2 x, NRf R I2 J2 x, QTf R I2 J2 x) = mOrK 2 (NVf R I J x) (NWf R I J x) (MTf R I J x) (NRf R I J x) (QTf R I J x)) ∧ (¬ r = 0 → Sz_ x I I2 1) ∧ (I2 x 49 = 6))) ([.ref x] : List Value).toArray s 0 0 (Al_ L)) D cy (Al_ L) s.heap L κ ln R I_14 J_15 14 [(0, .ref x), (1, .int v_19)] [] := by
    intro n_14
    induction n_14 with
    | zero =>
      intro I_14 J_15 hU_16 hF_17 hG_18 v_19 rv_19 v_20 rv_20 v_21 rv_21 v_22 rv_22 q_23 q_24 q_25 q_26 hq_27 hj_28 hm_29
      exact absurd hm_29 (by have := (rv_21).2; omega)
    | succ n_14 ih_14 =>
      intro I_14 J_15 hU_16 hF_17 hG_18 v_19 rv_19 v_20 rv_20 v_21 rv_21 v_22 rv_22 q_23 q_24 q_25 q_26 hq_27 hj_28 hm_29
      obtain ⟨s_30, hs_30⟩ : ∃ z, NVq I_14 J_15 x b_4 = z := ⟨_, rfl⟩
      obtain ⟨s_31, hs_31⟩ : ∃ z, NWq I_14 J_15 x b_6 = z := ⟨_, rfl⟩
      obtain ⟨s_32, hs_32⟩ : ∃ z, MTq I_14 J_15 x b_8 = z := ⟨_, rfl⟩
      obtain ⟨s_33, hs_33⟩ : ∃ z, NRq I_14 J_15 x b_10 b_11 = z := ⟨_, rfl⟩
      obtain ⟨s_34, hs_34⟩ : ∃ z, QTq I_14 J_15 x = z := ⟨_, rfl⟩
      simp only [hs_30, hs_31, hs_32, hs_33, hs_34] at hq_27
      have hQ_35 := hq_27.symm
      have u_36 := mLp_eq (rd := mAndK 2 s_30 s_31) (k := 16) (f := n_14) (m := s_32) (n := s_33) (q := s_34)
      refine g_aload_n C 0 dX12_readOr_14 rfl rfl ?_
      refine g_bipush C (v := 16) dX12_readOr_15 (by decide) ?_
      refine g_callVI C K (c_X12_isWord W9 hLx hkx 16 (rg_w rc_16 (by decide) (by decide)) hU_16) hLx hkx (by decide) rfl v_12_191 rfl ⟨rfl, rfl⟩ ⟨Nat.le_of_ble_eq_true rfl, Nat.le_of_ble_eq_true rfl⟩ (Nat.le_of_ble_eq_true rfl) ⟨Nat.le_of_ble_eq_true rfl, Nat.le_of_ble_eq_true rfl⟩ dX12_readOr_17 rfl (st := []) (fun x_37 I_38 J_39 h_40 => ?_)
      obtain ⟨rfl, rfl, rx_37, fx_37⟩ := h_40
      have c_41 : mIsWord (16) (s_32) = x_37 := by have q := fx_37; simp only [emqx, hs_32] at q; exact q.symm
      refine g_if_eq C (tgt := 51) dX12_readOr_20 (by decide) (fun h_42 => ?_) (fun h_42 => ?_)
      · skip
        have r_43 := (⟨(rx_37).1, (eq_rg (h_42) rc_0).2⟩ : Rg 0 0 x_37)
        refine g_aload_n C 0 dX12_readOr_51 rfl rfl ?_
        refine g_iload_n C 1 dX12_readOr_52 rfl rfl ?_
        refine h_putI C K hLx hkx f_12_386 p_12_50 dX12_readOr_53 (fun I_44 hI_44 => ?_)
        have hU_45 := iw_put W9 hU_16 hI_44 (ro_o hkx (by decide)) (lo := 0) (hi := 59) (rfl) (rv_19) rfl
        have hF_46 := fq_puto hF_17 hI_44 hkx (by decide) (by decide)
        have hs_47 : NVq I_44 J_15 x b_4 = s_30 := by rw [hI_44]; exact (vq_oI wvqx (ro_o hkx (by decide)) (by decide)).trans hs_30
        have hs_48 : NWq I_44 J_15 x b_6 = s_31 := by rw [hI_44]; exact (zq_oI wzqx (ro_o hkx (by decide)) (by decide)).trans hs_31
        have hs_49 : MTq I_44 J_15 x b_8 = s_32 := by rw [hI_44]; exact (mq_uIt wmqx (by decide)).trans hs_32
        have hs_50 : NRq I_44 J_15 x b_10 b_11 = s_33 := by rw [hI_44]; exact (nq_uIt wnqx (by decide)).trans hs_33
        have hs_51 : QTq I_44 J_15 x = s_34 := by rw [hI_44]; exact (qq_uIt wqqx (by decide)).trans hs_34
        refine g_iconst C (v := 1) dX12_readOr_56 (by decide) ?_
        have f_52 : s_34.om = v_21 := (congrArg QT_.om hs_51).symm.trans (kp_j hI_44 (by decide) q_24)
        exact g_zret (ty := .boolean) (r := 1) B K rfl (rfl) ⟨hU_45, hF_46, hG_18, rg_w rc_1 (by decide) (by decide), (by (try simp only [c_41, (eq_true h_42), if_true, if_false, mqM_tp, mqM_size, mqM_limit, mqM_to, mqM_frm, mqM_kind, mqM_number, mqM_sign, mqM_word, MT_.w_tp, MT_.w_size, MT_.w_limit, MT_.w_to, MT_.w_frm, MT_.w_kind, MT_.w_number, MT_.w_sign, MT_.w_word, nqM_rd, nqM_rn, nqM_taped, nqM_mfault, nqM_mplace, nqM_told, nqM_hl, nqM_hd, NR_.w_rd, NR_.w_rn, NR_.w_taped, NR_.w_mfault, NR_.w_mplace, NR_.w_told, NR_.w_hl, NR_.w_hd, qqM_om, QT_.w_om, vqM_nv, NV_.w_nv, zqM_nw, NW_.w_nw] at hQ_35); (try simp only [c_41, (eq_true h_42), if_true, if_false, mqM_tp, mqM_size, mqM_limit, mqM_to, mqM_frm, mqM_kind, mqM_number, mqM_sign, mqM_word, MT_.w_tp, MT_.w_size, MT_.w_limit, MT_.w_to, MT_.w_frm, MT_.w_kind, MT_.w_number, MT_.w_sign, MT_.w_word, nqM_rd, nqM_rn, nqM_taped, nqM_mfault, nqM_mplace, nqM_told, nqM_hl, nqM_hd, NR_.w_rd, NR_.w_rn, NR_.w_taped, NR_.w_mfault, NR_.w_mplace, NR_.w_told, NR_.w_hl, NR_.w_hd, qqM_om, QT_.w_om, vqM_nv, NV_.w_nv, zqM_nw, NW_.w_nw] at u_36); simp only [evqx, hs_47, hs_5, ezqx, hs_48, hs_7, emqx, hs_49, hs_9, enqx, hs_50, hs_12, eqqx, hs_51, hs_13, hQ_35, u_36, c_41, (eq_true h_42), if_true, if_false, mqM_tp, mqM_size, mqM_limit, mqM_to, mqM_frm, mqM_kind, mqM_number, mqM_sign, mqM_word, MT_.w_tp, MT_.w_size, MT_.w_limit, MT_.w_to, MT_.w_frm, MT_.w_kind, MT_.w_number, MT_.w_sign, MT_.w_word, nqM_rd, nqM_rn, nqM_taped, nqM_mfault, nqM_mplace, nqM_told, nqM_hl, nqM_hd, NR_.w_rd, NR_.w_rn, NR_.w_taped, NR_.w_mfault, NR_.w_mplace, NR_.w_told, NR_.w_hl, NR_.w_hd, qqM_om, QT_.w_om, vqM_nv, NV_.w_nv, zqM_nw, NW_.w_nw]), (fun _ => (sz_m hx_1 hx_2 (kp_j hI_44 (by decide) q_23) (kp_j hI_44 (by decide) q_24) (kp_s hI_44) ⟨by omega, by omega, by omega, by omega⟩)), (kp_j hI_44 (by decide) q_25)⟩ dX12_readOr_57
      · skip
        have n_53 : ¬ x_37 = 0 := h_42
        have r_54 := ne_lo (lo := 1) n_53 rx_37 rc_0 rfl (by decide)
        refine g_aload_n C 0 dX12_readOr_23 rfl rfl ?_
        refine g_callVV C K (c_X12_go W9 hLx hkx   hU_16) hLx hkx (by decide) rfl v_12_156 rfl ⟨rfl, rfl⟩ ⟨Nat.le_of_ble_eq_true rfl, Nat.le_of_ble_eq_true rfl⟩ (Nat.le_of_ble_eq_true rfl) ⟨Nat.le_of_ble_eq_true rfl, Nat.le_of_ble_eq_true rfl⟩ dX12_readOr_24 rfl (st := []) (fun I_56 J_57 h_58 => ?_)
        obtain ⟨hUI_56, hFI_56, hGJ_57, fx_55, ex_55⟩ := h_58
        have hF_59 := fq_tr hF_17 hFI_56 (by decide)
        have hG_60 := fq_tr hG_18 hGJ_57 (by decide)
        obtain ⟨s_62, hs_62⟩ : ∃ z, MTq I_56 J_57 x b_8 = z := ⟨_, rfl⟩
        have c_61 : mGo (s_32) = s_62 := by have q := fx_55; simp only [emqx, hs_32, hs_62] at q; exact q.symm
        have hs_63 : NVq I_56 J_57 x b_4 = s_30 := (vq_fq wvqx hFI_56 hGJ_57 (by decide) (by decide)).trans hs_30
        have hs_64 : NWq I_56 J_57 x b_6 = s_31 := (zq_fq wzqx hFI_56 hGJ_57 (by decide) (by decide)).trans hs_31
        have hs_65 : NRq I_56 J_57 x b_10 b_11 = s_33 := (nq_fq wnqx hFI_56 hGJ_57 (by decide) (by decide)).trans hs_33
        have hs_66 : QTq I_56 J_57 x = s_34 := (qq_fq wqqx hFI_56 hGJ_57 (by decide) (by decide)).trans hs_34
        refine g_aload_n C 0 dX12_readOr_27 rfl rfl ?_
        have f_67 : s_34.om = v_21 := (congrArg QT_.om hs_66).symm.trans (fq_at hFI_56 hLx hkx (by decide) (by decide) q_24)
        refine g_callVI C K (c_X12_readAnd_6 W9 hLx hkx   hUI_56  (by rw [(fq_at hFI_56 hLx hkx (by decide) (by decide) q_23), (fq_at hFI_56 hLx hkx (by decide) (by decide) q_24)]; omega) ((fq_at hFI_56 hLx hkx (by decide) (by decide) q_25))) hLx hkx (by decide) rfl v_12_383 rfl ⟨rfl, rfl⟩ ⟨Nat.le_of_ble_eq_true rfl, Nat.le_of_ble_eq_true rfl⟩ (Nat.le_of_ble_eq_true rfl) ⟨Nat.le_of_ble_eq_true rfl, Nat.le_of_ble_eq_true rfl⟩ dX12_readOr_28 rfl (st := []) (fun x_68 I_69 J_70 h_71 => ?_)
        obtain ⟨hUI_69, hFI_69, hGJ_70, rx_68, fx_68, ex_68⟩ := h_71
        have hF_72 := fq_tr hF_59 hFI_69 (by decide)
        have hG_73 := fq_tr hG_60 hGJ_70 (by decide)
        obtain ⟨s_75, hs_75⟩ : ∃ z, MTq I_69 J_70 x b_8 = z := ⟨_, rfl⟩
        obtain ⟨s_76, hs_76⟩ : ∃ z, NRq I_69 J_70 x b_10 b_11 = z := ⟨_, rfl⟩
        obtain ⟨s_77, hs_77⟩ : ∃ z, QTq I_69 J_70 x = z := ⟨_, rfl⟩
        have c_74 : mAndK 2 (s_30) (s_31) (s_62) (s_33) (s_34) = (x_68, s_75, s_76, s_77) := by have q := fx_68; simp only [evqx, ezqx, emqx, enqx, eqqx, hs_63, hs_64, hs_62, hs_65, hs_66, hs_75, hs_76, hs_77] at q; exact q.symm
        have hs_78 : NVq I_69 J_70 x b_4 = s_30 := (vq_fq wvqx hFI_69 hGJ_70 (by decide) (by decide)).trans hs_63
        have hs_79 : NWq I_69 J_70 x b_6 = s_31 := (zq_fq wzqx hFI_69 hGJ_70 (by decide) (by decide)).trans hs_64
        obtain ⟨x_80, hx_80, rx_80⟩ := ex_getw (I := I_69) (a := x) (j := 47) (lo := 0) (hi := 60) hUI_69.1 hLx (ro_o hkx (by decide)) rfl
        obtain ⟨x_81, hx_81, rx_81⟩ := ex_getw (I := I_69) (a := x) (j := 50) (lo := 0) (hi := 59) hUI_69.1 hLx (ro_o hkx (by decide)) rfl
        obtain ⟨x_82, hx_82, rx_82⟩ := ex_getw (I := I_69) (a := x) (j := 48) (lo := 0) (hi := 20) hUI_69.1 hLx (ro_o hkx (by decide)) rfl
        have f_83 : s_77.om = x_82 := (congrArg QT_.om hs_77).symm.trans hx_82
        refine g_if_ne C (tgt := 36) dX12_readOr_31 (by decide) (fun h_84 => ?_) (fun h_84 => ?_)
        · skip
          have n_85 : ¬ x_68 = 0 := h_84
          have r_86 := ne_lo (lo := 1) n_85 rx_68 rc_0 rfl (by decide)
          have f_87 := sz_v (fq_at hFI_56 hLx hkx (by decide) (by decide) q_23) (fq_at hFI_56 hLx hkx (by decide) (by decide) q_24) hx_80 hx_82 hx_81 (ex_68.1 n_85)
          refine g_aload_n C 0 dX12_readOr_36 rfl rfl ?_
          refine g_iconst C (v := 3) dX12_readOr_37 (by decide) ?_
          refine g_iload_n C 1 dX12_readOr_38 rfl rfl ?_
          refine g_aload_n C 0 dX12_readOr_39 rfl rfl ?_
          refine g_getI C K hLx hkx f_12_386 (v := x_81) hx_81 dX12_readOr_40 ?_
          refine g_iconst C (v := 0) dX12_readOr_43 (by decide) ?_
          have r_88 := (show Rg 0 59 x_80 from by have q1 := rx_80; have q2 := rx_82; unfold Rg at *; omega)
          refine g_callVI C K (c_X12_saysOne W9 hLx hkx 3 v_19 x_81 0 (rg_w rc_3 (by decide) (by decide)) (rv_19) (rg_w rx_81 (by decide) (by decide)) hUI_69  (eq_rg hx_80 (r_88)) (by rw [hx_80]; exact ⟨fun _ => ⟨by have := (rv_19).1; omega, by omega⟩, fun _ => ⟨by have := (rx_81).1; omega, by omega⟩, fun q => absurd q (by decide)⟩)) hLx hkx (by decide) rfl v_12_389 rfl ⟨rfl, rfl⟩ ⟨Nat.le_of_ble_eq_true rfl, Nat.le_of_ble_eq_true rfl⟩ (Nat.le_of_ble_eq_true rfl) ⟨Nat.le_of_ble_eq_true rfl, Nat.le_of_ble_eq_true rfl⟩ dX12_readOr_44 rfl (st := []) (fun x_89 I_90 J_91 h_92 => ?_)
          obtain ⟨hUI_90, hFI_90, hGJ_91, rx_89, ex_89⟩ := h_92
          have hF_93 := fq_tr hF_72 hFI_90 (by decide)
          have hG_94 := fq_tr hG_73 hGJ_91 (by decide)
          have hs_95 : NVq I_90 J_91 x b_4 = s_30 := (vq_fq wvqx hFI_90 hGJ_91 (by decide) (by decide)).trans hs_78
          have hs_96 : NWq I_90 J_91 x b_6 = s_31 := (zq_fq wzqx hFI_90 hGJ_91 (by decide) (by decide)).trans hs_79
          have hs_97 : MTq I_90 J_91 x b_8 = s_75 := (mq_fq wmqx hFI_90 hGJ_91 (by decide) (by decide)).trans hs_75
          have hs_98 : NRq I_90 J_91 x b_10 b_11 = s_76 := (nq_fq wnqx hFI_90 hGJ_91 (by decide) (by decide)).trans hs_76
          have hs_99 : QTq I_90 J_91 x = s_77 := (qq_fq wqqx hFI_90 hGJ_91 (by decide) (by decide)).trans hs_77
          obtain ⟨x_100, hx_100, rx_100, tx_100, ux_100⟩ := sa_b (lo := 1) (hi := 60) ex_89 hx_80 r_88 (by decide) (by decide)
          have r_101 := (show Rg 0 59 x_89 from by have q1 := ux_100; have q2 := r_88; unfold Rg at *; omega)
          refine g_istore_n C dX12_readOr_47 rfl (by decide) (lo2 := [(1, .int x_89), (0, .ref x)]) rfl ?_
          refine g_goto C (tgt := 14) dX12_readOr_48 (by decide) ?_
          refine g_lo (is := [1, 0]) (lo2 := [(0, .ref x), (1, .int x_89)]) rfl ?_
          exact ih_14 I_90 J_91 hUI_90 hF_93 hG_94 x_89 (r_101) x_100 (rg_w rx_100 (by decide) (by decide)) x_82 (rx_82) x_81 (rx_81) hx_100 (fq_at hFI_90 hLx hkx (by decide) (by decide) hx_82) (fq_at hFI_90 hLx hkx (by decide) (by decide) ex_68.2) (fq_at hFI_90 hLx hkx (by decide) (by decide) hx_81) (by (try simp only [c_41, h_42, c_61, f_67, c_74, hx_80, hx_81, hx_82, f_83, h_84, hx_100, if_true, if_false, mqM_tp, mqM_size, mqM_limit, mqM_to, mqM_frm, mqM_kind, mqM_number, mqM_sign, mqM_word, MT_.w_tp, MT_.w_size, MT_.w_limit, MT_.w_to, MT_.w_frm, MT_.w_kind, MT_.w_number, MT_.w_sign, MT_.w_word, nqM_rd, nqM_rn, nqM_taped, nqM_mfault, nqM_mplace, nqM_told, nqM_hl, nqM_hd, NR_.w_rd, NR_.w_rn, NR_.w_taped, NR_.w_mfault, NR_.w_mplace, NR_.w_told, NR_.w_hl, NR_.w_hd, qqM_om, QT_.w_om, vqM_nv, NV_.w_nv, zqM_nw, NW_.w_nw] at hQ_35); (try simp only [c_41, h_42, c_61, f_67, c_74, hx_80, hx_81, hx_82, f_83, h_84, hx_100, if_true, if_false, mqM_tp, mqM_size, mqM_limit, mqM_to, mqM_frm, mqM_kind, mqM_number, mqM_sign, mqM_word, MT_.w_tp, MT_.w_size, MT_.w_limit, MT_.w_to, MT_.w_frm, MT_.w_kind, MT_.w_number, MT_.w_sign, MT_.w_word, nqM_rd, nqM_rn, nqM_taped, nqM_mfault, nqM_mplace, nqM_told, nqM_hl, nqM_hd, NR_.w_rd, NR_.w_rn, NR_.w_taped, NR_.w_mfault, NR_.w_mplace, NR_.w_told, NR_.w_hl, NR_.w_hd, qqM_om, QT_.w_om, vqM_nv, NV_.w_nv, zqM_nw, NW_.w_nw] at u_36); simp only [evqx, hs_95, hs_5, ezqx, hs_96, hs_7, emqx, hs_97, hs_9, enqx, hs_98, hs_12, eqqx, hs_99, hs_13, hQ_35, u_36, c_41, h_42, c_61, f_67, c_74, hx_80, hx_81, hx_82, f_83, h_84, hx_100, if_true, if_false, mqM_tp, mqM_size, mqM_limit, mqM_to, mqM_frm, mqM_kind, mqM_number, mqM_sign, mqM_word, MT_.w_tp, MT_.w_size, MT_.w_limit, MT_.w_to, MT_.w_frm, MT_.w_kind, MT_.w_number, MT_.w_sign, MT_.w_word, nqM_rd, nqM_rn, nqM_taped, nqM_mfault, nqM_mplace, nqM_told, nqM_hl, nqM_hd, NR_.w_rd, NR_.w_rn, NR_.w_taped, NR_.w_mfault, NR_.w_mplace, NR_.w_told, NR_.w_hl, NR_.w_hd, qqM_om, QT_.w_om, vqM_nv, NV_.w_nv, zqM_nw, NW_.w_nw]) ⟨by have := tx_100; omega, by have := tx_100; omega, by have := tx_100; omega, by have := tx_100; omega⟩ (by have q9 := hm_29; have := tx_100; omega)
        · skip
          have r_102 := (⟨(rx_68).1, (eq_rg (h_84) rc_0).2⟩ : Rg 0 0 x_68)
          refine g_iconst C (v := 0) dX12_readOr_34 (by decide) ?_
          exact g_zret (ty := .boolean) (r := 0) B K rfl (rfl) ⟨hUI_69, hF_72, hG_73, rg_w rc_0 (by decide) (by decide), (by (try simp only [c_41, h_42, c_61, f_67, c_74, hx_80, hx_81, hx_82, f_83, (eq_true h_84), if_true, if_false, mqM_tp, mqM_size, mqM_limit, mqM_to, mqM_frm, mqM_kind, mqM_number, mqM_sign, mqM_word, MT_.w_tp, MT_.w_size, MT_.w_limit, MT_.w_to, MT_.w_frm, MT_.w_kind, MT_.w_number, MT_.w_sign, MT_.w_word, nqM_rd, nqM_rn, nqM_taped, nqM_mfault, nqM_mplace, nqM_told, nqM_hl, nqM_hd, NR_.w_rd, NR_.w_rn, NR_.w_taped, NR_.w_mfault, NR_.w_mplace, NR_.w_told, NR_.w_hl, NR_.w_hd, qqM_om, QT_.w_om, vqM_nv, NV_.w_nv, zqM_nw, NW_.w_nw] at hQ_35); (try simp only [c_41, h_42, c_61, f_67, c_74, hx_80, hx_81, hx_82, f_83, (eq_true h_84), if_true, if_false, mqM_tp, mqM_size, mqM_limit, mqM_to, mqM_frm, mqM_kind, mqM_number, mqM_sign, mqM_word, MT_.w_tp, MT_.w_size, MT_.w_limit, MT_.w_to, MT_.w_frm, MT_.w_kind, MT_.w_number, MT_.w_sign, MT_.w_word, nqM_rd, nqM_rn, nqM_taped, nqM_mfault, nqM_mplace, nqM_told, nqM_hl, nqM_hd, NR_.w_rd, NR_.w_rn, NR_.w_taped, NR_.w_mfault, NR_.w_mplace, NR_.w_told, NR_.w_hl, NR_.w_hd, qqM_om, QT_.w_om, vqM_nv, NV_.w_nv, zqM_nw, NW_.w_nw] at u_36); simp only [evqx, hs_78, hs_5, ezqx, hs_79, hs_7, emqx, hs_75, hs_9, enqx, hs_76, hs_12, eqqx, hs_77, hs_13, hQ_35, u_36, c_41, h_42, c_61, f_67, c_74, hx_80, hx_81, hx_82, f_83, (eq_true h_84), if_true, if_false, mqM_tp, mqM_size, mqM_limit, mqM_to, mqM_frm, mqM_kind, mqM_number, mqM_sign, mqM_word, MT_.w_tp, MT_.w_size, MT_.w_limit, MT_.w_to, MT_.w_frm, MT_.w_kind, MT_.w_number, MT_.w_sign, MT_.w_word, nqM_rd, nqM_rn, nqM_taped, nqM_mfault, nqM_mplace, nqM_told, nqM_hl, nqM_hd, NR_.w_rd, NR_.w_rn, NR_.w_taped, NR_.w_mfault, NR_.w_mplace, NR_.w_told, NR_.w_hl, NR_.w_hd, qqM_om, QT_.w_om, vqM_nv, NV_.w_nv, zqM_nw, NW_.w_nw]), (fun q => absurd rfl q), ex_68.2⟩ dX12_readOr_35
  refine g_aload_n C 0 dX12_readOr_0 rfl rfl ?_
  have f_103 : s_13.om = x_2 := (congrArg QT_.om hs_13).symm.trans hx_2
  refine g_callVI C K (c_X12_readAnd_6 W9 hLx hkx   hU  (by rw [hx_1, hx_2]; omega) (hwi)) hLx hkx (by decide) rfl v_12_383 rfl ⟨rfl, rfl⟩ ⟨Nat.le_of_ble_eq_true rfl, Nat.le_of_ble_eq_true rfl⟩ (Nat.le_of_ble_eq_true rfl) ⟨Nat.le_of_ble_eq_true rfl, Nat.le_of_ble_eq_true rfl⟩ dX12_readOr_1 rfl (st := []) (fun x_104 I_105 J_106 h_107 => ?_)
  obtain ⟨hUI_105, hFI_105, hGJ_106, rx_104, fx_104, ex_104⟩ := h_107
  have hF_108 := fq_tr hF hFI_105 (by decide)
  have hG_109 := fq_tr hG hGJ_106 (by decide)
  obtain ⟨s_111, hs_111⟩ : ∃ z, MTq I_105 J_106 x b_8 = z := ⟨_, rfl⟩
  obtain ⟨s_112, hs_112⟩ : ∃ z, NRq I_105 J_106 x b_10 b_11 = z := ⟨_, rfl⟩
  obtain ⟨s_113, hs_113⟩ : ∃ z, QTq I_105 J_106 x = z := ⟨_, rfl⟩
  have c_110 : mAndK 2 (s_5) (s_7) (s_9) (s_12) (s_13) = (x_104, s_111, s_112, s_113) := by have q := fx_104; simp only [evqx, ezqx, emqx, enqx, eqqx, hs_5, hs_7, hs_9, hs_12, hs_13, hs_111, hs_112, hs_113] at q; exact q.symm
  have hs_114 : NVq I_105 J_106 x b_4 = s_5 := (vq_fq wvqx hFI_105 hGJ_106 (by decide) (by decide)).trans hs_5
  have hs_115 : NWq I_105 J_106 x b_6 = s_7 := (zq_fq wzqx hFI_105 hGJ_106 (by decide) (by decide)).trans hs_7
  obtain ⟨x_116, hx_116, rx_116⟩ := ex_getw (I := I_105) (a := x) (j := 47) (lo := 0) (hi := 60) hUI_105.1 hLx (ro_o hkx (by decide)) rfl
  obtain ⟨x_117, hx_117, rx_117⟩ := ex_getw (I := I_105) (a := x) (j := 50) (lo := 0) (hi := 59) hUI_105.1 hLx (ro_o hkx (by decide)) rfl
  obtain ⟨x_118, hx_118, rx_118⟩ := ex_getw (I := I_105) (a := x) (j := 48) (lo := 0) (hi := 20) hUI_105.1 hLx (ro_o hkx (by decide)) rfl
  have f_119 : s_113.om = x_118 := (congrArg QT_.om hs_113).symm.trans hx_118
  refine g_if_ne C (tgt := 9) dX12_readOr_4 (by decide) (fun h_120 => ?_) (fun h_120 => ?_)
  · skip
    have n_121 : ¬ x_104 = 0 := h_120
    have r_122 := ne_lo (lo := 1) n_121 rx_104 rc_0 rfl (by decide)
    have f_123 := sz_v hx_1 hx_2 hx_116 hx_118 hx_117 (ex_104.1 n_121)
    refine g_aload_n C 0 dX12_readOr_9 rfl rfl ?_
    refine g_getI C K hLx hkx f_12_386 (v := x_117) hx_117 dX12_readOr_10 ?_
    refine g_istore_n C dX12_readOr_13 rfl (by decide) (lo2 := [(1, .int x_117), (0, .ref x)]) rfl ?_
    refine g_lo (is := [1, 0]) (lo2 := [(0, .ref x), (1, .int x_117)]) rfl ?_
    exact l_14 21 I_105 J_106 hUI_105 hF_108 hG_109 x_117 (rx_117) x_116 (rx_116) x_118 (rx_118) x_117 (rx_117) hx_116 hx_118 ex_104.2 hx_117 (by simp only [mOrK, evqx, hs_114, hs_5, ezqx, hs_115, hs_7, emqx, hs_111, hs_9, enqx, hs_112, hs_12, eqqx, hs_113, hs_13, hx_1, hx_2, hx_3, f_103, c_110, hx_116, hx_117, hx_118, f_119, h_120, if_true, if_false, mqM_tp, mqM_size, mqM_limit, mqM_to, mqM_frm, mqM_kind, mqM_number, mqM_sign, mqM_word, MT_.w_tp, MT_.w_size, MT_.w_limit, MT_.w_to, MT_.w_frm, MT_.w_kind, MT_.w_number, MT_.w_sign, MT_.w_word, nqM_rd, nqM_rn, nqM_taped, nqM_mfault, nqM_mplace, nqM_told, nqM_hl, nqM_hd, NR_.w_rd, NR_.w_rn, NR_.w_taped, NR_.w_mfault, NR_.w_mplace, NR_.w_told, NR_.w_hl, NR_.w_hd, qqM_om, QT_.w_om, vqM_nv, NV_.w_nv, zqM_nw, NW_.w_nw]) ⟨by omega, by omega, by omega, by omega⟩ (by have := (rx_118).1; omega)
  · skip
    have r_124 := (⟨(rx_104).1, (eq_rg (h_120) rc_0).2⟩ : Rg 0 0 x_104)
    refine g_iconst C (v := 0) dX12_readOr_7 (by decide) ?_
    exact g_zret (ty := .boolean) (r := 0) B K rfl (rfl) ⟨hUI_105, hF_108, hG_109, rg_w rc_0 (by decide) (by decide), (by simp only [mOrK, evqx, hs_114, hs_5, ezqx, hs_115, hs_7, emqx, hs_111, hs_9, enqx, hs_112, hs_12, eqqx, hs_113, hs_13, hx_1, hx_2, hx_3, f_103, c_110, hx_116, hx_117, hx_118, f_119, (eq_true h_120), if_true, if_false, mqM_tp, mqM_size, mqM_limit, mqM_to, mqM_frm, mqM_kind, mqM_number, mqM_sign, mqM_word, MT_.w_tp, MT_.w_size, MT_.w_limit, MT_.w_to, MT_.w_frm, MT_.w_kind, MT_.w_number, MT_.w_sign, MT_.w_word, nqM_rd, nqM_rn, nqM_taped, nqM_mfault, nqM_mplace, nqM_told, nqM_hl, nqM_hd, NR_.w_rd, NR_.w_rn, NR_.w_taped, NR_.w_mfault, NR_.w_mplace, NR_.w_told, NR_.w_hl, NR_.w_hd, qqM_om, QT_.w_om, vqM_nv, NV_.w_nv, zqM_nw, NW_.w_nw]), (fun q => absurd rfl q), ex_104.2⟩ dX12_readOr_8
set_option maxRecDepth 100000 in
set_option maxHeartbeats 8000000 in
theorem c_X12_readBracket_6 {l : Launch} {D : va_G} {cy : Nat → ClassId} {L : List Nat} {κ ln : Nat → Nat} {R : Nat → Nat → Option Nat} {I : Nat → Nat → Int32} {J : Nat → Nat → Int64} {ow : Nat → Nat × Nat} (W9 : ∀ a ∈ L, Shp L κ ln R ow a) {x : Nat} (hLx : x ∈ L) (hkx : κ x = 12) (hU : Iw L κ R ow I) (hn : (I x 47).toInt ≤ 2 * (I x 48).toInt) (hwi : I x 49 = 6) : CtI l yX12_readBracket cX12_readBracket 1 (some .boolean) { frames := 14, cells := 0, slots := 0, locals := 304 } D cy L κ ln R I J [.ref x] (fun r I2 J2 => Iw L κ R ow I2 ∧ Fq L κ ow [1205, 1206, 1207, 1208, 1209, 1210, 1211, 1213, 1247, 1248, 1249, 1250, 86600] I I2 ∧ Fq L κ ow [1212] J J2 ∧ Rg 0 1 r ∧ ((r, MTf R I2 J2 x, NRf R I2 J2 x, QTf R I2 J2 x) = mBrK 2 (NVf R I J x) (NWf R I J x) (MTf R I J x) (NRf R I J x) (QTf R I J x)) ∧ (¬ r = 0 → Sz_ x I I2 1) ∧ (I2 x 49 = 6)) := by
  obtain ⟨x_1, hx_1, rx_1⟩ := ex_getw (I := I) (a := x) (j := 47) (lo := 0) (hi := 60) hU.1 hLx (ro_o hkx (by decide)) rfl
  obtain ⟨x_2, hx_2, rx_2⟩ := ex_getw (I := I) (a := x) (j := 48) (lo := 0) (hi := 20) hU.1 hLx (ro_o hkx (by decide)) rfl
  rw [hx_1, hx_2] at hn
  obtain ⟨x_3, hx_3, rx_3⟩ := ex_getw (I := I) (a := x) (j := 50) (lo := 0) (hi := 59) hU.1 hLx (ro_o hkx (by decide)) rfl
  refine CtI.of (by decide +kernel) (Nat.le_of_ble_eq_true rfl) ?_
  intro p e s m below meth c B K
  have C := B.1
  have hF : Fq L κ ow [1205, 1206, 1207, 1208, 1209, 1210, 1211, 1213, 1247, 1248, 1249, 1250, 86600] I I := fq_rf
  have hG : Fq L κ ow [1212] J J := fq_rf
  obtain ⟨b_4, hb_4, hb_4L, hb_4k, hb_4n, hb_4o⟩ := shp_a (W9 x hLx) hkx 19 15 13 rfl (by decide)
  have evqx : ∀ I J, NVf R I J x = NVq I J x b_4 := fun I J => by simp only [NVf, rr_, Option.getD_some, hb_4]
  have wvqx : vqw_ L κ ow x b_4 := ⟨⟨hLx, hb_4L⟩, ⟨(ro_o hkx (by decide)), (ro_a hb_4k (by decide) hb_4o hkx rfl)⟩⟩
  obtain ⟨s_5, hs_5⟩ : ∃ z, NVq I J x b_4 = z := ⟨_, rfl⟩
  obtain ⟨b_6, hb_6, hb_6L, hb_6k, hb_6n, hb_6o⟩ := shp_a (W9 x hLx) hkx 14 14 389 rfl (by decide)
  have ezqx : ∀ I J, NWf R I J x = NWq I J x b_6 := fun I J => by simp only [NWf, rr_, Option.getD_some, hb_6]
  have wzqx : zqw_ L κ ow x b_6 := ⟨⟨hLx, hb_6L⟩, ⟨(ro_o hkx (by decide)), (ro_a hb_6k (by decide) hb_6o hkx rfl)⟩⟩
  obtain ⟨s_7, hs_7⟩ : ∃ z, NWq I J x b_6 = z := ⟨_, rfl⟩
  obtain ⟨b_8, hb_8, hb_8L, hb_8k, hb_8n, hb_8o⟩ := shp_a (W9 x hLx) hkx 1 14 940 rfl (by decide)
  have emqx : ∀ I J, MTf R I J x = MTq I J x b_8 := fun I J => by simp only [MTf, rr_, Option.getD_some, hb_8]
  have wmqx : mqw_ L κ ow x b_8 := ⟨⟨hLx, hb_8L⟩, ⟨(ro_o hkx (by decide)), (ro_a hb_8k (by decide) hb_8o hkx rfl)⟩⟩
  obtain ⟨s_9, hs_9⟩ : ∃ z, MTq I J x b_8 = z := ⟨_, rfl⟩
  obtain ⟨b_10, hb_10, hb_10L, hb_10k, hb_10n, hb_10o⟩ := shp_a (W9 x hLx) hkx 15 14 72 rfl (by decide)
  obtain ⟨b_11, hb_11, hb_11L, hb_11k, hb_11n, hb_11o⟩ := shp_a (W9 x hLx) hkx 20 15 13 rfl (by decide)
  have enqx : ∀ I J, NRf R I J x = NRq I J x b_10 b_11 := fun I J => by simp only [NRf, rr_, Option.getD_some, hb_10, hb_11]
  have wnqx : nqw_ L κ ow x b_10 b_11 := ⟨⟨hLx, hb_10L, hb_11L⟩, ⟨(ro_o hkx (by decide)), (ro_a hb_10k (by decide) hb_10o hkx rfl), (ro_a hb_11k (by decide) hb_11o hkx rfl)⟩⟩
  obtain ⟨s_12, hs_12⟩ : ∃ z, NRq I J x b_10 b_11 = z := ⟨_, rfl⟩
  have eqqx : ∀ I J, QTf R I J x = QTq I J x := fun I J => by simp only [QTf, rr_, Option.getD_some]
  have wqqx : qqw_ L κ ow x := ⟨hLx, (ro_o hkx (by decide))⟩
  obtain ⟨s_13, hs_13⟩ : ∃ z, QTq I J x = z := ⟨_, rfl⟩
  refine g_lo (is := [0]) (lo2 := [(0, .ref x)]) rfl ?_
  refine g_aload_n C 0 dX12_readBracket_0 rfl rfl ?_
  have f_14 : s_13.om = x_2 := (congrArg QT_.om hs_13).symm.trans hx_2
  refine g_callVI C K (c_X12_readOr_6 W9 hLx hkx   hU  (by rw [hx_1, hx_2]; omega) (hwi)) hLx hkx (by decide) rfl v_12_413 rfl ⟨rfl, rfl⟩ ⟨Nat.le_of_ble_eq_true rfl, Nat.le_of_ble_eq_true rfl⟩ (Nat.le_of_ble_eq_true rfl) ⟨Nat.le_of_ble_eq_true rfl, Nat.le_of_ble_eq_true rfl⟩ dX12_readBracket_1 rfl (st := []) (fun x_15 I_16 J_17 h_18 => ?_)
  obtain ⟨hUI_16, hFI_16, hGJ_17, rx_15, fx_15, ex_15⟩ := h_18
  have hF_19 := fq_tr hF hFI_16 (by decide)
  have hG_20 := fq_tr hG hGJ_17 (by decide)
  obtain ⟨s_22, hs_22⟩ : ∃ z, MTq I_16 J_17 x b_8 = z := ⟨_, rfl⟩
  obtain ⟨s_23, hs_23⟩ : ∃ z, NRq I_16 J_17 x b_10 b_11 = z := ⟨_, rfl⟩
  obtain ⟨s_24, hs_24⟩ : ∃ z, QTq I_16 J_17 x = z := ⟨_, rfl⟩
  have c_21 : mOrK 2 (s_5) (s_7) (s_9) (s_12) (s_13) = (x_15, s_22, s_23, s_24) := by have q := fx_15; simp only [evqx, ezqx, emqx, enqx, eqqx, hs_5, hs_7, hs_9, hs_12, hs_13, hs_22, hs_23, hs_24] at q; exact q.symm
  have hs_25 : NVq I_16 J_17 x b_4 = s_5 := (vq_fq wvqx hFI_16 hGJ_17 (by decide) (by decide)).trans hs_5
  have hs_26 : NWq I_16 J_17 x b_6 = s_7 := (zq_fq wzqx hFI_16 hGJ_17 (by decide) (by decide)).trans hs_7
  obtain ⟨x_27, hx_27, rx_27⟩ := ex_getw (I := I_16) (a := x) (j := 47) (lo := 0) (hi := 60) hUI_16.1 hLx (ro_o hkx (by decide)) rfl
  obtain ⟨x_28, hx_28, rx_28⟩ := ex_getw (I := I_16) (a := x) (j := 50) (lo := 0) (hi := 59) hUI_16.1 hLx (ro_o hkx (by decide)) rfl
  obtain ⟨x_29, hx_29, rx_29⟩ := ex_getw (I := I_16) (a := x) (j := 48) (lo := 0) (hi := 20) hUI_16.1 hLx (ro_o hkx (by decide)) rfl
  have f_30 : s_24.om = x_29 := (congrArg QT_.om hs_24).symm.trans hx_29
  refine g_if_ne C (tgt := 9) dX12_readBracket_4 (by decide) (fun h_31 => ?_) (fun h_31 => ?_)
  · skip
    have n_32 : ¬ x_15 = 0 := h_31
    have r_33 := ne_lo (lo := 1) n_32 rx_15 rc_0 rfl (by decide)
    have f_34 := sz_v hx_1 hx_2 hx_27 hx_29 hx_28 (ex_15.1 n_32)
    refine g_aload_n C 0 dX12_readBracket_9 rfl rfl ?_
    refine g_bipush C (v := 41) dX12_readBracket_10 (by decide) ?_
    obtain ⟨x_35, hx_35, rx_35⟩ := ex_getw (I := I_16) (a := x) (j := 7) (lo := 0) (hi := 4) hUI_16.1 hLx (ro_o hkx (by decide)) rfl
    have f_36 : s_22.kind = x_35 := (congrArg MT_.kind hs_22).symm.trans hx_35
    refine g_callVI C K (c_X12_isSign W9 hLx hkx 41 (rg_w rc_41 (by decide) (by decide)) hUI_16) hLx hkx (by decide) rfl v_12_159 rfl ⟨rfl, rfl⟩ ⟨Nat.le_of_ble_eq_true rfl, Nat.le_of_ble_eq_true rfl⟩ (Nat.le_of_ble_eq_true rfl) ⟨Nat.le_of_ble_eq_true rfl, Nat.le_of_ble_eq_true rfl⟩ dX12_readBracket_12 rfl (st := []) (fun x_37 I_38 J_39 h_40 => ?_)
    obtain ⟨rfl, rfl, rx_37, fx_37, ex_37⟩ := h_40
    have c_41 : mIsSign (41) (s_22) = x_37 := by have q := fx_37; simp only [emqx, hs_22] at q; exact q.symm
    have q_42 := hx_35
    refine g_if_ne C (tgt := 24) dX12_readBracket_15 (by decide) (fun h_43 => ?_) (fun h_43 => ?_)
    · skip
      have n_44 : ¬ x_37 = 0 := h_43
      have r_45 := ne_lo (lo := 1) n_44 rx_37 rc_0 rfl (by decide)
      have r_46 := rg_i rx_35 (eq_rg q_42.symm ((ex_37) n_44)) (lo := 4) (hi := 4) (by decide) (by decide)
      refine g_aload_n C 0 dX12_readBracket_24 rfl rfl ?_
      refine g_callVV C K (c_X12_go W9 hLx hkx   hUI_16) hLx hkx (by decide) rfl v_12_156 rfl ⟨rfl, rfl⟩ ⟨Nat.le_of_ble_eq_true rfl, Nat.le_of_ble_eq_true rfl⟩ (Nat.le_of_ble_eq_true rfl) ⟨Nat.le_of_ble_eq_true rfl, Nat.le_of_ble_eq_true rfl⟩ dX12_readBracket_25 rfl (st := []) (fun I_48 J_49 h_50 => ?_)
      obtain ⟨hUI_48, hFI_48, hGJ_49, fx_47, ex_47⟩ := h_50
      have hF_51 := fq_tr hF_19 hFI_48 (by decide)
      have hG_52 := fq_tr hG_20 hGJ_49 (by decide)
      obtain ⟨s_54, hs_54⟩ : ∃ z, MTq I_48 J_49 x b_8 = z := ⟨_, rfl⟩
      have c_53 : mGo (s_22) = s_54 := by have q := fx_47; simp only [emqx, hs_22, hs_54] at q; exact q.symm
      have hs_55 : NVq I_48 J_49 x b_4 = s_5 := (vq_fq wvqx hFI_48 hGJ_49 (by decide) (by decide)).trans hs_25
      have hs_56 : NWq I_48 J_49 x b_6 = s_7 := (zq_fq wzqx hFI_48 hGJ_49 (by decide) (by decide)).trans hs_26
      have hs_57 : NRq I_48 J_49 x b_10 b_11 = s_23 := (nq_fq wnqx hFI_48 hGJ_49 (by decide) (by decide)).trans hs_23
      have hs_58 : QTq I_48 J_49 x = s_24 := (qq_fq wqqx hFI_48 hGJ_49 (by decide) (by decide)).trans hs_24
      refine g_iconst C (v := 1) dX12_readBracket_28 (by decide) ?_
      exact g_zret (ty := .boolean) (r := 1) B K rfl (rfl) ⟨hUI_48, hF_51, hG_52, rg_w rc_1 (by decide) (by decide), (by simp only [mBrK, mBadQ, evqx, hs_55, hs_5, ezqx, hs_56, hs_7, emqx, hs_54, hs_9, enqx, hs_57, hs_12, eqqx, hs_58, hs_13, hx_1, hx_2, hx_3, f_14, c_21, hx_27, hx_28, hx_29, f_30, h_31, hx_35, f_36, c_41, h_43, c_53, if_true, if_false, mqM_tp, mqM_size, mqM_limit, mqM_to, mqM_frm, mqM_kind, mqM_number, mqM_sign, mqM_word, MT_.w_tp, MT_.w_size, MT_.w_limit, MT_.w_to, MT_.w_frm, MT_.w_kind, MT_.w_number, MT_.w_sign, MT_.w_word, nqM_rd, nqM_rn, nqM_taped, nqM_mfault, nqM_mplace, nqM_told, nqM_hl, nqM_hd, NR_.w_rd, NR_.w_rn, NR_.w_taped, NR_.w_mfault, NR_.w_mplace, NR_.w_told, NR_.w_hl, NR_.w_hd, qqM_om, QT_.w_om, vqM_nv, NV_.w_nv, zqM_nw, NW_.w_nw]), (fun _ => (sz_m hx_1 hx_2 (fq_at hFI_48 hLx hkx (by decide) (by decide) hx_27) (fq_at hFI_48 hLx hkx (by decide) (by decide) hx_29) (fq_at hFI_48 hLx hkx (by decide) (by decide) hx_28) ⟨by omega, by omega, by omega, by omega⟩)), (fq_at hFI_48 hLx hkx (by decide) (by decide) ex_15.2)⟩ dX12_readBracket_29
    · skip
      have r_59 := (⟨(rx_37).1, (eq_rg (h_43) rc_0).2⟩ : Rg 0 0 x_37)
      refine g_aload_n C 0 dX12_readBracket_18 rfl rfl ?_
      refine g_iconst C (v := 1) dX12_readBracket_19 (by decide) ?_
      refine g_callVI C K (c_X12_bad W9 hLx hkx 1 (rg_w rc_1 (by decide) (by decide)) hUI_16) hLx hkx (by decide) rfl v_12_146 rfl ⟨rfl, rfl⟩ ⟨Nat.le_of_ble_eq_true rfl, Nat.le_of_ble_eq_true rfl⟩ (Nat.le_of_ble_eq_true rfl) ⟨Nat.le_of_ble_eq_true rfl, Nat.le_of_ble_eq_true rfl⟩ dX12_readBracket_20 rfl (st := []) (fun x_60 I_61 J_62 h_63 => ?_)
      obtain ⟨hUI_61, hFI_61, hGJ_62, rx_60, fx_60⟩ := h_63
      have hF_64 := fq_tr hF_19 hFI_61 (by decide)
      have hG_65 := fq_tr hG_20 hGJ_62 (by decide)
      obtain ⟨s_67, hs_67⟩ : ∃ z, MTq I_61 J_62 x b_8 = z := ⟨_, rfl⟩
      obtain ⟨s_68, hs_68⟩ : ∃ z, NRq I_61 J_62 x b_10 b_11 = z := ⟨_, rfl⟩
      have c_66 : mBad (1) (s_22) (s_23) = (x_60, s_67, s_68) := by have q := fx_60; simp only [emqx, enqx, hs_22, hs_23, hs_67, hs_68] at q; exact q.symm
      have hs_69 : NVq I_61 J_62 x b_4 = s_5 := (vq_fq wvqx hFI_61 hGJ_62 (by decide) (by decide)).trans hs_25
      have hs_70 : NWq I_61 J_62 x b_6 = s_7 := (zq_fq wzqx hFI_61 hGJ_62 (by decide) (by decide)).trans hs_26
      have hs_71 : QTq I_61 J_62 x = s_24 := (qq_fq wqqx hFI_61 hGJ_62 (by decide) (by decide)).trans hs_24
      exact g_zret (ty := .boolean) (r := x_60) B K rfl (nar_z (rg_w rx_60 (by decide) (by decide))) ⟨hUI_61, hF_64, hG_65, rg_w rx_60 (by decide) (by decide), (by simp only [mBrK, mBadQ, evqx, hs_69, hs_5, ezqx, hs_70, hs_7, emqx, hs_67, hs_9, enqx, hs_68, hs_12, eqqx, hs_71, hs_13, hx_1, hx_2, hx_3, f_14, c_21, hx_27, hx_28, hx_29, f_30, h_31, hx_35, f_36, c_41, (eq_true h_43), c_66, if_true, if_false, mqM_tp, mqM_size, mqM_limit, mqM_to, mqM_frm, mqM_kind, mqM_number, mqM_sign, mqM_word, MT_.w_tp, MT_.w_size, MT_.w_limit, MT_.w_to, MT_.w_frm, MT_.w_kind, MT_.w_number, MT_.w_sign, MT_.w_word, nqM_rd, nqM_rn, nqM_taped, nqM_mfault, nqM_mplace, nqM_told, nqM_hl, nqM_hd, NR_.w_rd, NR_.w_rn, NR_.w_taped, NR_.w_mfault, NR_.w_mplace, NR_.w_told, NR_.w_hl, NR_.w_hd, qqM_om, QT_.w_om, vqM_nv, NV_.w_nv, zqM_nw, NW_.w_nw]), (fun q => ne_no q rx_60 rc_0), (fq_at hFI_61 hLx hkx (by decide) (by decide) ex_15.2)⟩ dX12_readBracket_23
  · skip
    have r_72 := (⟨(rx_15).1, (eq_rg (h_31) rc_0).2⟩ : Rg 0 0 x_15)
    refine g_iconst C (v := 0) dX12_readBracket_7 (by decide) ?_
    exact g_zret (ty := .boolean) (r := 0) B K rfl (rfl) ⟨hUI_16, hF_19, hG_20, rg_w rc_0 (by decide) (by decide), (by simp only [mBrK, mBadQ, evqx, hs_25, hs_5, ezqx, hs_26, hs_7, emqx, hs_22, hs_9, enqx, hs_23, hs_12, eqqx, hs_24, hs_13, hx_1, hx_2, hx_3, f_14, c_21, hx_27, hx_28, hx_29, f_30, (eq_true h_31), if_true, if_false, mqM_tp, mqM_size, mqM_limit, mqM_to, mqM_frm, mqM_kind, mqM_number, mqM_sign, mqM_word, MT_.w_tp, MT_.w_size, MT_.w_limit, MT_.w_to, MT_.w_frm, MT_.w_kind, MT_.w_number, MT_.w_sign, MT_.w_word, nqM_rd, nqM_rn, nqM_taped, nqM_mfault, nqM_mplace, nqM_told, nqM_hl, nqM_hd, NR_.w_rd, NR_.w_rn, NR_.w_taped, NR_.w_mfault, NR_.w_mplace, NR_.w_told, NR_.w_hl, NR_.w_hd, qqM_om, QT_.w_om, vqM_nv, NV_.w_nv, zqM_nw, NW_.w_nw]), (fun q => absurd rfl q), ex_15.2⟩ dX12_readBracket_8
