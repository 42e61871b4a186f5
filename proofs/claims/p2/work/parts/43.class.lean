theorem dX10_add_0 : decode cX10_add 0 = .ok (.bipush 24, 2) := by decide +kernel
theorem dX10_add_2 : decode cX10_add 2 = .ok (.istore_n 2, 1) := by decide +kernel
theorem dX10_add_3 : decode cX10_add 3 = .ok (.iload_n 2, 1) := by decide +kernel
theorem dX10_add_4 : decode cX10_add 4 = .ok (.ifCond .lt 44, 3) := by decide +kernel
theorem dX10_add_7 : decode cX10_add 7 = .ok (.aload_n 0, 1) := by decide +kernel
theorem dX10_add_8 : decode cX10_add 8 = .ok (.getfield 29, 3) := by decide +kernel
theorem dX10_add_11 : decode cX10_add 11 = .ok (.aload_n 0, 1) := by decide +kernel
theorem dX10_add_12 : decode cX10_add 12 = .ok (.getfield 9, 3) := by decide +kernel
theorem dX10_add_15 : decode cX10_add 15 = .ok (.arraylength, 1) := by decide +kernel
theorem dX10_add_16 : decode cX10_add 16 = .ok (.if_icmp .ge 32, 3) := by decide +kernel
theorem dX10_add_19 : decode cX10_add 19 = .ok (.aload_n 0, 1) := by decide +kernel
theorem dX10_add_20 : decode cX10_add 20 = .ok (.getfield 9, 3) := by decide +kernel
theorem dX10_add_23 : decode cX10_add 23 = .ok (.aload_n 0, 1) := by decide +kernel
theorem dX10_add_24 : decode cX10_add 24 = .ok (.getfield 29, 3) := by decide +kernel
theorem dX10_add_27 : decode cX10_add 27 = .ok (.iload_n 1, 1) := by decide +kernel
theorem dX10_add_28 : decode cX10_add 28 = .ok (.iload_n 2, 1) := by decide +kernel
theorem dX10_add_29 : decode cX10_add 29 = .ok (.ishr, 1) := by decide +kernel
theorem dX10_add_30 : decode cX10_add 30 = .ok (.i2b, 1) := by decide +kernel
theorem dX10_add_31 : decode cX10_add 31 = .ok (.bastore, 1) := by decide +kernel
theorem dX10_add_32 : decode cX10_add 32 = .ok (.aload_n 0, 1) := by decide +kernel
theorem dX10_add_33 : decode cX10_add 33 = .ok (.dup, 1) := by decide +kernel
theorem dX10_add_34 : decode cX10_add 34 = .ok (.getfield 29, 3) := by decide +kernel
theorem dX10_add_37 : decode cX10_add 37 = .ok (.iconst 1, 1) := by decide +kernel
theorem dX10_add_38 : decode cX10_add 38 = .ok (.iadd, 1) := by decide +kernel
theorem dX10_add_39 : decode cX10_add 39 = .ok (.putfield 29, 3) := by decide +kernel
theorem dX10_add_42 : decode cX10_add 42 = .ok (.iinc 2 (-8), 3) := by decide +kernel
theorem dX10_add_45 : decode cX10_add 45 = .ok (.goto (-42), 3) := by decide +kernel
theorem dX10_add_48 : decode cX10_add 48 = .ok (.return_, 1) := by decide +kernel
theorem dX10_addToken_0 : decode cX10_addToken 0 = .ok (.aload_n 0, 1) := by decide +kernel
theorem dX10_addToken_1 : decode cX10_addToken 1 = .ok (.getfield 33, 3) := by decide +kernel
theorem dX10_addToken_4 : decode cX10_addToken 4 = .ok (.aload_n 0, 1) := by decide +kernel
theorem dX10_addToken_5 : decode cX10_addToken 5 = .ok (.getfield 19, 3) := by decide +kernel
theorem dX10_addToken_8 : decode cX10_addToken 8 = .ok (.arraylength, 1) := by decide +kernel
theorem dX10_addToken_9 : decode cX10_addToken 9 = .ok (.if_icmp .ge 43, 3) := by decide +kernel
theorem dX10_addToken_12 : decode cX10_addToken 12 = .ok (.aload_n 0, 1) := by decide +kernel
theorem dX10_addToken_13 : decode cX10_addToken 13 = .ok (.getfield 19, 3) := by decide +kernel
theorem dX10_addToken_16 : decode cX10_addToken 16 = .ok (.aload_n 0, 1) := by decide +kernel
theorem dX10_addToken_17 : decode cX10_addToken 17 = .ok (.getfield 33, 3) := by decide +kernel
theorem dX10_addToken_20 : decode cX10_addToken 20 = .ok (.iload_n 1, 1) := by decide +kernel
theorem dX10_addToken_21 : decode cX10_addToken 21 = .ok (.iastore, 1) := by decide +kernel
theorem dX10_addToken_22 : decode cX10_addToken 22 = .ok (.aload_n 0, 1) := by decide +kernel
theorem dX10_addToken_23 : decode cX10_addToken 23 = .ok (.getfield 23, 3) := by decide +kernel
theorem dX10_addToken_26 : decode cX10_addToken 26 = .ok (.aload_n 0, 1) := by decide +kernel
theorem dX10_addToken_27 : decode cX10_addToken 27 = .ok (.getfield 33, 3) := by decide +kernel
theorem dX10_addToken_30 : decode cX10_addToken 30 = .ok (.iload_n 2, 1) := by decide +kernel
theorem dX10_addToken_31 : decode cX10_addToken 31 = .ok (.iastore, 1) := by decide +kernel
theorem dX10_addToken_32 : decode cX10_addToken 32 = .ok (.aload_n 0, 1) := by decide +kernel
theorem dX10_addToken_33 : decode cX10_addToken 33 = .ok (.getfield 26, 3) := by decide +kernel
theorem dX10_addToken_36 : decode cX10_addToken 36 = .ok (.aload_n 0, 1) := by decide +kernel
theorem dX10_addToken_37 : decode cX10_addToken 37 = .ok (.getfield 33, 3) := by decide +kernel
theorem dX10_addToken_40 : decode cX10_addToken 40 = .ok (.lload_n 3, 1) := by decide +kernel
theorem dX10_addToken_41 : decode cX10_addToken 41 = .ok (.lastore, 1) := by decide +kernel
theorem dX10_addToken_42 : decode cX10_addToken 42 = .ok (.aload_n 0, 1) := by decide +kernel
theorem dX10_addToken_43 : decode cX10_addToken 43 = .ok (.dup, 1) := by decide +kernel
theorem dX10_addToken_44 : decode cX10_addToken 44 = .ok (.getfield 33, 3) := by decide +kernel
theorem dX10_addToken_47 : decode cX10_addToken 47 = .ok (.iconst 1, 1) := by decide +kernel
theorem dX10_addToken_48 : decode cX10_addToken 48 = .ok (.iadd, 1) := by decide +kernel
theorem dX10_addToken_49 : decode cX10_addToken 49 = .ok (.putfield 33, 3) := by decide +kernel
theorem dX10_addToken_52 : decode cX10_addToken 52 = .ok (.return_, 1) := by decide +kernel
theorem dX10_advance_0 : decode cX10_advance 0 = .ok (.aload_n 0, 1) := by decide +kernel
theorem dX10_advance_1 : decode cX10_advance 1 = .ok (.getfield 36, 3) := by decide +kernel
theorem dX10_advance_4 : decode cX10_advance 4 = .ok (.iconst 1, 1) := by decide +kernel
theorem dX10_advance_5 : decode cX10_advance 5 = .ok (.iadd, 1) := by decide +kernel
theorem dX10_advance_6 : decode cX10_advance 6 = .ok (.aload_n 0, 1) := by decide +kernel
theorem dX10_advance_7 : decode cX10_advance 7 = .ok (.getfield 33, 3) := by decide +kernel
theorem dX10_advance_10 : decode cX10_advance 10 = .ok (.if_icmp .ge 52, 3) := by decide +kernel
theorem dX10_advance_13 : decode cX10_advance 13 = .ok (.aload_n 0, 1) := by decide +kernel
theorem dX10_advance_14 : decode cX10_advance 14 = .ok (.dup, 1) := by decide +kernel
theorem dX10_advance_15 : decode cX10_advance 15 = .ok (.getfield 36, 3) := by decide +kernel
theorem dX10_advance_18 : decode cX10_advance 18 = .ok (.iconst 1, 1) := by decide +kernel
theorem dX10_advance_19 : decode cX10_advance 19 = .ok (.iadd, 1) := by decide +kernel
theorem dX10_advance_20 : decode cX10_advance 20 = .ok (.putfield 36, 3) := by decide +kernel
theorem dX10_advance_23 : decode cX10_advance 23 = .ok (.aload_n 0, 1) := by decide +kernel
theorem dX10_advance_24 : decode cX10_advance 24 = .ok (.aload_n 0, 1) := by decide +kernel
theorem dX10_advance_25 : decode cX10_advance 25 = .ok (.getfield 19, 3) := by decide +kernel
theorem dX10_advance_28 : decode cX10_advance 28 = .ok (.aload_n 0, 1) := by decide +kernel
theorem dX10_advance_29 : decode cX10_advance 29 = .ok (.getfield 36, 3) := by decide +kernel
theorem dX10_advance_32 : decode cX10_advance 32 = .ok (.iaload, 1) := by decide +kernel
theorem dX10_advance_33 : decode cX10_advance 33 = .ok (.putfield 39, 3) := by decide +kernel
theorem dX10_advance_36 : decode cX10_advance 36 = .ok (.aload_n 0, 1) := by decide +kernel
theorem dX10_advance_37 : decode cX10_advance 37 = .ok (.aload_n 0, 1) := by decide +kernel
theorem dX10_advance_38 : decode cX10_advance 38 = .ok (.getfield 23, 3) := by decide +kernel
theorem dX10_advance_41 : decode cX10_advance 41 = .ok (.aload_n 0, 1) := by decide +kernel
theorem dX10_advance_42 : decode cX10_advance 42 = .ok (.getfield 36, 3) := by decide +kernel
theorem dX10_advance_45 : decode cX10_advance 45 = .ok (.iaload, 1) := by decide +kernel
theorem dX10_advance_46 : decode cX10_advance 46 = .ok (.putfield 42, 3) := by decide +kernel
theorem dX10_advance_49 : decode cX10_advance 49 = .ok (.aload_n 0, 1) := by decide +kernel
theorem dX10_advance_50 : decode cX10_advance 50 = .ok (.aload_n 0, 1) := by decide +kernel
theorem dX10_advance_51 : decode cX10_advance 51 = .ok (.getfield 26, 3) := by decide +kernel
theorem dX10_advance_54 : decode cX10_advance 54 = .ok (.aload_n 0, 1) := by decide +kernel
theorem dX10_advance_55 : decode cX10_advance 55 = .ok (.getfield 36, 3) := by decide +kernel
theorem dX10_advance_58 : decode cX10_advance 58 = .ok (.laload, 1) := by decide +kernel
theorem dX10_advance_59 : decode cX10_advance 59 = .ok (.putfield 45, 3) := by decide +kernel
theorem dX10_advance_62 : decode cX10_advance 62 = .ok (.return_, 1) := by decide +kernel
theorem dX10_isDigit_0 : decode cX10_isDigit 0 = .ok (.iload_n 0, 1) := by decide +kernel
theorem dX10_isDigit_1 : decode cX10_isDigit 1 = .ok (.bipush 48, 2) := by decide +kernel
theorem dX10_isDigit_3 : decode cX10_isDigit 3 = .ok (.if_icmp .lt 13, 3) := by decide +kernel
theorem dX10_isDigit_6 : decode cX10_isDigit 6 = .ok (.iload_n 0, 1) := by decide +kernel
theorem dX10_isDigit_7 : decode cX10_isDigit 7 = .ok (.bipush 57, 2) := by decide +kernel
theorem dX10_isDigit_9 : decode cX10_isDigit 9 = .ok (.if_icmp .gt 7, 3) := by decide +kernel
theorem dX10_isDigit_12 : decode cX10_isDigit 12 = .ok (.iconst 1, 1) := by decide +kernel
theorem dX10_isDigit_13 : decode cX10_isDigit 13 = .ok (.goto 4, 3) := by decide +kernel
theorem dX10_isDigit_16 : decode cX10_isDigit 16 = .ok (.iconst 0, 1) := by decide +kernel
theorem dX10_isDigit_17 : decode cX10_isDigit 17 = .ok (.ireturn, 1) := by decide +kernel
theorem dX10_isLetter_0 : decode cX10_isLetter 0 = .ok (.iload_n 0, 1) := by decide +kernel
theorem dX10_isLetter_1 : decode cX10_isLetter 1 = .ok (.bipush 97, 2) := by decide +kernel
theorem dX10_isLetter_3 : decode cX10_isLetter 3 = .ok (.if_icmp .lt 13, 3) := by decide +kernel
theorem dX10_isLetter_6 : decode cX10_isLetter 6 = .ok (.iload_n 0, 1) := by decide +kernel
theorem dX10_isLetter_7 : decode cX10_isLetter 7 = .ok (.bipush 122, 2) := by decide +kernel
theorem dX10_isLetter_9 : decode cX10_isLetter 9 = .ok (.if_icmp .gt 7, 3) := by decide +kernel
theorem dX10_isLetter_12 : decode cX10_isLetter 12 = .ok (.iconst 1, 1) := by decide +kernel
theorem dX10_isLetter_13 : decode cX10_isLetter 13 = .ok (.goto 4, 3) := by decide +kernel
theorem dX10_isLetter_16 : decode cX10_isLetter 16 = .ok (.iconst 0, 1) := by decide +kernel
theorem dX10_isLetter_17 : decode cX10_isLetter 17 = .ok (.ireturn, 1) := by decide +kernel
theorem dX10_isSign_0 : decode cX10_isSign 0 = .ok (.iload_n 0, 1) := by decide +kernel
theorem dX10_isSign_1 : decode cX10_isSign 1 = .ok (.bipush 40, 2) := by decide +kernel
theorem dX10_isSign_3 : decode cX10_isSign 3 = .ok (.if_icmp .eq 21, 3) := by decide +kernel
theorem dX10_isSign_6 : decode cX10_isSign 6 = .ok (.iload_n 0, 1) := by decide +kernel
theorem dX10_isSign_7 : decode cX10_isSign 7 = .ok (.bipush 41, 2) := by decide +kernel
theorem dX10_isSign_9 : decode cX10_isSign 9 = .ok (.if_icmp .eq 15, 3) := by decide +kernel
theorem dX10_isSign_12 : decode cX10_isSign 12 = .ok (.iload_n 0, 1) := by decide +kernel
theorem dX10_isSign_13 : decode cX10_isSign 13 = .ok (.bipush 59, 2) := by decide +kernel
theorem dX10_isSign_15 : decode cX10_isSign 15 = .ok (.if_icmp .lt 13, 3) := by decide +kernel
theorem dX10_isSign_18 : decode cX10_isSign 18 = .ok (.iload_n 0, 1) := by decide +kernel
theorem dX10_isSign_19 : decode cX10_isSign 19 = .ok (.bipush 62, 2) := by decide +kernel
theorem dX10_isSign_21 : decode cX10_isSign 21 = .ok (.if_icmp .gt 7, 3) := by decide +kernel
theorem dX10_isSign_24 : decode cX10_isSign 24 = .ok (.iconst 1, 1) := by decide +kernel
theorem dX10_isSign_25 : decode cX10_isSign 25 = .ok (.goto 4, 3) := by decide +kernel
theorem dX10_isSign_28 : decode cX10_isSign 28 = .ok (.iconst 0, 1) := by decide +kernel
theorem dX10_isSign_29 : decode cX10_isSign 29 = .ok (.ireturn, 1) := by decide +kernel
theorem dX10_tokenOfWord_0 : decode cX10_tokenOfWord 0 = .ok (.iconst 0, 1) := by decide +kernel
theorem dX10_tokenOfWord_1 : decode cX10_tokenOfWord 1 = .ok (.istore_n 3, 1) := by decide +kernel
theorem dX10_tokenOfWord_2 : decode cX10_tokenOfWord 2 = .ok (.iload_n 3, 1) := by decide +kernel
theorem dX10_tokenOfWord_3 : decode cX10_tokenOfWord 3 = .ok (.bipush 28, 2) := by decide +kernel
theorem dX10_tokenOfWord_5 : decode cX10_tokenOfWord 5 = .ok (.if_icmp .ge 22, 3) := by decide +kernel
theorem dX10_tokenOfWord_8 : decode cX10_tokenOfWord 8 = .ok (.aload_n 0, 1) := by decide +kernel
theorem dX10_tokenOfWord_9 : decode cX10_tokenOfWord 9 = .ok (.getfield 15, 3) := by decide +kernel
theorem dX10_tokenOfWord_12 : decode cX10_tokenOfWord 12 = .ok (.iload_n 3, 1) := by decide +kernel
theorem dX10_tokenOfWord_13 : decode cX10_tokenOfWord 13 = .ok (.laload, 1) := by decide +kernel
theorem dX10_tokenOfWord_14 : decode cX10_tokenOfWord 14 = .ok (.lload_n 1, 1) := by decide +kernel
theorem dX10_tokenOfWord_15 : decode cX10_tokenOfWord 15 = .ok (.lcmp, 1) := by decide +kernel
theorem dX10_tokenOfWord_16 : decode cX10_tokenOfWord 16 = .ok (.ifCond .ne 5, 3) := by decide +kernel
theorem dX10_tokenOfWord_19 : decode cX10_tokenOfWord 19 = .ok (.iload_n 3, 1) := by decide +kernel
theorem dX10_tokenOfWord_20 : decode cX10_tokenOfWord 20 = .ok (.ireturn, 1) := by decide +kernel
theorem dX10_tokenOfWord_21 : decode cX10_tokenOfWord 21 = .ok (.iinc 3 1, 3) := by decide +kernel
theorem dX10_tokenOfWord_24 : decode cX10_tokenOfWord 24 = .ok (.goto (-22), 3) := by decide +kernel
theorem dX10_tokenOfWord_27 : decode cX10_tokenOfWord 27 = .ok (.bipush 100, 2) := by decide +kernel
theorem dX10_tokenOfWord_29 : decode cX10_tokenOfWord 29 = .ok (.ireturn, 1) := by decide +kernel
theorem dX10_withLetter_0 : decode cX10_withLetter 0 = .ok (.lload_n 0, 1) := by decide +kernel
theorem dX10_withLetter_1 : decode cX10_withLetter 1 = .ok (.iconst 5, 1) := by decide +kernel
theorem dX10_withLetter_2 : decode cX10_withLetter 2 = .ok (.lshl, 1) := by decide +kernel
theorem dX10_withLetter_3 : decode cX10_withLetter 3 = .ok (.iload_n 2, 1) := by decide +kernel
theorem dX10_withLetter_4 : decode cX10_withLetter 4 = .ok (.bipush 97, 2) := by decide +kernel
theorem dX10_withLetter_6 : decode cX10_withLetter 6 = .ok (.isub, 1) := by decide +kernel
theorem dX10_withLetter_7 : decode cX10_withLetter 7 = .ok (.iconst 1, 1) := by decide +kernel
theorem dX10_withLetter_8 : decode cX10_withLetter 8 = .ok (.iadd, 1) := by decide +kernel
theorem dX10_withLetter_9 : decode cX10_withLetter 9 = .ok (.i2l, 1) := by decide +kernel
theorem dX10_withLetter_10 : decode cX10_withLetter 10 = .ok (.lor, 1) := by decide +kernel
theorem dX10_withLetter_11 : decode cX10_withLetter 11 = .ok (.lreturn, 1) := by decide +kernel
theorem dX11_end_0 : decode cX11_end 0 = .ok (.iload_n 1, 1) := by decide +kernel
theorem dX11_end_1 : decode cX11_end 1 = .ok (.ifCond .lt 14, 3) := by decide +kernel
theorem dX11_end_4 : decode cX11_end 4 = .ok (.iload_n 1, 1) := by decide +kernel
theorem dX11_end_5 : decode cX11_end 5 = .ok (.aload_n 0, 1) := by decide +kernel
theorem dX11_end_6 : decode cX11_end 6 = .ok (.getfield 10, 3) := by decide +kernel
theorem dX11_end_9 : decode cX11_end 9 = .ok (.getfield 102, 3) := by decide +kernel
theorem dX11_end_12 : decode cX11_end 12 = .ok (.if_icmp .le 5, 3) := by decide +kernel
theorem dX11_end_15 : decode cX11_end 15 = .ok (.iconst 0, 1) := by decide +kernel
theorem dX11_end_16 : decode cX11_end 16 = .ok (.ireturn, 1) := by decide +kernel
theorem dX11_end_17 : decode cX11_end 17 = .ok (.aload_n 0, 1) := by decide +kernel
theorem dX11_end_18 : decode cX11_end 18 = .ok (.getfield 10, 3) := by decide +kernel
theorem dX11_end_21 : decode cX11_end 21 = .ok (.iload_n 1, 1) := by decide +kernel
theorem dX11_end_22 : decode cX11_end 22 = .ok (.putfield 102, 3) := by decide +kernel
theorem dX11_end_25 : decode cX11_end 25 = .ok (.iconst 1, 1) := by decide +kernel
theorem dX11_end_26 : decode cX11_end 26 = .ok (.ireturn, 1) := by decide +kernel
theorem dX11_feed_0 : decode cX11_feed 0 = .ok (.aload_n 0, 1) := by decide +kernel
theorem dX11_feed_1 : decode cX11_feed 1 = .ok (.getfield 10, 3) := by decide +kernel
theorem dX11_feed_4 : decode cX11_feed 4 = .ok (.getfield 102, 3) := by decide +kernel
theorem dX11_feed_7 : decode cX11_feed 7 = .ok (.sipush 920, 3) := by decide +kernel
theorem dX11_feed_10 : decode cX11_feed 10 = .ok (.if_icmp .le 5, 3) := by decide +kernel
theorem dX11_feed_13 : decode cX11_feed 13 = .ok (.iconst (-1), 1) := by decide +kernel
theorem dX11_feed_14 : decode cX11_feed 14 = .ok (.ireturn, 1) := by decide +kernel
theorem dX11_feed_15 : decode cX11_feed 15 = .ok (.aload_n 0, 1) := by decide +kernel
theorem dX11_feed_16 : decode cX11_feed 16 = .ok (.getfield 10, 3) := by decide +kernel
theorem dX11_feed_19 : decode cX11_feed 19 = .ok (.iload_n 1, 1) := by decide +kernel
theorem dX11_feed_20 : decode cX11_feed 20 = .ok (.invokevirtual 105, 3) := by decide +kernel
theorem dX11_feed_23 : decode cX11_feed 23 = .ok (.aload_n 0, 1) := by decide +kernel
theorem dX11_feed_24 : decode cX11_feed 24 = .ok (.getfield 10, 3) := by decide +kernel
theorem dX11_feed_27 : decode cX11_feed 27 = .ok (.iload_n 2, 1) := by decide +kernel
theorem dX11_feed_28 : decode cX11_feed 28 = .ok (.invokevirtual 105, 3) := by decide +kernel
theorem dX11_feed_31 : decode cX11_feed 31 = .ok (.aload_n 0, 1) := by decide +kernel
theorem dX11_feed_32 : decode cX11_feed 32 = .ok (.getfield 10, 3) := by decide +kernel
theorem dX11_feed_35 : decode cX11_feed 35 = .ok (.iload_n 3, 1) := by decide +kernel
theorem dX11_feed_36 : decode cX11_feed 36 = .ok (.invokevirtual 105, 3) := by decide +kernel
theorem dX11_feed_39 : decode cX11_feed 39 = .ok (.aload_n 0, 1) := by decide +kernel
theorem dX11_feed_40 : decode cX11_feed 40 = .ok (.getfield 10, 3) := by decide +kernel
theorem dX11_feed_43 : decode cX11_feed 43 = .ok (.iload 4, 2) := by decide +kernel
theorem dX11_feed_45 : decode cX11_feed 45 = .ok (.invokevirtual 105, 3) := by decide +kernel
theorem dX11_feed_48 : decode cX11_feed 48 = .ok (.aload_n 0, 1) := by decide +kernel
theorem dX11_feed_49 : decode cX11_feed 49 = .ok (.getfield 10, 3) := by decide +kernel
theorem dX11_feed_52 : decode cX11_feed 52 = .ok (.iload 5, 2) := by decide +kernel
theorem dX11_feed_54 : decode cX11_feed 54 = .ok (.invokevirtual 105, 3) := by decide +kernel
theorem dX11_feed_57 : decode cX11_feed 57 = .ok (.aload_n 0, 1) := by decide +kernel
theorem dX11_feed_58 : decode cX11_feed 58 = .ok (.getfield 10, 3) := by decide +kernel
theorem dX11_feed_61 : decode cX11_feed 61 = .ok (.getfield 102, 3) := by decide +kernel
theorem dX11_feed_64 : decode cX11_feed 64 = .ok (.ireturn, 1) := by decide +kernel
theorem dX1_become_0 : decode cX1_become 0 = .ok (.aload_n 1, 1) := by decide +kernel
theorem dX1_become_1 : decode cX1_become 1 = .ok (.getfield 9, 3) := by decide +kernel
theorem dX1_become_4 : decode cX1_become 4 = .ok (.iconst 0, 1) := by decide +kernel
theorem dX1_become_5 : decode cX1_become 5 = .ok (.aload_n 0, 1) := by decide +kernel
theorem dX1_become_6 : decode cX1_become 6 = .ok (.getfield 9, 3) := by decide +kernel
theorem dX1_become_9 : decode cX1_become 9 = .ok (.iconst 0, 1) := by decide +kernel
theorem dX1_become_10 : decode cX1_become 10 = .ok (.bipush 6, 2) := by decide +kernel
theorem dX1_become_12 : decode cX1_become 12 = .ok (.invokestatic 56, 3) := by decide +kernel
theorem dX1_become_15 : decode cX1_become 15 = .ok (.aload_n 1, 1) := by decide +kernel
theorem dX1_become_16 : decode cX1_become 16 = .ok (.getfield 15, 3) := by decide +kernel
theorem dX1_become_19 : decode cX1_become 19 = .ok (.iconst 0, 1) := by decide +kernel
theorem dX1_become_20 : decode cX1_become 20 = .ok (.aload_n 0, 1) := by decide +kernel
theorem dX1_become_21 : decode cX1_become 21 = .ok (.getfield 15, 3) := by decide +kernel
theorem dX1_become_24 : decode cX1_become 24 = .ok (.iconst 0, 1) := by decide +kernel
theorem dX1_become_25 : decode cX1_become 25 = .ok (.bipush 42, 2) := by decide +kernel
theorem dX1_become_27 : decode cX1_become 27 = .ok (.invokestatic 56, 3) := by decide +kernel
theorem dX1_become_30 : decode cX1_become 30 = .ok (.aload_n 1, 1) := by decide +kernel
theorem dX1_become_31 : decode cX1_become 31 = .ok (.getfield 18, 3) := by decide +kernel
theorem dX1_become_34 : decode cX1_become 34 = .ok (.iconst 0, 1) := by decide +kernel
theorem dX1_become_35 : decode cX1_become 35 = .ok (.aload_n 0, 1) := by decide +kernel
theorem dX1_become_36 : decode cX1_become 36 = .ok (.getfield 18, 3) := by decide +kernel
theorem dX1_become_39 : decode cX1_become 39 = .ok (.iconst 0, 1) := by decide +kernel
theorem dX1_become_40 : decode cX1_become 40 = .ok (.bipush 7, 2) := by decide +kernel
theorem dX1_become_42 : decode cX1_become 42 = .ok (.invokestatic 56, 3) := by decide +kernel
theorem dX1_become_45 : decode cX1_become 45 = .ok (.aload_n 1, 1) := by decide +kernel
theorem dX1_become_46 : decode cX1_become 46 = .ok (.getfield 21, 3) := by decide +kernel
theorem dX1_become_49 : decode cX1_become 49 = .ok (.iconst 0, 1) := by decide +kernel
theorem dX1_become_50 : decode cX1_become 50 = .ok (.aload_n 0, 1) := by decide +kernel
theorem dX1_become_51 : decode cX1_become 51 = .ok (.getfield 21, 3) := by decide +kernel
theorem dX1_become_54 : decode cX1_become 54 = .ok (.iconst 0, 1) := by decide +kernel
theorem dX1_become_55 : decode cX1_become 55 = .ok (.bipush 7, 2) := by decide +kernel
theorem dX1_become_57 : decode cX1_become 57 = .ok (.invokestatic 56, 3) := by decide +kernel
theorem dX1_become_60 : decode cX1_become 60 = .ok (.aload_n 1, 1) := by decide +kernel
theorem dX1_become_61 : decode cX1_become 61 = .ok (.getfield 24, 3) := by decide +kernel
theorem dX1_become_64 : decode cX1_become 64 = .ok (.iconst 0, 1) := by decide +kernel
theorem dX1_become_65 : decode cX1_become 65 = .ok (.aload_n 0, 1) := by decide +kernel
theorem dX1_become_66 : decode cX1_become 66 = .ok (.getfield 24, 3) := by decide +kernel
theorem dX1_become_69 : decode cX1_become 69 = .ok (.iconst 0, 1) := by decide +kernel
theorem dX1_become_70 : decode cX1_become 70 = .ok (.bipush 7, 2) := by decide +kernel
theorem dX1_become_72 : decode cX1_become 72 = .ok (.invokestatic 56, 3) := by decide +kernel
theorem dX1_become_75 : decode cX1_become 75 = .ok (.aload_n 1, 1) := by decide +kernel
theorem dX1_become_76 : decode cX1_become 76 = .ok (.getfield 27, 3) := by decide +kernel
theorem dX1_become_79 : decode cX1_become 79 = .ok (.iconst 0, 1) := by decide +kernel
theorem dX1_become_80 : decode cX1_become 80 = .ok (.aload_n 0, 1) := by decide +kernel
theorem dX1_become_81 : decode cX1_become 81 = .ok (.getfield 27, 3) := by decide +kernel
theorem dX1_become_84 : decode cX1_become 84 = .ok (.iconst 0, 1) := by decide +kernel
theorem dX1_become_85 : decode cX1_become 85 = .ok (.bipush 7, 2) := by decide +kernel
theorem dX1_become_87 : decode cX1_become 87 = .ok (.invokestatic 56, 3) := by decide +kernel
theorem dX1_become_90 : decode cX1_become 90 = .ok (.aload_n 0, 1) := by decide +kernel
theorem dX1_become_91 : decode cX1_become 91 = .ok (.aload_n 1, 1) := by decide +kernel
theorem dX1_become_92 : decode cX1_become 92 = .ok (.getfield 30, 3) := by decide +kernel
theorem dX1_become_95 : decode cX1_become 95 = .ok (.putfield 30, 3) := by decide +kernel
theorem dX1_become_98 : decode cX1_become 98 = .ok (.aload_n 0, 1) := by decide +kernel
theorem dX1_become_99 : decode cX1_become 99 = .ok (.aload_n 1, 1) := by decide +kernel
theorem dX1_become_100 : decode cX1_become 100 = .ok (.getfield 34, 3) := by decide +kernel
theorem dX1_become_103 : decode cX1_become 103 = .ok (.putfield 34, 3) := by decide +kernel
theorem dX1_become_106 : decode cX1_become 106 = .ok (.aload_n 0, 1) := by decide +kernel
theorem dX1_become_107 : decode cX1_become 107 = .ok (.aload_n 1, 1) := by decide +kernel
theorem dX1_become_108 : decode cX1_become 108 = .ok (.getfield 37, 3) := by decide +kernel
theorem dX1_become_111 : decode cX1_become 111 = .ok (.putfield 37, 3) := by decide +kernel
theorem dX1_become_114 : decode cX1_become 114 = .ok (.aload_n 0, 1) := by decide +kernel
theorem dX1_become_115 : decode cX1_become 115 = .ok (.aload_n 1, 1) := by decide +kernel
theorem dX1_become_116 : decode cX1_become 116 = .ok (.getfield 40, 3) := by decide +kernel
theorem dX1_become_119 : decode cX1_become 119 = .ok (.putfield 40, 3) := by decide +kernel
theorem dX1_become_122 : decode cX1_become 122 = .ok (.aload_n 0, 1) := by decide +kernel
theorem dX1_become_123 : decode cX1_become 123 = .ok (.aload_n 1, 1) := by decide +kernel
theorem dX1_become_124 : decode cX1_become 124 = .ok (.getfield 43, 3) := by decide +kernel
theorem dX1_become_127 : decode cX1_become 127 = .ok (.putfield 43, 3) := by decide +kernel
theorem dX1_become_130 : decode cX1_become 130 = .ok (.aload_n 0, 1) := by decide +kernel
theorem dX1_become_131 : decode cX1_become 131 = .ok (.aload_n 1, 1) := by decide +kernel
theorem dX1_become_132 : decode cX1_become 132 = .ok (.getfield 46, 3) := by decide +kernel
theorem dX1_become_135 : decode cX1_become 135 = .ok (.putfield 46, 3) := by decide +kernel
theorem dX1_become_138 : decode cX1_become 138 = .ok (.return_, 1) := by decide +kernel
theorem dX5_forget_0 : decode cX5_forget 0 = .ok (.aload_n 0, 1) := by decide +kernel
theorem dX5_forget_1 : decode cX5_forget 1 = .ok (.iconst 0, 1) := by decide +kernel
theorem dX5_forget_2 : decode cX5_forget 2 = .ok (.putfield 17, 3) := by decide +kernel
theorem dX5_forget_5 : decode cX5_forget 5 = .ok (.return_, 1) := by decide +kernel
theorem dX7_forget_0 : decode cX7_forget 0 = .ok (.aload_n 0, 1) := by decide +kernel
theorem dX7_forget_1 : decode cX7_forget 1 = .ok (.iconst 0, 1) := by decide +kernel
theorem dX7_forget_2 : decode cX7_forget 2 = .ok (.putfield 24, 3) := by decide +kernel
theorem dX7_forget_5 : decode cX7_forget 5 = .ok (.aload_n 0, 1) := by decide +kernel
theorem dX7_forget_6 : decode cX7_forget 6 = .ok (.iconst 0, 1) := by decide +kernel
theorem dX7_forget_7 : decode cX7_forget 7 = .ok (.putfield 28, 3) := by decide +kernel
theorem dX7_forget_10 : decode cX7_forget 10 = .ok (.return_, 1) := by decide +kernel
theorem dX8_become_0 : decode cX8_become 0 = .ok (.aload_n 1, 1) := by decide +kernel
theorem dX8_become_1 : decode cX8_become 1 = .ok (.getfield 9, 3) := by decide +kernel
theorem dX8_become_4 : decode cX8_become 4 = .ok (.iconst 0, 1) := by decide +kernel
theorem dX8_become_5 : decode cX8_become 5 = .ok (.aload_n 0, 1) := by decide +kernel
theorem dX8_become_6 : decode cX8_become 6 = .ok (.getfield 9, 3) := by decide +kernel
theorem dX8_become_9 : decode cX8_become 9 = .ok (.iconst 0, 1) := by decide +kernel
theorem dX8_become_10 : decode cX8_become 10 = .ok (.bipush 7, 2) := by decide +kernel
theorem dX8_become_12 : decode cX8_become 12 = .ok (.invokestatic 41, 3) := by decide +kernel
theorem dX8_become_15 : decode cX8_become 15 = .ok (.aload_n 1, 1) := by decide +kernel
theorem dX8_become_16 : decode cX8_become 16 = .ok (.getfield 15, 3) := by decide +kernel
theorem dX8_become_19 : decode cX8_become 19 = .ok (.iconst 0, 1) := by decide +kernel
theorem dX8_become_20 : decode cX8_become 20 = .ok (.aload_n 0, 1) := by decide +kernel
theorem dX8_become_21 : decode cX8_become 21 = .ok (.getfield 15, 3) := by decide +kernel
theorem dX8_become_24 : decode cX8_become 24 = .ok (.iconst 0, 1) := by decide +kernel
theorem dX8_become_25 : decode cX8_become 25 = .ok (.bipush 7, 2) := by decide +kernel
theorem dX8_become_27 : decode cX8_become 27 = .ok (.invokestatic 41, 3) := by decide +kernel
theorem dX8_become_30 : decode cX8_become 30 = .ok (.aload_n 1, 1) := by decide +kernel
theorem dX8_become_31 : decode cX8_become 31 = .ok (.getfield 19, 3) := by decide +kernel
theorem dX8_become_34 : decode cX8_become 34 = .ok (.iconst 0, 1) := by decide +kernel
theorem dX8_become_35 : decode cX8_become 35 = .ok (.aload_n 0, 1) := by decide +kernel
theorem dX8_become_36 : decode cX8_become 36 = .ok (.getfield 19, 3) := by decide +kernel
theorem dX8_become_39 : decode cX8_become 39 = .ok (.iconst 0, 1) := by decide +kernel
theorem dX8_become_40 : decode cX8_become 40 = .ok (.bipush 7, 2) := by decide +kernel
theorem dX8_become_42 : decode cX8_become 42 = .ok (.invokestatic 41, 3) := by decide +kernel
theorem dX8_become_45 : decode cX8_become 45 = .ok (.aload_n 1, 1) := by decide +kernel
theorem dX8_become_46 : decode cX8_become 46 = .ok (.getfield 22, 3) := by decide +kernel
theorem dX8_become_49 : decode cX8_become 49 = .ok (.iconst 0, 1) := by decide +kernel
theorem dX8_become_50 : decode cX8_become 50 = .ok (.aload_n 0, 1) := by decide +kernel
theorem dX8_become_51 : decode cX8_become 51 = .ok (.getfield 22, 3) := by decide +kernel
theorem dX8_become_54 : decode cX8_become 54 = .ok (.iconst 0, 1) := by decide +kernel
theorem dX8_become_55 : decode cX8_become 55 = .ok (.bipush 6, 2) := by decide +kernel
theorem dX8_become_57 : decode cX8_become 57 = .ok (.invokestatic 41, 3) := by decide +kernel
theorem dX8_become_60 : decode cX8_become 60 = .ok (.aload_n 1, 1) := by decide +kernel
theorem dX8_become_61 : decode cX8_become 61 = .ok (.getfield 25, 3) := by decide +kernel
theorem dX8_become_64 : decode cX8_become 64 = .ok (.iconst 0, 1) := by decide +kernel
theorem dX8_become_65 : decode cX8_become 65 = .ok (.aload_n 0, 1) := by decide +kernel
theorem dX8_become_66 : decode cX8_become 66 = .ok (.getfield 25, 3) := by decide +kernel
theorem dX8_become_69 : decode cX8_become 69 = .ok (.iconst 0, 1) := by decide +kernel
theorem dX8_become_70 : decode cX8_become 70 = .ok (.bipush 6, 2) := by decide +kernel
theorem dX8_become_72 : decode cX8_become 72 = .ok (.invokestatic 41, 3) := by decide +kernel
theorem dX8_become_75 : decode cX8_become 75 = .ok (.aload_n 0, 1) := by decide +kernel
theorem dX8_become_76 : decode cX8_become 76 = .ok (.aload_n 1, 1) := by decide +kernel
theorem dX8_become_77 : decode cX8_become 77 = .ok (.getfield 28, 3) := by decide +kernel
theorem dX8_become_80 : decode cX8_become 80 = .ok (.putfield 28, 3) := by decide +kernel
theorem dX8_become_83 : decode cX8_become 83 = .ok (.aload_n 0, 1) := by decide +kernel
theorem dX8_become_84 : decode cX8_become 84 = .ok (.aload_n 1, 1) := by decide +kernel
theorem dX8_become_85 : decode cX8_become 85 = .ok (.getfield 32, 3) := by decide +kernel
theorem dX8_become_88 : decode cX8_become 88 = .ok (.putfield 32, 3) := by decide +kernel
theorem dX8_become_91 : decode cX8_become 91 = .ok (.aload_n 0, 1) := by decide +kernel
theorem dX8_become_92 : decode cX8_become 92 = .ok (.aload_n 1, 1) := by decide +kernel
theorem dX8_become_93 : decode cX8_become 93 = .ok (.getfield 35, 3) := by decide +kernel
theorem dX8_become_96 : decode cX8_become 96 = .ok (.putfield 35, 3) := by decide +kernel
theorem dX8_become_99 : decode cX8_become 99 = .ok (.aload_n 0, 1) := by decide +kernel
theorem dX8_become_100 : decode cX8_become 100 = .ok (.aload_n 1, 1) := by decide +kernel
theorem dX8_become_101 : decode cX8_become 101 = .ok (.getfield 38, 3) := by decide +kernel
theorem dX8_become_104 : decode cX8_become 104 = .ok (.putfield 38, 3) := by decide +kernel
theorem dX8_become_107 : decode cX8_become 107 = .ok (.return_, 1) := by decide +kernel
theorem rc_m8 : Rg (-8) (-8) (-8) := ⟨by decide, by decide⟩
theorem rc_m1 : Rg (-1) (-1) (-1) := ⟨by decide, by decide⟩
theorem rc_0 : Rg 0 0 0 := ⟨by decide, by decide⟩
theorem rc_1 : Rg 1 1 1 := ⟨by decide, by decide⟩
theorem rc_24 : Rg 24 24 24 := ⟨by decide, by decide⟩
theorem rc_28 : Rg 28 28 28 := ⟨by decide, by decide⟩
theorem rc_40 : Rg 40 40 40 := ⟨by decide, by decide⟩
theorem rc_41 : Rg 41 41 41 := ⟨by decide, by decide⟩
theorem rc_48 : Rg 48 48 48 := ⟨by decide, by decide⟩
theorem rc_57 : Rg 57 57 57 := ⟨by decide, by decide⟩
theorem rc_59 : Rg 59 59 59 := ⟨by decide, by decide⟩
theorem rc_62 : Rg 62 62 62 := ⟨by decide, by decide⟩
theorem rc_97 : Rg 97 97 97 := ⟨by decide, by decide⟩
theorem rc_100 : Rg 100 100 100 := ⟨by decide, by decide⟩
theorem rc_122 : Rg 122 122 122 := ⟨by decide, by decide⟩
theorem rc_901 : Rg 901 901 901 := ⟨by decide, by decide⟩
theorem rc_920 : Rg 920 920 920 := ⟨by decide, by decide⟩
theorem rc_940 : Rg 940 940 940 := ⟨by decide, by decide⟩
set_option maxRecDepth 100000 in
set_option maxHeartbeats 8000000 in
theorem c_X10_add {l : Launch} {D : va_G} {cy : Nat → ClassId} {L : List Nat} {κ ln : Nat → Nat} {R : Nat → Nat → Option Nat} {I : Nat → Nat → Int32} {J : Nat → Nat → Int64} {ow : Nat → Nat × Nat} (W9 : ∀ a ∈ L, Shp L κ ln R ow a) {x : Nat} (hLx : x ∈ L) (hkx : κ x = 10) (a0 : Int32) (hU : Uv L κ ow I) : CtV l yX10_add cX10_add 3 none { frames := 0, cells := 0, slots := 0, locals := 0 } D cy L κ ln R I J [.ref x, .int a0] (fun I2 J2 => Uv L κ ow I2 ∧ Fq L κ ow [1005, 70000] I I2 ∧ Fq L κ ow [] J J2) := by
  refine CtV.of (by decide +kernel) (Nat.le_of_ble_eq_true rfl) ?_
  intro p e s m below meth c B K
  have C := B.1
  have hF : Fq L κ ow [1005, 70000] I I := fq_rf
  have hG : Fq L κ ow [] J J := fq_rf
  obtain ⟨b_393948, hb_393948, hb_393948L, hb_393948k, hb_393948n, hb_393948o⟩ := shp_a (W9 x hLx) hkx 0 13 940 rfl (by decide)
  refine g_lo (is := [0, 1]) (lo2 := [(0, .ref x), (1, .int a0)]) rfl ?_
  have l_3 : ∀ (n_3 : Nat) (I_393949 : Nat → Nat → Int32) (J_393950 : Nat → Nat → Int64) (hU_393951 : Uv L κ ow I_393949) (hF_393952 : Fq L κ ow [1005, 70000] I I_393949) (hG_393953 : Fq L κ ow [] J J_393950) (v_393954 : Int32) (v_393955 : Int32) (rv_393955 : Rg (-128) 24 v_393955) (hm_393956 : (v_393955 : Int32).toInt - (-128) < (n_3 : Int)), WG p l e { frames := 0, cells := 0, slots := 0, locals := 0 } s m ([.ref x, .int a0] : List Value).toArray below meth c 3 0 0 (MQ below (Qv_ D cy L κ ln R (fun I2 J2 => Uv L κ ow I2 ∧ Fq L κ ow [1005, 70000] I I2 ∧ Fq L κ ow [] J J2)) ([.ref x, .int a0] : List Value).toArray s 0 0 (Al_ L)) D cy (Al_ L) s.heap L κ ln R I_393949 J_393950 3 [(0, .ref x), (1, .int v_393954), (2, .int v_393955)] [] := by
    intro n_3
    induction n_3 with
    | zero =>
      intro I_393949 J_393950 hU_393951 hF_393952 hG_393953 v_393954 v_393955 rv_393955 hm_393956
      exact md_0 rv_393955 hm_393956
    | succ n_3 ih_3 =>
      intro I_393949 J_393950 hU_393951 hF_393952 hG_393953 v_393954 v_393955 rv_393955 hm_393956
      refine g_iload_n C 2 dX10_add_3 rfl rfl ?_
      refine g_if_lt C (tgt := 48) dX10_add_4 (by decide) (fun h_393957 => ?_) (fun h_393957 => ?_)
      · skip
        have r_393958 := lt_l (hi := (-1)) (h_393957) rv_393955 rc_0 (by decide)
        exact g_vret B K rfl ⟨hU_393951, hF_393952, hG_393953⟩ dX10_add_48
      · skip
        have r_393959 := le_r (nlt h_393957) rc_0 rv_393955
        refine g_aload_n C 0 dX10_add_7 rfl rfl ?_
        obtain ⟨x_393960, hx_393960, rx_393960⟩ := ex_get (I := I_393949) (a := x) (j := 5) (lo := 0) (hi := 940) hU_393951 hLx (ro_o hkx (by decide)) rfl
        refine g_getI C K hLx hkx f_10_29 (v := x_393960) hx_393960 dX10_add_8 ?_
        refine g_aload_n C 0 dX10_add_11 rfl rfl ?_
        refine g_getR C K hLx hkx f_10_9 hb_393948 dX10_add_12 ?_
        refine g_alenB C K hb_393948L hb_393948k (v := 940) (by rw [hb_393948n]; rfl) dX10_add_15 ?_
        refine g_icmp_ge C (tgt := 48) dX10_add_16 (by decide) (fun h_393961 => ?_) (fun h_393961 => ?_)
        · skip
          have r_393962 := le_r (h_393961) rc_940 rx_393960
          exact g_vret B K rfl ⟨hU_393951, hF_393952, hG_393953⟩ dX10_add_48
        · skip
          have r_393963 := lt_l (hi := 939) (nle h_393961) rx_393960 rc_940 (by decide)
          refine g_aload_n C 0 dX10_add_19 rfl rfl ?_
          refine g_getR C K hLx hkx f_10_9 hb_393948 dX10_add_20 ?_
          refine g_aload_n C 0 dX10_add_23 rfl rfl ?_
          refine g_getI C K hLx hkx f_10_29 (v := x_393960) hx_393960 dX10_add_24 ?_
          refine g_iload_n C 1 dX10_add_27 rfl rfl ?_
          refine g_iload_n C 2 dX10_add_28 rfl rfl ?_
          obtain ⟨x_393964, hx_393964, rx_393964⟩ := ex_any (z0 := v_393954 >>> (v_393955 &&& 31))
          refine g_ishr C (v := x_393964) dX10_add_29 hx_393964 ?_
          obtain ⟨x_393965, hx_393965, rx_393965⟩ := ex_b2 (x := x_393964)
          refine g_i2b C (v := x_393965) dX10_add_30 hx_393965 ?_
          refine h_bast C K hb_393948L hb_393948k (x_393960.toNatClampNeg) (rfl) (ix_0 r_393963 (by decide)) (ix_lt r_393963 (by decide) hb_393948n (by decide)) dX10_add_31 (fun I_393966 hI_393966 => ?_)
          have hU_393967 := uv_put hU_393951 hI_393966 (ro_a hb_393948k (by decide) hb_393948o hkx rfl) (lo := (-128)) (hi := 127) (rfl) (nar_b _)
          have hF_393968 := fq_puta hF_393952 hI_393966 (ro_a hb_393948k (by decide) hb_393948o hkx rfl) (by decide) (by decide)
          refine g_aload_n C 0 dX10_add_32 rfl rfl ?_
          refine g_dup C dX10_add_33 rfl ?_
          refine g_getI C K hLx hkx f_10_29 (v := x_393960) (kp_k (κ := κ) hI_393966 (by rw [hkx, hb_393948k]; decide) hx_393960) dX10_add_34 ?_
          refine g_iconst C (v := 1) dX10_add_37 (by decide) ?_
          obtain ⟨x_393969, hx_393969, rx_393969, tx_393969⟩ := ex_add 1 940 r_393963 rc_1 (by decide) (by decide) (by decide) (by decide)
          refine g_iadd C (v := x_393969) dX10_add_38 hx_393969 ?_
          refine h_putI C K hLx hkx f_10_29 p_10_5 dX10_add_39 (fun I_393970 hI_393970 => ?_)
          have hU_393971 := uv_put hU_393967 hI_393970 (ro_o hkx (by decide)) (lo := 0) (hi := 940) rfl (rg_w rx_393969 (by decide) (by decide))
          have hF_393972 := fq_puto hF_393968 hI_393970 hkx (by decide) (by decide)
          obtain ⟨x_393973, hx_393973, rx_393973, tx_393973⟩ := ex_add (y := (-8)) (-8) 16 r_393959 rc_m8 (by decide) (by decide) (by decide) (by decide)
          refine g_iinc C dX10_add_42 (k := 2) (v := x_393973) rfl hx_393973 (by decide) (lo2 := [(2, .int x_393973), (0, .ref x), (1, .int v_393954)]) rfl ?_
          refine g_goto C (tgt := 3) dX10_add_45 (by decide) ?_
          refine g_lo (is := [1, 2, 0]) (lo2 := [(0, .ref x), (1, .int v_393954), (2, .int x_393973)]) rfl ?_
          exact ih_3 I_393970 J_393950 hU_393971 hF_393972 hG_393953 v_393954 x_393973 (rg_w rx_393973 (by decide) (by decide)) (md_1 hm_393956 (ti_k tx_393973 rc_m8) (by decide))
  refine g_bipush C (v := 24) dX10_add_0 (by decide) ?_
  refine g_istore_n C dX10_add_2 rfl (by decide) (lo2 := [(2, .int 24), (0, .ref x), (1, .int a0)]) rfl ?_
  refine g_lo (is := [1, 2, 0]) (lo2 := [(0, .ref x), (1, .int a0), (2, .int 24)]) rfl ?_
  exact l_3 153 I J hU hF hG a0 24 (rg_w rc_24 (by decide) (by decide)) (md_s (a := (-128)) (b := 24) (N := 153) (rg_w rc_24 (by decide) (by decide)) (by decide))
set_option maxRecDepth 100000 in
set_option maxHeartbeats 8000000 in
theorem c_X11_feed {l : Launch} {D : va_G} {cy : Nat → ClassId} {L : List Nat} {κ ln : Nat → Nat} {R : Nat → Nat → Option Nat} {I : Nat → Nat → Int32} {J : Nat → Nat → Int64} {ow : Nat → Nat × Nat} (W9 : ∀ a ∈ L, Shp L κ ln R ow a) {x : Nat} (hLx : x ∈ L) (hkx : κ x = 11) (a0 : Int32) (a1 : Int32) (a2 : Int32) (a3 : Int32) (a4 : Int32) (hU : Uv L κ ow I) : CtI l yX11_feed cX11_feed 6 (some .int) { frames := 1, cells := 0, slots := 0, locals := 22 } D cy L κ ln R I J [.ref x, .int a0, .int a1, .int a2, .int a3, .int a4] (fun r I2 J2 => Uv L κ ow I2 ∧ Fq L κ ow [1005, 70000] I I2 ∧ Fq L κ ow [] J J2 ∧ Rg (-1) 940 r) := by
  refine CtI.of (by decide +kernel) (Nat.le_of_ble_eq_true rfl) ?_
  intro p e s m below meth c B K
  have C := B.1
  have hF : Fq L κ ow [1005, 70000] I I := fq_rf
  have hG : Fq L κ ow [] J J := fq_rf
  obtain ⟨b_394046, hb_394046, hb_394046L, hb_394046k⟩ := shp_o (W9 x hLx) hkx 0 10 rfl (by decide)
  refine g_lo (is := [0, 1, 2, 3, 4, 5]) (lo2 := [(0, .ref x), (1, .int a0), (2, .int a1), (3, .int a2), (4, .int a3), (5, .int a4)]) rfl ?_
  refine g_aload_n C 0 dX11_feed_0 rfl rfl ?_
  refine g_getR C K hLx hkx f_11_10 hb_394046 dX11_feed_1 ?_
  obtain ⟨x_394047, hx_394047, rx_394047⟩ := ex_get (I := I) (a := b_394046) (j := 5) (lo := 0) (hi := 940) hU hb_394046L (ro_o hb_394046k (by decide)) rfl
  refine g_getI C K hb_394046L hb_394046k f_11_102 (v := x_394047) hx_394047 dX11_feed_4 ?_
  refine g_sipush C (v := 920) dX11_feed_7 (by decide) ?_
  refine g_icmp_le C (tgt := 15) dX11_feed_10 (by decide) (fun h_394048 => ?_) (fun h_394048 => ?_)
  · skip
    have r_394049 := le_l (h_394048) rx_394047 rc_920
    refine g_aload_n C 0 dX11_feed_15 rfl rfl ?_
    refine g_getR C K hLx hkx f_11_10 hb_394046 dX11_feed_16 ?_
    refine g_iload_n C 1 dX11_feed_19 rfl rfl ?_
    refine g_callVV C K (c_X10_add W9 hb_394046L hb_394046k a0  hU) hb_394046L hb_394046k (by decide) rfl v_11_105 rfl ⟨rfl, rfl⟩ ⟨Nat.le_of_ble_eq_true rfl, Nat.le_of_ble_eq_true rfl⟩ (Nat.le_of_ble_eq_true rfl) ⟨Nat.le_of_ble_eq_true rfl, Nat.le_of_ble_eq_true rfl⟩ dX11_feed_20 rfl (st := []) (fun I_394051 J_394052 h_394053 => ?_)
    obtain ⟨hUI_394051, hFI_394051, hGJ_394052⟩ := h_394053
    have hF_394054 := fq_tr hF hFI_394051 (by decide)
    have hG_394055 := fq_tr hG hGJ_394052 (by decide)
    refine g_aload_n C 0 dX11_feed_23 rfl rfl ?_
    refine g_getR C K hLx hkx f_11_10 hb_394046 dX11_feed_24 ?_
    refine g_iload_n C 2 dX11_feed_27 rfl rfl ?_
    refine g_callVV C K (c_X10_add W9 hb_394046L hb_394046k a1  hUI_394051) hb_394046L hb_394046k (by decide) rfl v_11_105 rfl ⟨rfl, rfl⟩ ⟨Nat.le_of_ble_eq_true rfl, Nat.le_of_ble_eq_true rfl⟩ (Nat.le_of_ble_eq_true rfl) ⟨Nat.le_of_ble_eq_true rfl, Nat.le_of_ble_eq_true rfl⟩ dX11_feed_28 rfl (st := []) (fun I_394057 J_394058 h_394059 => ?_)
    obtain ⟨hUI_394057, hFI_394057, hGJ_394058⟩ := h_394059
    have hF_394060 := fq_tr hF_394054 hFI_394057 (by decide)
    have hG_394061 := fq_tr hG_394055 hGJ_394058 (by decide)
    refine g_aload_n C 0 dX11_feed_31 rfl rfl ?_
    refine g_getR C K hLx hkx f_11_10 hb_394046 dX11_feed_32 ?_
    refine g_iload_n C 3 dX11_feed_35 rfl rfl ?_
    refine g_callVV C K (c_X10_add W9 hb_394046L hb_394046k a2  hUI_394057) hb_394046L hb_394046k (by decide) rfl v_11_105 rfl ⟨rfl, rfl⟩ ⟨Nat.le_of_ble_eq_true rfl, Nat.le_of_ble_eq_true rfl⟩ (Nat.le_of_ble_eq_true rfl) ⟨Nat.le_of_ble_eq_true rfl, Nat.le_of_ble_eq_true rfl⟩ dX11_feed_36 rfl (st := []) (fun I_394063 J_394064 h_394065 => ?_)
    obtain ⟨hUI_394063, hFI_394063, hGJ_394064⟩ := h_394065
    have hF_394066 := fq_tr hF_394060 hFI_394063 (by decide)
    have hG_394067 := fq_tr hG_394061 hGJ_394064 (by decide)
    refine g_aload_n C 0 dX11_feed_39 rfl rfl ?_
    refine g_getR C K hLx hkx f_11_10 hb_394046 dX11_feed_40 ?_
    refine g_iload C 4 dX11_feed_43 rfl ?_
    refine g_callVV C K (c_X10_add W9 hb_394046L hb_394046k a3  hUI_394063) hb_394046L hb_394046k (by decide) rfl v_11_105 rfl ⟨rfl, rfl⟩ ⟨Nat.le_of_ble_eq_true rfl, Nat.le_of_ble_eq_true rfl⟩ (Nat.le_of_ble_eq_true rfl) ⟨Nat.le_of_ble_eq_true rfl, Nat.le_of_ble_eq_true rfl⟩ dX11_feed_45 rfl (st := []) (fun I_394069 J_394070 h_394071 => ?_)
    obtain ⟨hUI_394069, hFI_394069, hGJ_394070⟩ := h_394071
    have hF_394072 := fq_tr hF_394066 hFI_394069 (by decide)
    have hG_394073 := fq_tr hG_394067 hGJ_394070 (by decide)
    refine g_aload_n C 0 dX11_feed_48 rfl rfl ?_
    refine g_getR C K hLx hkx f_11_10 hb_394046 dX11_feed_49 ?_
    refine g_iload C 5 dX11_feed_52 rfl ?_
    refine g_callVV C K (c_X10_add W9 hb_394046L hb_394046k a4  hUI_394069) hb_394046L hb_394046k (by decide) rfl v_11_105 rfl ⟨rfl, rfl⟩ ⟨Nat.le_of_ble_eq_true rfl, Nat.le_of_ble_eq_true rfl⟩ (Nat.le_of_ble_eq_true rfl) ⟨Nat.le_of_ble_eq_true rfl, Nat.le_of_ble_eq_true rfl⟩ dX11_feed_54 rfl (st := []) (fun I_394075 J_394076 h_394077 => ?_)
    obtain ⟨hUI_394075, hFI_394075, hGJ_394076⟩ := h_394077
    have hF_394078 := fq_tr hF_394072 hFI_394075 (by decide)
    have hG_394079 := fq_tr hG_394073 hGJ_394076 (by decide)
    refine g_aload_n C 0 dX11_feed_57 rfl rfl ?_
    refine g_getR C K hLx hkx f_11_10 hb_394046 dX11_feed_58 ?_
    obtain ⟨x_394080, hx_394080, rx_394080⟩ := ex_get (I := I_394075) (a := b_394046) (j := 5) (lo := 0) (hi := 940) hUI_394075 hb_394046L (ro_o hb_394046k (by decide)) rfl
    refine g_getI C K hb_394046L hb_394046k f_11_102 (v := x_394080) hx_394080 dX11_feed_61 ?_
    exact g_zret (ty := .int) (r := x_394080) B K rfl (rfl) ⟨hUI_394075, hF_394078, hG_394079, rg_w rx_394080 (by decide) (by decide)⟩ dX11_feed_64
  · skip
    have r_394081 := lt_r (lo := 921) (nle h_394048) rc_920 rx_394047 (by decide)
    refine g_iconst C (v := (-1)) dX11_feed_13 (by decide) ?_
    exact g_zret (ty := .int) (r := (-1)) B K rfl (rfl) ⟨hU, hF, hG, rg_w rc_m1 (by decide) (by decide)⟩ dX11_feed_14
set_option maxRecDepth 100000 in
set_option maxHeartbeats 8000000 in
theorem c_X11_end {l : Launch} {D : va_G} {cy : Nat → ClassId} {L : List Nat} {κ ln : Nat → Nat} {R : Nat → Nat → Option Nat} {I : Nat → Nat → Int32} {J : Nat → Nat → Int64} {ow : Nat → Nat × Nat} (W9 : ∀ a ∈ L, Shp L κ ln R ow a) {x : Nat} (hLx : x ∈ L) (hkx : κ x = 11) (a0 : Int32) (hU : Uv L κ ow I) : CtI l yX11_end cX11_end 2 (some .boolean) { frames := 0, cells := 0, slots := 0, locals := 0 } D cy L κ ln R I J [.ref x, .int a0] (fun r I2 J2 => Uv L κ ow I2 ∧ Fq L κ ow [1005] I I2 ∧ Fq L κ ow [] J J2 ∧ Rg 0 1 r) := by
  refine CtI.of (by decide +kernel) (Nat.le_of_ble_eq_true rfl) ?_
  intro p e s m below meth c B K
  have C := B.1
  have hF : Fq L κ ow [1005] I I := fq_rf
  have hG : Fq L κ ow [] J J := fq_rf
  obtain ⟨b_394104, hb_394104, hb_394104L, hb_394104k⟩ := shp_o (W9 x hLx) hkx 0 10 rfl (by decide)
  refine g_lo (is := [0, 1]) (lo2 := [(0, .ref x), (1, .int a0)]) rfl ?_
  refine g_iload_n C 1 dX11_end_0 rfl rfl ?_
  refine g_if_lt C (tgt := 15) dX11_end_1 (by decide) (fun h_394105 => ?_) (fun h_394105 => ?_)
  · skip
    have r_394106 := lt_l (hi := (-1)) (h_394105) (rg_all a0) rc_0 (by decide)
    refine g_iconst C (v := 0) dX11_end_15 (by decide) ?_
    exact g_zret (ty := .boolean) (r := 0) B K rfl (rfl) ⟨hU, hF, hG, rg_w rc_0 (by decide) (by decide)⟩ dX11_end_16
  · skip
    have r_394107 := le_r (nlt h_394105) rc_0 (rg_all a0)
    refine g_iload_n C 1 dX11_end_4 rfl rfl ?_
    refine g_aload_n C 0 dX11_end_5 rfl rfl ?_
    refine g_getR C K hLx hkx f_11_10 hb_394104 dX11_end_6 ?_
    obtain ⟨x_394108, hx_394108, rx_394108⟩ := ex_get (I := I) (a := b_394104) (j := 5) (lo := 0) (hi := 940) hU hb_394104L (ro_o hb_394104k (by decide)) rfl
    refine g_getI C K hb_394104L hb_394104k f_11_102 (v := x_394108) hx_394108 dX11_end_9 ?_
    refine g_icmp_le C (tgt := 17) dX11_end_12 (by decide) (fun h_394109 => ?_) (fun h_394109 => ?_)
    · skip
      have r_394110 := le_l (h_394109) r_394107 rx_394108
      refine g_aload_n C 0 dX11_end_17 rfl rfl ?_
      refine g_getR C K hLx hkx f_11_10 hb_394104 dX11_end_18 ?_
      refine g_iload_n C 1 dX11_end_21 rfl rfl ?_
      refine h_putI C K hb_394104L hb_394104k f_11_102 p_10_5 dX11_end_22 (fun I_394111 hI_394111 => ?_)
      have hU_394112 := uv_put hU hI_394111 (ro_o hb_394104k (by decide)) (lo := 0) (hi := 940) rfl (r_394110)
      have hF_394113 := fq_puto hF hI_394111 hb_394104k (by decide) (by decide)
      refine g_iconst C (v := 1) dX11_end_25 (by decide) ?_
      exact g_zret (ty := .boolean) (r := 1) B K rfl (rfl) ⟨hU_394112, hF_394113, hG, rg_w rc_1 (by decide) (by decide)⟩ dX11_end_26
    · skip
      have r_394114 := lt_r (lo := 1) (nle h_394109) rx_394108 r_394107 (by decide)
      refine g_iconst C (v := 0) dX11_end_15 (by decide) ?_
      exact g_zret (ty := .boolean) (r := 0) B K rfl (rfl) ⟨hU, hF, hG, rg_w rc_0 (by decide) (by decide)⟩ dX11_end_16
set_option maxRecDepth 100000 in
set_option maxHeartbeats 8000000 in
theorem c_X1_become {l : Launch} {D : va_G} {cy : Nat → ClassId} {L : List Nat} {κ ln : Nat → Nat} {R : Nat → Nat → Option Nat} {I : Nat → Nat → Int32} {J : Nat → Nat → Int64} {ow : Nat → Nat × Nat} (W9 : ∀ a ∈ L, Shp L κ ln R ow a) {x : Nat} (hLx : x ∈ L) (hkx : κ x = 1) {a0 : Nat} (hLa0 : a0 ∈ L) (hka0 : κ a0 = 1) (hU : Uv L κ ow I) : CtV l yX1_become cX1_become 2 none { frames := 1, cells := 0, slots := 0, locals := 60 } D cy L κ ln R I J [.ref x, .ref a0] (fun I2 J2 => Uv L κ ow I2 ∧ Fq L κ ow [107, 108, 109, 110, 111, 112, 16100, 16200, 16300, 16400, 16500, 16600] I I2 ∧ Fq L κ ow [] J J2) := by
  refine CtV.of (by decide +kernel) (Nat.le_of_ble_eq_true rfl) ?_
  intro p e s m below meth c B K
  have C := B.1
  have hF : Fq L κ ow [107, 108, 109, 110, 111, 112, 16100, 16200, 16300, 16400, 16500, 16600] I I := fq_rf
  have hG : Fq L κ ow [] J J := fq_rf
  obtain ⟨b_394223, hb_394223, hb_394223L, hb_394223k, hb_394223n, hb_394223o⟩ := shp_a (W9 a0 hLa0) hka0 3 14 7 rfl (by decide)
  obtain ⟨b_394224, hb_394224, hb_394224L, hb_394224k, hb_394224n, hb_394224o⟩ := shp_a (W9 x hLx) hkx 5 14 7 rfl (by decide)
  obtain ⟨b_394225, hb_394225, hb_394225L, hb_394225k, hb_394225n, hb_394225o⟩ := shp_a (W9 a0 hLa0) hka0 4 14 7 rfl (by decide)
  obtain ⟨b_394226, hb_394226, hb_394226L, hb_394226k, hb_394226n, hb_394226o⟩ := shp_a (W9 a0 hLa0) hka0 5 14 7 rfl (by decide)
  obtain ⟨b_394227, hb_394227, hb_394227L, hb_394227k, hb_394227n, hb_394227o⟩ := shp_a (W9 a0 hLa0) hka0 2 14 42 rfl (by decide)
  obtain ⟨b_394228, hb_394228, hb_394228L, hb_394228k, hb_394228n, hb_394228o⟩ := shp_a (W9 x hLx) hkx 1 14 6 rfl (by decide)
  obtain ⟨b_394229, hb_394229, hb_394229L, hb_394229k, hb_394229n, hb_394229o⟩ := shp_a (W9 a0 hLa0) hka0 6 14 7 rfl (by decide)
  obtain ⟨b_394230, hb_394230, hb_394230L, hb_394230k, hb_394230n, hb_394230o⟩ := shp_a (W9 x hLx) hkx 4 14 7 rfl (by decide)
  obtain ⟨b_394231, hb_394231, hb_394231L, hb_394231k, hb_394231n, hb_394231o⟩ := shp_a (W9 x hLx) hkx 2 14 42 rfl (by decide)
  obtain ⟨b_394232, hb_394232, hb_394232L, hb_394232k, hb_394232n, hb_394232o⟩ := shp_a (W9 x hLx) hkx 3 14 7 rfl (by decide)
  obtain ⟨b_394233, hb_394233, hb_394233L, hb_394233k, hb_394233n, hb_394233o⟩ := shp_a (W9 x hLx) hkx 6 14 7 rfl (by decide)
  obtain ⟨b_394234, hb_394234, hb_394234L, hb_394234k, hb_394234n, hb_394234o⟩ := shp_a (W9 a0 hLa0) hka0 1 14 6 rfl (by decide)
  refine g_lo (is := [0, 1]) (lo2 := [(0, .ref x), (1, .ref a0)]) rfl ?_
  refine g_aload_n C 1 dX1_become_0 rfl rfl ?_
  refine g_getR C K hLa0 hka0 f_1_9 hb_394234 dX1_become_1 ?_
  refine g_iconst C (v := 0) dX1_become_4 (by decide) ?_
  refine g_aload_n C 0 dX1_become_5 rfl rfl ?_
  refine g_getR C K hLx hkx f_1_9 hb_394228 dX1_become_6 ?_
  refine g_iconst C (v := 0) dX1_become_9 (by decide) ?_
  refine g_bipush C (v := 6) dX1_become_10 (by decide) ?_
  refine h_copyI C K hb_394228L hb_394228k hb_394234L hb_394234k ac_1_56 6 (by decide) (by decide) (by rw [hb_394234n]; decide) (by rw [hb_394228n]; decide) w_cp (Nat.le_of_ble_eq_true rfl) (Nat.le_of_ble_eq_true rfl) dX1_become_12 (fun I_394235 hI_394235 => ?_)
  have hU_394236 := uv_cp hU hb_394234L hI_394235 (ro_a hb_394228k (by decide) hb_394228o hkx rfl) (ro_a hb_394234k (by decide) hb_394234o hka0 rfl)
  have hF_394237 := fq_cp hF hI_394235 (ro_a hb_394228k (by decide) hb_394228o hkx rfl) (by decide) (by decide)
  refine g_aload_n C 1 dX1_become_15 rfl rfl ?_
  refine g_getR C K hLa0 hka0 f_1_15 hb_394227 dX1_become_16 ?_
  refine g_iconst C (v := 0) dX1_become_19 (by decide) ?_
  refine g_aload_n C 0 dX1_become_20 rfl rfl ?_
  refine g_getR C K hLx hkx f_1_15 hb_394231 dX1_become_21 ?_
  refine g_iconst C (v := 0) dX1_become_24 (by decide) ?_
  refine g_bipush C (v := 42) dX1_become_25 (by decide) ?_
  refine h_copyI C K hb_394231L hb_394231k hb_394227L hb_394227k ac_1_56 42 (by decide) (by decide) (by rw [hb_394227n]; decide) (by rw [hb_394231n]; decide) w_cp (Nat.le_of_ble_eq_true rfl) (Nat.le_of_ble_eq_true rfl) dX1_become_27 (fun I_394238 hI_394238 => ?_)
  have hU_394239 := uv_cp hU_394236 hb_394227L hI_394238 (ro_a hb_394231k (by decide) hb_394231o hkx rfl) (ro_a hb_394227k (by decide) hb_394227o hka0 rfl)
  have hF_394240 := fq_cp hF_394237 hI_394238 (ro_a hb_394231k (by decide) hb_394231o hkx rfl) (by decide) (by decide)
  refine g_aload_n C 1 dX1_become_30 rfl rfl ?_
  refine g_getR C K hLa0 hka0 f_1_18 hb_394223 dX1_become_31 ?_
  refine g_iconst C (v := 0) dX1_become_34 (by decide) ?_
  refine g_aload_n C 0 dX1_become_35 rfl rfl ?_
  refine g_getR C K hLx hkx f_1_18 hb_394232 dX1_become_36 ?_
  refine g_iconst C (v := 0) dX1_become_39 (by decide) ?_
  refine g_bipush C (v := 7) dX1_become_40 (by decide) ?_
  refine h_copyI C K hb_394232L hb_394232k hb_394223L hb_394223k ac_1_56 7 (by decide) (by decide) (by rw [hb_394223n]; decide) (by rw [hb_394232n]; decide) w_cp (Nat.le_of_ble_eq_true rfl) (Nat.le_of_ble_eq_true rfl) dX1_become_42 (fun I_394241 hI_394241 => ?_)
  have hU_394242 := uv_cp hU_394239 hb_394223L hI_394241 (ro_a hb_394232k (by decide) hb_394232o hkx rfl) (ro_a hb_394223k (by decide) hb_394223o hka0 rfl)
  have hF_394243 := fq_cp hF_394240 hI_394241 (ro_a hb_394232k (by decide) hb_394232o hkx rfl) (by decide) (by decide)
  refine g_aload_n C 1 dX1_become_45 rfl rfl ?_
  refine g_getR C K hLa0 hka0 f_1_21 hb_394225 dX1_become_46 ?_
  refine g_iconst C (v := 0) dX1_become_49 (by decide) ?_
  refine g_aload_n C 0 dX1_become_50 rfl rfl ?_
  refine g_getR C K hLx hkx f_1_21 hb_394230 dX1_become_51 ?_
  refine g_iconst C (v := 0) dX1_become_54 (by decide) ?_
  refine g_bipush C (v := 7) dX1_become_55 (by decide) ?_
  refine h_copyI C K hb_394230L hb_394230k hb_394225L hb_394225k ac_1_56 7 (by decide) (by decide) (by rw [hb_394225n]; decide) (by rw [hb_394230n]; decide) w_cp (Nat.le_of_ble_eq_true rfl) (Nat.le_of_ble_eq_true rfl) dX1_become_57 (fun I_394244 hI_394244 => ?_)
  have hU_394245 := uv_cp hU_394242 hb_394225L hI_394244 (ro_a hb_394230k (by decide) hb_394230o hkx rfl) (ro_a hb_394225k (by decide) hb_394225o hka0 rfl)
  have hF_394246 := fq_cp hF_394243 hI_394244 (ro_a hb_394230k (by decide) hb_394230o hkx rfl) (by decide) (by decide)
  refine g_aload_n C 1 dX1_become_60 rfl rfl ?_
  refine g_getR C K hLa0 hka0 f_1_24 hb_394226 dX1_become_61 ?_
  refine g_iconst C (v := 0) dX1_become_64 (by decide) ?_
  refine g_aload_n C 0 dX1_become_65 rfl rfl ?_
  refine g_getR C K hLx hkx f_1_24 hb_394224 dX1_become_66 ?_
  refine g_iconst C (v := 0) dX1_become_69 (by decide) ?_
  refine g_bipush C (v := 7) dX1_become_70 (by decide) ?_
  refine h_copyI C K hb_394224L hb_394224k hb_394226L hb_394226k ac_1_56 7 (by decide) (by decide) (by rw [hb_394226n]; decide) (by rw [hb_394224n]; decide) w_cp (Nat.le_of_ble_eq_true rfl) (Nat.le_of_ble_eq_true rfl) dX1_become_72 (fun I_394247 hI_394247 => ?_)
  have hU_394248 := uv_cp hU_394245 hb_394226L hI_394247 (ro_a hb_394224k (by decide) hb_394224o hkx rfl) (ro_a hb_394226k (by decide) hb_394226o hka0 rfl)
  have hF_394249 := fq_cp hF_394246 hI_394247 (ro_a hb_394224k (by decide) hb_394224o hkx rfl) (by decide) (by decide)
  refine g_aload_n C 1 dX1_become_75 rfl rfl ?_
  refine g_getR C K hLa0 hka0 f_1_27 hb_394229 dX1_become_76 ?_
  refine g_iconst C (v := 0) dX1_become_79 (by decide) ?_
  refine g_aload_n C 0 dX1_become_80 rfl rfl ?_
  refine g_getR C K hLx hkx f_1_27 hb_394233 dX1_become_81 ?_
  refine g_iconst C (v := 0) dX1_become_84 (by decide) ?_
  refine g_bipush C (v := 7) dX1_become_85 (by decide) ?_
  refine h_copyI C K hb_394233L hb_394233k hb_394229L hb_394229k ac_1_56 7 (by decide) (by decide) (by rw [hb_394229n]; decide) (by rw [hb_394233n]; decide) w_cp (Nat.le_of_ble_eq_true rfl) (Nat.le_of_ble_eq_true rfl) dX1_become_87 (fun I_394250 hI_394250 => ?_)
  have hU_394251 := uv_cp hU_394248 hb_394229L hI_394250 (ro_a hb_394233k (by decide) hb_394233o hkx rfl) (ro_a hb_394229k (by decide) hb_394229o hka0 rfl)
  have hF_394252 := fq_cp hF_394249 hI_394250 (ro_a hb_394233k (by decide) hb_394233o hkx rfl) (by decide) (by decide)
  refine g_aload_n C 0 dX1_become_90 rfl rfl ?_
  refine g_aload_n C 1 dX1_become_91 rfl rfl ?_
  obtain ⟨x_394253, hx_394253, rx_394253⟩ := ex_get (I := I_394250) (a := a0) (j := 7) (lo := (-2147483648)) (hi := 2147483647) hU_394251 hLa0 (ro_o hka0 (by decide)) rfl
  refine g_getI C K hLa0 hka0 f_1_30 (v := x_394253) hx_394253 dX1_become_92 ?_
  refine h_putI C K hLx hkx f_1_30 p_1_7 dX1_become_95 (fun I_394254 hI_394254 => ?_)
  have hU_394255 := uv_put hU_394251 hI_394254 (ro_o hkx (by decide)) (lo := (-2147483648)) (hi := 2147483647) rfl (rx_394253)
  have hF_394256 := fq_puto hF_394252 hI_394254 hkx (by decide) (by decide)
  refine g_aload_n C 0 dX1_become_98 rfl rfl ?_
  refine g_aload_n C 1 dX1_become_99 rfl rfl ?_
  obtain ⟨x_394257, hx_394257, rx_394257⟩ := ex_get (I := I_394254) (a := a0) (j := 8) (lo := (-2147483648)) (hi := 2147483647) hU_394255 hLa0 (ro_o hka0 (by decide)) rfl
  refine g_getI C K hLa0 hka0 f_1_34 (v := x_394257) hx_394257 dX1_become_100 ?_
  refine h_putI C K hLx hkx f_1_34 p_1_8 dX1_become_103 (fun I_394258 hI_394258 => ?_)
  have hU_394259 := uv_put hU_394255 hI_394258 (ro_o hkx (by decide)) (lo := (-2147483648)) (hi := 2147483647) rfl (rx_394257)
  have hF_394260 := fq_puto hF_394256 hI_394258 hkx (by decide) (by decide)
  refine g_aload_n C 0 dX1_become_106 rfl rfl ?_
  refine g_aload_n C 1 dX1_become_107 rfl rfl ?_
  obtain ⟨x_394261, hx_394261, rx_394261⟩ := ex_get (I := I_394258) (a := a0) (j := 9) (lo := (-2147483648)) (hi := 2147483647) hU_394259 hLa0 (ro_o hka0 (by decide)) rfl
  refine g_getI C K hLa0 hka0 f_1_37 (v := x_394261) hx_394261 dX1_become_108 ?_
  refine h_putI C K hLx hkx f_1_37 p_1_9 dX1_become_111 (fun I_394262 hI_394262 => ?_)
  have hU_394263 := uv_put hU_394259 hI_394262 (ro_o hkx (by decide)) (lo := (-2147483648)) (hi := 2147483647) rfl (rx_394261)
  have hF_394264 := fq_puto hF_394260 hI_394262 hkx (by decide) (by decide)
  refine g_aload_n C 0 dX1_become_114 rfl rfl ?_
  refine g_aload_n C 1 dX1_become_115 rfl rfl ?_
  obtain ⟨x_394265, hx_394265, rx_394265⟩ := ex_get (I := I_394262) (a := a0) (j := 10) (lo := (-2147483648)) (hi := 2147483647) hU_394263 hLa0 (ro_o hka0 (by decide)) rfl
  refine g_getI C K hLa0 hka0 f_1_40 (v := x_394265) hx_394265 dX1_become_116 ?_
  refine h_putI C K hLx hkx f_1_40 p_1_10 dX1_become_119 (fun I_394266 hI_394266 => ?_)
  have hU_394267 := uv_put hU_394263 hI_394266 (ro_o hkx (by decide)) (lo := (-2147483648)) (hi := 2147483647) rfl (rx_394265)
  have hF_394268 := fq_puto hF_394264 hI_394266 hkx (by decide) (by decide)
  refine g_aload_n C 0 dX1_become_122 rfl rfl ?_
  refine g_aload_n C 1 dX1_become_123 rfl rfl ?_
  obtain ⟨x_394269, hx_394269, rx_394269⟩ := ex_get (I := I_394266) (a := a0) (j := 11) (lo := (-2147483648)) (hi := 2147483647) hU_394267 hLa0 (ro_o hka0 (by decide)) rfl
  refine g_getI C K hLa0 hka0 f_1_43 (v := x_394269) hx_394269 dX1_become_124 ?_
  refine h_putI C K hLx hkx f_1_43 p_1_11 dX1_become_127 (fun I_394270 hI_394270 => ?_)
  have hU_394271 := uv_put hU_394267 hI_394270 (ro_o hkx (by decide)) (lo := (-2147483648)) (hi := 2147483647) rfl (rx_394269)
  have hF_394272 := fq_puto hF_394268 hI_394270 hkx (by decide) (by decide)
  refine g_aload_n C 0 dX1_become_130 rfl rfl ?_
  refine g_aload_n C 1 dX1_become_131 rfl rfl ?_
  obtain ⟨x_394273, hx_394273, rx_394273⟩ := ex_get (I := I_394270) (a := a0) (j := 12) (lo := (-2147483648)) (hi := 2147483647) hU_394271 hLa0 (ro_o hka0 (by decide)) rfl
  refine g_getI C K hLa0 hka0 f_1_46 (v := x_394273) hx_394273 dX1_become_132 ?_
  refine h_putI C K hLx hkx f_1_46 p_1_12 dX1_become_135 (fun I_394274 hI_394274 => ?_)
  have hU_394275 := uv_put hU_394271 hI_394274 (ro_o hkx (by decide)) (lo := (-2147483648)) (hi := 2147483647) rfl (rx_394273)
  have hF_394276 := fq_puto hF_394272 hI_394274 hkx (by decide) (by decide)
  exact g_vret B K rfl ⟨hU_394275, hF_394276, hG⟩ dX1_become_138
set_option maxRecDepth 100000 in
set_option maxHeartbeats 8000000 in
theorem c_X5_forget {l : Launch} {D : va_G} {cy : Nat → ClassId} {L : List Nat} {κ ln : Nat → Nat} {R : Nat → Nat → Option Nat} {I : Nat → Nat → Int32} {J : Nat → Nat → Int64} {ow : Nat → Nat × Nat} (W9 : ∀ a ∈ L, Shp L κ ln R ow a) {x : Nat} (hLx : x ∈ L) (hkx : κ x = 5) (hU : Uv L κ ow I) : CtV l yX5_forget cX5_forget 1 none { frames := 0, cells := 0, slots := 0, locals := 0 } D cy L κ ln R I J [.ref x] (fun I2 J2 => Uv L κ ow I2 ∧ Fq L κ ow [501] I I2 ∧ Fq L κ ow [] J J2) := by
  refine CtV.of (by decide +kernel) (Nat.le_of_ble_eq_true rfl) ?_
  intro p e s m below meth c B K
  have C := B.1
  have hF : Fq L κ ow [501] I I := fq_rf
  have hG : Fq L κ ow [] J J := fq_rf
  refine g_lo (is := [0]) (lo2 := [(0, .ref x)]) rfl ?_
  refine g_aload_n C 0 dX5_forget_0 rfl rfl ?_
  refine g_iconst C (v := 0) dX5_forget_1 (by decide) ?_
  refine h_putI C K hLx hkx f_5_17 p_5_1 dX5_forget_2 (fun I_394283 hI_394283 => ?_)
  have hU_394284 := uv_put hU hI_394283 (ro_o hkx (by decide)) (lo := 0) (hi := 8) rfl (rg_w rc_0 (by decide) (by decide))
  have hF_394285 := fq_puto hF hI_394283 hkx (by decide) (by decide)
  exact g_vret B K rfl ⟨hU_394284, hF_394285, hG⟩ dX5_forget_5
set_option maxRecDepth 100000 in
set_option maxHeartbeats 8000000 in
theorem c_X7_forget {l : Launch} {D : va_G} {cy : Nat → ClassId} {L : List Nat} {κ ln : Nat → Nat} {R : Nat → Nat → Option Nat} {I : Nat → Nat → Int32} {J : Nat → Nat → Int64} {ow : Nat → Nat × Nat} (W9 : ∀ a ∈ L, Shp L κ ln R ow a) {x : Nat} (hLx : x ∈ L) (hkx : κ x = 7) (hU : Uv L κ ow I) : CtV l yX7_forget cX7_forget 1 none { frames := 0, cells := 0, slots := 0, locals := 0 } D cy L κ ln R I J [.ref x] (fun I2 J2 => Uv L κ ow I2 ∧ Fq L κ ow [704, 705] I I2 ∧ Fq L κ ow [] J J2) := by
  refine CtV.of (by decide +kernel) (Nat.le_of_ble_eq_true rfl) ?_
  intro p e s m below meth c B K
  have C := B.1
  have hF : Fq L κ ow [704, 705] I I := fq_rf
  have hG : Fq L κ ow [] J J := fq_rf
  refine g_lo (is := [0]) (lo2 := [(0, .ref x)]) rfl ?_
  refine g_aload_n C 0 dX7_forget_0 rfl rfl ?_
  refine g_iconst C (v := 0) dX7_forget_1 (by decide) ?_
  refine h_putI C K hLx hkx f_7_24 p_7_4 dX7_forget_2 (fun I_394298 hI_394298 => ?_)
  have hU_394299 := uv_put hU hI_394298 (ro_o hkx (by decide)) (lo := 0) (hi := 40) rfl (rg_w rc_0 (by decide) (by decide))
  have hF_394300 := fq_puto hF hI_394298 hkx (by decide) (by decide)
  refine g_aload_n C 0 dX7_forget_5 rfl rfl ?_
  refine g_iconst C (v := 0) dX7_forget_6 (by decide) ?_
  refine h_putI C K hLx hkx f_7_28 p_7_5 dX7_forget_7 (fun I_394301 hI_394301 => ?_)
  have hU_394302 := uv_put hU_394299 hI_394301 (ro_o hkx (by decide)) (lo := (-2147483648)) (hi := 2147483647) rfl (rg_all _)
  have hF_394303 := fq_puto hF_394300 hI_394301 hkx (by decide) (by decide)
  exact g_vret B K rfl ⟨hU_394302, hF_394303, hG⟩ dX7_forget_10
set_option maxRecDepth 100000 in
set_option maxHeartbeats 8000000 in
theorem c_X8_become {l : Launch} {D : va_G} {cy : Nat → ClassId} {L : List Nat} {κ ln : Nat → Nat} {R : Nat → Nat → Option Nat} {I : Nat → Nat → Int32} {J : Nat → Nat → Int64} {ow : Nat → Nat × Nat} (W9 : ∀ a ∈ L, Shp L κ ln R ow a) {x : Nat} (hLx : x ∈ L) (hkx : κ x = 8) {a0 : Nat} (hLa0 : a0 ∈ L) (hka0 : κ a0 = 8) (hU : Uv L κ ow I) : CtV l yX8_become cX8_become 2 none { frames := 1, cells := 0, slots := 0, locals := 60 } D cy L κ ln R I J [.ref x, .ref a0] (fun I2 J2 => Uv L κ ow I2 ∧ Fq L κ ow [805, 806, 807, 808, 58100, 58200, 58400] I I2 ∧ Fq L κ ow [58000, 58300] J J2) := by
  refine CtV.of (by decide +kernel) (Nat.le_of_ble_eq_true rfl) ?_
  intro p e s m below meth c B K
  have C := B.1
  have hF : Fq L κ ow [805, 806, 807, 808, 58100, 58200, 58400] I I := fq_rf
  have hG : Fq L κ ow [58000, 58300] J J := fq_rf
  obtain ⟨b_394382, hb_394382, hb_394382L, hb_394382k, hb_394382n, hb_394382o⟩ := shp_a (W9 a0 hLa0) hka0 3 15 6 rfl (by decide)
  obtain ⟨b_394383, hb_394383, hb_394383L, hb_394383k, hb_394383n, hb_394383o⟩ := shp_a (W9 a0 hLa0) hka0 4 14 6 rfl (by decide)
  obtain ⟨b_394384, hb_394384, hb_394384L, hb_394384k, hb_394384n, hb_394384o⟩ := shp_a (W9 a0 hLa0) hka0 0 15 7 rfl (by decide)
  obtain ⟨b_394385, hb_394385, hb_394385L, hb_394385k, hb_394385n, hb_394385o⟩ := shp_a (W9 a0 hLa0) hka0 2 14 7 rfl (by decide)
  obtain ⟨b_394386, hb_394386, hb_394386L, hb_394386k, hb_394386n, hb_394386o⟩ := shp_a (W9 x hLx) hkx 1 14 7 rfl (by decide)
  obtain ⟨b_394387, hb_394387, hb_394387L, hb_394387k, hb_394387n, hb_394387o⟩ := shp_a (W9 x hLx) hkx 0 15 7 rfl (by decide)
  obtain ⟨b_394388, hb_394388, hb_394388L, hb_394388k, hb_394388n, hb_394388o⟩ := shp_a (W9 x hLx) hkx 4 14 6 rfl (by decide)
  obtain ⟨b_394389, hb_394389, hb_394389L, hb_394389k, hb_394389n, hb_394389o⟩ := shp_a (W9 x hLx) hkx 2 14 7 rfl (by decide)
  obtain ⟨b_394390, hb_394390, hb_394390L, hb_394390k, hb_394390n, hb_394390o⟩ := shp_a (W9 x hLx) hkx 3 15 6 rfl (by decide)
  obtain ⟨b_394391, hb_394391, hb_394391L, hb_394391k, hb_394391n, hb_394391o⟩ := shp_a (W9 a0 hLa0) hka0 1 14 7 rfl (by decide)
  refine g_lo (is := [0, 1]) (lo2 := [(0, .ref x), (1, .ref a0)]) rfl ?_
  refine g_aload_n C 1 dX8_become_0 rfl rfl ?_
  refine g_getR C K hLa0 hka0 f_8_9 hb_394384 dX8_become_1 ?_
  refine g_iconst C (v := 0) dX8_become_4 (by decide) ?_
  refine g_aload_n C 0 dX8_become_5 rfl rfl ?_
  refine g_getR C K hLx hkx f_8_9 hb_394387 dX8_become_6 ?_
  refine g_iconst C (v := 0) dX8_become_9 (by decide) ?_
  refine g_bipush C (v := 7) dX8_become_10 (by decide) ?_
  refine h_copyJ C K hb_394387L hb_394387k hb_394384L hb_394384k ac_8_41 7 (by decide) (by decide) (by rw [hb_394384n]; decide) (by rw [hb_394387n]; decide) w_cp (Nat.le_of_ble_eq_true rfl) (Nat.le_of_ble_eq_true rfl) dX8_become_12 (fun J_394392 hJ_394392 => ?_)
  have hG_394393 := fq_cp hG hJ_394392 (ro_a hb_394387k (by decide) hb_394387o hkx rfl) (by decide) (by decide)
  refine g_aload_n C 1 dX8_become_15 rfl rfl ?_
  refine g_getR C K hLa0 hka0 f_8_15 hb_394391 dX8_become_16 ?_
  refine g_iconst C (v := 0) dX8_become_19 (by decide) ?_
  refine g_aload_n C 0 dX8_become_20 rfl rfl ?_
  refine g_getR C K hLx hkx f_8_15 hb_394386 dX8_become_21 ?_
  refine g_iconst C (v := 0) dX8_become_24 (by decide) ?_
  refine g_bipush C (v := 7) dX8_become_25 (by decide) ?_
  refine h_copyI C K hb_394386L hb_394386k hb_394391L hb_394391k ac_8_41 7 (by decide) (by decide) (by rw [hb_394391n]; decide) (by rw [hb_394386n]; decide) w_cp (Nat.le_of_ble_eq_true rfl) (Nat.le_of_ble_eq_true rfl) dX8_become_27 (fun I_394394 hI_394394 => ?_)
  have hU_394395 := uv_cp hU hb_394391L hI_394394 (ro_a hb_394386k (by decide) hb_394386o hkx rfl) (ro_a hb_394391k (by decide) hb_394391o hka0 rfl)
  have hF_394396 := fq_cp hF hI_394394 (ro_a hb_394386k (by decide) hb_394386o hkx rfl) (by decide) (by decide)
  refine g_aload_n C 1 dX8_become_30 rfl rfl ?_
  refine g_getR C K hLa0 hka0 f_8_19 hb_394385 dX8_become_31 ?_
  refine g_iconst C (v := 0) dX8_become_34 (by decide) ?_
  refine g_aload_n C 0 dX8_become_35 rfl rfl ?_
  refine g_getR C K hLx hkx f_8_19 hb_394389 dX8_become_36 ?_
  refine g_iconst C (v := 0) dX8_become_39 (by decide) ?_
  refine g_bipush C (v := 7) dX8_become_40 (by decide) ?_
  refine h_copyI C K hb_394389L hb_394389k hb_394385L hb_394385k ac_8_41 7 (by decide) (by decide) (by rw [hb_394385n]; decide) (by rw [hb_394389n]; decide) w_cp (Nat.le_of_ble_eq_true rfl) (Nat.le_of_ble_eq_true rfl) dX8_become_42 (fun I_394397 hI_394397 => ?_)
  have hU_394398 := uv_cp hU_394395 hb_394385L hI_394397 (ro_a hb_394389k (by decide) hb_394389o hkx rfl) (ro_a hb_394385k (by decide) hb_394385o hka0 rfl)
  have hF_394399 := fq_cp hF_394396 hI_394397 (ro_a hb_394389k (by decide) hb_394389o hkx rfl) (by decide) (by decide)
  refine g_aload_n C 1 dX8_become_45 rfl rfl ?_
  refine g_getR C K hLa0 hka0 f_8_22 hb_394382 dX8_become_46 ?_
  refine g_iconst C (v := 0) dX8_become_49 (by decide) ?_
  refine g_aload_n C 0 dX8_become_50 rfl rfl ?_
  refine g_getR C K hLx hkx f_8_22 hb_394390 dX8_become_51 ?_
  refine g_iconst C (v := 0) dX8_become_54 (by decide) ?_
  refine g_bipush C (v := 6) dX8_become_55 (by decide) ?_
  refine h_copyJ C K hb_394390L hb_394390k hb_394382L hb_394382k ac_8_41 6 (by decide) (by decide) (by rw [hb_394382n]; decide) (by rw [hb_394390n]; decide) w_cp (Nat.le_of_ble_eq_true rfl) (Nat.le_of_ble_eq_true rfl) dX8_become_57 (fun J_394400 hJ_394400 => ?_)
  have hG_394401 := fq_cp hG_394393 hJ_394400 (ro_a hb_394390k (by decide) hb_394390o hkx rfl) (by decide) (by decide)
  refine g_aload_n C 1 dX8_become_60 rfl rfl ?_
  refine g_getR C K hLa0 hka0 f_8_25 hb_394383 dX8_become_61 ?_
  refine g_iconst C (v := 0) dX8_become_64 (by decide) ?_
  refine g_aload_n C 0 dX8_become_65 rfl rfl ?_
  refine g_getR C K hLx hkx f_8_25 hb_394388 dX8_become_66 ?_
  refine g_iconst C (v := 0) dX8_become_69 (by decide) ?_
  refine g_bipush C (v := 6) dX8_become_70 (by decide) ?_
  refine h_copyI C K hb_394388L hb_394388k hb_394383L hb_394383k ac_8_41 6 (by decide) (by decide) (by rw [hb_394383n]; decide) (by rw [hb_394388n]; decide) w_cp (Nat.le_of_ble_eq_true rfl) (Nat.le_of_ble_eq_true rfl) dX8_become_72 (fun I_394402 hI_394402 => ?_)
  have hU_394403 := uv_cp hU_394398 hb_394383L hI_394402 (ro_a hb_394388k (by decide) hb_394388o hkx rfl) (ro_a hb_394383k (by decide) hb_394383o hka0 rfl)
  have hF_394404 := fq_cp hF_394399 hI_394402 (ro_a hb_394388k (by decide) hb_394388o hkx rfl) (by decide) (by decide)
  refine g_aload_n C 0 dX8_become_75 rfl rfl ?_
  refine g_aload_n C 1 dX8_become_76 rfl rfl ?_
  obtain ⟨x_394405, hx_394405, rx_394405⟩ := ex_get (I := I_394402) (a := a0) (j := 5) (lo := 0) (hi := 7) hU_394403 hLa0 (ro_o hka0 (by decide)) rfl
  refine g_getI C K hLa0 hka0 f_8_28 (v := x_394405) hx_394405 dX8_become_77 ?_
  refine h_putI C K hLx hkx f_8_28 p_8_5 dX8_become_80 (fun I_394406 hI_394406 => ?_)
  have hU_394407 := uv_put hU_394403 hI_394406 (ro_o hkx (by decide)) (lo := 0) (hi := 7) rfl (rx_394405)
  have hF_394408 := fq_puto hF_394404 hI_394406 hkx (by decide) (by decide)
  refine g_aload_n C 0 dX8_become_83 rfl rfl ?_
  refine g_aload_n C 1 dX8_become_84 rfl rfl ?_
  obtain ⟨x_394409, hx_394409, rx_394409⟩ := ex_get (I := I_394406) (a := a0) (j := 6) (lo := 0) (hi := 6) hU_394407 hLa0 (ro_o hka0 (by decide)) rfl
  refine g_getI C K hLa0 hka0 f_8_32 (v := x_394409) hx_394409 dX8_become_85 ?_
  refine h_putI C K hLx hkx f_8_32 p_8_6 dX8_become_88 (fun I_394410 hI_394410 => ?_)
  have hU_394411 := uv_put hU_394407 hI_394410 (ro_o hkx (by decide)) (lo := 0) (hi := 6) rfl (rx_394409)
  have hF_394412 := fq_puto hF_394408 hI_394410 hkx (by decide) (by decide)
  refine g_aload_n C 0 dX8_become_91 rfl rfl ?_
  refine g_aload_n C 1 dX8_become_92 rfl rfl ?_
  obtain ⟨x_394413, hx_394413, rx_394413⟩ := ex_get (I := I_394410) (a := a0) (j := 7) (lo := (-2147483648)) (hi := 2147483647) hU_394411 hLa0 (ro_o hka0 (by decide)) rfl
  refine g_getI C K hLa0 hka0 f_8_35 (v := x_394413) hx_394413 dX8_become_93 ?_
  refine h_putI C K hLx hkx f_8_35 p_8_7 dX8_become_96 (fun I_394414 hI_394414 => ?_)
  have hU_394415 := uv_put hU_394411 hI_394414 (ro_o hkx (by decide)) (lo := (-2147483648)) (hi := 2147483647) rfl (rx_394413)
  have hF_394416 := fq_puto hF_394412 hI_394414 hkx (by decide) (by decide)
  refine g_aload_n C 0 dX8_become_99 rfl rfl ?_
  refine g_aload_n C 1 dX8_become_100 rfl rfl ?_
  obtain ⟨x_394417, hx_394417, rx_394417⟩ := ex_get (I := I_394414) (a := a0) (j := 8) (lo := (-2147483648)) (hi := 2147483647) hU_394415 hLa0 (ro_o hka0 (by decide)) rfl
  refine g_getI C K hLa0 hka0 f_8_38 (v := x_394417) hx_394417 dX8_become_101 ?_
  refine h_putI C K hLx hkx f_8_38 p_8_8 dX8_become_104 (fun I_394418 hI_394418 => ?_)
  have hU_394419 := uv_put hU_394415 hI_394418 (ro_o hkx (by decide)) (lo := (-2147483648)) (hi := 2147483647) rfl (rx_394417)
  have hF_394420 := fq_puto hF_394416 hI_394418 hkx (by decide) (by decide)
  exact g_vret B K rfl ⟨hU_394419, hF_394420, hG_394401⟩ dX8_become_107
set_option maxRecDepth 100000 in
set_option maxHeartbeats 8000000 in
theorem c_X10_addToken {l : Launch} {D : va_G} {cy : Nat → ClassId} {L : List Nat} {κ ln : Nat → Nat} {R : Nat → Nat → Option Nat} {I : Nat → Nat → Int32} {J : Nat → Nat → Int64} {ow : Nat → Nat × Nat} (W9 : ∀ a ∈ L, Shp L κ ln R ow a) {x : Nat} (hLx : x ∈ L) (hkx : κ x = 10) (a0 : Int32) (a1 : Int32) (a2 : Int64) (ra0 : Rg (-128) 127 a0) (ra1 : Rg 0 900 a1) (hU : Uv L κ ow I) : CtV l yX10_addToken cX10_addToken 5 none { frames := 0, cells := 0, slots := 0, locals := 0 } D cy L κ ln R I J [.ref x, .int a0, .int a1, .long a2] (fun I2 J2 => Uv L κ ow I2 ∧ Fq L κ ow [1006, 70200, 70300] I I2 ∧ Fq L κ ow [70400] J J2) := by
  refine CtV.of (by decide +kernel) (Nat.le_of_ble_eq_true rfl) ?_
  intro p e s m below meth c B K
  have C := B.1
  have hF : Fq L κ ow [1006, 70200, 70300] I I := fq_rf
  have hG : Fq L κ ow [70400] J J := fq_rf
  obtain ⟨b_394459, hb_394459, hb_394459L, hb_394459k, hb_394459n, hb_394459o⟩ := shp_a (W9 x hLx) hkx 3 14 901 rfl (by decide)
  obtain ⟨b_394460, hb_394460, hb_394460L, hb_394460k, hb_394460n, hb_394460o⟩ := shp_a (W9 x hLx) hkx 2 14 901 rfl (by decide)
  obtain ⟨b_394461, hb_394461, hb_394461L, hb_394461k, hb_394461n, hb_394461o⟩ := shp_a (W9 x hLx) hkx 4 15 901 rfl (by decide)
  refine g_lo (is := [0, 1, 2, 3]) (lo2 := [(0, .ref x), (1, .int a0), (2, .int a1), (3, .long a2)]) rfl ?_
  refine g_aload_n C 0 dX10_addToken_0 rfl rfl ?_
  obtain ⟨x_394462, hx_394462, rx_394462⟩ := ex_get (I := I) (a := x) (j := 6) (lo := 0) (hi := 901) hU hLx (ro_o hkx (by decide)) rfl
  refine g_getI C K hLx hkx f_10_33 (v := x_394462) hx_394462 dX10_addToken_1 ?_
  refine g_aload_n C 0 dX10_addToken_4 rfl rfl ?_
  refine g_getR C K hLx hkx f_10_19 hb_394460 dX10_addToken_5 ?_
  refine g_alenI C K hb_394460L hb_394460k (v := 901) (by rw [hb_394460n]; rfl) dX10_addToken_8 ?_
  refine g_icmp_ge C (tgt := 52) dX10_addToken_9 (by decide) (fun h_394463 => ?_) (fun h_394463 => ?_)
  · skip
    have r_394464 := le_r (h_394463) rc_901 rx_394462
    exact g_vret B K rfl ⟨hU, hF, hG⟩ dX10_addToken_52
  · skip
    have r_394465 := lt_l (hi := 900) (nle h_394463) rx_394462 rc_901 (by decide)
    refine g_aload_n C 0 dX10_addToken_12 rfl rfl ?_
    refine g_getR C K hLx hkx f_10_19 hb_394460 dX10_addToken_13 ?_
    refine g_aload_n C 0 dX10_addToken_16 rfl rfl ?_
    refine g_getI C K hLx hkx f_10_33 (v := x_394462) hx_394462 dX10_addToken_17 ?_
    refine g_iload_n C 1 dX10_addToken_20 rfl rfl ?_
    refine h_iast C K hb_394460L hb_394460k (x_394462.toNatClampNeg) (rfl) (ix_0 r_394465 (by decide)) (ix_lt r_394465 (by decide) hb_394460n (by decide)) dX10_addToken_21 (fun I_394466 hI_394466 => ?_)
    have hU_394467 := uv_put hU hI_394466 (ro_a hb_394460k (by decide) hb_394460o hkx rfl) (lo := (-2147483648)) (hi := 2147483647) (rfl) (rg_all _)
    have hF_394468 := fq_puta hF hI_394466 (ro_a hb_394460k (by decide) hb_394460o hkx rfl) (by decide) (by decide)
    refine g_aload_n C 0 dX10_addToken_22 rfl rfl ?_
    refine g_getR C K hLx hkx f_10_23 hb_394459 dX10_addToken_23 ?_
    refine g_aload_n C 0 dX10_addToken_26 rfl rfl ?_
    refine g_getI C K hLx hkx f_10_33 (v := x_394462) (kp_k (κ := κ) hI_394466 (by rw [hkx, hb_394460k]; decide) hx_394462) dX10_addToken_27 ?_
    refine g_iload_n C 2 dX10_addToken_30 rfl rfl ?_
    refine h_iast C K hb_394459L hb_394459k (x_394462.toNatClampNeg) (rfl) (ix_0 r_394465 (by decide)) (ix_lt r_394465 (by decide) hb_394459n (by decide)) dX10_addToken_31 (fun I_394469 hI_394469 => ?_)
    have hU_394470 := uv_put hU_394467 hI_394469 (ro_a hb_394459k (by decide) hb_394459o hkx rfl) (lo := (-2147483648)) (hi := 2147483647) (rfl) (rg_all _)
    have hF_394471 := fq_puta hF_394468 hI_394469 (ro_a hb_394459k (by decide) hb_394459o hkx rfl) (by decide) (by decide)
    refine g_aload_n C 0 dX10_addToken_32 rfl rfl ?_
    refine g_getR C K hLx hkx f_10_26 hb_394461 dX10_addToken_33 ?_
    refine g_aload_n C 0 dX10_addToken_36 rfl rfl ?_
    refine g_getI C K hLx hkx f_10_33 (v := x_394462) (kp_k (κ := κ) hI_394469 (by rw [hkx, hb_394459k]; decide) (kp_k (κ := κ) hI_394466 (by rw [hkx, hb_394460k]; decide) hx_394462)) dX10_addToken_37 ?_
    refine g_lload_n C 3 dX10_addToken_40 rfl rfl ?_
    refine h_last C K hb_394461L hb_394461k (x_394462.toNatClampNeg) (rfl) (ix_0 r_394465 (by decide)) (ix_lt r_394465 (by decide) hb_394461n (by decide)) dX10_addToken_41 (fun J_394472 hJ_394472 => ?_)
    have hG_394473 := fq_puta hG hJ_394472 (ro_a hb_394461k (by decide) hb_394461o hkx rfl) (by decide) (by decide)
    refine g_aload_n C 0 dX10_addToken_42 rfl rfl ?_
    refine g_dup C dX10_addToken_43 rfl ?_
    refine g_getI C K hLx hkx f_10_33 (v := x_394462) (kp_k (κ := κ) hI_394469 (by rw [hkx, hb_394459k]; decide) (kp_k (κ := κ) hI_394466 (by rw [hkx, hb_394460k]; decide) hx_394462)) dX10_addToken_44 ?_
    refine g_iconst C (v := 1) dX10_addToken_47 (by decide) ?_
    obtain ⟨x_394474, hx_394474, rx_394474, tx_394474⟩ := ex_add 1 901 r_394465 rc_1 (by decide) (by decide) (by decide) (by decide)
    refine g_iadd C (v := x_394474) dX10_addToken_48 hx_394474 ?_
    refine h_putI C K hLx hkx f_10_33 p_10_6 dX10_addToken_49 (fun I_394475 hI_394475 => ?_)
    have hU_394476 := uv_put hU_394470 hI_394475 (ro_o hkx (by decide)) (lo := 0) (hi := 901) rfl (rg_w rx_394474 (by decide) (by decide))
    have hF_394477 := fq_puto hF_394471 hI_394475 hkx (by decide) (by decide)
    exact g_vret B K rfl ⟨hU_394476, hF_394477, hG_394473⟩ dX10_addToken_52
set_option maxRecDepth 100000 in
set_option maxHeartbeats 8000000 in
theorem c_X10_advance {l : Launch} {D : va_G} {cy : Nat → ClassId} {L : List Nat} {κ ln : Nat → Nat} {R : Nat → Nat → Option Nat} {I : Nat → Nat → Int32} {J : Nat → Nat → Int64} {ow : Nat → Nat × Nat} (W9 : ∀ a ∈ L, Shp L κ ln R ow a) {x : Nat} (hLx : x ∈ L) (hkx : κ x = 10) (hU : Uv L κ ow I) : CtV l yX10_advance cX10_advance 1 none { frames := 0, cells := 0, slots := 0, locals := 0 } D cy L κ ln R I J [.ref x] (fun I2 J2 => Uv L κ ow I2 ∧ Fq L κ ow [1007, 1008, 1009] I I2 ∧ Fq L κ ow [1010] J J2) := by
  refine CtV.of (by decide +kernel) (Nat.le_of_ble_eq_true rfl) ?_
  intro p e s m below meth c B K
  have C := B.1
  have hF : Fq L κ ow [1007, 1008, 1009] I I := fq_rf
  have hG : Fq L κ ow [1010] J J := fq_rf
  obtain ⟨b_394524, hb_394524, hb_394524L, hb_394524k, hb_394524n, hb_394524o⟩ := shp_a (W9 x hLx) hkx 3 14 901 rfl (by decide)
  obtain ⟨b_394525, hb_394525, hb_394525L, hb_394525k, hb_394525n, hb_394525o⟩ := shp_a (W9 x hLx) hkx 2 14 901 rfl (by decide)
  obtain ⟨b_394526, hb_394526, hb_394526L, hb_394526k, hb_394526n, hb_394526o⟩ := shp_a (W9 x hLx) hkx 4 15 901 rfl (by decide)
  refine g_lo (is := [0]) (lo2 := [(0, .ref x)]) rfl ?_
  refine g_aload_n C 0 dX10_advance_0 rfl rfl ?_
  obtain ⟨x_394527, hx_394527, rx_394527⟩ := ex_get (I := I) (a := x) (j := 7) (lo := (-1)) (hi := 900) hU hLx (ro_o hkx (by decide)) rfl
  refine g_getI C K hLx hkx f_10_36 (v := x_394527) hx_394527 dX10_advance_1 ?_
  refine g_iconst C (v := 1) dX10_advance_4 (by decide) ?_
  obtain ⟨x_394528, hx_394528, rx_394528, tx_394528⟩ := ex_add 0 901 rx_394527 rc_1 (by decide) (by decide) (by decide) (by decide)
  refine g_iadd C (v := x_394528) dX10_advance_5 hx_394528 ?_
  refine g_aload_n C 0 dX10_advance_6 rfl rfl ?_
  obtain ⟨x_394529, hx_394529, rx_394529⟩ := ex_get (I := I) (a := x) (j := 6) (lo := 0) (hi := 901) hU hLx (ro_o hkx (by decide)) rfl
  refine g_getI C K hLx hkx f_10_33 (v := x_394529) hx_394529 dX10_advance_7 ?_
  refine g_icmp_ge C (tgt := 62) dX10_advance_10 (by decide) (fun h_394530 => ?_) (fun h_394530 => ?_)
  · skip
    exact g_vret B K rfl ⟨hU, hF, hG⟩ dX10_advance_62
  · skip
    have r_394531 := lt_l (hi := 900) (nle h_394530) rx_394528 rx_394529 (by decide)
    have r_394532 := lt_r (lo := 1) (nle h_394530) rx_394528 rx_394529 (by decide)
    refine g_aload_n C 0 dX10_advance_13 rfl rfl ?_
    refine g_dup C dX10_advance_14 rfl ?_
    refine g_getI C K hLx hkx f_10_36 (v := x_394527) hx_394527 dX10_advance_15 ?_
    refine g_iconst C (v := 1) dX10_advance_18 (by decide) ?_
    refine g_iadd C (v := x_394528) dX10_advance_19 hx_394528 ?_
    refine h_putI C K hLx hkx f_10_36 p_10_7 dX10_advance_20 (fun I_394533 hI_394533 => ?_)
    have hU_394534 := uv_put hU hI_394533 (ro_o hkx (by decide)) (lo := (-1)) (hi := 900) rfl (rg_w r_394531 (by decide) (by decide))
    have hF_394535 := fq_puto hF hI_394533 hkx (by decide) (by decide)
    refine g_aload_n C 0 dX10_advance_23 rfl rfl ?_
    refine g_aload_n C 0 dX10_advance_24 rfl rfl ?_
    refine g_getR C K hLx hkx f_10_19 hb_394525 dX10_advance_25 ?_
    refine g_aload_n C 0 dX10_advance_28 rfl rfl ?_
    refine g_getI C K hLx hkx f_10_36 (v := x_394528) (kp_s hI_394533) dX10_advance_29 ?_
    obtain ⟨x_394536, hx_394536, rx_394536⟩ := ex_get (I := I_394533) (a := b_394525) (j := x_394528.toNatClampNeg) (lo := (-2147483648)) (hi := 2147483647) hU_394534 hb_394525L (ro_a hb_394525k (by decide) hb_394525o hkx rfl) (rfl)
    refine h_iald C K hb_394525L hb_394525k (v := x_394536) (x_394528.toNatClampNeg) (rfl) (ix_0 r_394531 (by decide)) (ix_lt r_394531 (by decide) hb_394525n (by decide)) hx_394536 dX10_advance_32 ?_
    refine h_putI C K hLx hkx f_10_39 p_10_8 dX10_advance_33 (fun I_394537 hI_394537 => ?_)
    have hU_394538 := uv_put hU_394534 hI_394537 (ro_o hkx (by decide)) (lo := (-2147483648)) (hi := 2147483647) rfl (rx_394536)
    have hF_394539 := fq_puto hF_394535 hI_394537 hkx (by decide) (by decide)
    refine g_aload_n C 0 dX10_advance_36 rfl rfl ?_
    refine g_aload_n C 0 dX10_advance_37 rfl rfl ?_
    refine g_getR C K hLx hkx f_10_23 hb_394524 dX10_advance_38 ?_
    refine g_aload_n C 0 dX10_advance_41 rfl rfl ?_
    refine g_getI C K hLx hkx f_10_36 (v := x_394528) (kp_j hI_394537 (by decide) (kp_s hI_394533)) dX10_advance_42 ?_
    obtain ⟨x_394540, hx_394540, rx_394540⟩ := ex_get (I := I_394537) (a := b_394524) (j := x_394528.toNatClampNeg) (lo := (-2147483648)) (hi := 2147483647) hU_394538 hb_394524L (ro_a hb_394524k (by decide) hb_394524o hkx rfl) (rfl)
    refine h_iald C K hb_394524L hb_394524k (v := x_394540) (x_394528.toNatClampNeg) (rfl) (ix_0 r_394531 (by decide)) (ix_lt r_394531 (by decide) hb_394524n (by decide)) hx_394540 dX10_advance_45 ?_
    refine h_putI C K hLx hkx f_10_42 p_10_9 dX10_advance_46 (fun I_394541 hI_394541 => ?_)
    have hU_394542 := uv_put hU_394538 hI_394541 (ro_o hkx (by decide)) (lo := (-2147483648)) (hi := 2147483647) rfl (rx_394540)
    have hF_394543 := fq_puto hF_394539 hI_394541 hkx (by decide) (by decide)
    refine g_aload_n C 0 dX10_advance_49 rfl rfl ?_
    refine g_aload_n C 0 dX10_advance_50 rfl rfl ?_
    refine g_getR C K hLx hkx f_10_26 hb_394526 dX10_advance_51 ?_
    refine g_aload_n C 0 dX10_advance_54 rfl rfl ?_
    refine g_getI C K hLx hkx f_10_36 (v := x_394528) (kp_j hI_394541 (by decide) (kp_j hI_394537 (by decide) (kp_s hI_394533))) dX10_advance_55 ?_
    obtain ⟨y_394544, hy_394544⟩ : ∃ z, J b_394526 (x_394528.toNatClampNeg) = z := ⟨_, rfl⟩
    refine h_lald C K hb_394526L hb_394526k (v := y_394544) (x_394528.toNatClampNeg) (rfl) (ix_0 r_394531 (by decide)) (ix_lt r_394531 (by decide) hb_394526n (by decide)) hy_394544 dX10_advance_58 ?_
    refine h_putJ C K hLx hkx f_10_45 p_10_10 dX10_advance_59 (fun J_394545 hJ_394545 => ?_)
    have hG_394546 := fq_puto hG hJ_394545 hkx (by decide) (by decide)
    exact g_vret B K rfl ⟨hU_394542, hF_394543, hG_394546⟩ dX10_advance_62
set_option maxRecDepth 100000 in
set_option maxHeartbeats 8000000 in
theorem c_X10_isDigit {l : Launch} {D : va_G} {cy : Nat → ClassId} {L : List Nat} {κ ln : Nat → Nat} {R : Nat → Nat → Option Nat} {I : Nat → Nat → Int32} {J : Nat → Nat → Int64} {ow : Nat → Nat × Nat} (W9 : ∀ a ∈ L, Shp L κ ln R ow a) (a0 : Int32) (ra0 : Rg (-128) 127 a0) (hU : Uv L κ ow I) : CtI l yX10_isDigit cX10_isDigit 1 (some .boolean) { frames := 0, cells := 0, slots := 0, locals := 0 } D cy L κ ln R I J [.int a0] (fun r I2 J2 => I = I2 ∧ J = J2 ∧ Rg 0 1 r) := by
  refine CtI.of (by decide +kernel) (Nat.le_of_ble_eq_true rfl) ?_
  intro p e s m below meth c B K
  have C := B.1
  refine g_lo (is := [0]) (lo2 := [(0, .int a0)]) rfl ?_
  refine g_iload_n C 0 dX10_isDigit_0 rfl rfl ?_
  refine g_bipush C (v := 48) dX10_isDigit_1 (by decide) ?_
  refine g_icmp_lt C (tgt := 16) dX10_isDigit_3 (by decide) (fun h_394559 => ?_) (fun h_394559 => ?_)
  · skip
    have r_394560 := lt_l (hi := 47) (h_394559) ra0 rc_48 (by decide)
    refine g_iconst C (v := 0) dX10_isDigit_16 (by decide) ?_
    exact g_zret (ty := .boolean) (r := 0) B K rfl (rfl) ⟨rfl, rfl, rg_w rc_0 (by decide) (by decide)⟩ dX10_isDigit_17
  · skip
    have r_394561 := le_r (nlt h_394559) rc_48 ra0
    refine g_iload_n C 0 dX10_isDigit_6 rfl rfl ?_
    refine g_bipush C (v := 57) dX10_isDigit_7 (by decide) ?_
    refine g_icmp_gt C (tgt := 16) dX10_isDigit_9 (by decide) (fun h_394562 => ?_) (fun h_394562 => ?_)
    · skip
      have r_394563 := lt_r (lo := 58) (h_394562) rc_57 r_394561 (by decide)
      refine g_iconst C (v := 0) dX10_isDigit_16 (by decide) ?_
      exact g_zret (ty := .boolean) (r := 0) B K rfl (rfl) ⟨rfl, rfl, rg_w rc_0 (by decide) (by decide)⟩ dX10_isDigit_17
    · skip
      have r_394564 := le_l (nlt h_394562) r_394561 rc_57
      refine g_iconst C (v := 1) dX10_isDigit_12 (by decide) ?_
      refine g_goto C (tgt := 17) dX10_isDigit_13 (by decide) ?_
      exact g_zret (ty := .boolean) (r := 1) B K rfl (rfl) ⟨rfl, rfl, rg_w rc_1 (by decide) (by decide)⟩ dX10_isDigit_17
set_option maxRecDepth 100000 in
set_option maxHeartbeats 8000000 in
theorem c_X10_isLetter {l : Launch} {D : va_G} {cy : Nat → ClassId} {L : List Nat} {κ ln : Nat → Nat} {R : Nat → Nat → Option Nat} {I : Nat → Nat → Int32} {J : Nat → Nat → Int64} {ow : Nat → Nat × Nat} (W9 : ∀ a ∈ L, Shp L κ ln R ow a) (a0 : Int32) (ra0 : Rg (-128) 127 a0) (hU : Uv L κ ow I) : CtI l yX10_isLetter cX10_isLetter 1 (some .boolean) { frames := 0, cells := 0, slots := 0, locals := 0 } D cy L κ ln R I J [.int a0] (fun r I2 J2 => I = I2 ∧ J = J2 ∧ Rg 0 1 r) := by
  refine CtI.of (by decide +kernel) (Nat.le_of_ble_eq_true rfl) ?_
  intro p e s m below meth c B K
  have C := B.1
  refine g_lo (is := [0]) (lo2 := [(0, .int a0)]) rfl ?_
  refine g_iload_n C 0 dX10_isLetter_0 rfl rfl ?_
  refine g_bipush C (v := 97) dX10_isLetter_1 (by decide) ?_
  refine g_icmp_lt C (tgt := 16) dX10_isLetter_3 (by decide) (fun h_394577 => ?_) (fun h_394577 => ?_)
  · skip
    have r_394578 := lt_l (hi := 96) (h_394577) ra0 rc_97 (by decide)
    refine g_iconst C (v := 0) dX10_isLetter_16 (by decide) ?_
    exact g_zret (ty := .boolean) (r := 0) B K rfl (rfl) ⟨rfl, rfl, rg_w rc_0 (by decide) (by decide)⟩ dX10_isLetter_17
  · skip
    have r_394579 := le_r (nlt h_394577) rc_97 ra0
    refine g_iload_n C 0 dX10_isLetter_6 rfl rfl ?_
    refine g_bipush C (v := 122) dX10_isLetter_7 (by decide) ?_
    refine g_icmp_gt C (tgt := 16) dX10_isLetter_9 (by decide) (fun h_394580 => ?_) (fun h_394580 => ?_)
    · skip
      have r_394581 := lt_r (lo := 123) (h_394580) rc_122 r_394579 (by decide)
      refine g_iconst C (v := 0) dX10_isLetter_16 (by decide) ?_
      exact g_zret (ty := .boolean) (r := 0) B K rfl (rfl) ⟨rfl, rfl, rg_w rc_0 (by decide) (by decide)⟩ dX10_isLetter_17
    · skip
      have r_394582 := le_l (nlt h_394580) r_394579 rc_122
      refine g_iconst C (v := 1) dX10_isLetter_12 (by decide) ?_
      refine g_goto C (tgt := 17) dX10_isLetter_13 (by decide) ?_
      exact g_zret (ty := .boolean) (r := 1) B K rfl (rfl) ⟨rfl, rfl, rg_w rc_1 (by decide) (by decide)⟩ dX10_isLetter_17
set_option maxRecDepth 100000 in
set_option maxHeartbeats 8000000 in
theorem c_X10_isSign {l : Launch} {D : va_G} {cy : Nat → ClassId} {L : List Nat} {κ ln : Nat → Nat} {R : Nat → Nat → Option Nat} {I : Nat → Nat → Int32} {J : Nat → Nat → Int64} {ow : Nat → Nat × Nat} (W9 : ∀ a ∈ L, Shp L κ ln R ow a) (a0 : Int32) (ra0 : Rg (-128) 127 a0) (hU : Uv L κ ow I) : CtI l yX10_isSign cX10_isSign 1 (some .boolean) { frames := 0, cells := 0, slots := 0, locals := 0 } D cy L κ ln R I J [.int a0] (fun r I2 J2 => I = I2 ∧ J = J2 ∧ Rg 0 1 r) := by
  refine CtI.of (by decide +kernel) (Nat.le_of_ble_eq_true rfl) ?_
  intro p e s m below meth c B K
  have C := B.1
  refine g_lo (is := [0]) (lo2 := [(0, .int a0)]) rfl ?_
  have j_24 : ∀ (v_394607 : Int32) (rv_394607 : Rg 40 62 v_394607), WG p l e { frames := 0, cells := 0, slots := 0, locals := 0 } s m ([.int a0] : List Value).toArray below meth c 1 0 0 (MQ below (Qi_ D cy L κ ln R (fun r I2 J2 => I = I2 ∧ J = J2 ∧ Rg 0 1 r)) ([.int a0] : List Value).toArray s 0 0 (Al_ L)) D cy (Al_ L) s.heap L κ ln R I J 24 [(0, .int v_394607)] [] := by
    intro v_394607 rv_394607
    refine g_iconst C (v := 1) dX10_isSign_24 (by decide) ?_
    refine g_goto C (tgt := 29) dX10_isSign_25 (by decide) ?_
    exact g_zret (ty := .boolean) (r := 1) B K rfl (rfl) ⟨rfl, rfl, rg_w rc_1 (by decide) (by decide)⟩ dX10_isSign_29
  refine g_iload_n C 0 dX10_isSign_0 rfl rfl ?_
  refine g_bipush C (v := 40) dX10_isSign_1 (by decide) ?_
  refine g_icmp_eq C (tgt := 24) dX10_isSign_3 (by decide) (fun h_394608 => ?_) (fun h_394608 => ?_)
  · skip
    have r_394609 := (⟨(eq_rg (h_394608) rc_40).1, (eq_rg (h_394608) rc_40).2⟩ : Rg 40 40 a0)
    refine g_lo (is := [0]) (lo2 := [(0, .int a0)]) rfl ?_
    exact j_24 a0 (rg_w r_394609 (by decide) (by decide))
  · skip
    have n_394610 : ¬ a0 = 40 := h_394608
    refine g_iload_n C 0 dX10_isSign_6 rfl rfl ?_
    refine g_bipush C (v := 41) dX10_isSign_7 (by decide) ?_
    refine g_icmp_eq C (tgt := 24) dX10_isSign_9 (by decide) (fun h_394611 => ?_) (fun h_394611 => ?_)
    · skip
      have r_394612 := (⟨(eq_rg (h_394611) rc_41).1, (eq_rg (h_394611) rc_41).2⟩ : Rg 41 41 a0)
      refine g_lo (is := [0]) (lo2 := [(0, .int a0)]) rfl ?_
      exact j_24 a0 (rg_w r_394612 (by decide) (by decide))
    · skip
      have n_394613 : ¬ a0 = 41 := h_394611
      refine g_iload_n C 0 dX10_isSign_12 rfl rfl ?_
      refine g_bipush C (v := 59) dX10_isSign_13 (by decide) ?_
      refine g_icmp_lt C (tgt := 28) dX10_isSign_15 (by decide) (fun h_394614 => ?_) (fun h_394614 => ?_)
      · skip
        have r_394615 := lt_l (hi := 58) (h_394614) ra0 rc_59 (by decide)
        refine g_iconst C (v := 0) dX10_isSign_28 (by decide) ?_
        exact g_zret (ty := .boolean) (r := 0) B K rfl (rfl) ⟨rfl, rfl, rg_w rc_0 (by decide) (by decide)⟩ dX10_isSign_29
      · skip
        have r_394616 := le_r (nlt h_394614) rc_59 ra0
        refine g_iload_n C 0 dX10_isSign_18 rfl rfl ?_
        refine g_bipush C (v := 62) dX10_isSign_19 (by decide) ?_
        refine g_icmp_gt C (tgt := 28) dX10_isSign_21 (by decide) (fun h_394617 => ?_) (fun h_394617 => ?_)
        · skip
          have r_394618 := lt_r (lo := 63) (h_394617) rc_62 r_394616 (by decide)
          refine g_iconst C (v := 0) dX10_isSign_28 (by decide) ?_
          exact g_zret (ty := .boolean) (r := 0) B K rfl (rfl) ⟨rfl, rfl, rg_w rc_0 (by decide) (by decide)⟩ dX10_isSign_29
        · skip
          have r_394619 := le_l (nlt h_394617) r_394616 rc_62
          refine g_lo (is := [0]) (lo2 := [(0, .int a0)]) rfl ?_
          exact j_24 a0 (rg_w r_394619 (by decide) (by decide))
set_option maxRecDepth 100000 in
set_option maxHeartbeats 8000000 in
theorem c_X10_tokenOfWord {l : Launch} {D : va_G} {cy : Nat → ClassId} {L : List Nat} {κ ln : Nat → Nat} {R : Nat → Nat → Option Nat} {I : Nat → Nat → Int32} {J : Nat → Nat → Int64} {ow : Nat → Nat × Nat} (W9 : ∀ a ∈ L, Shp L κ ln R ow a) {x : Nat} (hLx : x ∈ L) (hkx : κ x = 10) (a0 : Int64) (hU : Uv L κ ow I) : CtI l yX10_tokenOfWord cX10_tokenOfWord 4 (some .int) { frames := 0, cells := 0, slots := 0, locals := 0 } D cy L κ ln R I J [.ref x, .long a0] (fun r I2 J2 => I = I2 ∧ J = J2 ∧ Rg 0 100 r) := by
  refine CtI.of (by decide +kernel) (Nat.le_of_ble_eq_true rfl) ?_
  intro p e s m below meth c B K
  have C := B.1
  obtain ⟨b_394757, hb_394757, hb_394757L, hb_394757k, hb_394757n, hb_394757o⟩ := shp_a (W9 x hLx) hkx 1 15 28 rfl (by decide)
  refine g_lo (is := [0, 1]) (lo2 := [(0, .ref x), (1, .long a0)]) rfl ?_
  have l_2 : ∀ (n_2 : Nat) (y_394758 : Int64) (v_394759 : Int32) (rv_394759 : Rg 0 28 v_394759) (hm_394760 : 28 < (v_394759 : Int32).toInt + (n_2 : Int)), WG p l e { frames := 0, cells := 0, slots := 0, locals := 0 } s m ([.ref x, .long a0] : List Value).toArray below meth c 4 0 0 (MQ below (Qi_ D cy L κ ln R (fun r I2 J2 => I = I2 ∧ J = J2 ∧ Rg 0 100 r)) ([.ref x, .long a0] : List Value).toArray s 0 0 (Al_ L)) D cy (Al_ L) s.heap L κ ln R I J 2 [(0, .ref x), (1, .long y_394758), (3, .int v_394759)] [] := by
    intro n_2
    induction n_2 with
    | zero =>
      intro y_394758 v_394759 rv_394759 hm_394760
      exact ms_0 rv_394759 hm_394760
    | succ n_2 ih_2 =>
      intro y_394758 v_394759 rv_394759 hm_394760
      refine g_iload_n C 2 dX10_tokenOfWord_2 rfl rfl ?_
      refine g_bipush C (v := 28) dX10_tokenOfWord_3 (by decide) ?_
      refine g_icmp_ge C (tgt := 27) dX10_tokenOfWord_5 (by decide) (fun h_394761 => ?_) (fun h_394761 => ?_)
      · skip
        have r_394762 := le_r (h_394761) rc_28 rv_394759
        refine g_bipush C (v := 100) dX10_tokenOfWord_27 (by decide) ?_
        exact g_zret (ty := .int) (r := 100) B K rfl (rfl) ⟨rfl, rfl, rg_w rc_100 (by decide) (by decide)⟩ dX10_tokenOfWord_29
      · skip
        have r_394763 := lt_l (hi := 27) (nle h_394761) rv_394759 rc_28 (by decide)
        refine g_aload_n C 0 dX10_tokenOfWord_8 rfl rfl ?_
        refine g_getR C K hLx hkx f_10_15 hb_394757 dX10_tokenOfWord_9 ?_
        refine g_iload_n C 2 dX10_tokenOfWord_12 rfl rfl ?_
        obtain ⟨y_394764, hy_394764⟩ : ∃ z, J b_394757 (v_394759.toNatClampNeg) = z := ⟨_, rfl⟩
        refine h_lald C K hb_394757L hb_394757k (v := y_394764) (v_394759.toNatClampNeg) (rfl) (ix_0 r_394763 (by decide)) (ix_lt r_394763 (by decide) hb_394757n (by decide)) hy_394764 dX10_tokenOfWord_13 ?_
        refine g_lload_n C 1 dX10_tokenOfWord_14 rfl rfl ?_
        refine g_lcmp C dX10_tokenOfWord_15 (fun x_394765 rx_394765 => ?_)
        refine g_if_ne C (tgt := 21) dX10_tokenOfWord_16 (by decide) (fun h_394766 => ?_) (fun h_394766 => ?_)
        · skip
          have n_394767 : ¬ x_394765 = 0 := h_394766
          obtain ⟨x_394768, hx_394768, rx_394768, tx_394768⟩ := ex_add (y := 1) 1 28 r_394763 rc_1 (by decide) (by decide) (by decide) (by decide)
          refine g_iinc C dX10_tokenOfWord_21 (k := 2) (v := x_394768) rfl hx_394768 (by decide) (lo2 := [(3, .int x_394768), (0, .ref x), (1, .long y_394758)]) rfl ?_
          refine g_goto C (tgt := 2) dX10_tokenOfWord_24 (by decide) ?_
          refine g_lo (is := [1, 2, 0]) (lo2 := [(0, .ref x), (1, .long y_394758), (3, .int x_394768)]) rfl ?_
          exact ih_2 y_394758 x_394768 (rg_w rx_394768 (by decide) (by decide)) (ms_1 hm_394760 (ti_k tx_394768 rc_1) (by decide))
        · skip
          have r_394769 := (⟨(eq_rg (h_394766) rc_0).1, (eq_rg (h_394766) rc_0).2⟩ : Rg 0 0 x_394765)
          refine g_iload_n C 2 dX10_tokenOfWord_19 rfl rfl ?_
          exact g_zret (ty := .int) (r := v_394759) B K rfl (rfl) ⟨rfl, rfl, rg_w r_394763 (by decide) (by decide)⟩ dX10_tokenOfWord_20
  refine g_iconst C (v := 0) dX10_tokenOfWord_0 (by decide) ?_
  refine g_istore_n C dX10_tokenOfWord_1 rfl (by decide) (lo2 := [(3, .int 0), (0, .ref x), (1, .long a0)]) rfl ?_
  refine g_lo (is := [1, 2, 0]) (lo2 := [(0, .ref x), (1, .long a0), (3, .int 0)]) rfl ?_
  exact l_2 29 a0 0 (rg_w rc_0 (by decide) (by decide)) (ms_s (a := 0) (b := 28) (N := 29) (rg_w rc_0 (by decide) (by decide)) (by decide))
set_option maxRecDepth 100000 in
set_option maxHeartbeats 8000000 in
theorem c_X10_withLetter {l : Launch} {D : va_G} {cy : Nat → ClassId} {L : List Nat} {κ ln : Nat → Nat} {R : Nat → Nat → Option Nat} {I : Nat → Nat → Int32} {J : Nat → Nat → Int64} {ow : Nat → Nat × Nat} (W9 : ∀ a ∈ L, Shp L κ ln R ow a) (a0 : Int64) (a1 : Int32) (ra1 : Rg (-128) 127 a1) (hU : Uv L κ ow I) : CtL l yX10_withLetter cX10_withLetter 3 (some .long) { frames := 0, cells := 0, slots := 0, locals := 0 } D cy L κ ln R I J [.long a0, .int a1] (fun r I2 J2 => I = I2 ∧ J = J2) := by
  refine CtL.of (by decide +kernel) (Nat.le_of_ble_eq_true rfl) ?_
  intro p e s m below meth c B K
  have C := B.1
  refine g_lo (is := [0, 1]) (lo2 := [(0, .long a0), (2, .int a1)]) rfl ?_
  refine g_lload_n C 0 dX10_withLetter_0 rfl rfl ?_
  refine g_iconst C (v := 5) dX10_withLetter_1 (by decide) ?_
  refine g_lshl C dX10_withLetter_2 (fun y_394780 => ?_)
  refine g_iload_n C 1 dX10_withLetter_3 rfl rfl ?_
  refine g_bipush C (v := 97) dX10_withLetter_4 (by decide) ?_
  obtain ⟨x_394781, hx_394781, rx_394781, tx_394781⟩ := ex_sub (-225) 30 ra1 rc_97 (by decide) (by decide) (by decide) (by decide)
  refine g_isub C (v := x_394781) dX10_withLetter_6 hx_394781 ?_
  refine g_iconst C (v := 1) dX10_withLetter_7 (by decide) ?_
  obtain ⟨x_394782, hx_394782, rx_394782, tx_394782⟩ := ex_add (-224) 31 rx_394781 rc_1 (by decide) (by decide) (by decide) (by decide)
  refine g_iadd C (v := x_394782) dX10_withLetter_8 hx_394782 ?_
  obtain ⟨y_394783, hy_394783⟩ : ∃ z, Int32.toInt64 x_394782 = z := ⟨_, rfl⟩
  refine g_i2l C (v := y_394783) dX10_withLetter_9 hy_394783 ?_
  refine g_lor C dX10_withLetter_10 (fun y_394784 => ?_)
  exact g_lret (r := y_394784) B K rfl ⟨rfl, rfl⟩ dX10_withLetter_11
