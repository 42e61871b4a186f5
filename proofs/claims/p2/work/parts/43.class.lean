theorem dX10_add_0 : decode cX10_add 0 = .ok (.bipush 24, 2) := by decide +kernel
theorem dX10_add_2 : decode cX10_add 2 = .ok (.istore_n 2, 1) := by decide +kernel
theorem dX10_add_3 : decode cX10_add 3 = .ok (.iload_n 2, 1) := by decide +kernel
theorem dX10_add_4 : decode cX10_add 4 = .ok (.ifCond .lt 44, 3) := by decide +kernel
theorem dX10_add_7 : decode cX10_add 7 = .ok (.aload_n 0, 1) := by decide +kernel
theorem dX10_add_8 : decode cX10_add 8 = .ok (.getfield 29, 3) := by decide +kernel
theorem dX10_add_11 : decode cX10_add 11 = .ok (.aload_n 0, 1) := by decide +kernel
theorem dX10_add_12 : decode cX10_add 12 = .ok (.getfield 9, 3) := by decide +kernel
theorem dX10_add_15 : decode cX10_add 15 = .ok (.arraylength, 1) := by decide +kernel
theorem dX10_add_16 : decode cX10_add 16 = .ok (.if_icmp .ge 32, 3) := by decide +kernel
theorem dX10_add_19 : decode cX10_add 19 = .ok (.aload_n 0, 1) := by decide +kernel
theorem dX10_add_20 : decode cX10_add 20 = .ok (.getfield 9, 3) := by decide +kernel
theorem dX10_add_23 : decode cX10_add 23 = .ok (.aload_n 0, 1) := by decide +kernel
theorem dX10_add_24 : decode cX10_add 24 = .ok (.getfield 29, 3) := by decide +kernel
theorem dX10_add_27 : decode cX10_add 27 = .ok (.iload_n 1, 1) := by decide +kernel
theorem dX10_add_28 : decode cX10_add 28 = .ok (.iload_n 2, 1) := by decide +kernel
theorem dX10_add_29 : decode cX10_add 29 = .ok (.ishr, 1) := by decide +kernel
theorem dX10_add_30 : decode cX10_add 30 = .ok (.i2b, 1) := by decide +kernel
theorem dX10_add_31 : decode cX10_add 31 = .ok (.bastore, 1) := by decide +kernel
theorem dX10_add_32 : decode cX10_add 32 = .ok (.aload_n 0, 1) := by decide +kernel
theorem dX10_add_33 : decode cX10_add 33 = .ok (.dup, 1) := by decide +kernel
theorem dX10_add_34 : decode cX10_add 34 = .ok (.getfield 29, 3) := by decide +kernel
theorem dX10_add_37 : decode cX10_add 37 = .ok (.iconst 1, 1) := by decide +kernel
theorem dX10_add_38 : decode cX10_add 38 = .ok (.iadd, 1) := by decide +kernel
theorem dX10_add_39 : decode cX10_add 39 = .ok (.putfield 29, 3) := by decide +kernel
theorem dX10_add_42 : decode cX10_add 42 = .ok (.iinc 2 (-8), 3) := by decide +kernel
theorem dX10_add_45 : decode cX10_add 45 = .ok (.goto (-42), 3) := by decide +kernel
theorem dX10_add_48 : decode cX10_add 48 = .ok (.return_, 1) := by decide +kernel
theorem dX10_addToken_0 : decode cX10_addToken 0 = .ok (.aload_n 0, 1) := by decide +kernel
theorem dX10_addToken_1 : decode cX10_addToken 1 = .ok (.getfield 33, 3) := by decide +kernel
theorem dX10_addToken_4 : decode cX10_addToken 4 = .ok (.aload_n 0, 1) := by decide +kernel
theorem dX10_addToken_5 : decode cX10_addToken 5 = .ok (.getfield 19, 3) := by decide +kernel
theorem dX10_addToken_8 : decode cX10_addToken 8 = .ok (.arraylength, 1) := by decide +kernel
theorem dX10_addToken_9 : decode cX10_addToken 9 = .ok (.if_icmp .ge 43, 3) := by decide +kernel
theorem dX10_addToken_12 : decode cX10_addToken 12 = .ok (.aload_n 0, 1) := by decide +kernel
theorem dX10_addToken_13 : decode cX10_addToken 13 = .ok (.getfield 19, 3) := by decide +kernel
theorem dX10_addToken_16 : decode cX10_addToken 16 = .ok (.aload_n 0, 1) := by decide +kernel
theorem dX10_addToken_17 : decode cX10_addToken 17 = .ok (.getfield 33, 3) := by decide +kernel
theorem dX10_addToken_20 : decode cX10_addToken 20 = .ok (.iload_n 1, 1) := by decide +kernel
theorem dX10_addToken_21 : decode cX10_addToken 21 = .ok (.iastore, 1) := by decide +kernel
theorem dX10_addToken_22 : decode cX10_addToken 22 = .ok (.aload_n 0, 1) := by decide +kernel
theorem dX10_addToken_23 : decode cX10_addToken 23 = .ok (.getfield 23, 3) := by decide +kernel
theorem dX10_addToken_26 : decode cX10_addToken 26 = .ok (.aload_n 0, 1) := by decide +kernel
theorem dX10_addToken_27 : decode cX10_addToken 27 = .ok (.getfield 33, 3) := by decide +kernel
theorem dX10_addToken_30 : decode cX10_addToken 30 = .ok (.iload_n 2, 1) := by decide +kernel
theorem dX10_addToken_31 : decode cX10_addToken 31 = .ok (.iastore, 1) := by decide +kernel
theorem dX10_addToken_32 : decode cX10_addToken 32 = .ok (.aload_n 0, 1) := by decide +kernel
theorem dX10_addToken_33 : decode cX10_addToken 33 = .ok (.getfield 26, 3) := by decide +kernel
theorem dX10_addToken_36 : decode cX10_addToken 36 = .ok (.aload_n 0, 1) := by decide +kernel
theorem dX10_addToken_37 : decode cX10_addToken 37 = .ok (.getfield 33, 3) := by decide +kernel
theorem dX10_addToken_40 : decode cX10_addToken 40 = .ok (.lload_n 3, 1) := by decide +kernel
theorem dX10_addToken_41 : decode cX10_addToken 41 = .ok (.lastore, 1) := by decide +kernel
theorem dX10_addToken_42 : decode cX10_addToken 42 = .ok (.aload_n 0, 1) := by decide +kernel
theorem dX10_addToken_43 : decode cX10_addToken 43 = .ok (.dup, 1) := by decide +kernel
theorem dX10_addToken_44 : decode cX10_addToken 44 = .ok (.getfield 33, 3) := by decide +kernel
theorem dX10_addToken_47 : decode cX10_addToken 47 = .ok (.iconst 1, 1) := by decide +kernel
theorem dX10_addToken_48 : decode cX10_addToken 48 = .ok (.iadd, 1) := by decide +kernel
theorem dX10_addToken_49 : decode cX10_addToken 49 = .ok (.putfield 33, 3) := by decide +kernel
theorem dX10_addToken_52 : decode cX10_addToken 52 = .ok (.return_, 1) := by decide +kernel
theorem dX10_advance_0 : decode cX10_advance 0 = .ok (.aload_n 0, 1) := by decide +kernel
theorem dX10_advance_1 : decode cX10_advance 1 = .ok (.getfield 36, 3) := by decide +kernel
theorem dX10_advance_4 : decode cX10_advance 4 = .ok (.iconst 1, 1) := by decide +kernel
theorem dX10_advance_5 : decode cX10_advance 5 = .ok (.iadd, 1) := by decide +kernel
theorem dX10_advance_6 : decode cX10_advance 6 = .ok (.aload_n 0, 1) := by decide +kernel
theorem dX10_advance_7 : decode cX10_advance 7 = .ok (.getfield 33, 3) := by decide +kernel
theorem dX10_advance_10 : decode cX10_advance 10 = .ok (.if_icmp .ge 52, 3) := by decide +kernel
theorem dX10_advance_13 : decode cX10_advance 13 = .ok (.aload_n 0, 1) := by decide +kernel
theorem dX10_advance_14 : decode cX10_advance 14 = .ok (.dup, 1) := by decide +kernel
theorem dX10_advance_15 : decode cX10_advance 15 = .ok (.getfield 36, 3) := by decide +kernel
theorem dX10_advance_18 : decode cX10_advance 18 = .ok (.iconst 1, 1) := by decide +kernel
theorem dX10_advance_19 : decode cX10_advance 19 = .ok (.iadd, 1) := by decide +kernel
theorem dX10_advance_20 : decode cX10_advance 20 = .ok (.putfield 36, 3) := by decide +kernel
theorem dX10_advance_23 : decode cX10_advance 23 = .ok (.aload_n 0, 1) := by decide +kernel
theorem dX10_advance_24 : decode cX10_advance 24 = .ok (.aload_n 0, 1) := by decide +kernel
theorem dX10_advance_25 : decode cX10_advance 25 = .ok (.getfield 19, 3) := by decide +kernel
theorem dX10_advance_28 : decode cX10_advance 28 = .ok (.aload_n 0, 1) := by decide +kernel
theorem dX10_advance_29 : decode cX10_advance 29 = .ok (.getfield 36, 3) := by decide +kernel
theorem dX10_advance_32 : decode cX10_advance 32 = .ok (.iaload, 1) := by decide +kernel
theorem dX10_advance_33 : decode cX10_advance 33 = .ok (.putfield 39, 3) := by decide +kernel
theorem dX10_advance_36 : decode cX10_advance 36 = .ok (.aload_n 0, 1) := by decide +kernel
theorem dX10_advance_37 : decode cX10_advance 37 = .ok (.aload_n 0, 1) := by decide +kernel
theorem dX10_advance_38 : decode cX10_advance 38 = .ok (.getfield 23, 3) := by decide +kernel
theorem dX10_advance_41 : decode cX10_advance 41 = .ok (.aload_n 0, 1) := by decide +kernel
theorem dX10_advance_42 : decode cX10_advance 42 = .ok (.getfield 36, 3) := by decide +kernel
theorem dX10_advance_45 : decode cX10_advance 45 = .ok (.iaload, 1) := by decide +kernel
theorem dX10_advance_46 : decode cX10_advance 46 = .ok (.putfield 42, 3) := by decide +kernel
theorem dX10_advance_49 : decode cX10_advance 49 = .ok (.aload_n 0, 1) := by decide +kernel
theorem dX10_advance_50 : decode cX10_advance 50 = .ok (.aload_n 0, 1) := by decide +kernel
theorem dX10_advance_51 : decode cX10_advance 51 = .ok (.getfield 26, 3) := by decide +kernel
theorem dX10_advance_54 : decode cX10_advance 54 = .ok (.aload_n 0, 1) := by decide +kernel
theorem dX10_advance_55 : decode cX10_advance 55 = .ok (.getfield 36, 3) := by decide +kernel
theorem dX10_advance_58 : decode cX10_advance 58 = .ok (.laload, 1) := by decide +kernel
theorem dX10_advance_59 : decode cX10_advance 59 = .ok (.putfield 45, 3) := by decide +kernel
theorem dX10_advance_62 : decode cX10_advance 62 = .ok (.return_, 1) := by decide +kernel
theorem dX10_isDigit_0 : decode cX10_isDigit 0 = .ok (.iload_n 0, 1) := by decide +kernel
theorem dX10_isDigit_1 : decode cX10_isDigit 1 = .ok (.bipush 48, 2) := by decide +kernel
theorem dX10_isDigit_3 : decode cX10_isDigit 3 = .ok (.if_icmp .lt 13, 3) := by decide +kernel
theorem dX10_isDigit_6 : decode cX10_isDigit 6 = .ok (.iload_n 0, 1) := by decide +kernel
theorem dX10_isDigit_7 : decode cX10_isDigit 7 = .ok (.bipush 57, 2) := by decide +kernel
theorem dX10_isDigit_9 : decode cX10_isDigit 9 = .ok (.if_icmp .gt 7, 3) := by decide +kernel
theorem dX10_isDigit_12 : decode cX10_isDigit 12 = .ok (.iconst 1, 1) := by decide +kernel
theorem dX10_isDigit_13 : decode cX10_isDigit 13 = .ok (.goto 4, 3) := by decide +kernel
theorem dX10_isDigit_16 : decode cX10_isDigit 16 = .ok (.iconst 0, 1) := by decide +kernel
theorem dX10_isDigit_17 : decode cX10_isDigit 17 = .ok (.ireturn, 1) := by decide +kernel
theorem dX10_isLetter_0 : decode cX10_isLetter 0 = .ok (.iload_n 0, 1) := by decide +kernel
theorem dX10_isLetter_1 : decode cX10_isLetter 1 = .ok (.bipush 97, 2) := by decide +kernel
theorem dX10_isLetter_3 : decode cX10_isLetter 3 = .ok (.if_icmp .lt 13, 3) := by decide +kernel
theorem dX10_isLetter_6 : decode cX10_isLetter 6 = .ok (.iload_n 0, 1) := by decide +kernel
theorem dX10_isLetter_7 : decode cX10_isLetter 7 = .ok (.bipush 122, 2) := by decide +kernel
theorem dX10_isLetter_9 : decode cX10_isLetter 9 = .ok (.if_icmp .gt 7, 3) := by decide +kernel
theorem dX10_isLetter_12 : decode cX10_isLetter 12 = .ok (.iconst 1, 1) := by decide +kernel
theorem dX10_isLetter_13 : decode cX10_isLetter 13 = .ok (.goto 4, 3) := by decide +kernel
theorem dX10_isLetter_16 : decode cX10_isLetter 16 = .ok (.iconst 0, 1) := by decide +kernel
theorem dX10_isLetter_17 : decode cX10_isLetter 17 = .ok (.ireturn, 1) := by decide +kernel
theorem dX10_isSign_0 : decode cX10_isSign 0 = .ok (.iload_n 0, 1) := by decide +kernel
theorem dX10_isSign_1 : decode cX10_isSign 1 = .ok (.bipush 40, 2) := by decide +kernel
theorem dX10_isSign_3 : decode cX10_isSign 3 = .ok (.if_icmp .eq 21, 3) := by decide +kernel
theorem dX10_isSign_6 : decode cX10_isSign 6 = .ok (.iload_n 0, 1) := by decide +kernel
theorem dX10_isSign_7 : decode cX10_isSign 7 = .ok (.bipush 41, 2) := by decide +kernel
theorem dX10_isSign_9 : decode cX10_isSign 9 = .ok (.if_icmp .eq 15, 3) := by decide +kernel
theorem dX10_isSign_12 : decode cX10_isSign 12 = .ok (.iload_n 0, 1) := by decide +kernel
theorem dX10_isSign_13 : decode cX10_isSign 13 = .ok (.bipush 59, 2) := by decide +kernel
theorem dX10_isSign_15 : decode cX10_isSign 15 = .ok (.if_icmp .lt 13, 3) := by decide +kernel
theorem dX10_isSign_18 : decode cX10_isSign 18 = .ok (.iload_n 0, 1) := by decide +kernel
theorem dX10_isSign_19 : decode cX10_isSign 19 = .ok (.bipush 62, 2) := by decide +kernel
theorem dX10_isSign_21 : decode cX10_isSign 21 = .ok (.if_icmp .gt 7, 3) := by decide +kernel
theorem dX10_isSign_24 : decode cX10_isSign 24 = .ok (.iconst 1, 1) := by decide +kernel
theorem dX10_isSign_25 : decode cX10_isSign 25 = .ok (.goto 4, 3) := by decide +kernel
theorem dX10_isSign_28 : decode cX10_isSign 28 = .ok (.iconst 0, 1) := by decide +kernel
theorem dX10_isSign_29 : decode cX10_isSign 29 = .ok (.ireturn, 1) := by decide +kernel
theorem dX10_tokenOfWord_0 : decode cX10_tokenOfWord 0 = .ok (.iconst 0, 1) := by decide +kernel
theorem dX10_tokenOfWord_1 : decode cX10_tokenOfWord 1 = .ok (.istore_n 3, 1) := by decide +kernel
theorem dX10_tokenOfWord_2 : decode cX10_tokenOfWord 2 = .ok (.iload_n 3, 1) := by decide +kernel
theorem dX10_tokenOfWord_3 : decode cX10_tokenOfWord 3 = .ok (.bipush 28, 2) := by decide +kernel
theorem dX10_tokenOfWord_5 : decode cX10_tokenOfWord 5 = .ok (.if_icmp .ge 22, 3) := by decide +kernel
theorem dX10_tokenOfWord_8 : decode cX10_tokenOfWord 8 = .ok (.aload_n 0, 1) := by decide +kernel
theorem dX10_tokenOfWord_9 : decode cX10_tokenOfWord 9 = .ok (.getfield 15, 3) := by decide +kernel
theorem dX10_tokenOfWord_12 : decode cX10_tokenOfWord 12 = .ok (.iload_n 3, 1) := by decide +kernel
theorem dX10_tokenOfWord_13 : decode cX10_tokenOfWord 13 = .ok (.laload, 1) := by decide +kernel
theorem dX10_tokenOfWord_14 : decode cX10_tokenOfWord 14 = .ok (.lload_n 1, 1) := by decide +kernel
theorem dX10_tokenOfWord_15 : decode cX10_tokenOfWord 15 = .ok (.lcmp, 1) := by decide +kernel
theorem dX10_tokenOfWord_16 : decode cX10_tokenOfWord 16 = .ok (.ifCond .ne 5, 3) := by decide +kernel
theorem dX10_tokenOfWord_19 : decode cX10_tokenOfWord 19 = .ok (.iload_n 3, 1) := by decide +kernel
theorem dX10_tokenOfWord_20 : decode cX10_tokenOfWord 20 = .ok (.ireturn, 1) := by decide +kernel
theorem dX10_tokenOfWord_21 : decode cX10_tokenOfWord 21 = .ok (.iinc 3 1, 3) := by decide +kernel
theorem dX10_tokenOfWord_24 : decode cX10_tokenOfWord 24 = .ok (.goto (-22), 3) := by decide +kernel
theorem dX10_tokenOfWord_27 : decode cX10_tokenOfWord 27 = .ok (.bipush 100, 2) := by decide +kernel
theorem dX10_tokenOfWord_29 : decode cX10_tokenOfWord 29 = .ok (.ireturn, 1) := by decide +kernel
theorem dX10_withLetter_0 : decode cX10_withLetter 0 = .ok (.lload_n 0, 1) := by decide +kernel
theorem dX10_withLetter_1 : decode cX10_withLetter 1 = .ok (.iconst 5, 1) := by decide +kernel
theorem dX10_withLetter_2 : decode cX10_withLetter 2 = .ok (.lshl, 1) := by decide +kernel
theorem dX10_withLetter_3 : decode cX10_withLetter 3 = .ok (.iload_n 2, 1) := by decide +kernel
theorem dX10_withLetter_4 : decode cX10_withLetter 4 = .ok (.bipush 97, 2) := by decide +kernel
theorem dX10_withLetter_6 : decode cX10_withLetter 6 = .ok (.isub, 1) := by decide +kernel
theorem dX10_withLetter_7 : decode cX10_withLetter 7 = .ok (.iconst 1, 1) := by decide +kernel
theorem dX10_withLetter_8 : decode cX10_withLetter 8 = .ok (.iadd, 1) := by decide +kernel
theorem dX10_withLetter_9 : decode cX10_withLetter 9 = .ok (.i2l, 1) := by decide +kernel
theorem dX10_withLetter_10 : decode cX10_withLetter 10 = .ok (.lor, 1) := by decide +kernel
theorem dX10_withLetter_11 : decode cX10_withLetter 11 = .ok (.lreturn, 1) := by decide +kernel
theorem dX11_end_0 : decode cX11_end 0 = .ok (.iload_n 1, 1) := by decide +kernel
theorem dX11_end_1 : decode cX11_end 1 = .ok (.ifCond .lt 14, 3) := by decide +kernel
theorem dX11_end_4 : decode cX11_end 4 = .ok (.iload_n 1, 1) := by decide +kernel
theorem dX11_end_5 : decode cX11_end 5 = .ok (.aload_n 0, 1) := by decide +kernel
theorem dX11_end_6 : decode cX11_end 6 = .ok (.getfield 10, 3) := by decide +kernel
theorem dX11_end_9 : decode cX11_end 9 = .ok (.getfield 102, 3) := by decide +kernel
theorem dX11_end_12 : decode cX11_end 12 = .ok (.if_icmp .le 5, 3) := by decide +kernel
theorem dX11_end_15 : decode cX11_end 15 = .ok (.iconst 0, 1) := by decide +kernel
theorem dX11_end_16 : decode cX11_end 16 = .ok (.ireturn, 1) := by decide +kernel
theorem dX11_end_17 : decode cX11_end 17 = .ok (.aload_n 0, 1) := by decide +kernel
theorem dX11_end_18 : decode cX11_end 18 = .ok (.getfield 10, 3) := by decide +kernel
theorem dX11_end_21 : decode cX11_end 21 = .ok (.iload_n 1, 1) := by decide +kernel
theorem dX11_end_22 : decode cX11_end 22 = .ok (.putfield 102, 3) := by decide +kernel
theorem dX11_end_25 : decode cX11_end 25 = .ok (.iconst 1, 1) := by decide +kernel
theorem dX11_end_26 : decode cX11_end 26 = .ok (.ireturn, 1) := by decide +kernel
theorem dX11_feed_0 : decode cX11_feed 0 = .ok (.aload_n 0, 1) := by decide +kernel
theorem dX11_feed_1 : decode cX11_feed 1 = .ok (.getfield 10, 3) := by decide +kernel
theorem dX11_feed_4 : decode cX11_feed 4 = .ok (.getfield 102, 3) := by decide +kernel
theorem dX11_feed_7 : decode cX11_feed 7 = .ok (.sipush 920, 3) := by decide +kernel
theorem dX11_feed_10 : decode cX11_feed 10 = .ok (.if_icmp .le 5, 3) := by decide +kernel
theorem dX11_feed_13 : decode cX11_feed 13 = .ok (.iconst (-1), 1) := by decide +kernel
theorem dX11_feed_14 : decode cX11_feed 14 = .ok (.ireturn, 1) := by decide +kernel
theorem dX11_feed_15 : decode cX11_feed 15 = .ok (.aload_n 0, 1) := by decide +kernel
theorem dX11_feed_16 : decode cX11_feed 16 = .ok (.getfield 10, 3) := by decide +kernel
theorem dX11_feed_19 : decode cX11_feed 19 = .ok (.iload_n 1, 1) := by decide +kernel
theorem dX11_feed_20 : decode cX11_feed 20 = .ok (.invokevirtual 105, 3) := by decide +kernel
theorem dX11_feed_23 : decode cX11_feed 23 = .ok (.aload_n 0, 1) := by decide +kernel
theorem dX11_feed_24 : decode cX11_feed 24 = .ok (.getfield 10, 3) := by decide +kernel
theorem dX11_feed_27 : decode cX11_feed 27 = .ok (.iload_n 2, 1) := by decide +kernel
theorem dX11_feed_28 : decode cX11_feed 28 = .ok (.invokevirtual 105, 3) := by decide +kernel
theorem dX11_feed_31 : decode cX11_feed 31 = .ok (.aload_n 0, 1) := by decide +kernel
theorem dX11_feed_32 : decode cX11_feed 32 = .ok (.getfield 10, 3) := by decide +kernel
theorem dX11_feed_35 : decode cX11_feed 35 = .ok (.iload_n 3, 1) := by decide +kernel
theorem dX11_feed_36 : decode cX11_feed 36 = .ok (.invokevirtual 105, 3) := by decide +kernel
theorem dX11_feed_39 : decode cX11_feed 39 = .ok (.aload_n 0, 1) := by decide +kernel
theorem dX11_feed_40 : decode cX11_feed 40 = .ok (.getfield 10, 3) := by decide +kernel
theorem dX11_feed_43 : decode cX11_feed 43 = .ok (.iload 4, 2) := by decide +kernel
theorem dX11_feed_45 : decode cX11_feed 45 = .ok (.invokevirtual 105, 3) := by decide +kernel
theorem dX11_feed_48 : decode cX11_feed 48 = .ok (.aload_n 0, 1) := by decide +kernel
theorem dX11_feed_49 : decode cX11_feed 49 = .ok (.getfield 10, 3) := by decide +kernel
theorem dX11_feed_52 : decode cX11_feed 52 = .ok (.iload 5, 2) := by decide +kernel
theorem dX11_feed_54 : decode cX11_feed 54 = .ok (.invokevirtual 105, 3) := by decide +kernel
theorem dX11_feed_57 : decode cX11_feed 57 = .ok (.aload_n 0, 1) := by decide +kernel
theorem dX11_feed_58 : decode cX11_feed 58 = .ok (.getfield 10, 3) := by decide +kernel
theorem dX11_feed_61 : decode cX11_feed 61 = .ok (.getfield 102, 3) := by decide +kernel
theorem dX11_feed_64 : decode cX11_feed 64 = .ok (.ireturn, 1) := by decide +kernel
theorem dX1_become_0 : decode cX1_become 0 = .ok (.aload_n 1, 1) := by decide +kernel
theorem dX1_become_1 : decode cX1_become 1 = .ok (.getfield 9, 3) := by decide +kernel
theorem dX1_become_4 : decode cX1_become 4 = .ok (.iconst 0, 1) := by decide +kernel
theorem dX1_become_5 : decode cX1_become 5 = .ok (.aload_n 0, 1) := by decide +kernel
theorem dX1_become_6 : decode cX1_become 6 = .ok (.getfield 9, 3) := by decide +kernel
theorem dX1_become_9 : decode cX1_become 9 = .ok (.iconst 0, 1) := by decide +kernel
theorem dX1_become_10 : decode cX1_become 10 = .ok (.bipush 6, 2) := by decide +kernel
theorem dX1_become_12 : decode cX1_become 12 = .ok (.invokestatic 56, 3) := by decide +kernel
theorem dX1_become_15 : decode cX1_become 15 = .ok (.aload_n 1, 1) := by decide +kernel
theorem dX1_become_16 : decode cX1_become 16 = .ok (.getfield 15, 3) := by decide +kernel
theorem dX1_become_19 : decode cX1_become 19 = .ok (.iconst 0, 1) := by decide +kernel
theorem dX1_become_20 : decode cX1_become 20 = .ok (.aload_n 0, 1) := by decide +kernel
theorem dX1_become_21 : decode cX1_become 21 = .ok (.getfield 15, 3) := by decide +kernel
theorem dX1_become_24 : decode cX1_become 24 = .ok (.iconst 0, 1) := by decide +kernel
theorem dX1_become_25 : decode cX1_become 25 = .ok (.bipush 42, 2) := by decide +kernel
theorem dX1_become_27 : decode cX1_become 27 = .ok (.invokestatic 56, 3) := by decide +kernel
theorem dX1_become_30 : decode cX1_become 30 = .ok (.aload_n 1, 1) := by decide +kernel
theorem dX1_become_31 : decode cX1_become 31 = .ok (.getfield 18, 3) := by decide +kernel
theorem dX1_become_34 : decode cX1_become 34 = .ok (.iconst 0, 1) := by decide +kernel
theorem dX1_become_35 : decode cX1_become 35 = .ok (.aload_n 0, 1) := by decide +kernel
theorem dX1_become_36 : decode cX1_become 36 = .ok (.getfield 18, 3) := by decide +kernel
theorem dX1_become_39 : decode cX1_become 39 = .ok (.iconst 0, 1) := by decide +kernel
theorem dX1_become_40 : decode cX1_become 40 = .ok (.bipush 7, 2) := by decide +kernel
theorem dX1_become_42 : decode cX1_become 42 = .ok (.invokestatic 56, 3) := by decide +kernel
theorem dX1_become_45 : decode cX1_become 45 = .ok (.aload_n 1, 1) := by decide +kernel
theorem dX1_become_46 : decode cX1_become 46 = .ok (.getfield 21, 3) := by decide +kernel
theorem dX1_become_49 : decode cX1_become 49 = .ok (.iconst 0, 1) := by decide +kernel
theorem dX1_become_50 : decode cX1_become 50 = .ok (.aload_n 0, 1) := by decide +kernel
theorem dX1_become_51 : decode cX1_become 51 = .ok (.getfield 21, 3) := by decide +kernel
theorem dX1_become_54 : decode cX1_become 54 = .ok (.iconst 0, 1) := by decide +kernel
theorem dX1_become_55 : decode cX1_become 55 = .ok (.bipush 7, 2) := by decide +kernel
theorem dX1_become_57 : decode cX1_become 57 = .ok (.invokestatic 56, 3) := by decide +kernel
theorem dX1_become_60 : decode cX1_become 60 = .ok (.aload_n 1, 1) := by decide +kernel
theorem dX1_become_61 : decode cX1_become 61 = .ok (.getfield 24, 3) := by decide +kernel
theorem dX1_become_64 : decode cX1_become 64 = .ok (.iconst 0, 1) := by decide +kernel
theorem dX1_become_65 : decode cX1_become 65 = .ok (.aload_n 0, 1) := by decide +kernel
theorem dX1_become_66 : decode cX1_become 66 = .ok (.getfield 24, 3) := by decide +kernel
theorem dX1_become_69 : decode cX1_become 69 = .ok (.iconst 0, 1) := by decide +kernel
theorem dX1_become_70 : decode cX1_become 70 = .ok (.bipush 7, 2) := by decide +kernel
theorem dX1_become_72 : decode cX1_become 72 = .ok (.invokestatic 56, 3) := by decide +kernel
theorem dX1_become_75 : decode cX1_become 75 = .ok (.aload_n 1, 1) := by decide +kernel
theorem dX1_become_76 : decode cX1_become 76 = .ok (.getfield 27, 3) := by decide +kernel
theorem dX1_become_79 : decode cX1_become 79 = .ok (.iconst 0, 1) := by decide +kernel
theorem dX1_become_80 : decode cX1_become 80 = .ok (.aload_n 0, 1) := by decide +kernel
theorem dX1_become_81 : decode cX1_become 81 = .ok (.getfield 27, 3) := by decide +kernel
theorem dX1_become_84 : decode cX1_become 84 = .ok (.iconst 0, 1) := by decide +kernel
theorem dX1_become_85 : decode cX1_become 85 = .ok (.bipush 7, 2) := by decide +kernel
theorem dX1_become_87 : decode cX1_become 87 = .ok (.invokestatic 56, 3) := by decide +kernel
theorem dX1_become_90 : decode cX1_become 90 = .ok (.aload_n 0, 1) := by decide +kernel
theorem dX1_become_91 : decode cX1_become 91 = .ok (.aload_n 1, 1) := by decide +kernel
theorem dX1_become_92 : decode cX1_become 92 = .ok (.getfield 30, 3) := by decide +kernel
theorem dX1_become_95 : decode cX1_become 95 = .ok (.putfield 30, 3) := by decide +kernel
theorem dX1_become_98 : decode cX1_become 98 = .ok (.aload_n 0, 1) := by decide +kernel
theorem dX1_become_99 : decode cX1_become 99 = .ok (.aload_n 1, 1) := by decide +kernel
theorem dX1_become_100 : decode cX1_become 100 = .ok (.getfield 34, 3) := by decide +kernel
theorem dX1_become_103 : decode cX1_become 103 = .ok (.putfield 34, 3) := by decide +kernel
theorem dX1_become_106 : decode cX1_become 106 = .ok (.aload_n 0, 1) := by decide +kernel
theorem dX1_become_107 : decode cX1_become 107 = .ok (.aload_n 1, 1) := by decide +kernel
theorem dX1_become_108 : decode cX1_become 108 = .ok (.getfield 37, 3) := by decide +kernel
theorem dX1_become_111 : decode cX1_become 111 = .ok (.putfield 37, 3) := by decide +kernel
theorem dX1_become_114 : decode cX1_become 114 = .ok (.aload_n 0, 1) := by decide +kernel
theorem dX1_become_115 : decode cX1_become 115 = .ok (.aload_n 1, 1) := by decide +kernel
theorem dX1_become_116 : decode cX1_become 116 = .ok (.getfield 40, 3) := by decide +kernel
theorem dX1_become_119 : decode cX1_become 119 = .ok (.putfield 40, 3) := by decide +kernel
theorem dX1_become_122 : decode cX1_become 122 = .ok (.aload_n 0, 1) := by decide +kernel
theorem dX1_become_123 : decode cX1_become 123 = .ok (.aload_n 1, 1) := by decide +kernel
theorem dX1_become_124 : decode cX1_become 124 = .ok (.getfield 43, 3) := by decide +kernel
theorem dX1_become_127 : decode cX1_become 127 = .ok (.putfield 43, 3) := by decide +kernel
theorem dX1_become_130 : decode cX1_become 130 = .ok (.aload_n 0, 1) := by decide +kernel
theorem dX1_become_131 : decode cX1_become 131 = .ok (.aload_n 1, 1) := by decide +kernel
theorem dX1_become_132 : decode cX1_become 132 = .ok (.getfield 46, 3) := by decide +kernel
theorem dX1_become_135 : decode cX1_become 135 = .ok (.putfield 46, 3) := by decide +kernel
theorem dX1_become_138 : decode cX1_become 138 = .ok (.return_, 1) := by decide +kernel
theorem dX5_forget_0 : decode cX5_forget 0 = .ok (.aload_n 0, 1) := by decide +kernel
theorem dX5_forget_1 : decode cX5_forget 1 = .ok (.iconst 0, 1) := by decide +kernel
theorem dX5_forget_2 : decode cX5_forget 2 = .ok (.putfield 17, 3) := by decide +kernel
theorem dX5_forget_5 : decode cX5_forget 5 = .ok (.return_, 1) := by decide +kernel
theorem dX7_forget_0 : decode cX7_forget 0 = .ok (.aload_n 0, 1) := by decide +kernel
theorem dX7_forget_1 : decode cX7_forget 1 = .ok (.iconst 0, 1) := by decide +kernel
theorem dX7_forget_2 : decode cX7_forget 2 = .ok (.putfield 24, 3) := by decide +kernel
theorem dX7_forget_5 : decode cX7_forget 5 = .ok (.aload_n 0, 1) := by decide +kernel
theorem dX7_forget_6 : decode cX7_forget 6 = .ok (.iconst 0, 1) := by decide +kernel
theorem dX7_forget_7 : decode cX7_forget 7 = .ok (.putfield 28, 3) := by decide +kernel
theorem dX7_forget_10 : decode cX7_forget 10 = .ok (.return_, 1) := by decide +kernel
theorem dX8_become_0 : decode cX8_become 0 = .ok (.aload_n 1, 1) := by decide +kernel
theorem dX8_become_1 : decode cX8_become 1 = .ok (.getfield 9, 3) := by decide +kernel
theorem dX8_become_4 : decode cX8_become 4 = .ok (.iconst 0, 1) := by decide +kernel
theorem dX8_become_5 : decode cX8_become 5 = .ok (.aload_n 0, 1) := by decide +kernel
theorem dX8_become_6 : decode cX8_become 6 = .ok (.getfield 9, 3) := by decide +kernel
theorem dX8_become_9 : decode cX8_become 9 = .ok (.iconst 0, 1) := by decide +kernel
theorem dX8_become_10 : decode cX8_become 10 = .ok (.bipush 7, 2) := by decide +kernel
theorem dX8_become_12 : decode cX8_become 12 = .ok (.invokestatic 41, 3) := by decide +kernel
theorem dX8_become_15 : decode cX8_become 15 = .ok (.aload_n 1, 1) := by decide +kernel
theorem dX8_become_16 : decode cX8_become 16 = .ok (.getfield 15, 3) := by decide +kernel
theorem dX8_become_19 : decode cX8_become 19 = .ok (.iconst 0, 1) := by decide +kernel
theorem dX8_become_20 : decode cX8_become 20 = .ok (.aload_n 0, 1) := by decide +kernel
theorem dX8_become_21 : decode cX8_become 21 = .ok (.getfield 15, 3) := by decide +kernel
theorem dX8_become_24 : decode cX8_become 24 = .ok (.iconst 0, 1) := by decide +kernel
theorem dX8_become_25 : decode cX8_become 25 = .ok (.bipush 7, 2) := by decide +kernel
theorem dX8_become_27 : decode cX8_become 27 = .ok (.invokestatic 41, 3) := by decide +kernel
theorem dX8_become_30 : decode cX8_become 30 = .ok (.aload_n 1, 1) := by decide +kernel
theorem dX8_become_31 : decode cX8_become 31 = .ok (.getfield 19, 3) := by decide +kernel
theorem dX8_become_34 : decode cX8_become 34 = .ok (.iconst 0, 1) := by decide +kernel
theorem dX8_become_35 : decode cX8_become 35 = .ok (.aload_n 0, 1) := by decide +kernel
theorem dX8_become_36 : decode cX8_become 36 = .ok (.getfield 19, 3) := by decide +kernel
theorem dX8_become_39 : decode cX8_become 39 = .ok (.iconst 0, 1) := by decide +kernel
theorem dX8_become_40 : decode cX8_become 40 = .ok (.bipush 7, 2) := by decide +kernel
theorem dX8_become_42 : decode cX8_become 42 = .ok (.invokestatic 41, 3) := by decide +kernel
theorem dX8_become_45 : decode cX8_become 45 = .ok (.aload_n 1, 1) := by decide +kernel
theorem dX8_become_46 : decode cX8_become 46 = .ok (.getfield 22, 3) := by decide +kernel
theorem dX8_become_49 : decode cX8_become 49 = .ok (.iconst 0, 1) := by decide +kernel
theorem dX8_become_50 : decode cX8_become 50 = .ok (.aload_n 0, 1) := by decide +kernel
theorem dX8_become_51 : decode cX8_become 51 = .ok (.getfield 22, 3) := by decide +kernel
theorem dX8_become_54 : decode cX8_become 54 = .ok (.iconst 0, 1) := by decide +kernel
theorem dX8_become_55 : decode cX8_become 55 = .ok (.bipush 6, 2) := by decide +kernel
theorem dX8_become_57 : decode cX8_become 57 = .ok (.invokestatic 41, 3) := by decide +kernel
theorem dX8_become_60 : decode cX8_become 60 = .ok (.aload_n 1, 1) := by decide +kernel
theorem dX8_become_61 : decode cX8_become 61 = .ok (.getfield 25, 3) := by decide +kernel
theorem dX8_become_64 : decode cX8_become 64 = .ok (.iconst 0, 1) := by decide +kernel
theorem dX8_become_65 : decode cX8_become 65 = .ok (.aload_n 0, 1) := by decide +kernel
theorem dX8_become_66 : decode cX8_become 66 = .ok (.getfield 25, 3) := by decide +kernel
theorem dX8_become_69 : decode cX8_become 69 = .ok (.iconst 0, 1) := by decide +kernel
theorem dX8_become_70 : decode cX8_become 70 = .ok (.bipush 6, 2) := by decide +kernel
theorem dX8_become_72 : decode cX8_become 72 = .ok (.invokestatic 41, 3) := by decide +kernel
theorem dX8_become_75 : decode cX8_become 75 = .ok (.aload_n 0, 1) := by decide +kernel
theorem dX8_become_76 : decode cX8_become 76 = .ok (.aload_n 1, 1) := by decide +kernel
theorem dX8_become_77 : decode cX8_become 77 = .ok (.getfield 28, 3) := by decide +kernel
theorem dX8_become_80 : decode cX8_become 80 = .ok (.putfield 28, 3) := by decide +kernel
theorem dX8_become_83 : decode cX8_become 83 = .ok (.aload_n 0, 1) := by decide +kernel
theorem dX8_become_84 : decode cX8_become 84 = .ok (.aload_n 1, 1) := by decide +kernel
theorem dX8_become_85 : decode cX8_become 85 = .ok (.getfield 32, 3) := by decide +kernel
theorem dX8_become_88 : decode cX8_become 88 = .ok (.putfield 32, 3) := by decide +kernel
theorem dX8_become_91 : decode cX8_become 91 = .ok (.aload_n 0, 1) := by decide +kernel
theorem dX8_become_92 : decode cX8_become 92 = .ok (.aload_n 1, 1) := by decide +kernel
theorem dX8_become_93 : decode cX8_become 93 = .ok (.getfield 35, 3) := by decide +kernel
theorem dX8_become_96 : decode cX8_become 96 = .ok (.putfield 35, 3) := by decide +kernel
theorem dX8_become_99 : decode cX8_become 99 = .ok (.aload_n 0, 1) := by decide +kernel
theorem dX8_become_100 : decode cX8_become 100 = .ok (.aload_n 1, 1) := by decide +kernel
theorem dX8_become_101 : decode cX8_become 101 = .ok (.getfield 38, 3) := by decide +kernel
theorem dX8_become_104 : decode cX8_become 104 = .ok (.putfield 38, 3) := by decide +kernel
theorem dX8_become_107 : decode cX8_become 107 = .ok (.return_, 1) := by decide +kernel
theorem rc_m8 : Rg (-8) (-8) (-8) := ⟨by decide, by decide⟩
theorem rc_m1 : Rg (-1) (-1) (-1) := ⟨by decide, by decide⟩
theorem rc_0 : Rg 0 0 0 := ⟨by decide, by decide⟩
theorem rc_1 : Rg 1 1 1 := ⟨by decide, by decide⟩
theorem rc_24 : Rg 24 24 24 := ⟨by decide, by decide⟩
theorem rc_28 : Rg 28 28 28 := ⟨by decide, by decide⟩
theorem rc_40 : Rg 40 40 40 := ⟨by decide, by decide⟩
theorem rc_41 : Rg 41 41 41 := ⟨by decide, by decide⟩
theorem rc_48 : Rg 48 48 48 := ⟨by decide, by decide⟩
theorem rc_57 : Rg 57 57 57 := ⟨by decide, by decide⟩
theorem rc_59 : Rg 59 59 59 := ⟨by decide, by decide⟩
theorem rc_62 : Rg 62 62 62 := ⟨by decide, by decide⟩
theorem rc_97 : Rg 97 97 97 := ⟨by decide, by decide⟩
theorem rc_100 : Rg 100 100 100 := ⟨by decide, by decide⟩
theorem rc_122 : Rg 122 122 122 := ⟨by decide, by decide⟩
theorem rc_901 : Rg 901 901 901 := ⟨by decide, by decide⟩
theorem rc_920 : Rg 920 920 920 := ⟨by decide, by decide⟩
theorem rc_940 : Rg 940 940 940 := ⟨by decide, by decide⟩
set_option maxRecDepth 100000 in
set_option maxHeartbeats 8000000 in
theorem c_X10_add {l : Launch} {D : va_G} {cy : Nat → ClassId} {L : List Nat} {κ ln : Nat → Nat} {R : Nat → Nat → Option Nat} {I : Nat → Nat → Int32} {J : Nat → Nat → Int64} {ow : Nat → Nat × Nat} (W9 : ∀ a ∈ L, Shp L κ ln R ow a) {x : Nat} (hLx : x ∈ L) (hkx : κ x = 10) (a0 : Int32) (hU : Uv L κ ow I) : CtV l yX10_add cX10_add 3 none { frames := 0, cells := 0, slots := 0, locals := 0 } D cy L κ ln R I J [.ref x, .int a0] (fun I2 J2 => Uv L κ ow I2 ∧ Fq L κ ow [1005, 70000] I I2 ∧ Fq L κ ow [] J J2) := by
  refine CtV.of (by decide +kernel) (Nat.le_of_ble_eq_true rfl) ?_
  intro p e s m below meth c B K
  have C := B.1
  have hF : Fq L κ ow [1005, 70000] I I := fq_rf
  have hG : Fq L κ ow [] J J := fq_rf
  obtain ⟨b_393851, hb_393851, hb_393851L, hb_393851k, hb_393851n, hb_393851o⟩ := shp_a (W9 x hLx) hkx 0 13 940 rfl (by decide)
  refine g_lo (is := [0, 1]) (lo2 := [(0, .ref x), (1, .int a0)]) rfl ?_
  have l_3 : ∀ (n_3 : Nat) (I_393852 : Nat → Nat → Int32) (J_393853 : Nat → Nat → Int64) (hU_393854 : Uv L κ ow I_393852) (hF_393855 : Fq L κ ow [1005, 70000] I I_393852) (hG_393856 : Fq L κ ow [] J J_393853) (v_393857 : Int32) (v_393858 : Int32) (rv_393858 : Rg (-128) 24 v_393858) (hm_393859 : (v_393858 : Int32).toInt - (-128) < (n_3 : Int)), WG p l e { frames := 0, cells := 0, slots := 0, locals := 0 } s m ([.ref x, .int a0] : List Value).toArray below meth c 3 0 0 (MQ below (Qv_ D cy L κ ln R (fun I2 J2 => Uv L κ ow I2 ∧ Fq L κ ow [1005, 70000] I I2 ∧ Fq L κ ow [] J J2)) ([.ref x, .int a0] : List Value).toArray s 0 0 (Al_ L)) D cy (Al_ L) s.heap L κ ln R I_393852 J_393853 3 [(0, .ref x), (1, .int v_393857), (2, .int v_393858)] [] := by
    intro n_3
    induction n_3 with
    | zero =>
      intro I_393852 J_393853 hU_393854 hF_393855 hG_393856 v_393857 v_393858 rv_393858 hm_393859
      exact md_0 rv_393858 hm_393859
    | succ n_3 ih_3 =>
      intro I_393852 J_393853 hU_393854 hF_393855 hG_393856 v_393857 v_393858 rv_393858 hm_393859
      refine g_iload_n C 2 dX10_add_3 rfl rfl ?_
      refine g_if_lt C (tgt := 48) dX10_add_4 (by decide) (fun h_393860 => ?_) (fun h_393860 => ?_)
      · skip
        have r_393861 := lt_l (hi := (-1)) (h_393860) rv_393858 rc_0 (by decide)
        exact g_vret B K rfl ⟨hU_393854, hF_393855, hG_393856⟩ dX10_add_48
      · skip
        have r_393862 := le_r (nlt h_393860) rc_0 rv_393858
        refine g_aload_n C 0 dX10_add_7 rfl rfl ?_
        obtain ⟨x_393863, hx_393863, rx_393863⟩ := ex_get (I := I_393852) (a := x) (j := 5) (lo := 0) (hi := 940) hU_393854 hLx (ro_o hkx (by decide)) rfl
        refine g_getI C K hLx hkx f_10_29 (v := x_393863) hx_393863 dX10_add_8 ?_
        refine g_aload_n C 0 dX10_add_11 rfl rfl ?_
        refine g_getR C K hLx hkx f_10_9 hb_393851 dX10_add_12 ?_
        refine g_alenB C K hb_393851L hb_393851k (v := 940) (by rw [hb_393851n]; rfl) dX10_add_15 ?_
        refine g_icmp_ge C (tgt := 48) dX10_add_16 (by decide) (fun h_393864 => ?_) (fun h_393864 => ?_)
        · skip
          have r_393865 := le_r (h_393864) rc_940 rx_393863
          exact g_vret B K rfl ⟨hU_393854, hF_393855, hG_393856⟩ dX10_add_48
        · skip
          have r_393866 := lt_l (hi := 939) (nle h_393864) rx_393863 rc_940 (by decide)
          refine g_aload_n C 0 dX10_add_19 rfl rfl ?_
          refine g_getR C K hLx hkx f_10_9 hb_393851 dX10_add_20 ?_
          refine g_aload_n C 0 dX10_add_23 rfl rfl ?_
          refine g_getI C K hLx hkx f_10_29 (v := x_393863) hx_393863 dX10_add_24 ?_
          refine g_iload_n C 1 dX10_add_27 rfl rfl ?_
          refine g_iload_n C 2 dX10_add_28 rfl rfl ?_
          obtain ⟨x_393867, hx_393867, rx_393867⟩ := ex_any (z0 := v_393857 >>> (v_393858 &&& 31))
          refine g_ishr C (v := x_393867) dX10_add_29 hx_393867 ?_
          obtain ⟨x_393868, hx_393868, rx_393868⟩ := ex_b2 (x := x_393867)
          refine g_i2b C (v := x_393868) dX10_add_30 hx_393868 ?_
          refine h_bast C K hb_393851L hb_393851k (x_393863.toNatClampNeg) (rfl) (ix_0 r_393866 (by decide)) (ix_lt r_393866 (by decide) hb_393851n (by decide)) dX10_add_31 (fun I_393869 hI_393869 => ?_)
          have hU_393870 := uv_put hU_393854 hI_393869 (ro_a hb_393851k (by decide) hb_393851o hkx rfl) (lo := (-128)) (hi := 127) (rfl) (nar_b _)
          have hF_393871 := fq_puta hF_393855 hI_393869 (ro_a hb_393851k (by decide) hb_393851o hkx rfl) (by decide) (by decide)
          refine g_aload_n C 0 dX10_add_32 rfl rfl ?_
          refine g_dup C dX10_add_33 rfl ?_
          refine g_getI C K hLx hkx f_10_29 (v := x_393863) (kp_k hI_393869 (by rw [hkx, hb_393851k]; decide) hx_393863) dX10_add_34 ?_
          refine g_iconst C (v := 1) dX10_add_37 (by decide) ?_
          obtain ⟨x_393872, hx_393872, rx_393872, tx_393872⟩ := ex_add 1 940 r_393866 rc_1 (by decide) (by decide) (by decide) (by decide)
          refine g_iadd C (v := x_393872) dX10_add_38 hx_393872 ?_
          refine h_putI C K hLx hkx f_10_29 p_10_5 dX10_add_39 (fun I_393873 hI_393873 => ?_)
          have hU_393874 := uv_put hU_393870 hI_393873 (ro_o hkx (by decide)) (lo := 0) (hi := 940) rfl (rg_w rx_393872 (by decide) (by decide))
          have hF_393875 := fq_puto hF_393871 hI_393873 hkx (by decide) (by decide)
          obtain ⟨x_393876, hx_393876, rx_393876, tx_393876⟩ := ex_add (y := (-8)) (-8) 16 r_393862 rc_m8 (by decide) (by decide) (by decide) (by decide)
          refine g_iinc C dX10_add_42 (k := 2) (v := x_393876) rfl hx_393876 (by decide) (lo2 := [(2, .int x_393876), (0, .ref x), (1, .int v_393857)]) rfl ?_
          refine g_goto C (tgt := 3) dX10_add_45 (by decide) ?_
          refine g_lo (is := [1, 2, 0]) (lo2 := [(0, .ref x), (1, .int v_393857), (2, .int x_393876)]) rfl ?_
          exact ih_3 I_393873 J_393853 hU_393874 hF_393875 hG_393856 v_393857 x_393876 (rg_w rx_393876 (by decide) (by decide)) (md_1 hm_393859 (ti_k tx_393876 rc_m8) (by decide))
  refine g_bipush C (v := 24) dX10_add_0 (by decide) ?_
  refine g_istore_n C dX10_add_2 rfl (by decide) (lo2 := [(2, .int 24), (0, .ref x), (1, .int a0)]) rfl ?_
  refine g_lo (is := [1, 2, 0]) (lo2 := [(0, .ref x), (1, .int a0), (2, .int 24)]) rfl ?_
  exact l_3 153 I J hU hF hG a0 24 (rg_w rc_24 (by decide) (by decide)) (md_s (N := 153) (rg_w rc_24 (by decide) (by decide)) (by decide))
set_option maxRecDepth 100000 in
set_option maxHeartbeats 8000000 in
theorem c_X11_feed {l : Launch} {D : va_G} {cy : Nat → ClassId} {L : List Nat} {κ ln : Nat → Nat} {R : Nat → Nat → Option Nat} {I : Nat → Nat → Int32} {J : Nat → Nat → Int64} {ow : Nat → Nat × Nat} (W9 : ∀ a ∈ L, Shp L κ ln R ow a) {x : Nat} (hLx : x ∈ L) (hkx : κ x = 11) (a0 : Int32) (a1 : Int32) (a2 : Int32) (a3 : Int32) (a4 : Int32) (hU : Uv L κ ow I) : CtI l yX11_feed cX11_feed 6 (some .int) { frames := 1, cells := 0, slots := 0, locals := 22 } D cy L κ ln R I J [.ref x, .int a0, .int a1, .int a2, .int a3, .int a4] (fun r I2 J2 => Uv L κ ow I2 ∧ Fq L κ ow [1005, 70000] I I2 ∧ Fq L κ ow [] J J2 ∧ Rg (-1) 940 r) := by
  refine CtI.of (by decide +kernel) (Nat.le_of_ble_eq_true rfl) ?_
  intro p e s m below meth c B K
  have C := B.1
  have hF : Fq L κ ow [1005, 70000] I I := fq_rf
  have hG : Fq L κ ow [] J J := fq_rf
  obtain ⟨b_393949, hb_393949, hb_393949L, hb_393949k⟩ := shp_o (W9 x hLx) hkx 0 10 rfl (by decide)
  refine g_lo (is := [0, 1, 2, 3, 4, 5]) (lo2 := [(0, .ref x), (1, .int a0), (2, .int a1), (3, .int a2), (4, .int a3), (5, .int a4)]) rfl ?_
  refine g_aload_n C 0 dX11_feed_0 rfl rfl ?_
  refine g_getR C K hLx hkx f_11_10 hb_393949 dX11_feed_1 ?_
  obtain ⟨x_393950, hx_393950, rx_393950⟩ := ex_get (I := I) (a := b_393949) (j := 5) (lo := 0) (hi := 940) hU hb_393949L (ro_o hb_393949k (by decide)) rfl
  refine g_getI C K hb_393949L hb_393949k f_11_102 (v := x_393950) hx_393950 dX11_feed_4 ?_
  refine g_sipush C (v := 920) dX11_feed_7 (by decide) ?_
  refine g_icmp_le C (tgt := 15) dX11_feed_10 (by decide) (fun h_393951 => ?_) (fun h_393951 => ?_)
  · skip
    have r_393952 := le_l (h_393951) rx_393950 rc_920
    refine g_aload_n C 0 dX11_feed_15 rfl rfl ?_
    refine g_getR C K hLx hkx f_11_10 hb_393949 dX11_feed_16 ?_
    refine g_iload_n C 1 dX11_feed_19 rfl rfl ?_
    refine g_callVV C K (c_X10_add W9 hb_393949L hb_393949k a0  hU) hb_393949L hb_393949k (by decide) rfl v_11_105 rfl ⟨rfl, rfl⟩ ⟨Nat.le_of_ble_eq_true rfl, Nat.le_of_ble_eq_true rfl⟩ (Nat.le_of_ble_eq_true rfl) ⟨Nat.le_of_ble_eq_true rfl, Nat.le_of_ble_eq_true rfl⟩ dX11_feed_20 rfl (st := []) (fun I_393954 J_393955 h_393956 => ?_)
    obtain ⟨hUI_393954, hFI_393954, hGJ_393955⟩ := h_393956
    have hF_393957 := fq_tr hF hFI_393954 (by decide)
    have hG_393958 := fq_tr hG hGJ_393955 (by decide)
    refine g_aload_n C 0 dX11_feed_23 rfl rfl ?_
    refine g_getR C K hLx hkx f_11_10 hb_393949 dX11_feed_24 ?_
    refine g_iload_n C 2 dX11_feed_27 rfl rfl ?_
    refine g_callVV C K (c_X10_add W9 hb_393949L hb_393949k a1  hUI_393954) hb_393949L hb_393949k (by decide) rfl v_11_105 rfl ⟨rfl, rfl⟩ ⟨Nat.le_of_ble_eq_true rfl, Nat.le_of_ble_eq_true rfl⟩ (Nat.le_of_ble_eq_true rfl) ⟨Nat.le_of_ble_eq_true rfl, Nat.le_of_ble_eq_true rfl⟩ dX11_feed_28 rfl (st := []) (fun I_393960 J_393961 h_393962 => ?_)
    obtain ⟨hUI_393960, hFI_393960, hGJ_393961⟩ := h_393962
    have hF_393963 := fq_tr hF_393957 hFI_393960 (by decide)
    have hG_393964 := fq_tr hG_393958 hGJ_393961 (by decide)
    refine g_aload_n C 0 dX11_feed_31 rfl rfl ?_
    refine g_getR C K hLx hkx f_11_10 hb_393949 dX11_feed_32 ?_
    refine g_iload_n C 3 dX11_feed_35 rfl rfl ?_
    refine g_callVV C K (c_X10_add W9 hb_393949L hb_393949k a2  hUI_393960) hb_393949L hb_393949k (by decide) rfl v_11_105 rfl ⟨rfl, rfl⟩ ⟨Nat.le_of_ble_eq_true rfl, Nat.le_of_ble_eq_true rfl⟩ (Nat.le_of_ble_eq_true rfl) ⟨Nat.le_of_ble_eq_true rfl, Nat.le_of_ble_eq_true rfl⟩ dX11_feed_36 rfl (st := []) (fun I_393966 J_393967 h_393968 => ?_)
    obtain ⟨hUI_393966, hFI_393966, hGJ_393967⟩ := h_393968
    have hF_393969 := fq_tr hF_393963 hFI_393966 (by decide)
    have hG_393970 := fq_tr hG_393964 hGJ_393967 (by decide)
    refine g_aload_n C 0 dX11_feed_39 rfl rfl ?_
    refine g_getR C K hLx hkx f_11_10 hb_393949 dX11_feed_40 ?_
    refine g_iload C 4 dX11_feed_43 rfl ?_
    refine g_callVV C K (c_X10_add W9 hb_393949L hb_393949k a3  hUI_393966) hb_393949L hb_393949k (by decide) rfl v_11_105 rfl ⟨rfl, rfl⟩ ⟨Nat.le_of_ble_eq_true rfl, Nat.le_of_ble_eq_true rfl⟩ (Nat.le_of_ble_eq_true rfl) ⟨Nat.le_of_ble_eq_true rfl, Nat.le_of_ble_eq_true rfl⟩ dX11_feed_45 rfl (st := []) (fun I_393972 J_393973 h_393974 => ?_)
    obtain ⟨hUI_393972, hFI_393972, hGJ_393973⟩ := h_393974
    have hF_393975 := fq_tr hF_393969 hFI_393972 (by decide)
    have hG_393976 := fq_tr hG_393970 hGJ_393973 (by decide)
    refine g_aload_n C 0 dX11_feed_48 rfl rfl ?_
    refine g_getR C K hLx hkx f_11_10 hb_393949 dX11_feed_49 ?_
    refine g_iload C 5 dX11_feed_52 rfl ?_
    refine g_callVV C K (c_X10_add W9 hb_393949L hb_393949k a4  hUI_393972) hb_393949L hb_393949k (by decide) rfl v_11_105 rfl ⟨rfl, rfl⟩ ⟨Nat.le_of_ble_eq_true rfl, Nat.le_of_ble_eq_true rfl⟩ (Nat.le_of_ble_eq_true rfl) ⟨Nat.le_of_ble_eq_true rfl, Nat.le_of_ble_eq_true rfl⟩ dX11_feed_54 rfl (st := []) (fun I_393978 J_393979 h_393980 => ?_)
    obtain ⟨hUI_393978, hFI_393978, hGJ_393979⟩ := h_393980
    have hF_393981 := fq_tr hF_393975 hFI_393978 (by decide)
    have hG_393982 := fq_tr hG_393976 hGJ_393979 (by decide)
    refine g_aload_n C 0 dX11_feed_57 rfl rfl ?_
    refine g_getR C K hLx hkx f_11_10 hb_393949 dX11_feed_58 ?_
    obtain ⟨x_393983, hx_393983, rx_393983⟩ := ex_get (I := I_393978) (a := b_393949) (j := 5) (lo := 0) (hi := 940) hUI_393978 hb_393949L (ro_o hb_393949k (by decide)) rfl
    refine g_getI C K hb_393949L hb_393949k f_11_102 (v := x_393983) hx_393983 dX11_feed_61 ?_
    exact g_zret (ty := .int) (r := x_393983) B K rfl (rfl) ⟨hUI_393978, hF_393981, hG_393982, rg_w rx_393983 (by decide) (by decide)⟩ dX11_feed_64
  · skip
    have r_393984 := lt_r (lo := 921) (nle h_393951) rc_920 rx_393950 (by decide)
    refine g_iconst C (v := (-1)) dX11_feed_13 (by decide) ?_
    exact g_zret (ty := .int) (r := (-1)) B K rfl (rfl) ⟨hU, hF, hG, rg_w rc_m1 (by decide) (by decide)⟩ dX11_feed_14
set_option maxRecDepth 100000 in
set_option maxHeartbeats 8000000 in
theorem c_X11_end {l : Launch} {D : va_G} {cy : Nat → ClassId} {L : List Nat} {κ ln : Nat → Nat} {R : Nat → Nat → Option Nat} {I : Nat → Nat → Int32} {J : Nat → Nat → Int64} {ow : Nat → Nat × Nat} (W9 : ∀ a ∈ L, Shp L κ ln R ow a) {x : Nat} (hLx : x ∈ L) (hkx : κ x = 11) (a0 : Int32) (hU : Uv L κ ow I) : CtI l yX11_end cX11_end 2 (some .boolean) { frames := 0, cells := 0, slots := 0, locals := 0 } D cy L κ ln R I J [.ref x, .int a0] (fun r I2 J2 => Uv L κ ow I2 ∧ Fq L κ ow [1005] I I2 ∧ Fq L κ ow [] J J2 ∧ Rg 0 1 r) := by
  refine CtI.of (by decide +kernel) (Nat.le_of_ble_eq_true rfl) ?_
  intro p e s m below meth c B K
  have C := B.1
  have hF : Fq L κ ow [1005] I I := fq_rf
  have hG : Fq L κ ow [] J J := fq_rf
  obtain ⟨b_394007, hb_394007, hb_394007L, hb_394007k⟩ := shp_o (W9 x hLx) hkx 0 10 rfl (by decide)
  refine g_lo (is := [0, 1]) (lo2 := [(0, .ref x), (1, .int a0)]) rfl ?_
  refine g_iload_n C 1 dX11_end_0 rfl rfl ?_
  refine g_if_lt C (tgt := 15) dX11_end_1 (by decide) (fun h_394008 => ?_) (fun h_394008 => ?_)
  · skip
    have r_394009 := lt_l (hi := (-1)) (h_394008) (rg_all a0) rc_0 (by decide)
    refine g_iconst C (v := 0) dX11_end_15 (by decide) ?_
    exact g_zret (ty := .boolean) (r := 0) B K rfl (rfl) ⟨hU, hF, hG, rg_w rc_0 (by decide) (by decide)⟩ dX11_end_16
  · skip
    have r_394010 := le_r (nlt h_394008) rc_0 (rg_all a0)
    refine g_iload_n C 1 dX11_end_4 rfl rfl ?_
    refine g_aload_n C 0 dX11_end_5 rfl rfl ?_
    refine g_getR C K hLx hkx f_11_10 hb_394007 dX11_end_6 ?_
    obtain ⟨x_394011, hx_394011, rx_394011⟩ := ex_get (I := I) (a := b_394007) (j := 5) (lo := 0) (hi := 940) hU hb_394007L (ro_o hb_394007k (by decide)) rfl
    refine g_getI C K hb_394007L hb_394007k f_11_102 (v := x_394011) hx_394011 dX11_end_9 ?_
    refine g_icmp_le C (tgt := 17) dX11_end_12 (by decide) (fun h_394012 => ?_) (fun h_394012 => ?_)
    · skip
      have r_394013 := le_l (h_394012) r_394010 rx_394011
      refine g_aload_n C 0 dX11_end_17 rfl rfl ?_
      refine g_getR C K hLx hkx f_11_10 hb_394007 dX11_end_18 ?_
      refine g_iload_n C 1 dX11_end_21 rfl rfl ?_
      refine h_putI C K hb_394007L hb_394007k f_11_102 p_10_5 dX11_end_22 (fun I_394014 hI_394014 => ?_)
      have hU_394015 := uv_put hU hI_394014 (ro_o hb_394007k (by decide)) (lo := 0) (hi := 940) rfl (r_394013)
      have hF_394016 := fq_puto hF hI_394014 hb_394007k (by decide) (by decide)
      refine g_iconst C (v := 1) dX11_end_25 (by decide) ?_
      exact g_zret (ty := .boolean) (r := 1) B K rfl (rfl) ⟨hU_394015, hF_394016, hG, rg_w rc_1 (by decide) (by decide)⟩ dX11_end_26
    · skip
      have r_394017 := lt_r (lo := 1) (nle h_394012) rx_394011 r_394010 (by decide)
      refine g_iconst C (v := 0) dX11_end_15 (by decide) ?_
      exact g_zret (ty := .boolean) (r := 0) B K rfl (rfl) ⟨hU, hF, hG, rg_w rc_0 (by decide) (by decide)⟩ dX11_end_16
set_option maxRecDepth 100000 in
set_option maxHeartbeats 8000000 in
theorem c_X1_become {l : Launch} {D : va_G} {cy : Nat → ClassId} {L : List Nat} {κ ln : Nat → Nat} {R : Nat → Nat → Option Nat} {I : Nat → Nat → Int32} {J : Nat → Nat → Int64} {ow : Nat → Nat × Nat} (W9 : ∀ a ∈ L, Shp L κ ln R ow a) {x : Nat} (hLx : x ∈ L) (hkx : κ x = 1) {a0 : Nat} (hLa0 : a0 ∈ L) (hka0 : κ a0 = 1) (hU : Uv L κ ow I) : CtV l yX1_become cX1_become 2 none { frames := 1, cells := 0, slots := 0, locals := 60 } D cy L κ ln R I J [.ref x, .ref a0] (fun I2 J2 => Uv L κ ow I2 ∧ Fq L κ ow [107, 108, 109, 110, 111, 112, 16100, 16200, 16300, 16400, 16500, 16600] I I2 ∧ Fq L κ ow [] J J2) := by
  refine CtV.of (by decide +kernel) (Nat.le_of_ble_eq_true rfl) ?_
  intro p e s m below meth c B K
  have C := B.1
  have hF : Fq L κ ow [107, 108, 109, 110, 111, 112, 16100, 16200, 16300, 16400, 16500, 16600] I I := fq_rf
  have hG : Fq L κ ow [] J J := fq_rf
  obtain ⟨b_394126, hb_394126, hb_394126L, hb_394126k, hb_394126n, hb_394126o⟩ := shp_a (W9 x hLx) hkx 1 14 6 rfl (by decide)
  obtain ⟨b_394127, hb_394127, hb_394127L, hb_394127k, hb_394127n, hb_394127o⟩ := shp_a (W9 x hLx) hkx 2 14 42 rfl (by decide)
  obtain ⟨b_394128, hb_394128, hb_394128L, hb_394128k, hb_394128n, hb_394128o⟩ := shp_a (W9 a0 hLa0) hka0 1 14 6 rfl (by decide)
  obtain ⟨b_394129, hb_394129, hb_394129L, hb_394129k, hb_394129n, hb_394129o⟩ := shp_a (W9 a0 hLa0) hka0 3 14 7 rfl (by decide)
  obtain ⟨b_394130, hb_394130, hb_394130L, hb_394130k, hb_394130n, hb_394130o⟩ := shp_a (W9 a0 hLa0) hka0 2 14 42 rfl (by decide)
  obtain ⟨b_394131, hb_394131, hb_394131L, hb_394131k, hb_394131n, hb_394131o⟩ := shp_a (W9 a0 hLa0) hka0 4 14 7 rfl (by decide)
  obtain ⟨b_394132, hb_394132, hb_394132L, hb_394132k, hb_394132n, hb_394132o⟩ := shp_a (W9 x hLx) hkx 5 14 7 rfl (by decide)
  obtain ⟨b_394133, hb_394133, hb_394133L, hb_394133k, hb_394133n, hb_394133o⟩ := shp_a (W9 a0 hLa0) hka0 6 14 7 rfl (by decide)
  obtain ⟨b_394134, hb_394134, hb_394134L, hb_394134k, hb_394134n, hb_394134o⟩ := shp_a (W9 a0 hLa0) hka0 5 14 7 rfl (by decide)
  obtain ⟨b_394135, hb_394135, hb_394135L, hb_394135k, hb_394135n, hb_394135o⟩ := shp_a (W9 x hLx) hkx 6 14 7 rfl (by decide)
  obtain ⟨b_394136, hb_394136, hb_394136L, hb_394136k, hb_394136n, hb_394136o⟩ := shp_a (W9 x hLx) hkx 4 14 7 rfl (by decide)
  obtain ⟨b_394137, hb_394137, hb_394137L, hb_394137k, hb_394137n, hb_394137o⟩ := shp_a (W9 x hLx) hkx 3 14 7 rfl (by decide)
  refine g_lo (is := [0, 1]) (lo2 := [(0, .ref x), (1, .ref a0)]) rfl ?_
  refine g_aload_n C 1 dX1_become_0 rfl rfl ?_
  refine g_getR C K hLa0 hka0 f_1_9 hb_394128 dX1_become_1 ?_
  refine g_iconst C (v := 0) dX1_become_4 (by decide) ?_
  refine g_aload_n C 0 dX1_become_5 rfl rfl ?_
  refine g_getR C K hLx hkx f_1_9 hb_394126 dX1_become_6 ?_
  refine g_iconst C (v := 0) dX1_become_9 (by decide) ?_
  refine g_bipush C (v := 6) dX1_become_10 (by decide) ?_
  refine h_copyI C K hb_394126L hb_394126k hb_394128L hb_394128k ac_1_56 6 (by decide) (by decide) (by rw [hb_394128n]; decide) (by rw [hb_394126n]; decide) w_cp (Nat.le_of_ble_eq_true rfl) (Nat.le_of_ble_eq_true rfl) dX1_become_12 (fun I_394138 hI_394138 => ?_)
  have hU_394139 := uv_cp hU hb_394128L hI_394138 (ro_a hb_394126k (by decide) hb_394126o hkx rfl) (ro_a hb_394128k (by decide) hb_394128o hka0 rfl)
  have hF_394140 := fq_cp hF hI_394138 (ro_a hb_394126k (by decide) hb_394126o hkx rfl) (by decide) (by decide)
  refine g_aload_n C 1 dX1_become_15 rfl rfl ?_
  refine g_getR C K hLa0 hka0 f_1_15 hb_394130 dX1_become_16 ?_
  refine g_iconst C (v := 0) dX1_become_19 (by decide) ?_
  refine g_aload_n C 0 dX1_become_20 rfl rfl ?_
  refine g_getR C K hLx hkx f_1_15 hb_394127 dX1_become_21 ?_
  refine g_iconst C (v := 0) dX1_become_24 (by decide) ?_
  refine g_bipush C (v := 42) dX1_become_25 (by decide) ?_
  refine h_copyI C K hb_394127L hb_394127k hb_394130L hb_394130k ac_1_56 42 (by decide) (by decide) (by rw [hb_394130n]; decide) (by rw [hb_394127n]; decide) w_cp (Nat.le_of_ble_eq_true rfl) (Nat.le_of_ble_eq_true rfl) dX1_become_27 (fun I_394141 hI_394141 => ?_)
  have hU_394142 := uv_cp hU_394139 hb_394130L hI_394141 (ro_a hb_394127k (by decide) hb_394127o hkx rfl) (ro_a hb_394130k (by decide) hb_394130o hka0 rfl)
  have hF_394143 := fq_cp hF_394140 hI_394141 (ro_a hb_394127k (by decide) hb_394127o hkx rfl) (by decide) (by decide)
  refine g_aload_n C 1 dX1_become_30 rfl rfl ?_
  refine g_getR C K hLa0 hka0 f_1_18 hb_394129 dX1_become_31 ?_
  refine g_iconst C (v := 0) dX1_become_34 (by decide) ?_
  refine g_aload_n C 0 dX1_become_35 rfl rfl ?_
  refine g_getR C K hLx hkx f_1_18 hb_394137 dX1_become_36 ?_
  refine g_iconst C (v := 0) dX1_become_39 (by decide) ?_
  refine g_bipush C (v := 7) dX1_become_40 (by decide) ?_
  refine h_copyI C K hb_394137L hb_394137k hb_394129L hb_394129k ac_1_56 7 (by decide) (by decide) (by rw [hb_394129n]; decide) (by rw [hb_394137n]; decide) w_cp (Nat.le_of_ble_eq_true rfl) (Nat.le_of_ble_eq_true rfl) dX1_become_42 (fun I_394144 hI_394144 => ?_)
  have hU_394145 := uv_cp hU_394142 hb_394129L hI_394144 (ro_a hb_394137k (by decide) hb_394137o hkx rfl) (ro_a hb_394129k (by decide) hb_394129o hka0 rfl)
  have hF_394146 := fq_cp hF_394143 hI_394144 (ro_a hb_394137k (by decide) hb_394137o hkx rfl) (by decide) (by decide)
  refine g_aload_n C 1 dX1_become_45 rfl rfl ?_
  refine g_getR C K hLa0 hka0 f_1_21 hb_394131 dX1_become_46 ?_
  refine g_iconst C (v := 0) dX1_become_49 (by decide) ?_
  refine g_aload_n C 0 dX1_become_50 rfl rfl ?_
  refine g_getR C K hLx hkx f_1_21 hb_394136 dX1_become_51 ?_
  refine g_iconst C (v := 0) dX1_become_54 (by decide) ?_
  refine g_bipush C (v := 7) dX1_become_55 (by decide) ?_
  refine h_copyI C K hb_394136L hb_394136k hb_394131L hb_394131k ac_1_56 7 (by decide) (by decide) (by rw [hb_394131n]; decide) (by rw [hb_394136n]; decide) w_cp (Nat.le_of_ble_eq_true rfl) (Nat.le_of_ble_eq_true rfl) dX1_become_57 (fun I_394147 hI_394147 => ?_)
  have hU_394148 := uv_cp hU_394145 hb_394131L hI_394147 (ro_a hb_394136k (by decide) hb_394136o hkx rfl) (ro_a hb_394131k (by decide) hb_394131o hka0 rfl)
  have hF_394149 := fq_cp hF_394146 hI_394147 (ro_a hb_394136k (by decide) hb_394136o hkx rfl) (by decide) (by decide)
  refine g_aload_n C 1 dX1_become_60 rfl rfl ?_
  refine g_getR C K hLa0 hka0 f_1_24 hb_394134 dX1_become_61 ?_
  refine g_iconst C (v := 0) dX1_become_64 (by decide) ?_
  refine g_aload_n C 0 dX1_become_65 rfl rfl ?_
  refine g_getR C K hLx hkx f_1_24 hb_394132 dX1_become_66 ?_
  refine g_iconst C (v := 0) dX1_become_69 (by decide) ?_
  refine g_bipush C (v := 7) dX1_become_70 (by decide) ?_
  refine h_copyI C K hb_394132L hb_394132k hb_394134L hb_394134k ac_1_56 7 (by decide) (by decide) (by rw [hb_394134n]; decide) (by rw [hb_394132n]; decide) w_cp (Nat.le_of_ble_eq_true rfl) (Nat.le_of_ble_eq_true rfl) dX1_become_72 (fun I_394150 hI_394150 => ?_)
  have hU_394151 := uv_cp hU_394148 hb_394134L hI_394150 (ro_a hb_394132k (by decide) hb_394132o hkx rfl) (ro_a hb_394134k (by decide) hb_394134o hka0 rfl)
  have hF_394152 := fq_cp hF_394149 hI_394150 (ro_a hb_394132k (by decide) hb_394132o hkx rfl) (by decide) (by decide)
  refine g_aload_n C 1 dX1_become_75 rfl rfl ?_
  refine g_getR C K hLa0 hka0 f_1_27 hb_394133 dX1_become_76 ?_
  refine g_iconst C (v := 0) dX1_become_79 (by decide) ?_
  refine g_aload_n C 0 dX1_become_80 rfl rfl ?_
  refine g_getR C K hLx hkx f_1_27 hb_394135 dX1_become_81 ?_
  refine g_iconst C (v := 0) dX1_become_84 (by decide) ?_
  refine g_bipush C (v := 7) dX1_become_85 (by decide) ?_
  refine h_copyI C K hb_394135L hb_394135k hb_394133L hb_394133k ac_1_56 7 (by decide) (by decide) (by rw [hb_394133n]; decide) (by rw [hb_394135n]; decide) w_cp (Nat.le_of_ble_eq_true rfl) (Nat.le_of_ble_eq_true rfl) dX1_become_87 (fun I_394153 hI_394153 => ?_)
  have hU_394154 := uv_cp hU_394151 hb_394133L hI_394153 (ro_a hb_394135k (by decide) hb_394135o hkx rfl) (ro_a hb_394133k (by decide) hb_394133o hka0 rfl)
  have hF_394155 := fq_cp hF_394152 hI_394153 (ro_a hb_394135k (by decide) hb_394135o hkx rfl) (by decide) (by decide)
  refine g_aload_n C 0 dX1_become_90 rfl rfl ?_
  refine g_aload_n C 1 dX1_become_91 rfl rfl ?_
  obtain ⟨x_394156, hx_394156, rx_394156⟩ := ex_get (I := I_394153) (a := a0) (j := 7) (lo := (-2147483648)) (hi := 2147483647) hU_394154 hLa0 (ro_o hka0 (by decide)) rfl
  refine g_getI C K hLa0 hka0 f_1_30 (v := x_394156) hx_394156 dX1_become_92 ?_
  refine h_putI C K hLx hkx f_1_30 p_1_7 dX1_become_95 (fun I_394157 hI_394157 => ?_)
  have hU_394158 := uv_put hU_394154 hI_394157 (ro_o hkx (by decide)) (lo := (-2147483648)) (hi := 2147483647) rfl (rx_394156)
  have hF_394159 := fq_puto hF_394155 hI_394157 hkx (by decide) (by decide)
  refine g_aload_n C 0 dX1_become_98 rfl rfl ?_
  refine g_aload_n C 1 dX1_become_99 rfl rfl ?_
  obtain ⟨x_394160, hx_394160, rx_394160⟩ := ex_get (I := I_394157) (a := a0) (j := 8) (lo := (-2147483648)) (hi := 2147483647) hU_394158 hLa0 (ro_o hka0 (by decide)) rfl
  refine g_getI C K hLa0 hka0 f_1_34 (v := x_394160) hx_394160 dX1_become_100 ?_
  refine h_putI C K hLx hkx f_1_34 p_1_8 dX1_become_103 (fun I_394161 hI_394161 => ?_)
  have hU_394162 := uv_put hU_394158 hI_394161 (ro_o hkx (by decide)) (lo := (-2147483648)) (hi := 2147483647) rfl (rx_394160)
  have hF_394163 := fq_puto hF_394159 hI_394161 hkx (by decide) (by decide)
  refine g_aload_n C 0 dX1_become_106 rfl rfl ?_
  refine g_aload_n C 1 dX1_become_107 rfl rfl ?_
  obtain ⟨x_394164, hx_394164, rx_394164⟩ := ex_get (I := I_394161) (a := a0) (j := 9) (lo := (-2147483648)) (hi := 2147483647) hU_394162 hLa0 (ro_o hka0 (by decide)) rfl
  refine g_getI C K hLa0 hka0 f_1_37 (v := x_394164) hx_394164 dX1_become_108 ?_
  refine h_putI C K hLx hkx f_1_37 p_1_9 dX1_become_111 (fun I_394165 hI_394165 => ?_)
  have hU_394166 := uv_put hU_394162 hI_394165 (ro_o hkx (by decide)) (lo := (-2147483648)) (hi := 2147483647) rfl (rx_394164)
  have hF_394167 := fq_puto hF_394163 hI_394165 hkx (by decide) (by decide)
  refine g_aload_n C 0 dX1_become_114 rfl rfl ?_
  refine g_aload_n C 1 dX1_become_115 rfl rfl ?_
  obtain ⟨x_394168, hx_394168, rx_394168⟩ := ex_get (I := I_394165) (a := a0) (j := 10) (lo := (-2147483648)) (hi := 2147483647) hU_394166 hLa0 (ro_o hka0 (by decide)) rfl
  refine g_getI C K hLa0 hka0 f_1_40 (v := x_394168) hx_394168 dX1_become_116 ?_
  refine h_putI C K hLx hkx f_1_40 p_1_10 dX1_become_119 (fun I_394169 hI_394169 => ?_)
  have hU_394170 := uv_put hU_394166 hI_394169 (ro_o hkx (by decide)) (lo := (-2147483648)) (hi := 2147483647) rfl (rx_394168)
  have hF_394171 := fq_puto hF_394167 hI_394169 hkx (by decide) (by decide)
  refine g_aload_n C 0 dX1_become_122 rfl rfl ?_
  refine g_aload_n C 1 dX1_become_123 rfl rfl ?_
  obtain ⟨x_394172, hx_394172, rx_394172⟩ := ex_get (I := I_394169) (a := a0) (j := 11) (lo := (-2147483648)) (hi := 2147483647) hU_394170 hLa0 (ro_o hka0 (by decide)) rfl
  refine g_getI C K hLa0 hka0 f_1_43 (v := x_394172) hx_394172 dX1_become_124 ?_
  refine h_putI C K hLx hkx f_1_43 p_1_11 dX1_become_127 (fun I_394173 hI_394173 => ?_)
  have hU_394174 := uv_put hU_394170 hI_394173 (ro_o hkx (by decide)) (lo := (-2147483648)) (hi := 2147483647) rfl (rx_394172)
  have hF_394175 := fq_puto hF_394171 hI_394173 hkx (by decide) (by decide)
  refine g_aload_n C 0 dX1_become_130 rfl rfl ?_
  refine g_aload_n C 1 dX1_become_131 rfl rfl ?_
  obtain ⟨x_394176, hx_394176, rx_394176⟩ := ex_get (I := I_394173) (a := a0) (j := 12) (lo := (-2147483648)) (hi := 2147483647) hU_394174 hLa0 (ro_o hka0 (by decide)) rfl
  refine g_getI C K hLa0 hka0 f_1_46 (v := x_394176) hx_394176 dX1_become_132 ?_
  refine h_putI C K hLx hkx f_1_46 p_1_12 dX1_become_135 (fun I_394177 hI_394177 => ?_)
  have hU_394178 := uv_put hU_394174 hI_394177 (ro_o hkx (by decide)) (lo := (-2147483648)) (hi := 2147483647) rfl (rx_394176)
  have hF_394179 := fq_puto hF_394175 hI_394177 hkx (by decide) (by decide)
  exact g_vret B K rfl ⟨hU_394178, hF_394179, hG⟩ dX1_become_138
set_option maxRecDepth 100000 in
set_option maxHeartbeats 8000000 in
theorem c_X5_forget {l : Launch} {D : va_G} {cy : Nat → ClassId} {L : List Nat} {κ ln : Nat → Nat} {R : Nat → Nat → Option Nat} {I : Nat → Nat → Int32} {J : Nat → Nat → Int64} {ow : Nat → Nat × Nat} (W9 : ∀ a ∈ L, Shp L κ ln R ow a) {x : Nat} (hLx : x ∈ L) (hkx : κ x = 5) (hU : Uv L κ ow I) : CtV l yX5_forget cX5_forget 1 none { frames := 0, cells := 0, slots := 0, locals := 0 } D cy L κ ln R I J [.ref x] (fun I2 J2 => Uv L κ ow I2 ∧ Fq L κ ow [501] I I2 ∧ Fq L κ ow [] J J2) := by
  refine CtV.of (by decide +kernel) (Nat.le_of_ble_eq_true rfl) ?_
  intro p e s m below meth c B K
  have C := B.1
  have hF : Fq L κ ow [501] I I := fq_rf
  have hG : Fq L κ ow [] J J := fq_rf
  refine g_lo (is := [0]) (lo2 := [(0, .ref x)]) rfl ?_
  refine g_aload_n C 0 dX5_forget_0 rfl rfl ?_
  refine g_iconst C (v := 0) dX5_forget_1 (by decide) ?_
  refine h_putI C K hLx hkx f_5_17 p_5_1 dX5_forget_2 (fun I_394186 hI_394186 => ?_)
  have hU_394187 := uv_put hU hI_394186 (ro_o hkx (by decide)) (lo := 0) (hi := 8) rfl (rg_w rc_0 (by decide) (by decide))
  have hF_394188 := fq_puto hF hI_394186 hkx (by decide) (by decide)
  exact g_vret B K rfl ⟨hU_394187, hF_394188, hG⟩ dX5_forget_5
set_option maxRecDepth 100000 in
set_option maxHeartbeats 8000000 in
theorem c_X7_forget {l : Launch} {D : va_G} {cy : Nat → ClassId} {L : List Nat} {κ ln : Nat → Nat} {R : Nat → Nat → Option Nat} {I : Nat → Nat → Int32} {J : Nat → Nat → Int64} {ow : Nat → Nat × Nat} (W9 : ∀ a ∈ L, Shp L κ ln R ow a) {x : Nat} (hLx : x ∈ L) (hkx : κ x = 7) (hU : Uv L κ ow I) : CtV l yX7_forget cX7_forget 1 none { frames := 0, cells := 0, slots := 0, locals := 0 } D cy L κ ln R I J [.ref x] (fun I2 J2 => Uv L κ ow I2 ∧ Fq L κ ow [704, 705] I I2 ∧ Fq L κ ow [] J J2) := by
  refine CtV.of (by decide +kernel) (Nat.le_of_ble_eq_true rfl) ?_
  intro p e s m below meth c B K
  have C := B.1
  have hF : Fq L κ ow [704, 705] I I := fq_rf
  have hG : Fq L κ ow [] J J := fq_rf
  refine g_lo (is := [0]) (lo2 := [(0, .ref x)]) rfl ?_
  refine g_aload_n C 0 dX7_forget_0 rfl rfl ?_
  refine g_iconst C (v := 0) dX7_forget_1 (by decide) ?_
  refine h_putI C K hLx hkx f_7_24 p_7_4 dX7_forget_2 (fun I_394201 hI_394201 => ?_)
  have hU_394202 := uv_put hU hI_394201 (ro_o hkx (by decide)) (lo := 0) (hi := 40) rfl (rg_w rc_0 (by decide) (by decide))
  have hF_394203 := fq_puto hF hI_394201 hkx (by decide) (by decide)
  refine g_aload_n C 0 dX7_forget_5 rfl rfl ?_
  refine g_iconst C (v := 0) dX7_forget_6 (by decide) ?_
  refine h_putI C K hLx hkx f_7_28 p_7_5 dX7_forget_7 (fun I_394204 hI_394204 => ?_)
  have hU_394205 := uv_put hU_394202 hI_394204 (ro_o hkx (by decide)) (lo := (-2147483648)) (hi := 2147483647) rfl (rg_all _)
  have hF_394206 := fq_puto hF_394203 hI_394204 hkx (by decide) (by decide)
  exact g_vret B K rfl ⟨hU_394205, hF_394206, hG⟩ dX7_forget_10
set_option maxRecDepth 100000 in
set_option maxHeartbeats 8000000 in
theorem c_X8_become {l : Launch} {D : va_G} {cy : Nat → ClassId} {L : List Nat} {κ ln : Nat → Nat} {R : Nat → Nat → Option Nat} {I : Nat → Nat → Int32} {J : Nat → Nat → Int64} {ow : Nat → Nat × Nat} (W9 : ∀ a ∈ L, Shp L κ ln R ow a) {x : Nat} (hLx : x ∈ L) (hkx : κ x = 8) {a0 : Nat} (hLa0 : a0 ∈ L) (hka0 : κ a0 = 8) (hU : Uv L κ ow I) : CtV l yX8_become cX8_become 2 none { frames := 1, cells := 0, slots := 0, locals := 60 } D cy L κ ln R I J [.ref x, .ref a0] (fun I2 J2 => Uv L κ ow I2 ∧ Fq L κ ow [805, 806, 807, 808, 58100, 58200, 58400] I I2 ∧ Fq L κ ow [58000, 58300] J J2) := by
  refine CtV.of (by decide +kernel) (Nat.le_of_ble_eq_true rfl) ?_
  intro p e s m below meth c B K
  have C := B.1
  have hF : Fq L κ ow [805, 806, 807, 808, 58100, 58200, 58400] I I := fq_rf
  have hG : Fq L κ ow [58000, 58300] J J := fq_rf
  obtain ⟨b_394285, hb_394285, hb_394285L, hb_394285k, hb_394285n, hb_394285o⟩ := shp_a (W9 x hLx) hkx 1 14 7 rfl (by decide)
  obtain ⟨b_394286, hb_394286, hb_394286L, hb_394286k, hb_394286n, hb_394286o⟩ := shp_a (W9 x hLx) hkx 2 14 7 rfl (by decide)
  obtain ⟨b_394287, hb_394287, hb_394287L, hb_394287k, hb_394287n, hb_394287o⟩ := shp_a (W9 a0 hLa0) hka0 1 14 7 rfl (by decide)
  obtain ⟨b_394288, hb_394288, hb_394288L, hb_394288k, hb_394288n, hb_394288o⟩ := shp_a (W9 a0 hLa0) hka0 3 15 6 rfl (by decide)
  obtain ⟨b_394289, hb_394289, hb_394289L, hb_394289k, hb_394289n, hb_394289o⟩ := shp_a (W9 a0 hLa0) hka0 2 14 7 rfl (by decide)
  obtain ⟨b_394290, hb_394290, hb_394290L, hb_394290k, hb_394290n, hb_394290o⟩ := shp_a (W9 a0 hLa0) hka0 4 14 6 rfl (by decide)
  obtain ⟨b_394291, hb_394291, hb_394291L, hb_394291k, hb_394291n, hb_394291o⟩ := shp_a (W9 a0 hLa0) hka0 0 15 7 rfl (by decide)
  obtain ⟨b_394292, hb_394292, hb_394292L, hb_394292k, hb_394292n, hb_394292o⟩ := shp_a (W9 x hLx) hkx 0 15 7 rfl (by decide)
  obtain ⟨b_394293, hb_394293, hb_394293L, hb_394293k, hb_394293n, hb_394293o⟩ := shp_a (W9 x hLx) hkx 4 14 6 rfl (by decide)
  obtain ⟨b_394294, hb_394294, hb_394294L, hb_394294k, hb_394294n, hb_394294o⟩ := shp_a (W9 x hLx) hkx 3 15 6 rfl (by decide)
  refine g_lo (is := [0, 1]) (lo2 := [(0, .ref x), (1, .ref a0)]) rfl ?_
  refine g_aload_n C 1 dX8_become_0 rfl rfl ?_
  refine g_getR C K hLa0 hka0 f_8_9 hb_394291 dX8_become_1 ?_
  refine g_iconst C (v := 0) dX8_become_4 (by decide) ?_
  refine g_aload_n C 0 dX8_become_5 rfl rfl ?_
  refine g_getR C K hLx hkx f_8_9 hb_394292 dX8_become_6 ?_
  refine g_iconst C (v := 0) dX8_become_9 (by decide) ?_
  refine g_bipush C (v := 7) dX8_become_10 (by decide) ?_
  refine h_copyJ C K hb_394292L hb_394292k hb_394291L hb_394291k ac_8_41 7 (by decide) (by decide) (by rw [hb_394291n]; decide) (by rw [hb_394292n]; decide) w_cp (Nat.le_of_ble_eq_true rfl) (Nat.le_of_ble_eq_true rfl) dX8_become_12 (fun J_394295 hJ_394295 => ?_)
  have hG_394296 := fq_cp hG hJ_394295 (ro_a hb_394292k (by decide) hb_394292o hkx rfl) (by decide) (by decide)
  refine g_aload_n C 1 dX8_become_15 rfl rfl ?_
  refine g_getR C K hLa0 hka0 f_8_15 hb_394287 dX8_become_16 ?_
  refine g_iconst C (v := 0) dX8_become_19 (by decide) ?_
  refine g_aload_n C 0 dX8_become_20 rfl rfl ?_
  refine g_getR C K hLx hkx f_8_15 hb_394285 dX8_become_21 ?_
  refine g_iconst C (v := 0) dX8_become_24 (by decide) ?_
  refine g_bipush C (v := 7) dX8_become_25 (by decide) ?_
  refine h_copyI C K hb_394285L hb_394285k hb_394287L hb_394287k ac_8_41 7 (by decide) (by decide) (by rw [hb_394287n]; decide) (by rw [hb_394285n]; decide) w_cp (Nat.le_of_ble_eq_true rfl) (Nat.le_of_ble_eq_true rfl) dX8_become_27 (fun I_394297 hI_394297 => ?_)
  have hU_394298 := uv_cp hU hb_394287L hI_394297 (ro_a hb_394285k (by decide) hb_394285o hkx rfl) (ro_a hb_394287k (by decide) hb_394287o hka0 rfl)
  have hF_394299 := fq_cp hF hI_394297 (ro_a hb_394285k (by decide) hb_394285o hkx rfl) (by decide) (by decide)
  refine g_aload_n C 1 dX8_become_30 rfl rfl ?_
  refine g_getR C K hLa0 hka0 f_8_19 hb_394289 dX8_become_31 ?_
  refine g_iconst C (v := 0) dX8_become_34 (by decide) ?_
  refine g_aload_n C 0 dX8_become_35 rfl rfl ?_
  refine g_getR C K hLx hkx f_8_19 hb_394286 dX8_become_36 ?_
  refine g_iconst C (v := 0) dX8_become_39 (by decide) ?_
  refine g_bipush C (v := 7) dX8_become_40 (by decide) ?_
  refine h_copyI C K hb_394286L hb_394286k hb_394289L hb_394289k ac_8_41 7 (by decide) (by decide) (by rw [hb_394289n]; decide) (by rw [hb_394286n]; decide) w_cp (Nat.le_of_ble_eq_true rfl) (Nat.le_of_ble_eq_true rfl) dX8_become_42 (fun I_394300 hI_394300 => ?_)
  have hU_394301 := uv_cp hU_394298 hb_394289L hI_394300 (ro_a hb_394286k (by decide) hb_394286o hkx rfl) (ro_a hb_394289k (by decide) hb_394289o hka0 rfl)
  have hF_394302 := fq_cp hF_394299 hI_394300 (ro_a hb_394286k (by decide) hb_394286o hkx rfl) (by decide) (by decide)
  refine g_aload_n C 1 dX8_become_45 rfl rfl ?_
  refine g_getR C K hLa0 hka0 f_8_22 hb_394288 dX8_become_46 ?_
  refine g_iconst C (v := 0) dX8_become_49 (by decide) ?_
  refine g_aload_n C 0 dX8_become_50 rfl rfl ?_
  refine g_getR C K hLx hkx f_8_22 hb_394294 dX8_become_51 ?_
  refine g_iconst C (v := 0) dX8_become_54 (by decide) ?_
  refine g_bipush C (v := 6) dX8_become_55 (by decide) ?_
  refine h_copyJ C K hb_394294L hb_394294k hb_394288L hb_394288k ac_8_41 6 (by decide) (by decide) (by rw [hb_394288n]; decide) (by rw [hb_394294n]; decide) w_cp (Nat.le_of_ble_eq_true rfl) (Nat.le_of_ble_eq_true rfl) dX8_become_57 (fun J_394303 hJ_394303 => ?_)
  have hG_394304 := fq_cp hG_394296 hJ_394303 (ro_a hb_394294k (by decide) hb_394294o hkx rfl) (by decide) (by decide)
  refine g_aload_n C 1 dX8_become_60 rfl rfl ?_
  refine g_getR C K hLa0 hka0 f_8_25 hb_394290 dX8_become_61 ?_
  refine g_iconst C (v := 0) dX8_become_64 (by decide) ?_
  refine g_aload_n C 0 dX8_become_65 rfl rfl ?_
  refine g_getR C K hLx hkx f_8_25 hb_394293 dX8_become_66 ?_
  refine g_iconst C (v := 0) dX8_become_69 (by decide) ?_
  refine g_bipush C (v := 6) dX8_become_70 (by decide) ?_
  refine h_copyI C K hb_394293L hb_394293k hb_394290L hb_394290k ac_8_41 6 (by decide) (by decide) (by rw [hb_394290n]; decide) (by rw [hb_394293n]; decide) w_cp (Nat.le_of_ble_eq_true rfl) (Nat.le_of_ble_eq_true rfl) dX8_become_72 (fun I_394305 hI_394305 => ?_)
  have hU_394306 := uv_cp hU_394301 hb_394290L hI_394305 (ro_a hb_394293k (by decide) hb_394293o hkx rfl) (ro_a hb_394290k (by decide) hb_394290o hka0 rfl)
  have hF_394307 := fq_cp hF_394302 hI_394305 (ro_a hb_394293k (by decide) hb_394293o hkx rfl) (by decide) (by decide)
  refine g_aload_n C 0 dX8_become_75 rfl rfl ?_
  refine g_aload_n C 1 dX8_become_76 rfl rfl ?_
  obtain ⟨x_394308, hx_394308, rx_394308⟩ := ex_get (I := I_394305) (a := a0) (j := 5) (lo := 0) (hi := 7) hU_394306 hLa0 (ro_o hka0 (by decide)) rfl
  refine g_getI C K hLa0 hka0 f_8_28 (v := x_394308) hx_394308 dX8_become_77 ?_
  refine h_putI C K hLx hkx f_8_28 p_8_5 dX8_become_80 (fun I_394309 hI_394309 => ?_)
  have hU_394310 := uv_put hU_394306 hI_394309 (ro_o hkx (by decide)) (lo := 0) (hi := 7) rfl (rx_394308)
  have hF_394311 := fq_puto hF_394307 hI_394309 hkx (by decide) (by decide)
  refine g_aload_n C 0 dX8_become_83 rfl rfl ?_
  refine g_aload_n C 1 dX8_become_84 rfl rfl ?_
  obtain ⟨x_394312, hx_394312, rx_394312⟩ := ex_get (I := I_394309) (a := a0) (j := 6) (lo := 0) (hi := 6) hU_394310 hLa0 (ro_o hka0 (by decide)) rfl
  refine g_getI C K hLa0 hka0 f_8_32 (v := x_394312) hx_394312 dX8_become_85 ?_
  refine h_putI C K hLx hkx f_8_32 p_8_6 dX8_become_88 (fun I_394313 hI_394313 => ?_)
  have hU_394314 := uv_put hU_394310 hI_394313 (ro_o hkx (by decide)) (lo := 0) (hi := 6) rfl (rx_394312)
  have hF_394315 := fq_puto hF_394311 hI_394313 hkx (by decide) (by decide)
  refine g_aload_n C 0 dX8_become_91 rfl rfl ?_
  refine g_aload_n C 1 dX8_become_92 rfl rfl ?_
  obtain ⟨x_394316, hx_394316, rx_394316⟩ := ex_get (I := I_394313) (a := a0) (j := 7) (lo := (-2147483648)) (hi := 2147483647) hU_394314 hLa0 (ro_o hka0 (by decide)) rfl
  refine g_getI C K hLa0 hka0 f_8_35 (v := x_394316) hx_394316 dX8_become_93 ?_
  refine h_putI C K hLx hkx f_8_35 p_8_7 dX8_become_96 (fun I_394317 hI_394317 => ?_)
  have hU_394318 := uv_put hU_394314 hI_394317 (ro_o hkx (by decide)) (lo := (-2147483648)) (hi := 2147483647) rfl (rx_394316)
  have hF_394319 := fq_puto hF_394315 hI_394317 hkx (by decide) (by decide)
  refine g_aload_n C 0 dX8_become_99 rfl rfl ?_
  refine g_aload_n C 1 dX8_become_100 rfl rfl ?_
  obtain ⟨x_394320, hx_394320, rx_394320⟩ := ex_get (I := I_394317) (a := a0) (j := 8) (lo := (-2147483648)) (hi := 2147483647) hU_394318 hLa0 (ro_o hka0 (by decide)) rfl
  refine g_getI C K hLa0 hka0 f_8_38 (v := x_394320) hx_394320 dX8_become_101 ?_
  refine h_putI C K hLx hkx f_8_38 p_8_8 dX8_become_104 (fun I_394321 hI_394321 => ?_)
  have hU_394322 := uv_put hU_394318 hI_394321 (ro_o hkx (by decide)) (lo := (-2147483648)) (hi := 2147483647) rfl (rx_394320)
  have hF_394323 := fq_puto hF_394319 hI_394321 hkx (by decide) (by decide)
  exact g_vret B K rfl ⟨hU_394322, hF_394323, hG_394304⟩ dX8_become_107
set_option maxRecDepth 100000 in
set_option maxHeartbeats 8000000 in
theorem c_X10_addToken {l : Launch} {D : va_G} {cy : Nat → ClassId} {L : List Nat} {κ ln : Nat → Nat} {R : Nat → Nat → Option Nat} {I : Nat → Nat → Int32} {J : Nat → Nat → Int64} {ow : Nat → Nat × Nat} (W9 : ∀ a ∈ L, Shp L κ ln R ow a) {x : Nat} (hLx : x ∈ L) (hkx : κ x = 10) (a0 : Int32) (a1 : Int32) (a2 : Int64) (ra0 : Rg (-128) 127 a0) (ra1 : Rg 0 900 a1) (hU : Uv L κ ow I) : CtV l yX10_addToken cX10_addToken 5 none { frames := 0, cells := 0, slots := 0, locals := 0 } D cy L κ ln R I J [.ref x, .int a0, .int a1, .long a2] (fun I2 J2 => Uv L κ ow I2 ∧ Fq L κ ow [1006, 70200, 70300] I I2 ∧ Fq L κ ow [70400] J J2) := by
  refine CtV.of (by decide +kernel) (Nat.le_of_ble_eq_true rfl) ?_
  intro p e s m below meth c B K
  have C := B.1
  have hF : Fq L κ ow [1006, 70200, 70300] I I := fq_rf
  have hG : Fq L κ ow [70400] J J := fq_rf
  obtain ⟨b_394362, hb_394362, hb_394362L, hb_394362k, hb_394362n, hb_394362o⟩ := shp_a (W9 x hLx) hkx 2 14 901 rfl (by decide)
  obtain ⟨b_394363, hb_394363, hb_394363L, hb_394363k, hb_394363n, hb_394363o⟩ := shp_a (W9 x hLx) hkx 4 15 901 rfl (by decide)
  obtain ⟨b_394364, hb_394364, hb_394364L, hb_394364k, hb_394364n, hb_394364o⟩ := shp_a (W9 x hLx) hkx 3 14 901 rfl (by decide)
  refine g_lo (is := [0, 1, 2, 3]) (lo2 := [(0, .ref x), (1, .int a0), (2, .int a1), (3, .long a2)]) rfl ?_
  refine g_aload_n C 0 dX10_addToken_0 rfl rfl ?_
  obtain ⟨x_394365, hx_394365, rx_394365⟩ := ex_get (I := I) (a := x) (j := 6) (lo := 0) (hi := 901) hU hLx (ro_o hkx (by decide)) rfl
  refine g_getI C K hLx hkx f_10_33 (v := x_394365) hx_394365 dX10_addToken_1 ?_
  refine g_aload_n C 0 dX10_addToken_4 rfl rfl ?_
  refine g_getR C K hLx hkx f_10_19 hb_394362 dX10_addToken_5 ?_
  refine g_alenI C K hb_394362L hb_394362k (v := 901) (by rw [hb_394362n]; rfl) dX10_addToken_8 ?_
  refine g_icmp_ge C (tgt := 52) dX10_addToken_9 (by decide) (fun h_394366 => ?_) (fun h_394366 => ?_)
  · skip
    have r_394367 := le_r (h_394366) rc_901 rx_394365
    exact g_vret B K rfl ⟨hU, hF, hG⟩ dX10_addToken_52
  · skip
    have r_394368 := lt_l (hi := 900) (nle h_394366) rx_394365 rc_901 (by decide)
    refine g_aload_n C 0 dX10_addToken_12 rfl rfl ?_
    refine g_getR C K hLx hkx f_10_19 hb_394362 dX10_addToken_13 ?_
    refine g_aload_n C 0 dX10_addToken_16 rfl rfl ?_
    refine g_getI C K hLx hkx f_10_33 (v := x_394365) hx_394365 dX10_addToken_17 ?_
    refine g_iload_n C 1 dX10_addToken_20 rfl rfl ?_
    refine h_iast C K hb_394362L hb_394362k (x_394365.toNatClampNeg) (rfl) (ix_0 r_394368 (by decide)) (ix_lt r_394368 (by decide) hb_394362n (by decide)) dX10_addToken_21 (fun I_394369 hI_394369 => ?_)
    have hU_394370 := uv_put hU hI_394369 (ro_a hb_394362k (by decide) hb_394362o hkx rfl) (lo := (-2147483648)) (hi := 2147483647) (rfl) (rg_all _)
    have hF_394371 := fq_puta hF hI_394369 (ro_a hb_394362k (by decide) hb_394362o hkx rfl) (by decide) (by decide)
    refine g_aload_n C 0 dX10_addToken_22 rfl rfl ?_
    refine g_getR C K hLx hkx f_10_23 hb_394364 dX10_addToken_23 ?_
    refine g_aload_n C 0 dX10_addToken_26 rfl rfl ?_
    refine g_getI C K hLx hkx f_10_33 (v := x_394365) (kp_k hI_394369 (by rw [hkx, hb_394362k]; decide) hx_394365) dX10_addToken_27 ?_
    refine g_iload_n C 2 dX10_addToken_30 rfl rfl ?_
    refine h_iast C K hb_394364L hb_394364k (x_394365.toNatClampNeg) (rfl) (ix_0 r_394368 (by decide)) (ix_lt r_394368 (by decide) hb_394364n (by decide)) dX10_addToken_31 (fun I_394372 hI_394372 => ?_)
    have hU_394373 := uv_put hU_394370 hI_394372 (ro_a hb_394364k (by decide) hb_394364o hkx rfl) (lo := (-2147483648)) (hi := 2147483647) (rfl) (rg_all _)
    have hF_394374 := fq_puta hF_394371 hI_394372 (ro_a hb_394364k (by decide) hb_394364o hkx rfl) (by decide) (by decide)
    refine g_aload_n C 0 dX10_addToken_32 rfl rfl ?_
    refine g_getR C K hLx hkx f_10_26 hb_394363 dX10_addToken_33 ?_
    refine g_aload_n C 0 dX10_addToken_36 rfl rfl ?_
    refine g_getI C K hLx hkx f_10_33 (v := x_394365) (kp_k hI_394372 (by rw [hkx, hb_394364k]; decide) (kp_k hI_394369 (by rw [hkx, hb_394362k]; decide) hx_394365)) dX10_addToken_37 ?_
    refine g_lload_n C 3 dX10_addToken_40 rfl rfl ?_
    refine h_last C K hb_394363L hb_394363k (x_394365.toNatClampNeg) (rfl) (ix_0 r_394368 (by decide)) (ix_lt r_394368 (by decide) hb_394363n (by decide)) dX10_addToken_41 (fun J_394375 hJ_394375 => ?_)
    have hG_394376 := fq_puta hG hJ_394375 (ro_a hb_394363k (by decide) hb_394363o hkx rfl) (by decide) (by decide)
    refine g_aload_n C 0 dX10_addToken_42 rfl rfl ?_
    refine g_dup C dX10_addToken_43 rfl ?_
    refine g_getI C K hLx hkx f_10_33 (v := x_394365) (kp_k hI_394372 (by rw [hkx, hb_394364k]; decide) (kp_k hI_394369 (by rw [hkx, hb_394362k]; decide) hx_394365)) dX10_addToken_44 ?_
    refine g_iconst C (v := 1) dX10_addToken_47 (by decide) ?_
    obtain ⟨x_394377, hx_394377, rx_394377, tx_394377⟩ := ex_add 1 901 r_394368 rc_1 (by decide) (by decide) (by decide) (by decide)
    refine g_iadd C (v := x_394377) dX10_addToken_48 hx_394377 ?_
    refine h_putI C K hLx hkx f_10_33 p_10_6 dX10_addToken_49 (fun I_394378 hI_394378 => ?_)
    have hU_394379 := uv_put hU_394373 hI_394378 (ro_o hkx (by decide)) (lo := 0) (hi := 901) rfl (rg_w rx_394377 (by decide) (by decide))
    have hF_394380 := fq_puto hF_394374 hI_394378 hkx (by decide) (by decide)
    exact g_vret B K rfl ⟨hU_394379, hF_394380, hG_394376⟩ dX10_addToken_52
set_option maxRecDepth 100000 in
set_option maxHeartbeats 8000000 in
theorem c_X10_advance {l : Launch} {D : va_G} {cy : Nat → ClassId} {L : List Nat} {κ ln : Nat → Nat} {R : Nat → Nat → Option Nat} {I : Nat → Nat → Int32} {J : Nat → Nat → Int64} {ow : Nat → Nat × Nat} (W9 : ∀ a ∈ L, Shp L κ ln R ow a) {x : Nat} (hLx : x ∈ L) (hkx : κ x = 10) (hU : Uv L κ ow I) : CtV l yX10_advance cX10_advance 1 none { frames := 0, cells := 0, slots := 0, locals := 0 } D cy L κ ln R I J [.ref x] (fun I2 J2 => Uv L κ ow I2 ∧ Fq L κ ow [1007, 1008, 1009] I I2 ∧ Fq L κ ow [1010] J J2) := by
  refine CtV.of (by decide +kernel) (Nat.le_of_ble_eq_true rfl) ?_
  intro p e s m below meth c B K
  have C := B.1
  have hF : Fq L κ ow [1007, 1008, 1009] I I := fq_rf
  have hG : Fq L κ ow [1010] J J := fq_rf
  obtain ⟨b_394427, hb_394427, hb_394427L, hb_394427k, hb_394427n, hb_394427o⟩ := shp_a (W9 x hLx) hkx 2 14 901 rfl (by decide)
  obtain ⟨b_394428, hb_394428, hb_394428L, hb_394428k, hb_394428n, hb_394428o⟩ := shp_a (W9 x hLx) hkx 4 15 901 rfl (by decide)
  obtain ⟨b_394429, hb_394429, hb_394429L, hb_394429k, hb_394429n, hb_394429o⟩ := shp_a (W9 x hLx) hkx 3 14 901 rfl (by decide)
  refine g_lo (is := [0]) (lo2 := [(0, .ref x)]) rfl ?_
  refine g_aload_n C 0 dX10_advance_0 rfl rfl ?_
  obtain ⟨x_394430, hx_394430, rx_394430⟩ := ex_get (I := I) (a := x) (j := 7) (lo := (-1)) (hi := 900) hU hLx (ro_o hkx (by decide)) rfl
  refine g_getI C K hLx hkx f_10_36 (v := x_394430) hx_394430 dX10_advance_1 ?_
  refine g_iconst C (v := 1) dX10_advance_4 (by decide) ?_
  obtain ⟨x_394431, hx_394431, rx_394431, tx_394431⟩ := ex_add 0 901 rx_394430 rc_1 (by decide) (by decide) (by decide) (by decide)
  refine g_iadd C (v := x_394431) dX10_advance_5 hx_394431 ?_
  refine g_aload_n C 0 dX10_advance_6 rfl rfl ?_
  obtain ⟨x_394432, hx_394432, rx_394432⟩ := ex_get (I := I) (a := x) (j := 6) (lo := 0) (hi := 901) hU hLx (ro_o hkx (by decide)) rfl
  refine g_getI C K hLx hkx f_10_33 (v := x_394432) hx_394432 dX10_advance_7 ?_
  refine g_icmp_ge C (tgt := 62) dX10_advance_10 (by decide) (fun h_394433 => ?_) (fun h_394433 => ?_)
  · skip
    exact g_vret B K rfl ⟨hU, hF, hG⟩ dX10_advance_62
  · skip
    have r_394434 := lt_l (hi := 900) (nle h_394433) rx_394431 rx_394432 (by decide)
    have r_394435 := lt_r (lo := 1) (nle h_394433) rx_394431 rx_394432 (by decide)
    refine g_aload_n C 0 dX10_advance_13 rfl rfl ?_
    refine g_dup C dX10_advance_14 rfl ?_
    refine g_getI C K hLx hkx f_10_36 (v := x_394430) hx_394430 dX10_advance_15 ?_
    refine g_iconst C (v := 1) dX10_advance_18 (by decide) ?_
    refine g_iadd C (v := x_394431) dX10_advance_19 hx_394431 ?_
    refine h_putI C K hLx hkx f_10_36 p_10_7 dX10_advance_20 (fun I_394436 hI_394436 => ?_)
    have hU_394437 := uv_put hU hI_394436 (ro_o hkx (by decide)) (lo := (-1)) (hi := 900) rfl (rg_w r_394434 (by decide) (by decide))
    have hF_394438 := fq_puto hF hI_394436 hkx (by decide) (by decide)
    refine g_aload_n C 0 dX10_advance_23 rfl rfl ?_
    refine g_aload_n C 0 dX10_advance_24 rfl rfl ?_
    refine g_getR C K hLx hkx f_10_19 hb_394427 dX10_advance_25 ?_
    refine g_aload_n C 0 dX10_advance_28 rfl rfl ?_
    refine g_getI C K hLx hkx f_10_36 (v := x_394431) (kp_s hI_394436) dX10_advance_29 ?_
    obtain ⟨x_394439, hx_394439, rx_394439⟩ := ex_get (I := I_394436) (a := b_394427) (j := x_394431.toNatClampNeg) (lo := (-2147483648)) (hi := 2147483647) hU_394437 hb_394427L (ro_a hb_394427k (by decide) hb_394427o hkx rfl) (rfl)
    refine h_iald C K hb_394427L hb_394427k (v := x_394439) (x_394431.toNatClampNeg) (rfl) (ix_0 r_394434 (by decide)) (ix_lt r_394434 (by decide) hb_394427n (by decide)) hx_394439 dX10_advance_32 ?_
    refine h_putI C K hLx hkx f_10_39 p_10_8 dX10_advance_33 (fun I_394440 hI_394440 => ?_)
    have hU_394441 := uv_put hU_394437 hI_394440 (ro_o hkx (by decide)) (lo := (-2147483648)) (hi := 2147483647) rfl (rx_394439)
    have hF_394442 := fq_puto hF_394438 hI_394440 hkx (by decide) (by decide)
    refine g_aload_n C 0 dX10_advance_36 rfl rfl ?_
    refine g_aload_n C 0 dX10_advance_37 rfl rfl ?_
    refine g_getR C K hLx hkx f_10_23 hb_394429 dX10_advance_38 ?_
    refine g_aload_n C 0 dX10_advance_41 rfl rfl ?_
    refine g_getI C K hLx hkx f_10_36 (v := x_394431) (kp_j hI_394440 (by decide) (kp_s hI_394436)) dX10_advance_42 ?_
    obtain ⟨x_394443, hx_394443, rx_394443⟩ := ex_get (I := I_394440) (a := b_394429) (j := x_394431.toNatClampNeg) (lo := (-2147483648)) (hi := 2147483647) hU_394441 hb_394429L (ro_a hb_394429k (by decide) hb_394429o hkx rfl) (rfl)
    refine h_iald C K hb_394429L hb_394429k (v := x_394443) (x_394431.toNatClampNeg) (rfl) (ix_0 r_394434 (by decide)) (ix_lt r_394434 (by decide) hb_394429n (by decide)) hx_394443 dX10_advance_45 ?_
    refine h_putI C K hLx hkx f_10_42 p_10_9 dX10_advance_46 (fun I_394444 hI_394444 => ?_)
    have hU_394445 := uv_put hU_394441 hI_394444 (ro_o hkx (by decide)) (lo := (-2147483648)) (hi := 2147483647) rfl (rx_394443)
    have hF_394446 := fq_puto hF_394442 hI_394444 hkx (by decide) (by decide)
    refine g_aload_n C 0 dX10_advance_49 rfl rfl ?_
    refine g_aload_n C 0 dX10_advance_50 rfl rfl ?_
    refine g_getR C K hLx hkx f_10_26 hb_394428 dX10_advance_51 ?_
    refine g_aload_n C 0 dX10_advance_54 rfl rfl ?_
    refine g_getI C K hLx hkx f_10_36 (v := x_394431) (kp_j hI_394444 (by decide) (kp_j hI_394440 (by decide) (kp_s hI_394436))) dX10_advance_55 ?_
    obtain ⟨y_394447, hy_394447⟩ : ∃ z, J b_394428 (x_394431.toNatClampNeg) = z := ⟨_, rfl⟩
    refine h_lald C K hb_394428L hb_394428k (v := y_394447) (x_394431.toNatClampNeg) (rfl) (ix_0 r_394434 (by decide)) (ix_lt r_394434 (by decide) hb_394428n (by decide)) hy_394447 dX10_advance_58 ?_
    refine h_putJ C K hLx hkx f_10_45 p_10_10 dX10_advance_59 (fun J_394448 hJ_394448 => ?_)
    have hG_394449 := fq_puto hG hJ_394448 hkx (by decide) (by decide)
    exact g_vret B K rfl ⟨hU_394445, hF_394446, hG_394449⟩ dX10_advance_62
set_option maxRecDepth 100000 in
set_option maxHeartbeats 8000000 in
theorem c_X10_isDigit {l : Launch} {D : va_G} {cy : Nat → ClassId} {L : List Nat} {κ ln : Nat → Nat} {R : Nat → Nat → Option Nat} {I : Nat → Nat → Int32} {J : Nat → Nat → Int64} {ow : Nat → Nat × Nat} (W9 : ∀ a ∈ L, Shp L κ ln R ow a) (a0 : Int32) (ra0 : Rg (-128) 127 a0) (hU : Uv L κ ow I) : CtI l yX10_isDigit cX10_isDigit 1 (some .boolean) { frames := 0, cells := 0, slots := 0, locals := 0 } D cy L κ ln R I J [.int a0] (fun r I2 J2 => I = I2 ∧ J = J2 ∧ Rg 0 1 r) := by
  refine CtI.of (by decide +kernel) (Nat.le_of_ble_eq_true rfl) ?_
  intro p e s m below meth c B K
  have C := B.1
  refine g_lo (is := [0]) (lo2 := [(0, .int a0)]) rfl ?_
  refine g_iload_n C 0 dX10_isDigit_0 rfl rfl ?_
  refine g_bipush C (v := 48) dX10_isDigit_1 (by decide) ?_
  refine g_icmp_lt C (tgt := 16) dX10_isDigit_3 (by decide) (fun h_394462 => ?_) (fun h_394462 => ?_)
  · skip
    have r_394463 := lt_l (hi := 47) (h_394462) ra0 rc_48 (by decide)
    refine g_iconst C (v := 0) dX10_isDigit_16 (by decide) ?_
    exact g_zret (ty := .boolean) (r := 0) B K rfl (rfl) ⟨rfl, rfl, rg_w rc_0 (by decide) (by decide)⟩ dX10_isDigit_17
  · skip
    have r_394464 := le_r (nlt h_394462) rc_48 ra0
    refine g_iload_n C 0 dX10_isDigit_6 rfl rfl ?_
    refine g_bipush C (v := 57) dX10_isDigit_7 (by decide) ?_
    refine g_icmp_gt C (tgt := 16) dX10_isDigit_9 (by decide) (fun h_394465 => ?_) (fun h_394465 => ?_)
    · skip
      have r_394466 := lt_r (lo := 58) (h_394465) rc_57 r_394464 (by decide)
      refine g_iconst C (v := 0) dX10_isDigit_16 (by decide) ?_
      exact g_zret (ty := .boolean) (r := 0) B K rfl (rfl) ⟨rfl, rfl, rg_w rc_0 (by decide) (by decide)⟩ dX10_isDigit_17
    · skip
      have r_394467 := le_l (nlt h_394465) r_394464 rc_57
      refine g_iconst C (v := 1) dX10_isDigit_12 (by decide) ?_
      refine g_goto C (tgt := 17) dX10_isDigit_13 (by decide) ?_
      exact g_zret (ty := .boolean) (r := 1) B K rfl (rfl) ⟨rfl, rfl, rg_w rc_1 (by decide) (by decide)⟩ dX10_isDigit_17
set_option maxRecDepth 100000 in
set_option maxHeartbeats 8000000 in
theorem c_X10_isLetter {l : Launch} {D : va_G} {cy : Nat → ClassId} {L : List Nat} {κ ln : Nat → Nat} {R : Nat → Nat → Option Nat} {I : Nat → Nat → Int32} {J : Nat → Nat → Int64} {ow : Nat → Nat × Nat} (W9 : ∀ a ∈ L, Shp L κ ln R ow a) (a0 : Int32) (ra0 : Rg (-128) 127 a0) (hU : Uv L κ ow I) : CtI l yX10_isLetter cX10_isLetter 1 (some .boolean) { frames := 0, cells := 0, slots := 0, locals := 0 } D cy L κ ln R I J [.int a0] (fun r I2 J2 => I = I2 ∧ J = J2 ∧ Rg 0 1 r) := by
  refine CtI.of (by decide +kernel) (Nat.le_of_ble_eq_true rfl) ?_
  intro p e s m below meth c B K
  have C := B.1
  refine g_lo (is := [0]) (lo2 := [(0, .int a0)]) rfl ?_
  refine g_iload_n C 0 dX10_isLetter_0 rfl rfl ?_
  refine g_bipush C (v := 97) dX10_isLetter_1 (by decide) ?_
  refine g_icmp_lt C (tgt := 16) dX10_isLetter_3 (by decide) (fun h_394480 => ?_) (fun h_394480 => ?_)
  · skip
    have r_394481 := lt_l (hi := 96) (h_394480) ra0 rc_97 (by decide)
    refine g_iconst C (v := 0) dX10_isLetter_16 (by decide) ?_
    exact g_zret (ty := .boolean) (r := 0) B K rfl (rfl) ⟨rfl, rfl, rg_w rc_0 (by decide) (by decide)⟩ dX10_isLetter_17
  · skip
    have r_394482 := le_r (nlt h_394480) rc_97 ra0
    refine g_iload_n C 0 dX10_isLetter_6 rfl rfl ?_
    refine g_bipush C (v := 122) dX10_isLetter_7 (by decide) ?_
    refine g_icmp_gt C (tgt := 16) dX10_isLetter_9 (by decide) (fun h_394483 => ?_) (fun h_394483 => ?_)
    · skip
      have r_394484 := lt_r (lo := 123) (h_394483) rc_122 r_394482 (by decide)
      refine g_iconst C (v := 0) dX10_isLetter_16 (by decide) ?_
      exact g_zret (ty := .boolean) (r := 0) B K rfl (rfl) ⟨rfl, rfl, rg_w rc_0 (by decide) (by decide)⟩ dX10_isLetter_17
    · skip
      have r_394485 := le_l (nlt h_394483) r_394482 rc_122
      refine g_iconst C (v := 1) dX10_isLetter_12 (by decide) ?_
      refine g_goto C (tgt := 17) dX10_isLetter_13 (by decide) ?_
      exact g_zret (ty := .boolean) (r := 1) B K rfl (rfl) ⟨rfl, rfl, rg_w rc_1 (by decide) (by decide)⟩ dX10_isLetter_17
set_option maxRecDepth 100000 in
set_option maxHeartbeats 8000000 in
theorem c_X10_isSign {l : Launch} {D : va_G} {cy : Nat → ClassId} {L : List Nat} {κ ln : Nat → Nat} {R : Nat → Nat → Option Nat} {I : Nat → Nat → Int32} {J : Nat → Nat → Int64} {ow : Nat → Nat × Nat} (W9 : ∀ a ∈ L, Shp L κ ln R ow a) (a0 : Int32) (ra0 : Rg (-128) 127 a0) (hU : Uv L κ ow I) : CtI l yX10_isSign cX10_isSign 1 (some .boolean) { frames := 0, cells := 0, slots := 0, locals := 0 } D cy L κ ln R I J [.int a0] (fun r I2 J2 => I = I2 ∧ J = J2 ∧ Rg 0 1 r) := by
  refine CtI.of (by decide +kernel) (Nat.le_of_ble_eq_true rfl) ?_
  intro p e s m below meth c B K
  have C := B.1
  refine g_lo (is := [0]) (lo2 := [(0, .int a0)]) rfl ?_
  have j_24 : ∀ (v_394510 : Int32) (rv_394510 : Rg 40 62 v_394510), WG p l e { frames := 0, cells := 0, slots := 0, locals := 0 } s m ([.int a0] : List Value).toArray below meth c 1 0 0 (MQ below (Qi_ D cy L κ ln R (fun r I2 J2 => I = I2 ∧ J = J2 ∧ Rg 0 1 r)) ([.int a0] : List Value).toArray s 0 0 (Al_ L)) D cy (Al_ L) s.heap L κ ln R I J 24 [(0, .int v_394510)] [] := by
    intro v_394510 rv_394510
    refine g_iconst C (v := 1) dX10_isSign_24 (by decide) ?_
    refine g_goto C (tgt := 29) dX10_isSign_25 (by decide) ?_
    exact g_zret (ty := .boolean) (r := 1) B K rfl (rfl) ⟨rfl, rfl, rg_w rc_1 (by decide) (by decide)⟩ dX10_isSign_29
  refine g_iload_n C 0 dX10_isSign_0 rfl rfl ?_
  refine g_bipush C (v := 40) dX10_isSign_1 (by decide) ?_
  refine g_icmp_eq C (tgt := 24) dX10_isSign_3 (by decide) (fun h_394511 => ?_) (fun h_394511 => ?_)
  · skip
    have r_394512 := (⟨(eq_rg (h_394511) rc_40).1, (eq_rg (h_394511) rc_40).2⟩ : Rg 40 40 a0)
    refine g_lo (is := [0]) (lo2 := [(0, .int a0)]) rfl ?_
    exact j_24 a0 (rg_w r_394512 (by decide) (by decide))
  · skip
    have n_394513 : ¬ a0 = 40 := h_394511
    refine g_iload_n C 0 dX10_isSign_6 rfl rfl ?_
    refine g_bipush C (v := 41) dX10_isSign_7 (by decide) ?_
    refine g_icmp_eq C (tgt := 24) dX10_isSign_9 (by decide) (fun h_394514 => ?_) (fun h_394514 => ?_)
    · skip
      have r_394515 := (⟨(eq_rg (h_394514) rc_41).1, (eq_rg (h_394514) rc_41).2⟩ : Rg 41 41 a0)
      refine g_lo (is := [0]) (lo2 := [(0, .int a0)]) rfl ?_
      exact j_24 a0 (rg_w r_394515 (by decide) (by decide))
    · skip
      have n_394516 : ¬ a0 = 41 := h_394514
      refine g_iload_n C 0 dX10_isSign_12 rfl rfl ?_
      refine g_bipush C (v := 59) dX10_isSign_13 (by decide) ?_
      refine g_icmp_lt C (tgt := 28) dX10_isSign_15 (by decide) (fun h_394517 => ?_) (fun h_394517 => ?_)
      · skip
        have r_394518 := lt_l (hi := 58) (h_394517) ra0 rc_59 (by decide)
        refine g_iconst C (v := 0) dX10_isSign_28 (by decide) ?_
        exact g_zret (ty := .boolean) (r := 0) B K rfl (rfl) ⟨rfl, rfl, rg_w rc_0 (by decide) (by decide)⟩ dX10_isSign_29
      · skip
        have r_394519 := le_r (nlt h_394517) rc_59 ra0
        refine g_iload_n C 0 dX10_isSign_18 rfl rfl ?_
        refine g_bipush C (v := 62) dX10_isSign_19 (by decide) ?_
        refine g_icmp_gt C (tgt := 28) dX10_isSign_21 (by decide) (fun h_394520 => ?_) (fun h_394520 => ?_)
        · skip
          have r_394521 := lt_r (lo := 63) (h_394520) rc_62 r_394519 (by decide)
          refine g_iconst C (v := 0) dX10_isSign_28 (by decide) ?_
          exact g_zret (ty := .boolean) (r := 0) B K rfl (rfl) ⟨rfl, rfl, rg_w rc_0 (by decide) (by decide)⟩ dX10_isSign_29
        · skip
          have r_394522 := le_l (nlt h_394520) r_394519 rc_62
          refine g_lo (is := [0]) (lo2 := [(0, .int a0)]) rfl ?_
          exact j_24 a0 (rg_w r_394522 (by decide) (by decide))
set_option maxRecDepth 100000 in
set_option maxHeartbeats 8000000 in
theorem c_X10_tokenOfWord {l : Launch} {D : va_G} {cy : Nat → ClassId} {L : List Nat} {κ ln : Nat → Nat} {R : Nat → Nat → Option Nat} {I : Nat → Nat → Int32} {J : Nat → Nat → Int64} {ow : Nat → Nat × Nat} (W9 : ∀ a ∈ L, Shp L κ ln R ow a) {x : Nat} (hLx : x ∈ L) (hkx : κ x = 10) (a0 : Int64) (hU : Uv L κ ow I) : CtI l yX10_tokenOfWord cX10_tokenOfWord 4 (some .int) { frames := 0, cells := 0, slots := 0, locals := 0 } D cy L κ ln R I J [.ref x, .long a0] (fun r I2 J2 => I = I2 ∧ J = J2 ∧ Rg 0 100 r) := by
  refine CtI.of (by decide +kernel) (Nat.le_of_ble_eq_true rfl) ?_
  intro p e s m below meth c B K
  have C := B.1
  obtain ⟨b_394660, hb_394660, hb_394660L, hb_394660k, hb_394660n, hb_394660o⟩ := shp_a (W9 x hLx) hkx 1 15 28 rfl (by decide)
  refine g_lo (is := [0, 1]) (lo2 := [(0, .ref x), (1, .long a0)]) rfl ?_
  have l_2 : ∀ (n_2 : Nat) (y_394661 : Int64) (v_394662 : Int32) (rv_394662 : Rg 0 28 v_394662) (hm_394663 : 28 < (v_394662 : Int32).toInt + (n_2 : Int)), WG p l e { frames := 0, cells := 0, slots := 0, locals := 0 } s m ([.ref x, .long a0] : List Value).toArray below meth c 4 0 0 (MQ below (Qi_ D cy L κ ln R (fun r I2 J2 => I = I2 ∧ J = J2 ∧ Rg 0 100 r)) ([.ref x, .long a0] : List Value).toArray s 0 0 (Al_ L)) D cy (Al_ L) s.heap L κ ln R I J 2 [(0, .ref x), (1, .long y_394661), (3, .int v_394662)] [] := by
    intro n_2
    induction n_2 with
    | zero =>
      intro y_394661 v_394662 rv_394662 hm_394663
      exact ms_0 rv_394662 hm_394663
    | succ n_2 ih_2 =>
      intro y_394661 v_394662 rv_394662 hm_394663
      refine g_iload_n C 2 dX10_tokenOfWord_2 rfl rfl ?_
      refine g_bipush C (v := 28) dX10_tokenOfWord_3 (by decide) ?_
      refine g_icmp_ge C (tgt := 27) dX10_tokenOfWord_5 (by decide) (fun h_394664 => ?_) (fun h_394664 => ?_)
      · skip
        have r_394665 := le_r (h_394664) rc_28 rv_394662
        refine g_bipush C (v := 100) dX10_tokenOfWord_27 (by decide) ?_
        exact g_zret (ty := .int) (r := 100) B K rfl (rfl) ⟨rfl, rfl, rg_w rc_100 (by decide) (by decide)⟩ dX10_tokenOfWord_29
      · skip
        have r_394666 := lt_l (hi := 27) (nle h_394664) rv_394662 rc_28 (by decide)
        refine g_aload_n C 0 dX10_tokenOfWord_8 rfl rfl ?_
        refine g_getR C K hLx hkx f_10_15 hb_394660 dX10_tokenOfWord_9 ?_
        refine g_iload_n C 2 dX10_tokenOfWord_12 rfl rfl ?_
        obtain ⟨y_394667, hy_394667⟩ : ∃ z, J b_394660 (v_394662.toNatClampNeg) = z := ⟨_, rfl⟩
        refine h_lald C K hb_394660L hb_394660k (v := y_394667) (v_394662.toNatClampNeg) (rfl) (ix_0 r_394666 (by decide)) (ix_lt r_394666 (by decide) hb_394660n (by decide)) hy_394667 dX10_tokenOfWord_13 ?_
        refine g_lload_n C 1 dX10_tokenOfWord_14 rfl rfl ?_
        refine g_lcmp C dX10_tokenOfWord_15 (fun x_394668 rx_394668 => ?_)
        refine g_if_ne C (tgt := 21) dX10_tokenOfWord_16 (by decide) (fun h_394669 => ?_) (fun h_394669 => ?_)
        · skip
          have n_394670 : ¬ x_394668 = 0 := h_394669
          obtain ⟨x_394671, hx_394671, rx_394671, tx_394671⟩ := ex_add (y := 1) 1 28 r_394666 rc_1 (by decide) (by decide) (by decide) (by decide)
          refine g_iinc C dX10_tokenOfWord_21 (k := 2) (v := x_394671) rfl hx_394671 (by decide) (lo2 := [(3, .int x_394671), (0, .ref x), (1, .long y_394661)]) rfl ?_
          refine g_goto C (tgt := 2) dX10_tokenOfWord_24 (by decide) ?_
          refine g_lo (is := [1, 2, 0]) (lo2 := [(0, .ref x), (1, .long y_394661), (3, .int x_394671)]) rfl ?_
          exact ih_2 y_394661 x_394671 (rg_w rx_394671 (by decide) (by decide)) (ms_1 hm_394663 (ti_k tx_394671 rc_1) (by decide))
        · skip
          have r_394672 := (⟨(eq_rg (h_394669) rc_0).1, (eq_rg (h_394669) rc_0).2⟩ : Rg 0 0 x_394668)
          refine g_iload_n C 2 dX10_tokenOfWord_19 rfl rfl ?_
          exact g_zret (ty := .int) (r := v_394662) B K rfl (rfl) ⟨rfl, rfl, rg_w r_394666 (by decide) (by decide)⟩ dX10_tokenOfWord_20
  refine g_iconst C (v := 0) dX10_tokenOfWord_0 (by decide) ?_
  refine g_istore_n C dX10_tokenOfWord_1 rfl (by decide) (lo2 := [(3, .int 0), (0, .ref x), (1, .long a0)]) rfl ?_
  refine g_lo (is := [1, 2, 0]) (lo2 := [(0, .ref x), (1, .long a0), (3, .int 0)]) rfl ?_
  exact l_2 29 a0 0 (rg_w rc_0 (by decide) (by decide)) (ms_s (N := 29) (rg_w rc_0 (by decide) (by decide)) (by decide))
set_option maxRecDepth 100000 in
set_option maxHeartbeats 8000000 in
theorem c_X10_withLetter {l : Launch} {D : va_G} {cy : Nat → ClassId} {L : List Nat} {κ ln : Nat → Nat} {R : Nat → Nat → Option Nat} {I : Nat → Nat → Int32} {J : Nat → Nat → Int64} {ow : Nat → Nat × Nat} (W9 : ∀ a ∈ L, Shp L κ ln R ow a) (a0 : Int64) (a1 : Int32) (ra1 : Rg (-128) 127 a1) (hU : Uv L κ ow I) : CtL l yX10_withLetter cX10_withLetter 3 (some .long) { frames := 0, cells := 0, slots := 0, locals := 0 } D cy L κ ln R I J [.long a0, .int a1] (fun r I2 J2 => I = I2 ∧ J = J2) := by
  refine CtL.of (by decide +kernel) (Nat.le_of_ble_eq_true rfl) ?_
  intro p e s m below meth c B K
  have C := B.1
  refine g_lo (is := [0, 1]) (lo2 := [(0, .long a0), (2, .int a1)]) rfl ?_
  refine g_lload_n C 0 dX10_withLetter_0 rfl rfl ?_
  refine g_iconst C (v := 5) dX10_withLetter_1 (by decide) ?_
  refine g_lshl C dX10_withLetter_2 (fun y_394683 => ?_)
  refine g_iload_n C 1 dX10_withLetter_3 rfl rfl ?_
  refine g_bipush C (v := 97) dX10_withLetter_4 (by decide) ?_
  obtain ⟨x_394684, hx_394684, rx_394684, tx_394684⟩ := ex_sub (-225) 30 ra1 rc_97 (by decide) (by decide) (by decide) (by decide)
  refine g_isub C (v := x_394684) dX10_withLetter_6 hx_394684 ?_
  refine g_iconst C (v := 1) dX10_withLetter_7 (by decide) ?_
  obtain ⟨x_394685, hx_394685, rx_394685, tx_394685⟩ := ex_add (-224) 31 rx_394684 rc_1 (by decide) (by decide) (by decide) (by decide)
  refine g_iadd C (v := x_394685) dX10_withLetter_8 hx_394685 ?_
  obtain ⟨y_394686, hy_394686⟩ : ∃ z, Int32.toInt64 x_394685 = z := ⟨_, rfl⟩
  refine g_i2l C (v := y_394686) dX10_withLetter_9 hy_394686 ?_
  refine g_lor C dX10_withLetter_10 (fun y_394687 => ?_)
  exact g_lret (r := y_394687) B K rfl ⟨rfl, rfl⟩ dX10_withLetter_11
