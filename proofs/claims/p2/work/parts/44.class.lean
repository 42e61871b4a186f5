theorem dX10_add_0 : decode cX10_add 0 = .ok (.bipush 24, 2) := by decide +kernel
theorem dX10_add_2 : decode cX10_add 2 = .ok (.istore_n 2, 1) := by decide +kernel
theorem dX10_add_3 : decode cX10_add 3 = .ok (.iload_n 2, 1) := by decide +kernel
theorem dX10_add_4 : decode cX10_add 4 = .ok (.ifCond .lt 44, 3) := by decide +kernel
theorem dX10_add_7 : decode cX10_add 7 = .ok (.aload_n 0, 1) := by decide +kernel
theorem dX10_add_8 : decode cX10_add 8 = .ok (.getfield 29, 3) := by decide +kernel
theorem dX10_add_11 : decode cX10_add 11 = .ok (.aload_n 0, 1) := by decide +kernel
theorem dX10_add_12 : decode cX10_add 12 = .ok (.getfield 9, 3) := by decide +kernel
theorem dX10_add_15 : decode cX10_add 15 = .ok (.arraylength, 1) := by decide +kernel
theorem dX10_add_16 : decode cX10_add 16 = .ok (.if_icmp .ge 32, 3) := by decide +kernel
theorem dX10_add_19 : decode cX10_add 19 = .ok (.aload_n 0, 1) := by decide +kernel
theorem dX10_add_20 : decode cX10_add 20 = .ok (.getfield 9, 3) := by decide +kernel
theorem dX10_add_23 : decode cX10_add 23 = .ok (.aload_n 0, 1) := by decide +kernel
theorem dX10_add_24 : decode cX10_add 24 = .ok (.getfield 29, 3) := by decide +kernel
theorem dX10_add_27 : decode cX10_add 27 = .ok (.iload_n 1, 1) := by decide +kernel
theorem dX10_add_28 : decode cX10_add 28 = .ok (.iload_n 2, 1) := by decide +kernel
theorem dX10_add_29 : decode cX10_add 29 = .ok (.ishr, 1) := by decide +kernel
theorem dX10_add_30 : decode cX10_add 30 = .ok (.i2b, 1) := by decide +kernel
theorem dX10_add_31 : decode cX10_add 31 = .ok (.bastore, 1) := by decide +kernel
theorem dX10_add_32 : decode cX10_add 32 = .ok (.aload_n 0, 1) := by decide +kernel
theorem dX10_add_33 : decode cX10_add 33 = .ok (.dup, 1) := by decide +kernel
theorem dX10_add_34 : decode cX10_add 34 = .ok (.getfield 29, 3) := by decide +kernel
theorem dX10_add_37 : decode cX10_add 37 = .ok (.iconst 1, 1) := by decide +kernel
theorem dX10_add_38 : decode cX10_add 38 = .ok (.iadd, 1) := by decide +kernel
theorem dX10_add_39 : decode cX10_add 39 = .ok (.putfield 29, 3) := by decide +kernel
theorem dX10_add_42 : decode cX10_add 42 = .ok (.iinc 2 (-8), 3) := by decide +kernel
theorem dX10_add_45 : decode cX10_add 45 = .ok (.goto (-42), 3) := by decide +kernel
theorem dX10_add_48 : decode cX10_add 48 = .ok (.return_, 1) := by decide +kernel
theorem dX10_addToken_0 : decode cX10_addToken 0 = .ok (.aload_n 0, 1) := by decide +kernel
theorem dX10_addToken_1 : decode cX10_addToken 1 = .ok (.getfield 33, 3) := by decide +kernel
theorem dX10_addToken_4 : decode cX10_addToken 4 = .ok (.aload_n 0, 1) := by decide +kernel
theorem dX10_addToken_5 : decode cX10_addToken 5 = .ok (.getfield 19, 3) := by decide +kernel
theorem dX10_addToken_8 : decode cX10_addToken 8 = .ok (.arraylength, 1) := by decide +kernel
theorem dX10_addToken_9 : decode cX10_addToken 9 = .ok (.if_icmp .ge 43, 3) := by decide +kernel
theorem dX10_addToken_12 : decode cX10_addToken 12 = .ok (.aload_n 0, 1) := by decide +kernel
theorem dX10_addToken_13 : decode cX10_addToken 13 = .ok (.getfield 19, 3) := by decide +kernel
theorem dX10_addToken_16 : decode cX10_addToken 16 = .ok (.aload_n 0, 1) := by decide +kernel
theorem dX10_addToken_17 : decode cX10_addToken 17 = .ok (.getfield 33, 3) := by decide +kernel
theorem dX10_addToken_20 : decode cX10_addToken 20 = .ok (.iload_n 1, 1) := by decide +kernel
theorem dX10_addToken_21 : decode cX10_addToken 21 = .ok (.iastore, 1) := by decide +kernel
theorem dX10_addToken_22 : decode cX10_addToken 22 = .ok (.aload_n 0, 1) := by decide +kernel
theorem dX10_addToken_23 : decode cX10_addToken 23 = .ok (.getfield 23, 3) := by decide +kernel
theorem dX10_addToken_26 : decode cX10_addToken 26 = .ok (.aload_n 0, 1) := by decide +kernel
theorem dX10_addToken_27 : decode cX10_addToken 27 = .ok (.getfield 33, 3) := by decide +kernel
theorem dX10_addToken_30 : decode cX10_addToken 30 = .ok (.iload_n 2, 1) := by decide +kernel
theorem dX10_addToken_31 : decode cX10_addToken 31 = .ok (.iastore, 1) := by decide +kernel
theorem dX10_addToken_32 : decode cX10_addToken 32 = .ok (.aload_n 0, 1) := by decide +kernel
theorem dX10_addToken_33 : decode cX10_addToken 33 = .ok (.getfield 26, 3) := by decide +kernel
theorem dX10_addToken_36 : decode cX10_addToken 36 = .ok (.aload_n 0, 1) := by decide +kernel
theorem dX10_addToken_37 : decode cX10_addToken 37 = .ok (.getfield 33, 3) := by decide +kernel
theorem dX10_addToken_40 : decode cX10_addToken 40 = .ok (.lload_n 3, 1) := by decide +kernel
theorem dX10_addToken_41 : decode cX10_addToken 41 = .ok (.lastore, 1) := by decide +kernel
theorem dX10_addToken_42 : decode cX10_addToken 42 = .ok (.aload_n 0, 1) := by decide +kernel
theorem dX10_addToken_43 : decode cX10_addToken 43 = .ok (.dup, 1) := by decide +kernel
theorem dX10_addToken_44 : decode cX10_addToken 44 = .ok (.getfield 33, 3) := by decide +kernel
theorem dX10_addToken_47 : decode cX10_addToken 47 = .ok (.iconst 1, 1) := by decide +kernel
theorem dX10_addToken_48 : decode cX10_addToken 48 = .ok (.iadd, 1) := by decide +kernel
theorem dX10_addToken_49 : decode cX10_addToken 49 = .ok (.putfield 33, 3) := by decide +kernel
theorem dX10_addToken_52 : decode cX10_addToken 52 = .ok (.return_, 1) := by decide +kernel
theorem dX10_advance_0 : decode cX10_advance 0 = .ok (.aload_n 0, 1) := by decide +kernel
theorem dX10_advance_1 : decode cX10_advance 1 = .ok (.getfield 36, 3) := by decide +kernel
theorem dX10_advance_4 : decode cX10_advance 4 = .ok (.iconst 1, 1) := by decide +kernel
theorem dX10_advance_5 : decode cX10_advance 5 = .ok (.iadd, 1) := by decide +kernel
theorem dX10_advance_6 : decode cX10_advance 6 = .ok (.aload_n 0, 1) := by decide +kernel
theorem dX10_advance_7 : decode cX10_advance 7 = .ok (.getfield 33, 3) := by decide +kernel
theorem dX10_advance_10 : decode cX10_advance 10 = .ok (.if_icmp .ge 52, 3) := by decide +kernel
theorem dX10_advance_13 : decode cX10_advance 13 = .ok (.aload_n 0, 1) := by decide +kernel
theorem dX10_advance_14 : decode cX10_advance 14 = .ok (.dup, 1) := by decide +kernel
theorem dX10_advance_15 : decode cX10_advance 15 = .ok (.getfield 36, 3) := by decide +kernel
theorem dX10_advance_18 : decode cX10_advance 18 = .ok (.iconst 1, 1) := by decide +kernel
theorem dX10_advance_19 : decode cX10_advance 19 = .ok (.iadd, 1) := by decide +kernel
theorem dX10_advance_20 : decode cX10_advance 20 = .ok (.putfield 36, 3) := by decide +kernel
theorem dX10_advance_23 : decode cX10_advance 23 = .ok (.aload_n 0, 1) := by decide +kernel
theorem dX10_advance_24 : decode cX10_advance 24 = .ok (.aload_n 0, 1) := by decide +kernel
theorem dX10_advance_25 : decode cX10_advance 25 = .ok (.getfield 19, 3) := by decide +kernel
theorem dX10_advance_28 : decode cX10_advance 28 = .ok (.aload_n 0, 1) := by decide +kernel
theorem dX10_advance_29 : decode cX10_advance 29 = .ok (.getfield 36, 3) := by decide +kernel
theorem dX10_advance_32 : decode cX10_advance 32 = .ok (.iaload, 1) := by decide +kernel
theorem dX10_advance_33 : decode cX10_advance 33 = .ok (.putfield 39, 3) := by decide +kernel
theorem dX10_advance_36 : decode cX10_advance 36 = .ok (.aload_n 0, 1) := by decide +kernel
theorem dX10_advance_37 : decode cX10_advance 37 = .ok (.aload_n 0, 1) := by decide +kernel
theorem dX10_advance_38 : decode cX10_advance 38 = .ok (.getfield 23, 3) := by decide +kernel
theorem dX10_advance_41 : decode cX10_advance 41 = .ok (.aload_n 0, 1) := by decide +kernel
theorem dX10_advance_42 : decode cX10_advance 42 = .ok (.getfield 36, 3) := by decide +kernel
theorem dX10_advance_45 : decode cX10_advance 45 = .ok (.iaload, 1) := by decide +kernel
theorem dX10_advance_46 : decode cX10_advance 46 = .ok (.putfield 42, 3) := by decide +kernel
theorem dX10_advance_49 : decode cX10_advance 49 = .ok (.aload_n 0, 1) := by decide +kernel
theorem dX10_advance_50 : decode cX10_advance 50 = .ok (.aload_n 0, 1) := by decide +kernel
theorem dX10_advance_51 : decode cX10_advance 51 = .ok (.getfield 26, 3) := by decide +kernel
theorem dX10_advance_54 : decode cX10_advance 54 = .ok (.aload_n 0, 1) := by decide +kernel
theorem dX10_advance_55 : decode cX10_advance 55 = .ok (.getfield 36, 3) := by decide +kernel
theorem dX10_advance_58 : decode cX10_advance 58 = .ok (.laload, 1) := by decide +kernel
theorem dX10_advance_59 : decode cX10_advance 59 = .ok (.putfield 45, 3) := by decide +kernel
theorem dX10_advance_62 : decode cX10_advance 62 = .ok (.return_, 1) := by decide +kernel
theorem dX10_isDigit_0 : decode cX10_isDigit 0 = .ok (.iload_n 0, 1) := by decide +kernel
theorem dX10_isDigit_1 : decode cX10_isDigit 1 = .ok (.bipush 48, 2) := by decide +kernel
theorem dX10_isDigit_3 : decode cX10_isDigit 3 = .ok (.if_icmp .lt 13, 3) := by decide +kernel
theorem dX10_isDigit_6 : decode cX10_isDigit 6 = .ok (.iload_n 0, 1) := by decide +kernel
theorem dX10_isDigit_7 : decode cX10_isDigit 7 = .ok (.bipush 57, 2) := by decide +kernel
theorem dX10_isDigit_9 : decode cX10_isDigit 9 = .ok (.if_icmp .gt 7, 3) := by decide +kernel
theorem dX10_isDigit_12 : decode cX10_isDigit 12 = .ok (.iconst 1, 1) := by decide +kernel
theorem dX10_isDigit_13 : decode cX10_isDigit 13 = .ok (.goto 4, 3) := by decide +kernel
theorem dX10_isDigit_16 : decode cX10_isDigit 16 = .ok (.iconst 0, 1) := by decide +kernel
theorem dX10_isDigit_17 : decode cX10_isDigit 17 = .ok (.ireturn, 1) := by decide +kernel
theorem dX10_isLetter_0 : decode cX10_isLetter 0 = .ok (.iload_n 0, 1) := by decide +kernel
theorem dX10_isLetter_1 : decode cX10_isLetter 1 = .ok (.bipush 97, 2) := by decide +kernel
theorem dX10_isLetter_3 : decode cX10_isLetter 3 = .ok (.if_icmp .lt 13, 3) := by decide +kernel
theorem dX10_isLetter_6 : decode cX10_isLetter 6 = .ok (.iload_n 0, 1) := by decide +kernel
theorem dX10_isLetter_7 : decode cX10_isLetter 7 = .ok (.bipush 122, 2) := by decide +kernel
theorem dX10_isLetter_9 : decode cX10_isLetter 9 = .ok (.if_icmp .gt 7, 3) := by decide +kernel
theorem dX10_isLetter_12 : decode cX10_isLetter 12 = .ok (.iconst 1, 1) := by decide +kernel
theorem dX10_isLetter_13 : decode cX10_isLetter 13 = .ok (.goto 4, 3) := by decide +kernel
theorem dX10_isLetter_16 : decode cX10_isLetter 16 = .ok (.iconst 0, 1) := by decide +kernel
theorem dX10_isLetter_17 : decode cX10_isLetter 17 = .ok (.ireturn, 1) := by decide +kernel
theorem dX10_isSign_0 : decode cX10_isSign 0 = .ok (.iload_n 0, 1) := by decide +kernel
theorem dX10_isSign_1 : decode cX10_isSign 1 = .ok (.bipush 40, 2) := by decide +kernel
theorem dX10_isSign_3 : decode cX10_isSign 3 = .ok (.if_icmp .eq 21, 3) := by decide +kernel
theorem dX10_isSign_6 : decode cX10_isSign 6 = .ok (.iload_n 0, 1) := by decide +kernel
theorem dX10_isSign_7 : decode cX10_isSign 7 = .ok (.bipush 41, 2) := by decide +kernel
theorem dX10_isSign_9 : decode cX10_isSign 9 = .ok (.if_icmp .eq 15, 3) := by decide +kernel
theorem dX10_isSign_12 : decode cX10_isSign 12 = .ok (.iload_n 0, 1) := by decide +kernel
theorem dX10_isSign_13 : decode cX10_isSign 13 = .ok (.bipush 59, 2) := by decide +kernel
theorem dX10_isSign_15 : decode cX10_isSign 15 = .ok (.if_icmp .lt 13, 3) := by decide +kernel
theorem dX10_isSign_18 : decode cX10_isSign 18 = .ok (.iload_n 0, 1) := by decide +kernel
theorem dX10_isSign_19 : decode cX10_isSign 19 = .ok (.bipush 62, 2) := by decide +kernel
theorem dX10_isSign_21 : decode cX10_isSign 21 = .ok (.if_icmp .gt 7, 3) := by decide +kernel
theorem dX10_isSign_24 : decode cX10_isSign 24 = .ok (.iconst 1, 1) := by decide +kernel
theorem dX10_isSign_25 : decode cX10_isSign 25 = .ok (.goto 4, 3) := by decide +kernel
theorem dX10_isSign_28 : decode cX10_isSign 28 = .ok (.iconst 0, 1) := by decide +kernel
theorem dX10_isSign_29 : decode cX10_isSign 29 = .ok (.ireturn, 1) := by decide +kernel
theorem dX10_tokenOfWord_0 : decode cX10_tokenOfWord 0 = .ok (.iconst 0, 1) := by decide +kernel
theorem dX10_tokenOfWord_1 : decode cX10_tokenOfWord 1 = .ok (.istore_n 3, 1) := by decide +kernel
theorem dX10_tokenOfWord_2 : decode cX10_tokenOfWord 2 = .ok (.iload_n 3, 1) := by decide +kernel
theorem dX10_tokenOfWord_3 : decode cX10_tokenOfWord 3 = .ok (.bipush 28, 2) := by decide +kernel
theorem dX10_tokenOfWord_5 : decode cX10_tokenOfWord 5 = .ok (.if_icmp .ge 22, 3) := by decide +kernel
theorem dX10_tokenOfWord_8 : decode cX10_tokenOfWord 8 = .ok (.aload_n 0, 1) := by decide +kernel
theorem dX10_tokenOfWord_9 : decode cX10_tokenOfWord 9 = .ok (.getfield 15, 3) := by decide +kernel
theorem dX10_tokenOfWord_12 : decode cX10_tokenOfWord 12 = .ok (.iload_n 3, 1) := by decide +kernel
theorem dX10_tokenOfWord_13 : decode cX10_tokenOfWord 13 = .ok (.laload, 1) := by decide +kernel
theorem dX10_tokenOfWord_14 : decode cX10_tokenOfWord 14 = .ok (.lload_n 1, 1) := by decide +kernel
theorem dX10_tokenOfWord_15 : decode cX10_tokenOfWord 15 = .ok (.lcmp, 1) := by decide +kernel
theorem dX10_tokenOfWord_16 : decode cX10_tokenOfWord 16 = .ok (.ifCond .ne 5, 3) := by decide +kernel
theorem dX10_tokenOfWord_19 : decode cX10_tokenOfWord 19 = .ok (.iload_n 3, 1) := by decide +kernel
theorem dX10_tokenOfWord_20 : decode cX10_tokenOfWord 20 = .ok (.ireturn, 1) := by decide +kernel
theorem dX10_tokenOfWord_21 : decode cX10_tokenOfWord 21 = .ok (.iinc 3 1, 3) := by decide +kernel
theorem dX10_tokenOfWord_24 : decode cX10_tokenOfWord 24 = .ok (.goto (-22), 3) := by decide +kernel
theorem dX10_tokenOfWord_27 : decode cX10_tokenOfWord 27 = .ok (.bipush 100, 2) := by decide +kernel
theorem dX10_tokenOfWord_29 : decode cX10_tokenOfWord 29 = .ok (.ireturn, 1) := by decide +kernel
theorem dX10_withLetter_0 : decode cX10_withLetter 0 = .ok (.lload_n 0, 1) := by decide +kernel
theorem dX10_withLetter_1 : decode cX10_withLetter 1 = .ok (.iconst 5, 1) := by decide +kernel
theorem dX10_withLetter_2 : decode cX10_withLetter 2 = .ok (.lshl, 1) := by decide +kernel
theorem dX10_withLetter_3 : decode cX10_withLetter 3 = .ok (.iload_n 2, 1) := by decide +kernel
theorem dX10_withLetter_4 : decode cX10_withLetter 4 = .ok (.bipush 97, 2) := by decide +kernel
theorem dX10_withLetter_6 : decode cX10_withLetter 6 = .ok (.isub, 1) := by decide +kernel
theorem dX10_withLetter_7 : decode cX10_withLetter 7 = .ok (.iconst 1, 1) := by decide +kernel
theorem dX10_withLetter_8 : decode cX10_withLetter 8 = .ok (.iadd, 1) := by decide +kernel
theorem dX10_withLetter_9 : decode cX10_withLetter 9 = .ok (.i2l, 1) := by decide +kernel
theorem dX10_withLetter_10 : decode cX10_withLetter 10 = .ok (.lor, 1) := by decide +kernel
theorem dX10_withLetter_11 : decode cX10_withLetter 11 = .ok (.lreturn, 1) := by decide +kernel
theorem dX11_end_0 : decode cX11_end 0 = .ok (.iload_n 1, 1) := by decide +kernel
theorem dX11_end_1 : decode cX11_end 1 = .ok (.ifCond .lt 14, 3) := by decide +kernel
theorem dX11_end_4 : decode cX11_end 4 = .ok (.iload_n 1, 1) := by decide +kernel
theorem dX11_end_5 : decode cX11_end 5 = .ok (.aload_n 0, 1) := by decide +kernel
theorem dX11_end_6 : decode cX11_end 6 = .ok (.getfield 10, 3) := by decide +kernel
theorem dX11_end_9 : decode cX11_end 9 = .ok (.getfield 102, 3) := by decide +kernel
theorem dX11_end_12 : decode cX11_end 12 = .ok (.if_icmp .le 5, 3) := by decide +kernel
theorem dX11_end_15 : decode cX11_end 15 = .ok (.iconst 0, 1) := by decide +kernel
theorem dX11_end_16 : decode cX11_end 16 = .ok (.ireturn, 1) := by decide +kernel
theorem dX11_end_17 : decode cX11_end 17 = .ok (.aload_n 0, 1) := by decide +kernel
theorem dX11_end_18 : decode cX11_end 18 = .ok (.getfield 10, 3) := by decide +kernel
theorem dX11_end_21 : decode cX11_end 21 = .ok (.iload_n 1, 1) := by decide +kernel
theorem dX11_end_22 : decode cX11_end 22 = .ok (.putfield 102, 3) := by decide +kernel
theorem dX11_end_25 : decode cX11_end 25 = .ok (.iconst 1, 1) := by decide +kernel
theorem dX11_end_26 : decode cX11_end 26 = .ok (.ireturn, 1) := by decide +kernel
theorem dX11_feed_0 : decode cX11_feed 0 = .ok (.aload_n 0, 1) := by decide +kernel
theorem dX11_feed_1 : decode cX11_feed 1 = .ok (.getfield 10, 3) := by decide +kernel
theorem dX11_feed_4 : decode cX11_feed 4 = .ok (.getfield 102, 3) := by decide +kernel
theorem dX11_feed_7 : decode cX11_feed 7 = .ok (.sipush 920, 3) := by decide +kernel
theorem dX11_feed_10 : decode cX11_feed 10 = .ok (.if_icmp .le 5, 3) := by decide +kernel
theorem dX11_feed_13 : decode cX11_feed 13 = .ok (.iconst (-1), 1) := by decide +kernel
theorem dX11_feed_14 : decode cX11_feed 14 = .ok (.ireturn, 1) := by decide +kernel
theorem dX11_feed_15 : decode cX11_feed 15 = .ok (.aload_n 0, 1) := by decide +kernel
theorem dX11_feed_16 : decode cX11_feed 16 = .ok (.getfield 10, 3) := by decide +kernel
theorem dX11_feed_19 : decode cX11_feed 19 = .ok (.iload_n 1, 1) := by decide +kernel
theorem dX11_feed_20 : decode cX11_feed 20 = .ok (.invokevirtual 105, 3) := by decide +kernel
theorem dX11_feed_23 : decode cX11_feed 23 = .ok (.aload_n 0, 1) := by decide +kernel
theorem dX11_feed_24 : decode cX11_feed 24 = .ok (.getfield 10, 3) := by decide +kernel
theorem dX11_feed_27 : decode cX11_feed 27 = .ok (.iload_n 2, 1) := by decide +kernel
theorem dX11_feed_28 : decode cX11_feed 28 = .ok (.invokevirtual 105, 3) := by decide +kernel
theorem dX11_feed_31 : decode cX11_feed 31 = .ok (.aload_n 0, 1) := by decide +kernel
theorem dX11_feed_32 : decode cX11_feed 32 = .ok (.getfield 10, 3) := by decide +kernel
theorem dX11_feed_35 : decode cX11_feed 35 = .ok (.iload_n 3, 1) := by decide +kernel
theorem dX11_feed_36 : decode cX11_feed 36 = .ok (.invokevirtual 105, 3) := by decide +kernel
theorem dX11_feed_39 : decode cX11_feed 39 = .ok (.aload_n 0, 1) := by decide +kernel
theorem dX11_feed_40 : decode cX11_feed 40 = .ok (.getfield 10, 3) := by decide +kernel
theorem dX11_feed_43 : decode cX11_feed 43 = .ok (.iload 4, 2) := by decide +kernel
theorem dX11_feed_45 : decode cX11_feed 45 = .ok (.invokevirtual 105, 3) := by decide +kernel
theorem dX11_feed_48 : decode cX11_feed 48 = .ok (.aload_n 0, 1) := by decide +kernel
theorem dX11_feed_49 : decode cX11_feed 49 = .ok (.getfield 10, 3) := by decide +kernel
theorem dX11_feed_52 : decode cX11_feed 52 = .ok (.iload 5, 2) := by decide +kernel
theorem dX11_feed_54 : decode cX11_feed 54 = .ok (.invokevirtual 105, 3) := by decide +kernel
theorem dX11_feed_57 : decode cX11_feed 57 = .ok (.aload_n 0, 1) := by decide +kernel
theorem dX11_feed_58 : decode cX11_feed 58 = .ok (.getfield 10, 3) := by decide +kernel
theorem dX11_feed_61 : decode cX11_feed 61 = .ok (.getfield 102, 3) := by decide +kernel
theorem dX11_feed_64 : decode cX11_feed 64 = .ok (.ireturn, 1) := by decide +kernel
theorem dX1_become_0 : decode cX1_become 0 = .ok (.aload_n 1, 1) := by decide +kernel
theorem dX1_become_1 : decode cX1_become 1 = .ok (.getfield 9, 3) := by decide +kernel
theorem dX1_become_4 : decode cX1_become 4 = .ok (.iconst 0, 1) := by decide +kernel
theorem dX1_become_5 : decode cX1_become 5 = .ok (.aload_n 0, 1) := by decide +kernel
theorem dX1_become_6 : decode cX1_become 6 = .ok (.getfield 9, 3) := by decide +kernel
theorem dX1_become_9 : decode cX1_become 9 = .ok (.iconst 0, 1) := by decide +kernel
theorem dX1_become_10 : decode cX1_become 10 = .ok (.bipush 6, 2) := by decide +kernel
theorem dX1_become_12 : decode cX1_become 12 = .ok (.invokestatic 56, 3) := by decide +kernel
theorem dX1_become_15 : decode cX1_become 15 = .ok (.aload_n 1, 1) := by decide +kernel
theorem dX1_become_16 : decode cX1_become 16 = .ok (.getfield 15, 3) := by decide +kernel
theorem dX1_become_19 : decode cX1_become 19 = .ok (.iconst 0, 1) := by decide +kernel
theorem dX1_become_20 : decode cX1_become 20 = .ok (.aload_n 0, 1) := by decide +kernel
theorem dX1_become_21 : decode cX1_become 21 = .ok (.getfield 15, 3) := by decide +kernel
theorem dX1_become_24 : decode cX1_become 24 = .ok (.iconst 0, 1) := by decide +kernel
theorem dX1_become_25 : decode cX1_become 25 = .ok (.bipush 42, 2) := by decide +kernel
theorem dX1_become_27 : decode cX1_become 27 = .ok (.invokestatic 56, 3) := by decide +kernel
theorem dX1_become_30 : decode cX1_become 30 = .ok (.aload_n 1, 1) := by decide +kernel
theorem dX1_become_31 : decode cX1_become 31 = .ok (.getfield 18, 3) := by decide +kernel
theorem dX1_become_34 : decode cX1_become 34 = .ok (.iconst 0, 1) := by decide +kernel
theorem dX1_become_35 : decode cX1_become 35 = .ok (.aload_n 0, 1) := by decide +kernel
theorem dX1_become_36 : decode cX1_become 36 = .ok (.getfield 18, 3) := by decide +kernel
theorem dX1_become_39 : decode cX1_become 39 = .ok (.iconst 0, 1) := by decide +kernel
theorem dX1_become_40 : decode cX1_become 40 = .ok (.bipush 7, 2) := by decide +kernel
theorem dX1_become_42 : decode cX1_become 42 = .ok (.invokestatic 56, 3) := by decide +kernel
theorem dX1_become_45 : decode cX1_become 45 = .ok (.aload_n 1, 1) := by decide +kernel
theorem dX1_become_46 : decode cX1_become 46 = .ok (.getfield 21, 3) := by decide +kernel
theorem dX1_become_49 : decode cX1_become 49 = .ok (.iconst 0, 1) := by decide +kernel
theorem dX1_become_50 : decode cX1_become 50 = .ok (.aload_n 0, 1) := by decide +kernel
theorem dX1_become_51 : decode cX1_become 51 = .ok (.getfield 21, 3) := by decide +kernel
theorem dX1_become_54 : decode cX1_become 54 = .ok (.iconst 0, 1) := by decide +kernel
theorem dX1_become_55 : decode cX1_become 55 = .ok (.bipush 7, 2) := by decide +kernel
theorem dX1_become_57 : decode cX1_become 57 = .ok (.invokestatic 56, 3) := by decide +kernel
theorem dX1_become_60 : decode cX1_become 60 = .ok (.aload_n 1, 1) := by decide +kernel
theorem dX1_become_61 : decode cX1_become 61 = .ok (.getfield 24, 3) := by decide +kernel
theorem dX1_become_64 : decode cX1_become 64 = .ok (.iconst 0, 1) := by decide +kernel
theorem dX1_become_65 : decode cX1_become 65 = .ok (.aload_n 0, 1) := by decide +kernel
theorem dX1_become_66 : decode cX1_become 66 = .ok (.getfield 24, 3) := by decide +kernel
theorem dX1_become_69 : decode cX1_become 69 = .ok (.iconst 0, 1) := by decide +kernel
theorem dX1_become_70 : decode cX1_become 70 = .ok (.bipush 7, 2) := by decide +kernel
theorem dX1_become_72 : decode cX1_become 72 = .ok (.invokestatic 56, 3) := by decide +kernel
theorem dX1_become_75 : decode cX1_become 75 = .ok (.aload_n 1, 1) := by decide +kernel
theorem dX1_become_76 : decode cX1_become 76 = .ok (.getfield 27, 3) := by decide +kernel
theorem dX1_become_79 : decode cX1_become 79 = .ok (.iconst 0, 1) := by decide +kernel
theorem dX1_become_80 : decode cX1_become 80 = .ok (.aload_n 0, 1) := by decide +kernel
theorem dX1_become_81 : decode cX1_become 81 = .ok (.getfield 27, 3) := by decide +kernel
theorem dX1_become_84 : decode cX1_become 84 = .ok (.iconst 0, 1) := by decide +kernel
theorem dX1_become_85 : decode cX1_become 85 = .ok (.bipush 7, 2) := by decide +kernel
theorem dX1_become_87 : decode cX1_become 87 = .ok (.invokestatic 56, 3) := by decide +kernel
theorem dX1_become_90 : decode cX1_become 90 = .ok (.aload_n 0, 1) := by decide +kernel
theorem dX1_become_91 : decode cX1_become 91 = .ok (.aload_n 1, 1) := by decide +kernel
theorem dX1_become_92 : decode cX1_become 92 = .ok (.getfield 30, 3) := by decide +kernel
theorem dX1_become_95 : decode cX1_become 95 = .ok (.putfield 30, 3) := by decide +kernel
theorem dX1_become_98 : decode cX1_become 98 = .ok (.aload_n 0, 1) := by decide +kernel
theorem dX1_become_99 : decode cX1_become 99 = .ok (.aload_n 1, 1) := by decide +kernel
theorem dX1_become_100 : decode cX1_become 100 = .ok (.getfield 34, 3) := by decide +kernel
theorem dX1_become_103 : decode cX1_become 103 = .ok (.putfield 34, 3) := by decide +kernel
theorem dX1_become_106 : decode cX1_become 106 = .ok (.aload_n 0, 1) := by decide +kernel
theorem dX1_become_107 : decode cX1_become 107 = .ok (.aload_n 1, 1) := by decide +kernel
theorem dX1_become_108 : decode cX1_become 108 = .ok (.getfield 37, 3) := by decide +kernel
theorem dX1_become_111 : decode cX1_become 111 = .ok (.putfield 37, 3) := by decide +kernel
theorem dX1_become_114 : decode cX1_become 114 = .ok (.aload_n 0, 1) := by decide +kernel
theorem dX1_become_115 : decode cX1_become 115 = .ok (.aload_n 1, 1) := by decide +kernel
theorem dX1_become_116 : decode cX1_become 116 = .ok (.getfield 40, 3) := by decide +kernel
theorem dX1_become_119 : decode cX1_become 119 = .ok (.putfield 40, 3) := by decide +kernel
theorem dX1_become_122 : decode cX1_become 122 = .ok (.aload_n 0, 1) := by decide +kernel
theorem dX1_become_123 : decode cX1_become 123 = .ok (.aload_n 1, 1) := by decide +kernel
theorem dX1_become_124 : decode cX1_become 124 = .ok (.getfield 43, 3) := by decide +kernel
theorem dX1_become_127 : decode cX1_become 127 = .ok (.putfield 43, 3) := by decide +kernel
theorem dX1_become_130 : decode cX1_become 130 = .ok (.aload_n 0, 1) := by decide +kernel
theorem dX1_become_131 : decode cX1_become 131 = .ok (.aload_n 1, 1) := by decide +kernel
theorem dX1_become_132 : decode cX1_become 132 = .ok (.getfield 46, 3) := by decide +kernel
theorem dX1_become_135 : decode cX1_become 135 = .ok (.putfield 46, 3) := by decide +kernel
theorem dX1_become_138 : decode cX1_become 138 = .ok (.return_, 1) := by decide +kernel
theorem dX5_forget_0 : decode cX5_forget 0 = .ok (.aload_n 0, 1) := by decide +kernel
theorem dX5_forget_1 : decode cX5_forget 1 = .ok (.iconst 0, 1) := by decide +kernel
theorem dX5_forget_2 : decode cX5_forget 2 = .ok (.putfield 17, 3) := by decide +kernel
theorem dX5_forget_5 : decode cX5_forget 5 = .ok (.return_, 1) := by decide +kernel
theorem dX7_forget_0 : decode cX7_forget 0 = .ok (.aload_n 0, 1) := by decide +kernel
theorem dX7_forget_1 : decode cX7_forget 1 = .ok (.iconst 0, 1) := by decide +kernel
theorem dX7_forget_2 : decode cX7_forget 2 = .ok (.putfield 24, 3) := by decide +kernel
theorem dX7_forget_5 : decode cX7_forget 5 = .ok (.aload_n 0, 1) := by decide +kernel
theorem dX7_forget_6 : decode cX7_forget 6 = .ok (.iconst 0, 1) := by decide +kernel
theorem dX7_forget_7 : decode cX7_forget 7 = .ok (.putfield 28, 3) := by decide +kernel
theorem dX7_forget_10 : decode cX7_forget 10 = .ok (.return_, 1) := by decide +kernel
theorem dX8_become_0 : decode cX8_become 0 = .ok (.aload_n 1, 1) := by decide +kernel
theorem dX8_become_1 : decode cX8_become 1 = .ok (.getfield 9, 3) := by decide +kernel
theorem dX8_become_4 : decode cX8_become 4 = .ok (.iconst 0, 1) := by decide +kernel
theorem dX8_become_5 : decode cX8_become 5 = .ok (.aload_n 0, 1) := by decide +kernel
theorem dX8_become_6 : decode cX8_become 6 = .ok (.getfield 9, 3) := by decide +kernel
theorem dX8_become_9 : decode cX8_become 9 = .ok (.iconst 0, 1) := by decide +kernel
theorem dX8_become_10 : decode cX8_become 10 = .ok (.bipush 7, 2) := by decide +kernel
theorem dX8_become_12 : decode cX8_become 12 = .ok (.invokestatic 41, 3) := by decide +kernel
theorem dX8_become_15 : decode cX8_become 15 = .ok (.aload_n 1, 1) := by decide +kernel
theorem dX8_become_16 : decode cX8_become 16 = .ok (.getfield 15, 3) := by decide +kernel
theorem dX8_become_19 : decode cX8_become 19 = .ok (.iconst 0, 1) := by decide +kernel
theorem dX8_become_20 : decode cX8_become 20 = .ok (.aload_n 0, 1) := by decide +kernel
theorem dX8_become_21 : decode cX8_become 21 = .ok (.getfield 15, 3) := by decide +kernel
theorem dX8_become_24 : decode cX8_become 24 = .ok (.iconst 0, 1) := by decide +kernel
theorem dX8_become_25 : decode cX8_become 25 = .ok (.bipush 7, 2) := by decide +kernel
theorem dX8_become_27 : decode cX8_become 27 = .ok (.invokestatic 41, 3) := by decide +kernel
theorem dX8_become_30 : decode cX8_become 30 = .ok (.aload_n 1, 1) := by decide +kernel
theorem dX8_become_31 : decode cX8_become 31 = .ok (.getfield 19, 3) := by decide +kernel
theorem dX8_become_34 : decode cX8_become 34 = .ok (.iconst 0, 1) := by decide +kernel
theorem dX8_become_35 : decode cX8_become 35 = .ok (.aload_n 0, 1) := by decide +kernel
theorem dX8_become_36 : decode cX8_become 36 = .ok (.getfield 19, 3) := by decide +kernel
theorem dX8_become_39 : decode cX8_become 39 = .ok (.iconst 0, 1) := by decide +kernel
theorem dX8_become_40 : decode cX8_become 40 = .ok (.bipush 7, 2) := by decide +kernel
theorem dX8_become_42 : decode cX8_become 42 = .ok (.invokestatic 41, 3) := by decide +kernel
theorem dX8_become_45 : decode cX8_become 45 = .ok (.aload_n 1, 1) := by decide +kernel
theorem dX8_become_46 : decode cX8_become 46 = .ok (.getfield 22, 3) := by decide +kernel
theorem dX8_become_49 : decode cX8_become 49 = .ok (.iconst 0, 1) := by decide +kernel
theorem dX8_become_50 : decode cX8_become 50 = .ok (.aload_n 0, 1) := by decide +kernel
theorem dX8_become_51 : decode cX8_become 51 = .ok (.getfield 22, 3) := by decide +kernel
theorem dX8_become_54 : decode cX8_become 54 = .ok (.iconst 0, 1) := by decide +kernel
theorem dX8_become_55 : decode cX8_become 55 = .ok (.bipush 6, 2) := by decide +kernel
theorem dX8_become_57 : decode cX8_become 57 = .ok (.invokestatic 41, 3) := by decide +kernel
theorem dX8_become_60 : decode cX8_become 60 = .ok (.aload_n 1, 1) := by decide +kernel
theorem dX8_become_61 : decode cX8_become 61 = .ok (.getfield 25, 3) := by decide +kernel
theorem dX8_become_64 : decode cX8_become 64 = .ok (.iconst 0, 1) := by decide +kernel
theorem dX8_become_65 : decode cX8_become 65 = .ok (.aload_n 0, 1) := by decide +kernel
theorem dX8_become_66 : decode cX8_become 66 = .ok (.getfield 25, 3) := by decide +kernel
theorem dX8_become_69 : decode cX8_become 69 = .ok (.iconst 0, 1) := by decide +kernel
theorem dX8_become_70 : decode cX8_become 70 = .ok (.bipush 6, 2) := by decide +kernel
theorem dX8_become_72 : decode cX8_become 72 = .ok (.invokestatic 41, 3) := by decide +kernel
theorem dX8_become_75 : decode cX8_become 75 = .ok (.aload_n 0, 1) := by decide +kernel
theorem dX8_become_76 : decode cX8_become 76 = .ok (.aload_n 1, 1) := by decide +kernel
theorem dX8_become_77 : decode cX8_become 77 = .ok (.getfield 28, 3) := by decide +kernel
theorem dX8_become_80 : decode cX8_become 80 = .ok (.putfield 28, 3) := by decide +kernel
theorem dX8_become_83 : decode cX8_become 83 = .ok (.aload_n 0, 1) := by decide +kernel
theorem dX8_become_84 : decode cX8_become 84 = .ok (.aload_n 1, 1) := by decide +kernel
theorem dX8_become_85 : decode cX8_become 85 = .ok (.getfield 32, 3) := by decide +kernel
theorem dX8_become_88 : decode cX8_become 88 = .ok (.putfield 32, 3) := by decide +kernel
theorem dX8_become_91 : decode cX8_become 91 = .ok (.aload_n 0, 1) := by decide +kernel
theorem dX8_become_92 : decode cX8_become 92 = .ok (.aload_n 1, 1) := by decide +kernel
theorem dX8_become_93 : decode cX8_become 93 = .ok (.getfield 35, 3) := by decide +kernel
theorem dX8_become_96 : decode cX8_become 96 = .ok (.putfield 35, 3) := by decide +kernel
theorem dX8_become_99 : decode cX8_become 99 = .ok (.aload_n 0, 1) := by decide +kernel
theorem dX8_become_100 : decode cX8_become 100 = .ok (.aload_n 1, 1) := by decide +kernel
theorem dX8_become_101 : decode cX8_become 101 = .ok (.getfield 38, 3) := by decide +kernel
theorem dX8_become_104 : decode cX8_become 104 = .ok (.putfield 38, 3) := by decide +kernel
theorem dX8_become_107 : decode cX8_become 107 = .ok (.return_, 1) := by decide +kernel
theorem rc_m8 : Rg (-8) (-8) (-8) := ⟨by decide, by decide⟩
theorem rc_m1 : Rg (-1) (-1) (-1) := ⟨by decide, by decide⟩
theorem rc_0 : Rg 0 0 0 := ⟨by decide, by decide⟩
theorem rc_1 : Rg 1 1 1 := ⟨by decide, by decide⟩
theorem rc_24 : Rg 24 24 24 := ⟨by decide, by decide⟩
theorem rc_28 : Rg 28 28 28 := ⟨by decide, by decide⟩
theorem rc_40 : Rg 40 40 40 := ⟨by decide, by decide⟩
theorem rc_41 : Rg 41 41 41 := ⟨by decide, by decide⟩
theorem rc_48 : Rg 48 48 48 := ⟨by decide, by decide⟩
theorem rc_57 : Rg 57 57 57 := ⟨by decide, by decide⟩
theorem rc_59 : Rg 59 59 59 := ⟨by decide, by decide⟩
theorem rc_62 : Rg 62 62 62 := ⟨by decide, by decide⟩
theorem rc_97 : Rg 97 97 97 := ⟨by decide, by decide⟩
theorem rc_100 : Rg 100 100 100 := ⟨by decide, by decide⟩
theorem rc_122 : Rg 122 122 122 := ⟨by decide, by decide⟩
theorem rc_901 : Rg 901 901 901 := ⟨by decide, by decide⟩
theorem rc_920 : Rg 920 920 920 := ⟨by decide, by decide⟩
theorem rc_940 : Rg 940 940 940 := ⟨by decide, by decide⟩
set_option maxRecDepth 100000 in
set_option maxHeartbeats 8000000 in
theorem c_X10_add {l : Launch} {D : va_G} {cy : Nat → ClassId} {L : List Nat} {κ ln : Nat → Nat} {R : Nat → Nat → Option Nat} {I : Nat → Nat → Int32} {J : Nat → Nat → Int64} {ow : Nat → Nat × Nat} (W9 : ∀ a ∈ L, Shp L κ ln R ow a) {x : Nat} (hLx : x ∈ L) (hkx : κ x = 10) (a0 : Int32) (hU : Iv L κ R ow I) : CtV l yX10_add cX10_add 3 none { frames := 0, cells := 0, slots := 0, locals := 0 } D cy L κ ln R I J [.ref x, .int a0] (fun I2 J2 => Iv L κ R ow I2 ∧ Fq L κ ow [1005, 70000] I I2 ∧ Fq L κ ow [] J J2) := by
  refine CtV.of (by decide +kernel) (Nat.le_of_ble_eq_true rfl) ?_
  intro p e s m below meth c B K
  have C := B.1
  have hF : Fq L κ ow [1005, 70000] I I := fq_rf
  have hG : Fq L κ ow [] J J := fq_rf
  obtain ⟨b_465726, hb_465726, hb_465726L, hb_465726k, hb_465726n, hb_465726o⟩ := shp_a (W9 x hLx) hkx 0 13 940 rfl (by decide)
  refine g_lo (is := [0, 1]) (lo2 := [(0, .ref x), (1, .int a0)]) rfl ?_
  have l_3 : ∀ (n_3 : Nat) (I_465727 : Nat → Nat → Int32) (J_465728 : Nat → Nat → Int64) (hU_465729 : Iv L κ R ow I_465727) (hF_465730 : Fq L κ ow [1005, 70000] I I_465727) (hG_465731 : Fq L κ ow [] J J_465728) (v_465732 : Int32) (v_465733 : Int32) (rv_465733 : Rg (-128) 24 v_465733) (hm_465734 : (v_465733 : Int32).toInt - (-128) < (n_3 : Int)), WG p l e { frames := 0, cells := 0, slots := 0, locals := 0 } s m ([.ref x, .int a0] : List Value).toArray below meth c 3 0 0 (MQ below (Qv_ D cy L κ ln R (fun I2 J2 => Iv L κ R ow I2 ∧ Fq L κ ow [1005, 70000] I I2 ∧ Fq L κ ow [] J J2)) ([.ref x, .int a0] : List Value).toArray s 0 0 (Al_ L)) D cy (Al_ L) s.heap L κ ln R I_465727 J_465728 3 [(0, .ref x), (1, .int v_465732), (2, .int v_465733)] [] := by
    intro n_3
    induction n_3 with
    | zero =>
      intro I_465727 J_465728 hU_465729 hF_465730 hG_465731 v_465732 v_465733 rv_465733 hm_465734
      exact md_0 rv_465733 hm_465734
    | succ n_3 ih_3 =>
      intro I_465727 J_465728 hU_465729 hF_465730 hG_465731 v_465732 v_465733 rv_465733 hm_465734
      refine g_iload_n C 2 dX10_add_3 rfl rfl ?_
      refine g_if_lt C (tgt := 48) dX10_add_4 (by decide) (fun h_465735 => ?_) (fun h_465735 => ?_)
      · skip
        have r_465736 := lt_l (hi := (-1)) (h_465735) rv_465733 rc_0 (by decide)
        exact g_vret B K rfl ⟨hU_465729, hF_465730, hG_465731⟩ dX10_add_48
      · skip
        have r_465737 := le_r (nlt h_465735) rc_0 rv_465733
        refine g_aload_n C 0 dX10_add_7 rfl rfl ?_
        obtain ⟨x_465738, hx_465738, rx_465738⟩ := ex_get (I := I_465727) (a := x) (j := 5) (lo := 0) (hi := 940) hU_465729.1 hLx (ro_o hkx (by decide)) rfl
        refine g_getI C K hLx hkx f_10_29 (v := x_465738) hx_465738 dX10_add_8 ?_
        refine g_aload_n C 0 dX10_add_11 rfl rfl ?_
        refine g_getR C K hLx hkx f_10_9 hb_465726 dX10_add_12 ?_
        refine g_alenB C K hb_465726L hb_465726k (v := 940) (by rw [hb_465726n]; rfl) dX10_add_15 ?_
        refine g_icmp_ge C (tgt := 48) dX10_add_16 (by decide) (fun h_465739 => ?_) (fun h_465739 => ?_)
        · skip
          have r_465740 := le_r (h_465739) rc_940 rx_465738
          exact g_vret B K rfl ⟨hU_465729, hF_465730, hG_465731⟩ dX10_add_48
        · skip
          have r_465741 := lt_l (hi := 939) (nle h_465739) rx_465738 rc_940 (by decide)
          refine g_aload_n C 0 dX10_add_19 rfl rfl ?_
          refine g_getR C K hLx hkx f_10_9 hb_465726 dX10_add_20 ?_
          refine g_aload_n C 0 dX10_add_23 rfl rfl ?_
          refine g_getI C K hLx hkx f_10_29 (v := x_465738) hx_465738 dX10_add_24 ?_
          refine g_iload_n C 1 dX10_add_27 rfl rfl ?_
          refine g_iload_n C 2 dX10_add_28 rfl rfl ?_
          obtain ⟨x_465742, hx_465742, rx_465742⟩ := ex_any (z0 := v_465732 >>> (v_465733 &&& 31))
          refine g_ishr C (v := x_465742) dX10_add_29 hx_465742 ?_
          obtain ⟨x_465743, hx_465743, rx_465743⟩ := ex_b2 (x := x_465742)
          refine g_i2b C (v := x_465743) dX10_add_30 hx_465743 ?_
          refine h_bast C K hb_465726L hb_465726k (x_465738.toNatClampNeg) (rfl) (ix_0 r_465741 (by decide)) (ix_lt r_465741 (by decide) hb_465726n (by decide)) dX10_add_31 (fun I_465744 hI_465744 => ?_)
          have hU_465745 := iv_put W9 hU_465729 hI_465744 (ro_a hb_465726k (by decide) hb_465726o hkx rfl) (lo := (-128)) (hi := 127) (rfl) (nar_b _) rfl
          have hF_465746 := fq_puta hF_465730 hI_465744 (ro_a hb_465726k (by decide) hb_465726o hkx rfl) (by decide) (by decide)
          refine g_aload_n C 0 dX10_add_32 rfl rfl ?_
          refine g_dup C dX10_add_33 rfl ?_
          refine g_getI C K hLx hkx f_10_29 (v := x_465738) (kp_k (κ := κ) hI_465744 (by rw [hkx, hb_465726k]; decide) hx_465738) dX10_add_34 ?_
          refine g_iconst C (v := 1) dX10_add_37 (by decide) ?_
          obtain ⟨x_465747, hx_465747, rx_465747, tx_465747⟩ := ex_add 1 940 r_465741 rc_1 (by decide) (by decide) (by decide) (by decide)
          refine g_iadd C (v := x_465747) dX10_add_38 hx_465747 ?_
          refine h_putI C K hLx hkx f_10_29 p_10_5 dX10_add_39 (fun I_465748 hI_465748 => ?_)
          have hU_465749 := iv_put W9 hU_465745 hI_465748 (ro_o hkx (by decide)) (lo := 0) (hi := 940) (rfl) (rg_w rx_465747 (by decide) (by decide)) rfl
          have hF_465750 := fq_puto hF_465746 hI_465748 hkx (by decide) (by decide)
          obtain ⟨x_465751, hx_465751, rx_465751, tx_465751⟩ := ex_add (y := (-8)) (-8) 16 r_465737 rc_m8 (by decide) (by decide) (by decide) (by decide)
          refine g_iinc C dX10_add_42 (k := 2) (v := x_465751) rfl hx_465751 (by decide) (lo2 := [(2, .int x_465751), (0, .ref x), (1, .int v_465732)]) rfl ?_
          refine g_goto C (tgt := 3) dX10_add_45 (by decide) ?_
          refine g_lo (is := [1, 2, 0]) (lo2 := [(0, .ref x), (1, .int v_465732), (2, .int x_465751)]) rfl ?_
          exact ih_3 I_465748 J_465728 hU_465749 hF_465750 hG_465731 v_465732 x_465751 (rg_w rx_465751 (by decide) (by decide)) (md_1 hm_465734 (ti_k tx_465751 rc_m8) (by decide))
  refine g_bipush C (v := 24) dX10_add_0 (by decide) ?_
  refine g_istore_n C dX10_add_2 rfl (by decide) (lo2 := [(2, .int 24), (0, .ref x), (1, .int a0)]) rfl ?_
  refine g_lo (is := [1, 2, 0]) (lo2 := [(0, .ref x), (1, .int a0), (2, .int 24)]) rfl ?_
  exact l_3 153 I J hU hF hG a0 24 (rg_w rc_24 (by decide) (by decide)) (md_s (a := (-128)) (b := 24) (N := 153) (rg_w rc_24 (by decide) (by decide)) (by decide))
set_option maxRecDepth 100000 in
set_option maxHeartbeats 8000000 in
theorem c_X11_feed {l : Launch} {D : va_G} {cy : Nat → ClassId} {L : List Nat} {κ ln : Nat → Nat} {R : Nat → Nat → Option Nat} {I : Nat → Nat → Int32} {J : Nat → Nat → Int64} {ow : Nat → Nat × Nat} (W9 : ∀ a ∈ L, Shp L κ ln R ow a) {x : Nat} (hLx : x ∈ L) (hkx : κ x = 11) (a0 : Int32) (a1 : Int32) (a2 : Int32) (a3 : Int32) (a4 : Int32) (hU : Iv L κ R ow I) : CtI l yX11_feed cX11_feed 6 (some .int) { frames := 1, cells := 0, slots := 0, locals := 22 } D cy L κ ln R I J [.ref x, .int a0, .int a1, .int a2, .int a3, .int a4] (fun r I2 J2 => Iv L κ R ow I2 ∧ Fq L κ ow [1005, 70000] I I2 ∧ Fq L κ ow [] J J2 ∧ Rg (-1) 940 r) := by
  refine CtI.of (by decide +kernel) (Nat.le_of_ble_eq_true rfl) ?_
  intro p e s m below meth c B K
  have C := B.1
  have hF : Fq L κ ow [1005, 70000] I I := fq_rf
  have hG : Fq L κ ow [] J J := fq_rf
  obtain ⟨b_465824, hb_465824, hb_465824L, hb_465824k⟩ := shp_o (W9 x hLx) hkx 0 10 rfl (by decide)
  refine g_lo (is := [0, 1, 2, 3, 4, 5]) (lo2 := [(0, .ref x), (1, .int a0), (2, .int a1), (3, .int a2), (4, .int a3), (5, .int a4)]) rfl ?_
  refine g_aload_n C 0 dX11_feed_0 rfl rfl ?_
  refine g_getR C K hLx hkx f_11_10 hb_465824 dX11_feed_1 ?_
  obtain ⟨x_465825, hx_465825, rx_465825⟩ := ex_get (I := I) (a := b_465824) (j := 5) (lo := 0) (hi := 940) hU.1 hb_465824L (ro_o hb_465824k (by decide)) rfl
  refine g_getI C K hb_465824L hb_465824k f_11_102 (v := x_465825) hx_465825 dX11_feed_4 ?_
  refine g_sipush C (v := 920) dX11_feed_7 (by decide) ?_
  refine g_icmp_le C (tgt := 15) dX11_feed_10 (by decide) (fun h_465826 => ?_) (fun h_465826 => ?_)
  · skip
    have r_465827 := le_l (h_465826) rx_465825 rc_920
    refine g_aload_n C 0 dX11_feed_15 rfl rfl ?_
    refine g_getR C K hLx hkx f_11_10 hb_465824 dX11_feed_16 ?_
    refine g_iload_n C 1 dX11_feed_19 rfl rfl ?_
    refine g_callVV C K (c_X10_add W9 hb_465824L hb_465824k a0  hU) hb_465824L hb_465824k (by decide) rfl v_11_105 rfl ⟨rfl, rfl⟩ ⟨Nat.le_of_ble_eq_true rfl, Nat.le_of_ble_eq_true rfl⟩ (Nat.le_of_ble_eq_true rfl) ⟨Nat.le_of_ble_eq_true rfl, Nat.le_of_ble_eq_true rfl⟩ dX11_feed_20 rfl (st := []) (fun I_465829 J_465830 h_465831 => ?_)
    obtain ⟨hUI_465829, hFI_465829, hGJ_465830⟩ := h_465831
    have hF_465832 := fq_tr hF hFI_465829 (by decide)
    have hG_465833 := fq_tr hG hGJ_465830 (by decide)
    refine g_aload_n C 0 dX11_feed_23 rfl rfl ?_
    refine g_getR C K hLx hkx f_11_10 hb_465824 dX11_feed_24 ?_
    refine g_iload_n C 2 dX11_feed_27 rfl rfl ?_
    refine g_callVV C K (c_X10_add W9 hb_465824L hb_465824k a1  hUI_465829) hb_465824L hb_465824k (by decide) rfl v_11_105 rfl ⟨rfl, rfl⟩ ⟨Nat.le_of_ble_eq_true rfl, Nat.le_of_ble_eq_true rfl⟩ (Nat.le_of_ble_eq_true rfl) ⟨Nat.le_of_ble_eq_true rfl, Nat.le_of_ble_eq_true rfl⟩ dX11_feed_28 rfl (st := []) (fun I_465835 J_465836 h_465837 => ?_)
    obtain ⟨hUI_465835, hFI_465835, hGJ_465836⟩ := h_465837
    have hF_465838 := fq_tr hF_465832 hFI_465835 (by decide)
    have hG_465839 := fq_tr hG_465833 hGJ_465836 (by decide)
    refine g_aload_n C 0 dX11_feed_31 rfl rfl ?_
    refine g_getR C K hLx hkx f_11_10 hb_465824 dX11_feed_32 ?_
    refine g_iload_n C 3 dX11_feed_35 rfl rfl ?_
    refine g_callVV C K (c_X10_add W9 hb_465824L hb_465824k a2  hUI_465835) hb_465824L hb_465824k (by decide) rfl v_11_105 rfl ⟨rfl, rfl⟩ ⟨Nat.le_of_ble_eq_true rfl, Nat.le_of_ble_eq_true rfl⟩ (Nat.le_of_ble_eq_true rfl) ⟨Nat.le_of_ble_eq_true rfl, Nat.le_of_ble_eq_true rfl⟩ dX11_feed_36 rfl (st := []) (fun I_465841 J_465842 h_465843 => ?_)
    obtain ⟨hUI_465841, hFI_465841, hGJ_465842⟩ := h_465843
    have hF_465844 := fq_tr hF_465838 hFI_465841 (by decide)
    have hG_465845 := fq_tr hG_465839 hGJ_465842 (by decide)
    refine g_aload_n C 0 dX11_feed_39 rfl rfl ?_
    refine g_getR C K hLx hkx f_11_10 hb_465824 dX11_feed_40 ?_
    refine g_iload C 4 dX11_feed_43 rfl ?_
    refine g_callVV C K (c_X10_add W9 hb_465824L hb_465824k a3  hUI_465841) hb_465824L hb_465824k (by decide) rfl v_11_105 rfl ⟨rfl, rfl⟩ ⟨Nat.le_of_ble_eq_true rfl, Nat.le_of_ble_eq_true rfl⟩ (Nat.le_of_ble_eq_true rfl) ⟨Nat.le_of_ble_eq_true rfl, Nat.le_of_ble_eq_true rfl⟩ dX11_feed_45 rfl (st := []) (fun I_465847 J_465848 h_465849 => ?_)
    obtain ⟨hUI_465847, hFI_465847, hGJ_465848⟩ := h_465849
    have hF_465850 := fq_tr hF_465844 hFI_465847 (by decide)
    have hG_465851 := fq_tr hG_465845 hGJ_465848 (by decide)
    refine g_aload_n C 0 dX11_feed_48 rfl rfl ?_
    refine g_getR C K hLx hkx f_11_10 hb_465824 dX11_feed_49 ?_
    refine g_iload C 5 dX11_feed_52 rfl ?_
    refine g_callVV C K (c_X10_add W9 hb_465824L hb_465824k a4  hUI_465847) hb_465824L hb_465824k (by decide) rfl v_11_105 rfl ⟨rfl, rfl⟩ ⟨Nat.le_of_ble_eq_true rfl, Nat.le_of_ble_eq_true rfl⟩ (Nat.le_of_ble_eq_true rfl) ⟨Nat.le_of_ble_eq_true rfl, Nat.le_of_ble_eq_true rfl⟩ dX11_feed_54 rfl (st := []) (fun I_465853 J_465854 h_465855 => ?_)
    obtain ⟨hUI_465853, hFI_465853, hGJ_465854⟩ := h_465855
    have hF_465856 := fq_tr hF_465850 hFI_465853 (by decide)
    have hG_465857 := fq_tr hG_465851 hGJ_465854 (by decide)
    refine g_aload_n C 0 dX11_feed_57 rfl rfl ?_
    refine g_getR C K hLx hkx f_11_10 hb_465824 dX11_feed_58 ?_
    obtain ⟨x_465858, hx_465858, rx_465858⟩ := ex_get (I := I_465853) (a := b_465824) (j := 5) (lo := 0) (hi := 940) hUI_465853.1 hb_465824L (ro_o hb_465824k (by decide)) rfl
    refine g_getI C K hb_465824L hb_465824k f_11_102 (v := x_465858) hx_465858 dX11_feed_61 ?_
    exact g_zret (ty := .int) (r := x_465858) B K rfl (rfl) ⟨hUI_465853, hF_465856, hG_465857, rg_w rx_465858 (by decide) (by decide)⟩ dX11_feed_64
  · skip
    have r_465859 := lt_r (lo := 921) (nle h_465826) rc_920 rx_465825 (by decide)
    refine g_iconst C (v := (-1)) dX11_feed_13 (by decide) ?_
    exact g_zret (ty := .int) (r := (-1)) B K rfl (rfl) ⟨hU, hF, hG, rg_w rc_m1 (by decide) (by decide)⟩ dX11_feed_14
set_option maxRecDepth 100000 in
set_option maxHeartbeats 8000000 in
theorem c_X11_end {l : Launch} {D : va_G} {cy : Nat → ClassId} {L : List Nat} {κ ln : Nat → Nat} {R : Nat → Nat → Option Nat} {I : Nat → Nat → Int32} {J : Nat → Nat → Int64} {ow : Nat → Nat × Nat} (W9 : ∀ a ∈ L, Shp L κ ln R ow a) {x : Nat} (hLx : x ∈ L) (hkx : κ x = 11) (a0 : Int32) (hU : Iv L κ R ow I) : CtI l yX11_end cX11_end 2 (some .boolean) { frames := 0, cells := 0, slots := 0, locals := 0 } D cy L κ ln R I J [.ref x, .int a0] (fun r I2 J2 => Iv L κ R ow I2 ∧ Fq L κ ow [1005] I I2 ∧ Fq L κ ow [] J J2 ∧ Rg 0 1 r) := by
  refine CtI.of (by decide +kernel) (Nat.le_of_ble_eq_true rfl) ?_
  intro p e s m below meth c B K
  have C := B.1
  have hF : Fq L κ ow [1005] I I := fq_rf
  have hG : Fq L κ ow [] J J := fq_rf
  obtain ⟨b_465882, hb_465882, hb_465882L, hb_465882k⟩ := shp_o (W9 x hLx) hkx 0 10 rfl (by decide)
  refine g_lo (is := [0, 1]) (lo2 := [(0, .ref x), (1, .int a0)]) rfl ?_
  refine g_iload_n C 1 dX11_end_0 rfl rfl ?_
  refine g_if_lt C (tgt := 15) dX11_end_1 (by decide) (fun h_465883 => ?_) (fun h_465883 => ?_)
  · skip
    have r_465884 := lt_l (hi := (-1)) (h_465883) (rg_all a0) rc_0 (by decide)
    refine g_iconst C (v := 0) dX11_end_15 (by decide) ?_
    exact g_zret (ty := .boolean) (r := 0) B K rfl (rfl) ⟨hU, hF, hG, rg_w rc_0 (by decide) (by decide)⟩ dX11_end_16
  · skip
    have r_465885 := le_r (nlt h_465883) rc_0 (rg_all a0)
    refine g_iload_n C 1 dX11_end_4 rfl rfl ?_
    refine g_aload_n C 0 dX11_end_5 rfl rfl ?_
    refine g_getR C K hLx hkx f_11_10 hb_465882 dX11_end_6 ?_
    obtain ⟨x_465886, hx_465886, rx_465886⟩ := ex_get (I := I) (a := b_465882) (j := 5) (lo := 0) (hi := 940) hU.1 hb_465882L (ro_o hb_465882k (by decide)) rfl
    refine g_getI C K hb_465882L hb_465882k f_11_102 (v := x_465886) hx_465886 dX11_end_9 ?_
    refine g_icmp_le C (tgt := 17) dX11_end_12 (by decide) (fun h_465887 => ?_) (fun h_465887 => ?_)
    · skip
      have r_465888 := le_l (h_465887) r_465885 rx_465886
      refine g_aload_n C 0 dX11_end_17 rfl rfl ?_
      refine g_getR C K hLx hkx f_11_10 hb_465882 dX11_end_18 ?_
      refine g_iload_n C 1 dX11_end_21 rfl rfl ?_
      refine h_putI C K hb_465882L hb_465882k f_11_102 p_10_5 dX11_end_22 (fun I_465889 hI_465889 => ?_)
      have hU_465890 := iv_put W9 hU hI_465889 (ro_o hb_465882k (by decide)) (lo := 0) (hi := 940) (rfl) (r_465888) rfl
      have hF_465891 := fq_puto hF hI_465889 hb_465882k (by decide) (by decide)
      refine g_iconst C (v := 1) dX11_end_25 (by decide) ?_
      exact g_zret (ty := .boolean) (r := 1) B K rfl (rfl) ⟨hU_465890, hF_465891, hG, rg_w rc_1 (by decide) (by decide)⟩ dX11_end_26
    · skip
      have r_465892 := lt_r (lo := 1) (nle h_465887) rx_465886 r_465885 (by decide)
      refine g_iconst C (v := 0) dX11_end_15 (by decide) ?_
      exact g_zret (ty := .boolean) (r := 0) B K rfl (rfl) ⟨hU, hF, hG, rg_w rc_0 (by decide) (by decide)⟩ dX11_end_16
set_option maxRecDepth 100000 in
set_option maxHeartbeats 8000000 in
theorem c_X1_become {l : Launch} {D : va_G} {cy : Nat → ClassId} {L : List Nat} {κ ln : Nat → Nat} {R : Nat → Nat → Option Nat} {I : Nat → Nat → Int32} {J : Nat → Nat → Int64} {ow : Nat → Nat × Nat} (W9 : ∀ a ∈ L, Shp L κ ln R ow a) {x : Nat} (hLx : x ∈ L) (hkx : κ x = 1) {a0 : Nat} (hLa0 : a0 ∈ L) (hka0 : κ a0 = 1) (hU : Iv L κ R ow I) : CtV l yX1_become cX1_become 2 none { frames := 1, cells := 0, slots := 0, locals := 60 } D cy L κ ln R I J [.ref x, .ref a0] (fun I2 J2 => Iv L κ R ow I2 ∧ Fq L κ ow [107, 108, 109, 110, 111, 112, 16100, 16200, 16300, 16400, 16500, 16600] I I2 ∧ Fq L κ ow [] J J2) := by
  refine CtV.of (by decide +kernel) (Nat.le_of_ble_eq_true rfl) ?_
  intro p e s m below meth c B K
  have C := B.1
  have hF : Fq L κ ow [107, 108, 109, 110, 111, 112, 16100, 16200, 16300, 16400, 16500, 16600] I I := fq_rf
  have hG : Fq L κ ow [] J J := fq_rf
  obtain ⟨b_466001, hb_466001, hb_466001L, hb_466001k, hb_466001n, hb_466001o⟩ := shp_a (W9 x hLx) hkx 4 14 7 rfl (by decide)
  obtain ⟨b_466002, hb_466002, hb_466002L, hb_466002k, hb_466002n, hb_466002o⟩ := shp_a (W9 a0 hLa0) hka0 6 14 7 rfl (by decide)
  obtain ⟨b_466003, hb_466003, hb_466003L, hb_466003k, hb_466003n, hb_466003o⟩ := shp_a (W9 a0 hLa0) hka0 2 14 42 rfl (by decide)
  obtain ⟨b_466004, hb_466004, hb_466004L, hb_466004k, hb_466004n, hb_466004o⟩ := shp_a (W9 a0 hLa0) hka0 3 14 7 rfl (by decide)
  obtain ⟨b_466005, hb_466005, hb_466005L, hb_466005k, hb_466005n, hb_466005o⟩ := shp_a (W9 x hLx) hkx 2 14 42 rfl (by decide)
  obtain ⟨b_466006, hb_466006, hb_466006L, hb_466006k, hb_466006n, hb_466006o⟩ := shp_a (W9 x hLx) hkx 3 14 7 rfl (by decide)
  obtain ⟨b_466007, hb_466007, hb_466007L, hb_466007k, hb_466007n, hb_466007o⟩ := shp_a (W9 a0 hLa0) hka0 5 14 7 rfl (by decide)
  obtain ⟨b_466008, hb_466008, hb_466008L, hb_466008k, hb_466008n, hb_466008o⟩ := shp_a (W9 a0 hLa0) hka0 4 14 7 rfl (by decide)
  obtain ⟨b_466009, hb_466009, hb_466009L, hb_466009k, hb_466009n, hb_466009o⟩ := shp_a (W9 a0 hLa0) hka0 1 14 6 rfl (by decide)
  obtain ⟨b_466010, hb_466010, hb_466010L, hb_466010k, hb_466010n, hb_466010o⟩ := shp_a (W9 x hLx) hkx 1 14 6 rfl (by decide)
  obtain ⟨b_466011, hb_466011, hb_466011L, hb_466011k, hb_466011n, hb_466011o⟩ := shp_a (W9 x hLx) hkx 5 14 7 rfl (by decide)
  obtain ⟨b_466012, hb_466012, hb_466012L, hb_466012k, hb_466012n, hb_466012o⟩ := shp_a (W9 x hLx) hkx 6 14 7 rfl (by decide)
  refine g_lo (is := [0, 1]) (lo2 := [(0, .ref x), (1, .ref a0)]) rfl ?_
  refine g_aload_n C 1 dX1_become_0 rfl rfl ?_
  refine g_getR C K hLa0 hka0 f_1_9 hb_466009 dX1_become_1 ?_
  refine g_iconst C (v := 0) dX1_become_4 (by decide) ?_
  refine g_aload_n C 0 dX1_become_5 rfl rfl ?_
  refine g_getR C K hLx hkx f_1_9 hb_466010 dX1_become_6 ?_
  refine g_iconst C (v := 0) dX1_become_9 (by decide) ?_
  refine g_bipush C (v := 6) dX1_become_10 (by decide) ?_
  refine h_copyI C K hb_466010L hb_466010k hb_466009L hb_466009k ac_1_56 6 (by decide) (by decide) (by rw [hb_466009n]; decide) (by rw [hb_466010n]; decide) w_cp (Nat.le_of_ble_eq_true rfl) (Nat.le_of_ble_eq_true rfl) dX1_become_12 (fun I_466013 hI_466013 => ?_)
  have hU_466014 := iv_cp W9 hU (uv_cp hU.1 hb_466009L hI_466013 (ro_a hb_466010k (by decide) hb_466010o hkx rfl) (ro_a hb_466009k (by decide) hb_466009o hka0 rfl)) hI_466013 (ro_a hb_466010k (by decide) hb_466010o hkx rfl) rfl
  have hF_466015 := fq_cp hF hI_466013 (ro_a hb_466010k (by decide) hb_466010o hkx rfl) (by decide) (by decide)
  refine g_aload_n C 1 dX1_become_15 rfl rfl ?_
  refine g_getR C K hLa0 hka0 f_1_15 hb_466003 dX1_become_16 ?_
  refine g_iconst C (v := 0) dX1_become_19 (by decide) ?_
  refine g_aload_n C 0 dX1_become_20 rfl rfl ?_
  refine g_getR C K hLx hkx f_1_15 hb_466005 dX1_become_21 ?_
  refine g_iconst C (v := 0) dX1_become_24 (by decide) ?_
  refine g_bipush C (v := 42) dX1_become_25 (by decide) ?_
  refine h_copyI C K hb_466005L hb_466005k hb_466003L hb_466003k ac_1_56 42 (by decide) (by decide) (by rw [hb_466003n]; decide) (by rw [hb_466005n]; decide) w_cp (Nat.le_of_ble_eq_true rfl) (Nat.le_of_ble_eq_true rfl) dX1_become_27 (fun I_466016 hI_466016 => ?_)
  have hU_466017 := iv_cp W9 hU_466014 (uv_cp hU_466014.1 hb_466003L hI_466016 (ro_a hb_466005k (by decide) hb_466005o hkx rfl) (ro_a hb_466003k (by decide) hb_466003o hka0 rfl)) hI_466016 (ro_a hb_466005k (by decide) hb_466005o hkx rfl) rfl
  have hF_466018 := fq_cp hF_466015 hI_466016 (ro_a hb_466005k (by decide) hb_466005o hkx rfl) (by decide) (by decide)
  refine g_aload_n C 1 dX1_become_30 rfl rfl ?_
  refine g_getR C K hLa0 hka0 f_1_18 hb_466004 dX1_become_31 ?_
  refine g_iconst C (v := 0) dX1_become_34 (by decide) ?_
  refine g_aload_n C 0 dX1_become_35 rfl rfl ?_
  refine g_getR C K hLx hkx f_1_18 hb_466006 dX1_become_36 ?_
  refine g_iconst C (v := 0) dX1_become_39 (by decide) ?_
  refine g_bipush C (v := 7) dX1_become_40 (by decide) ?_
  refine h_copyI C K hb_466006L hb_466006k hb_466004L hb_466004k ac_1_56 7 (by decide) (by decide) (by rw [hb_466004n]; decide) (by rw [hb_466006n]; decide) w_cp (Nat.le_of_ble_eq_true rfl) (Nat.le_of_ble_eq_true rfl) dX1_become_42 (fun I_466019 hI_466019 => ?_)
  have hU_466020 := iv_cp W9 hU_466017 (uv_cp hU_466017.1 hb_466004L hI_466019 (ro_a hb_466006k (by decide) hb_466006o hkx rfl) (ro_a hb_466004k (by decide) hb_466004o hka0 rfl)) hI_466019 (ro_a hb_466006k (by decide) hb_466006o hkx rfl) rfl
  have hF_466021 := fq_cp hF_466018 hI_466019 (ro_a hb_466006k (by decide) hb_466006o hkx rfl) (by decide) (by decide)
  refine g_aload_n C 1 dX1_become_45 rfl rfl ?_
  refine g_getR C K hLa0 hka0 f_1_21 hb_466008 dX1_become_46 ?_
  refine g_iconst C (v := 0) dX1_become_49 (by decide) ?_
  refine g_aload_n C 0 dX1_become_50 rfl rfl ?_
  refine g_getR C K hLx hkx f_1_21 hb_466001 dX1_become_51 ?_
  refine g_iconst C (v := 0) dX1_become_54 (by decide) ?_
  refine g_bipush C (v := 7) dX1_become_55 (by decide) ?_
  refine h_copyI C K hb_466001L hb_466001k hb_466008L hb_466008k ac_1_56 7 (by decide) (by decide) (by rw [hb_466008n]; decide) (by rw [hb_466001n]; decide) w_cp (Nat.le_of_ble_eq_true rfl) (Nat.le_of_ble_eq_true rfl) dX1_become_57 (fun I_466022 hI_466022 => ?_)
  have hU_466023 := iv_cp W9 hU_466020 (uv_cp hU_466020.1 hb_466008L hI_466022 (ro_a hb_466001k (by decide) hb_466001o hkx rfl) (ro_a hb_466008k (by decide) hb_466008o hka0 rfl)) hI_466022 (ro_a hb_466001k (by decide) hb_466001o hkx rfl) rfl
  have hF_466024 := fq_cp hF_466021 hI_466022 (ro_a hb_466001k (by decide) hb_466001o hkx rfl) (by decide) (by decide)
  refine g_aload_n C 1 dX1_become_60 rfl rfl ?_
  refine g_getR C K hLa0 hka0 f_1_24 hb_466007 dX1_become_61 ?_
  refine g_iconst C (v := 0) dX1_become_64 (by decide) ?_
  refine g_aload_n C 0 dX1_become_65 rfl rfl ?_
  refine g_getR C K hLx hkx f_1_24 hb_466011 dX1_become_66 ?_
  refine g_iconst C (v := 0) dX1_become_69 (by decide) ?_
  refine g_bipush C (v := 7) dX1_become_70 (by decide) ?_
  refine h_copyI C K hb_466011L hb_466011k hb_466007L hb_466007k ac_1_56 7 (by decide) (by decide) (by rw [hb_466007n]; decide) (by rw [hb_466011n]; decide) w_cp (Nat.le_of_ble_eq_true rfl) (Nat.le_of_ble_eq_true rfl) dX1_become_72 (fun I_466025 hI_466025 => ?_)
  have hU_466026 := iv_cp W9 hU_466023 (uv_cp hU_466023.1 hb_466007L hI_466025 (ro_a hb_466011k (by decide) hb_466011o hkx rfl) (ro_a hb_466007k (by decide) hb_466007o hka0 rfl)) hI_466025 (ro_a hb_466011k (by decide) hb_466011o hkx rfl) rfl
  have hF_466027 := fq_cp hF_466024 hI_466025 (ro_a hb_466011k (by decide) hb_466011o hkx rfl) (by decide) (by decide)
  refine g_aload_n C 1 dX1_become_75 rfl rfl ?_
  refine g_getR C K hLa0 hka0 f_1_27 hb_466002 dX1_become_76 ?_
  refine g_iconst C (v := 0) dX1_become_79 (by decide) ?_
  refine g_aload_n C 0 dX1_become_80 rfl rfl ?_
  refine g_getR C K hLx hkx f_1_27 hb_466012 dX1_become_81 ?_
  refine g_iconst C (v := 0) dX1_become_84 (by decide) ?_
  refine g_bipush C (v := 7) dX1_become_85 (by decide) ?_
  refine h_copyI C K hb_466012L hb_466012k hb_466002L hb_466002k ac_1_56 7 (by decide) (by decide) (by rw [hb_466002n]; decide) (by rw [hb_466012n]; decide) w_cp (Nat.le_of_ble_eq_true rfl) (Nat.le_of_ble_eq_true rfl) dX1_become_87 (fun I_466028 hI_466028 => ?_)
  have hU_466029 := iv_cp W9 hU_466026 (uv_cp hU_466026.1 hb_466002L hI_466028 (ro_a hb_466012k (by decide) hb_466012o hkx rfl) (ro_a hb_466002k (by decide) hb_466002o hka0 rfl)) hI_466028 (ro_a hb_466012k (by decide) hb_466012o hkx rfl) rfl
  have hF_466030 := fq_cp hF_466027 hI_466028 (ro_a hb_466012k (by decide) hb_466012o hkx rfl) (by decide) (by decide)
  refine g_aload_n C 0 dX1_become_90 rfl rfl ?_
  refine g_aload_n C 1 dX1_become_91 rfl rfl ?_
  obtain ⟨x_466031, hx_466031, rx_466031⟩ := ex_get (I := I_466028) (a := a0) (j := 7) (lo := (-2147483648)) (hi := 2147483647) hU_466029.1 hLa0 (ro_o hka0 (by decide)) rfl
  refine g_getI C K hLa0 hka0 f_1_30 (v := x_466031) hx_466031 dX1_become_92 ?_
  refine h_putI C K hLx hkx f_1_30 p_1_7 dX1_become_95 (fun I_466032 hI_466032 => ?_)
  have hU_466033 := iv_put W9 hU_466029 hI_466032 (ro_o hkx (by decide)) (lo := (-2147483648)) (hi := 2147483647) (rfl) (rx_466031) rfl
  have hF_466034 := fq_puto hF_466030 hI_466032 hkx (by decide) (by decide)
  refine g_aload_n C 0 dX1_become_98 rfl rfl ?_
  refine g_aload_n C 1 dX1_become_99 rfl rfl ?_
  obtain ⟨x_466035, hx_466035, rx_466035⟩ := ex_get (I := I_466032) (a := a0) (j := 8) (lo := (-2147483648)) (hi := 2147483647) hU_466033.1 hLa0 (ro_o hka0 (by decide)) rfl
  refine g_getI C K hLa0 hka0 f_1_34 (v := x_466035) hx_466035 dX1_become_100 ?_
  refine h_putI C K hLx hkx f_1_34 p_1_8 dX1_become_103 (fun I_466036 hI_466036 => ?_)
  have hU_466037 := iv_put W9 hU_466033 hI_466036 (ro_o hkx (by decide)) (lo := (-2147483648)) (hi := 2147483647) (rfl) (rx_466035) rfl
  have hF_466038 := fq_puto hF_466034 hI_466036 hkx (by decide) (by decide)
  refine g_aload_n C 0 dX1_become_106 rfl rfl ?_
  refine g_aload_n C 1 dX1_become_107 rfl rfl ?_
  obtain ⟨x_466039, hx_466039, rx_466039⟩ := ex_get (I := I_466036) (a := a0) (j := 9) (lo := (-2147483648)) (hi := 2147483647) hU_466037.1 hLa0 (ro_o hka0 (by decide)) rfl
  refine g_getI C K hLa0 hka0 f_1_37 (v := x_466039) hx_466039 dX1_become_108 ?_
  refine h_putI C K hLx hkx f_1_37 p_1_9 dX1_become_111 (fun I_466040 hI_466040 => ?_)
  have hU_466041 := iv_put W9 hU_466037 hI_466040 (ro_o hkx (by decide)) (lo := (-2147483648)) (hi := 2147483647) (rfl) (rx_466039) rfl
  have hF_466042 := fq_puto hF_466038 hI_466040 hkx (by decide) (by decide)
  refine g_aload_n C 0 dX1_become_114 rfl rfl ?_
  refine g_aload_n C 1 dX1_become_115 rfl rfl ?_
  obtain ⟨x_466043, hx_466043, rx_466043⟩ := ex_get (I := I_466040) (a := a0) (j := 10) (lo := (-2147483648)) (hi := 2147483647) hU_466041.1 hLa0 (ro_o hka0 (by decide)) rfl
  refine g_getI C K hLa0 hka0 f_1_40 (v := x_466043) hx_466043 dX1_become_116 ?_
  refine h_putI C K hLx hkx f_1_40 p_1_10 dX1_become_119 (fun I_466044 hI_466044 => ?_)
  have hU_466045 := iv_put W9 hU_466041 hI_466044 (ro_o hkx (by decide)) (lo := (-2147483648)) (hi := 2147483647) (rfl) (rx_466043) rfl
  have hF_466046 := fq_puto hF_466042 hI_466044 hkx (by decide) (by decide)
  refine g_aload_n C 0 dX1_become_122 rfl rfl ?_
  refine g_aload_n C 1 dX1_become_123 rfl rfl ?_
  obtain ⟨x_466047, hx_466047, rx_466047⟩ := ex_get (I := I_466044) (a := a0) (j := 11) (lo := (-2147483648)) (hi := 2147483647) hU_466045.1 hLa0 (ro_o hka0 (by decide)) rfl
  refine g_getI C K hLa0 hka0 f_1_43 (v := x_466047) hx_466047 dX1_become_124 ?_
  refine h_putI C K hLx hkx f_1_43 p_1_11 dX1_become_127 (fun I_466048 hI_466048 => ?_)
  have hU_466049 := iv_put W9 hU_466045 hI_466048 (ro_o hkx (by decide)) (lo := (-2147483648)) (hi := 2147483647) (rfl) (rx_466047) rfl
  have hF_466050 := fq_puto hF_466046 hI_466048 hkx (by decide) (by decide)
  refine g_aload_n C 0 dX1_become_130 rfl rfl ?_
  refine g_aload_n C 1 dX1_become_131 rfl rfl ?_
  obtain ⟨x_466051, hx_466051, rx_466051⟩ := ex_get (I := I_466048) (a := a0) (j := 12) (lo := (-2147483648)) (hi := 2147483647) hU_466049.1 hLa0 (ro_o hka0 (by decide)) rfl
  refine g_getI C K hLa0 hka0 f_1_46 (v := x_466051) hx_466051 dX1_become_132 ?_
  refine h_putI C K hLx hkx f_1_46 p_1_12 dX1_become_135 (fun I_466052 hI_466052 => ?_)
  have hU_466053 := iv_put W9 hU_466049 hI_466052 (ro_o hkx (by decide)) (lo := (-2147483648)) (hi := 2147483647) (rfl) (rx_466051) rfl
  have hF_466054 := fq_puto hF_466050 hI_466052 hkx (by decide) (by decide)
  exact g_vret B K rfl ⟨hU_466053, hF_466054, hG⟩ dX1_become_138
set_option maxRecDepth 100000 in
set_option maxHeartbeats 8000000 in
theorem c_X5_forget {l : Launch} {D : va_G} {cy : Nat → ClassId} {L : List Nat} {κ ln : Nat → Nat} {R : Nat → Nat → Option Nat} {I : Nat → Nat → Int32} {J : Nat → Nat → Int64} {ow : Nat → Nat × Nat} (W9 : ∀ a ∈ L, Shp L κ ln R ow a) {x : Nat} (hLx : x ∈ L) (hkx : κ x = 5) (hU : Iv L κ R ow I) : CtV l yX5_forget cX5_forget 1 none { frames := 0, cells := 0, slots := 0, locals := 0 } D cy L κ ln R I J [.ref x] (fun I2 J2 => Iv L κ R ow I2 ∧ Fq L κ ow [501] I I2 ∧ Fq L κ ow [] J J2) := by
  refine CtV.of (by decide +kernel) (Nat.le_of_ble_eq_true rfl) ?_
  intro p e s m below meth c B K
  have C := B.1
  have hF : Fq L κ ow [501] I I := fq_rf
  have hG : Fq L κ ow [] J J := fq_rf
  refine g_lo (is := [0]) (lo2 := [(0, .ref x)]) rfl ?_
  refine g_aload_n C 0 dX5_forget_0 rfl rfl ?_
  refine g_iconst C (v := 0) dX5_forget_1 (by decide) ?_
  refine h_putI C K hLx hkx f_5_17 p_5_1 dX5_forget_2 (fun I_466061 hI_466061 => ?_)
  have hU_466062 := iv_put W9 hU hI_466061 (ro_o hkx (by decide)) (lo := 0) (hi := 8) (rfl) (rg_w rc_0 (by decide) (by decide)) rfl
  have hF_466063 := fq_puto hF hI_466061 hkx (by decide) (by decide)
  exact g_vret B K rfl ⟨hU_466062, hF_466063, hG⟩ dX5_forget_5
set_option maxRecDepth 100000 in
set_option maxHeartbeats 8000000 in
theorem c_X7_forget {l : Launch} {D : va_G} {cy : Nat → ClassId} {L : List Nat} {κ ln : Nat → Nat} {R : Nat → Nat → Option Nat} {I : Nat → Nat → Int32} {J : Nat → Nat → Int64} {ow : Nat → Nat × Nat} (W9 : ∀ a ∈ L, Shp L κ ln R ow a) {x : Nat} (hLx : x ∈ L) (hkx : κ x = 7) (hU : Iv L κ R ow I) : CtV l yX7_forget cX7_forget 1 none { frames := 0, cells := 0, slots := 0, locals := 0 } D cy L κ ln R I J [.ref x] (fun I2 J2 => Iv L κ R ow I2 ∧ Fq L κ ow [704, 705] I I2 ∧ Fq L κ ow [] J J2) := by
  refine CtV.of (by decide +kernel) (Nat.le_of_ble_eq_true rfl) ?_
  intro p e s m below meth c B K
  have C := B.1
  have hF : Fq L κ ow [704, 705] I I := fq_rf
  have hG : Fq L κ ow [] J J := fq_rf
  refine g_lo (is := [0]) (lo2 := [(0, .ref x)]) rfl ?_
  refine g_aload_n C 0 dX7_forget_0 rfl rfl ?_
  refine g_iconst C (v := 0) dX7_forget_1 (by decide) ?_
  refine h_putI C K hLx hkx f_7_24 p_7_4 dX7_forget_2 (fun I_466076 hI_466076 => ?_)
  have hU_466077 := iv_put W9 hU hI_466076 (ro_o hkx (by decide)) (lo := 0) (hi := 40) (rfl) (rg_w rc_0 (by decide) (by decide)) rfl
  have hF_466078 := fq_puto hF hI_466076 hkx (by decide) (by decide)
  refine g_aload_n C 0 dX7_forget_5 rfl rfl ?_
  refine g_iconst C (v := 0) dX7_forget_6 (by decide) ?_
  refine h_putI C K hLx hkx f_7_28 p_7_5 dX7_forget_7 (fun I_466079 hI_466079 => ?_)
  have hU_466080 := iv_put W9 hU_466077 hI_466079 (ro_o hkx (by decide)) (lo := (-2147483648)) (hi := 2147483647) (rfl) (rg_all _) rfl
  have hF_466081 := fq_puto hF_466078 hI_466079 hkx (by decide) (by decide)
  exact g_vret B K rfl ⟨hU_466080, hF_466081, hG⟩ dX7_forget_10
set_option maxRecDepth 100000 in
set_option maxHeartbeats 8000000 in
theorem c_X8_become {l : Launch} {D : va_G} {cy : Nat → ClassId} {L : List Nat} {κ ln : Nat → Nat} {R : Nat → Nat → Option Nat} {I : Nat → Nat → Int32} {J : Nat → Nat → Int64} {ow : Nat → Nat × Nat} (W9 : ∀ a ∈ L, Shp L κ ln R ow a) {x : Nat} (hLx : x ∈ L) (hkx : κ x = 8) {a0 : Nat} (hLa0 : a0 ∈ L) (hka0 : κ a0 = 8) (hU : Iv L κ R ow I) : CtV l yX8_become cX8_become 2 none { frames := 1, cells := 0, slots := 0, locals := 60 } D cy L κ ln R I J [.ref x, .ref a0] (fun I2 J2 => Iv L κ R ow I2 ∧ Fq L κ ow [805, 806, 807, 808, 58100, 58200, 58400] I I2 ∧ Fq L κ ow [58000, 58300] J J2) := by
  refine CtV.of (by decide +kernel) (Nat.le_of_ble_eq_true rfl) ?_
  intro p e s m below meth c B K
  have C := B.1
  have hF : Fq L κ ow [805, 806, 807, 808, 58100, 58200, 58400] I I := fq_rf
  have hG : Fq L κ ow [58000, 58300] J J := fq_rf
  obtain ⟨b_466160, hb_466160, hb_466160L, hb_466160k, hb_466160n, hb_466160o⟩ := shp_a (W9 x hLx) hkx 4 14 6 rfl (by decide)
  obtain ⟨b_466161, hb_466161, hb_466161L, hb_466161k, hb_466161n, hb_466161o⟩ := shp_a (W9 a0 hLa0) hka0 0 15 7 rfl (by decide)
  obtain ⟨b_466162, hb_466162, hb_466162L, hb_466162k, hb_466162n, hb_466162o⟩ := shp_a (W9 a0 hLa0) hka0 2 14 7 rfl (by decide)
  obtain ⟨b_466163, hb_466163, hb_466163L, hb_466163k, hb_466163n, hb_466163o⟩ := shp_a (W9 a0 hLa0) hka0 3 15 6 rfl (by decide)
  obtain ⟨b_466164, hb_466164, hb_466164L, hb_466164k, hb_466164n, hb_466164o⟩ := shp_a (W9 x hLx) hkx 2 14 7 rfl (by decide)
  obtain ⟨b_466165, hb_466165, hb_466165L, hb_466165k, hb_466165n, hb_466165o⟩ := shp_a (W9 x hLx) hkx 3 15 6 rfl (by decide)
  obtain ⟨b_466166, hb_466166, hb_466166L, hb_466166k, hb_466166n, hb_466166o⟩ := shp_a (W9 x hLx) hkx 0 15 7 rfl (by decide)
  obtain ⟨b_466167, hb_466167, hb_466167L, hb_466167k, hb_466167n, hb_466167o⟩ := shp_a (W9 a0 hLa0) hka0 4 14 6 rfl (by decide)
  obtain ⟨b_466168, hb_466168, hb_466168L, hb_466168k, hb_466168n, hb_466168o⟩ := shp_a (W9 a0 hLa0) hka0 1 14 7 rfl (by decide)
  obtain ⟨b_466169, hb_466169, hb_466169L, hb_466169k, hb_466169n, hb_466169o⟩ := shp_a (W9 x hLx) hkx 1 14 7 rfl (by decide)
  refine g_lo (is := [0, 1]) (lo2 := [(0, .ref x), (1, .ref a0)]) rfl ?_
  refine g_aload_n C 1 dX8_become_0 rfl rfl ?_
  refine g_getR C K hLa0 hka0 f_8_9 hb_466161 dX8_become_1 ?_
  refine g_iconst C (v := 0) dX8_become_4 (by decide) ?_
  refine g_aload_n C 0 dX8_become_5 rfl rfl ?_
  refine g_getR C K hLx hkx f_8_9 hb_466166 dX8_become_6 ?_
  refine g_iconst C (v := 0) dX8_become_9 (by decide) ?_
  refine g_bipush C (v := 7) dX8_become_10 (by decide) ?_
  refine h_copyJ C K hb_466166L hb_466166k hb_466161L hb_466161k ac_8_41 7 (by decide) (by decide) (by rw [hb_466161n]; decide) (by rw [hb_466166n]; decide) w_cp (Nat.le_of_ble_eq_true rfl) (Nat.le_of_ble_eq_true rfl) dX8_become_12 (fun J_466170 hJ_466170 => ?_)
  have hG_466171 := fq_cp hG hJ_466170 (ro_a hb_466166k (by decide) hb_466166o hkx rfl) (by decide) (by decide)
  refine g_aload_n C 1 dX8_become_15 rfl rfl ?_
  refine g_getR C K hLa0 hka0 f_8_15 hb_466168 dX8_become_16 ?_
  refine g_iconst C (v := 0) dX8_become_19 (by decide) ?_
  refine g_aload_n C 0 dX8_become_20 rfl rfl ?_
  refine g_getR C K hLx hkx f_8_15 hb_466169 dX8_become_21 ?_
  refine g_iconst C (v := 0) dX8_become_24 (by decide) ?_
  refine g_bipush C (v := 7) dX8_become_25 (by decide) ?_
  refine h_copyI C K hb_466169L hb_466169k hb_466168L hb_466168k ac_8_41 7 (by decide) (by decide) (by rw [hb_466168n]; decide) (by rw [hb_466169n]; decide) w_cp (Nat.le_of_ble_eq_true rfl) (Nat.le_of_ble_eq_true rfl) dX8_become_27 (fun I_466172 hI_466172 => ?_)
  have hU_466173 := iv_cp W9 hU (uv_cp hU.1 hb_466168L hI_466172 (ro_a hb_466169k (by decide) hb_466169o hkx rfl) (ro_a hb_466168k (by decide) hb_466168o hka0 rfl)) hI_466172 (ro_a hb_466169k (by decide) hb_466169o hkx rfl) rfl
  have hF_466174 := fq_cp hF hI_466172 (ro_a hb_466169k (by decide) hb_466169o hkx rfl) (by decide) (by decide)
  refine g_aload_n C 1 dX8_become_30 rfl rfl ?_
  refine g_getR C K hLa0 hka0 f_8_19 hb_466162 dX8_become_31 ?_
  refine g_iconst C (v := 0) dX8_become_34 (by decide) ?_
  refine g_aload_n C 0 dX8_become_35 rfl rfl ?_
  refine g_getR C K hLx hkx f_8_19 hb_466164 dX8_become_36 ?_
  refine g_iconst C (v := 0) dX8_become_39 (by decide) ?_
  refine g_bipush C (v := 7) dX8_become_40 (by decide) ?_
  refine h_copyI C K hb_466164L hb_466164k hb_466162L hb_466162k ac_8_41 7 (by decide) (by decide) (by rw [hb_466162n]; decide) (by rw [hb_466164n]; decide) w_cp (Nat.le_of_ble_eq_true rfl) (Nat.le_of_ble_eq_true rfl) dX8_become_42 (fun I_466175 hI_466175 => ?_)
  have hU_466176 := iv_cp W9 hU_466173 (uv_cp hU_466173.1 hb_466162L hI_466175 (ro_a hb_466164k (by decide) hb_466164o hkx rfl) (ro_a hb_466162k (by decide) hb_466162o hka0 rfl)) hI_466175 (ro_a hb_466164k (by decide) hb_466164o hkx rfl) rfl
  have hF_466177 := fq_cp hF_466174 hI_466175 (ro_a hb_466164k (by decide) hb_466164o hkx rfl) (by decide) (by decide)
  refine g_aload_n C 1 dX8_become_45 rfl rfl ?_
  refine g_getR C K hLa0 hka0 f_8_22 hb_466163 dX8_become_46 ?_
  refine g_iconst C (v := 0) dX8_become_49 (by decide) ?_
  refine g_aload_n C 0 dX8_become_50 rfl rfl ?_
  refine g_getR C K hLx hkx f_8_22 hb_466165 dX8_become_51 ?_
  refine g_iconst C (v := 0) dX8_become_54 (by decide) ?_
  refine g_bipush C (v := 6) dX8_become_55 (by decide) ?_
  refine h_copyJ C K hb_466165L hb_466165k hb_466163L hb_466163k ac_8_41 6 (by decide) (by decide) (by rw [hb_466163n]; decide) (by rw [hb_466165n]; decide) w_cp (Nat.le_of_ble_eq_true rfl) (Nat.le_of_ble_eq_true rfl) dX8_become_57 (fun J_466178 hJ_466178 => ?_)
  have hG_466179 := fq_cp hG_466171 hJ_466178 (ro_a hb_466165k (by decide) hb_466165o hkx rfl) (by decide) (by decide)
  refine g_aload_n C 1 dX8_become_60 rfl rfl ?_
  refine g_getR C K hLa0 hka0 f_8_25 hb_466167 dX8_become_61 ?_
  refine g_iconst C (v := 0) dX8_become_64 (by decide) ?_
  refine g_aload_n C 0 dX8_become_65 rfl rfl ?_
  refine g_getR C K hLx hkx f_8_25 hb_466160 dX8_become_66 ?_
  refine g_iconst C (v := 0) dX8_become_69 (by decide) ?_
  refine g_bipush C (v := 6) dX8_become_70 (by decide) ?_
  refine h_copyI C K hb_466160L hb_466160k hb_466167L hb_466167k ac_8_41 6 (by decide) (by decide) (by rw [hb_466167n]; decide) (by rw [hb_466160n]; decide) w_cp (Nat.le_of_ble_eq_true rfl) (Nat.le_of_ble_eq_true rfl) dX8_become_72 (fun I_466180 hI_466180 => ?_)
  have hU_466181 := iv_cp W9 hU_466176 (uv_cp hU_466176.1 hb_466167L hI_466180 (ro_a hb_466160k (by decide) hb_466160o hkx rfl) (ro_a hb_466167k (by decide) hb_466167o hka0 rfl)) hI_466180 (ro_a hb_466160k (by decide) hb_466160o hkx rfl) rfl
  have hF_466182 := fq_cp hF_466177 hI_466180 (ro_a hb_466160k (by decide) hb_466160o hkx rfl) (by decide) (by decide)
  refine g_aload_n C 0 dX8_become_75 rfl rfl ?_
  refine g_aload_n C 1 dX8_become_76 rfl rfl ?_
  obtain ⟨x_466183, hx_466183, rx_466183⟩ := ex_get (I := I_466180) (a := a0) (j := 5) (lo := 0) (hi := 7) hU_466181.1 hLa0 (ro_o hka0 (by decide)) rfl
  refine g_getI C K hLa0 hka0 f_8_28 (v := x_466183) hx_466183 dX8_become_77 ?_
  refine h_putI C K hLx hkx f_8_28 p_8_5 dX8_become_80 (fun I_466184 hI_466184 => ?_)
  have hU_466185 := iv_put W9 hU_466181 hI_466184 (ro_o hkx (by decide)) (lo := 0) (hi := 7) (rfl) (rx_466183) rfl
  have hF_466186 := fq_puto hF_466182 hI_466184 hkx (by decide) (by decide)
  refine g_aload_n C 0 dX8_become_83 rfl rfl ?_
  refine g_aload_n C 1 dX8_become_84 rfl rfl ?_
  obtain ⟨x_466187, hx_466187, rx_466187⟩ := ex_get (I := I_466184) (a := a0) (j := 6) (lo := 0) (hi := 6) hU_466185.1 hLa0 (ro_o hka0 (by decide)) rfl
  refine g_getI C K hLa0 hka0 f_8_32 (v := x_466187) hx_466187 dX8_become_85 ?_
  refine h_putI C K hLx hkx f_8_32 p_8_6 dX8_become_88 (fun I_466188 hI_466188 => ?_)
  have hU_466189 := iv_put W9 hU_466185 hI_466188 (ro_o hkx (by decide)) (lo := 0) (hi := 6) (rfl) (rx_466187) rfl
  have hF_466190 := fq_puto hF_466186 hI_466188 hkx (by decide) (by decide)
  refine g_aload_n C 0 dX8_become_91 rfl rfl ?_
  refine g_aload_n C 1 dX8_become_92 rfl rfl ?_
  obtain ⟨x_466191, hx_466191, rx_466191⟩ := ex_get (I := I_466188) (a := a0) (j := 7) (lo := (-2147483648)) (hi := 2147483647) hU_466189.1 hLa0 (ro_o hka0 (by decide)) rfl
  refine g_getI C K hLa0 hka0 f_8_35 (v := x_466191) hx_466191 dX8_become_93 ?_
  refine h_putI C K hLx hkx f_8_35 p_8_7 dX8_become_96 (fun I_466192 hI_466192 => ?_)
  have hU_466193 := iv_put W9 hU_466189 hI_466192 (ro_o hkx (by decide)) (lo := (-2147483648)) (hi := 2147483647) (rfl) (rx_466191) rfl
  have hF_466194 := fq_puto hF_466190 hI_466192 hkx (by decide) (by decide)
  refine g_aload_n C 0 dX8_become_99 rfl rfl ?_
  refine g_aload_n C 1 dX8_become_100 rfl rfl ?_
  obtain ⟨x_466195, hx_466195, rx_466195⟩ := ex_get (I := I_466192) (a := a0) (j := 8) (lo := (-2147483648)) (hi := 2147483647) hU_466193.1 hLa0 (ro_o hka0 (by decide)) rfl
  refine g_getI C K hLa0 hka0 f_8_38 (v := x_466195) hx_466195 dX8_become_101 ?_
  refine h_putI C K hLx hkx f_8_38 p_8_8 dX8_become_104 (fun I_466196 hI_466196 => ?_)
  have hU_466197 := iv_put W9 hU_466193 hI_466196 (ro_o hkx (by decide)) (lo := (-2147483648)) (hi := 2147483647) (rfl) (rx_466195) rfl
  have hF_466198 := fq_puto hF_466194 hI_466196 hkx (by decide) (by decide)
  exact g_vret B K rfl ⟨hU_466197, hF_466198, hG_466179⟩ dX8_become_107
set_option maxRecDepth 100000 in
set_option maxHeartbeats 8000000 in
theorem c_X10_addToken {l : Launch} {D : va_G} {cy : Nat → ClassId} {L : List Nat} {κ ln : Nat → Nat} {R : Nat → Nat → Option Nat} {I : Nat → Nat → Int32} {J : Nat → Nat → Int64} {ow : Nat → Nat × Nat} (W9 : ∀ a ∈ L, Shp L κ ln R ow a) {x : Nat} (hLx : x ∈ L) (hkx : κ x = 10) (a0 : Int32) (a1 : Int32) (a2 : Int64) (ra0 : Rg (-128) 127 a0) (ra1 : Rg 0 900 a1) (hU : Iv L κ R ow I) : CtV l yX10_addToken cX10_addToken 5 none { frames := 0, cells := 0, slots := 0, locals := 0 } D cy L κ ln R I J [.ref x, .int a0, .int a1, .long a2] (fun I2 J2 => Iv L κ R ow I2 ∧ Fq L κ ow [1006, 70200, 70300] I I2 ∧ Fq L κ ow [70400] J J2) := by
  refine CtV.of (by decide +kernel) (Nat.le_of_ble_eq_true rfl) ?_
  intro p e s m below meth c B K
  have C := B.1
  have hF : Fq L κ ow [1006, 70200, 70300] I I := fq_rf
  have hG : Fq L κ ow [70400] J J := fq_rf
  obtain ⟨b_466237, hb_466237, hb_466237L, hb_466237k, hb_466237n, hb_466237o⟩ := shp_a (W9 x hLx) hkx 3 14 901 rfl (by decide)
  obtain ⟨b_466238, hb_466238, hb_466238L, hb_466238k, hb_466238n, hb_466238o⟩ := shp_a (W9 x hLx) hkx 4 15 901 rfl (by decide)
  obtain ⟨b_466239, hb_466239, hb_466239L, hb_466239k, hb_466239n, hb_466239o⟩ := shp_a (W9 x hLx) hkx 2 14 901 rfl (by decide)
  refine g_lo (is := [0, 1, 2, 3]) (lo2 := [(0, .ref x), (1, .int a0), (2, .int a1), (3, .long a2)]) rfl ?_
  refine g_aload_n C 0 dX10_addToken_0 rfl rfl ?_
  obtain ⟨x_466240, hx_466240, rx_466240⟩ := ex_get (I := I) (a := x) (j := 6) (lo := 0) (hi := 901) hU.1 hLx (ro_o hkx (by decide)) rfl
  refine g_getI C K hLx hkx f_10_33 (v := x_466240) hx_466240 dX10_addToken_1 ?_
  refine g_aload_n C 0 dX10_addToken_4 rfl rfl ?_
  refine g_getR C K hLx hkx f_10_19 hb_466239 dX10_addToken_5 ?_
  refine g_alenI C K hb_466239L hb_466239k (v := 901) (by rw [hb_466239n]; rfl) dX10_addToken_8 ?_
  refine g_icmp_ge C (tgt := 52) dX10_addToken_9 (by decide) (fun h_466241 => ?_) (fun h_466241 => ?_)
  · skip
    have r_466242 := le_r (h_466241) rc_901 rx_466240
    exact g_vret B K rfl ⟨hU, hF, hG⟩ dX10_addToken_52
  · skip
    have r_466243 := lt_l (hi := 900) (nle h_466241) rx_466240 rc_901 (by decide)
    refine g_aload_n C 0 dX10_addToken_12 rfl rfl ?_
    refine g_getR C K hLx hkx f_10_19 hb_466239 dX10_addToken_13 ?_
    refine g_aload_n C 0 dX10_addToken_16 rfl rfl ?_
    refine g_getI C K hLx hkx f_10_33 (v := x_466240) hx_466240 dX10_addToken_17 ?_
    refine g_iload_n C 1 dX10_addToken_20 rfl rfl ?_
    refine h_iast C K hb_466239L hb_466239k (x_466240.toNatClampNeg) (rfl) (ix_0 r_466243 (by decide)) (ix_lt r_466243 (by decide) hb_466239n (by decide)) dX10_addToken_21 (fun I_466244 hI_466244 => ?_)
    have hU_466245 := iv_put W9 hU hI_466244 (ro_a hb_466239k (by decide) hb_466239o hkx rfl) (lo := (-2147483648)) (hi := 2147483647) (rfl) (rg_all _) rfl
    have hF_466246 := fq_puta hF hI_466244 (ro_a hb_466239k (by decide) hb_466239o hkx rfl) (by decide) (by decide)
    refine g_aload_n C 0 dX10_addToken_22 rfl rfl ?_
    refine g_getR C K hLx hkx f_10_23 hb_466237 dX10_addToken_23 ?_
    refine g_aload_n C 0 dX10_addToken_26 rfl rfl ?_
    refine g_getI C K hLx hkx f_10_33 (v := x_466240) (kp_k (κ := κ) hI_466244 (by rw [hkx, hb_466239k]; decide) hx_466240) dX10_addToken_27 ?_
    refine g_iload_n C 2 dX10_addToken_30 rfl rfl ?_
    refine h_iast C K hb_466237L hb_466237k (x_466240.toNatClampNeg) (rfl) (ix_0 r_466243 (by decide)) (ix_lt r_466243 (by decide) hb_466237n (by decide)) dX10_addToken_31 (fun I_466247 hI_466247 => ?_)
    have hU_466248 := iv_put W9 hU_466245 hI_466247 (ro_a hb_466237k (by decide) hb_466237o hkx rfl) (lo := (-2147483648)) (hi := 2147483647) (rfl) (rg_all _) rfl
    have hF_466249 := fq_puta hF_466246 hI_466247 (ro_a hb_466237k (by decide) hb_466237o hkx rfl) (by decide) (by decide)
    refine g_aload_n C 0 dX10_addToken_32 rfl rfl ?_
    refine g_getR C K hLx hkx f_10_26 hb_466238 dX10_addToken_33 ?_
    refine g_aload_n C 0 dX10_addToken_36 rfl rfl ?_
    refine g_getI C K hLx hkx f_10_33 (v := x_466240) (kp_k (κ := κ) hI_466247 (by rw [hkx, hb_466237k]; decide) (kp_k (κ := κ) hI_466244 (by rw [hkx, hb_466239k]; decide) hx_466240)) dX10_addToken_37 ?_
    refine g_lload_n C 3 dX10_addToken_40 rfl rfl ?_
    refine h_last C K hb_466238L hb_466238k (x_466240.toNatClampNeg) (rfl) (ix_0 r_466243 (by decide)) (ix_lt r_466243 (by decide) hb_466238n (by decide)) dX10_addToken_41 (fun J_466250 hJ_466250 => ?_)
    have hG_466251 := fq_puta hG hJ_466250 (ro_a hb_466238k (by decide) hb_466238o hkx rfl) (by decide) (by decide)
    refine g_aload_n C 0 dX10_addToken_42 rfl rfl ?_
    refine g_dup C dX10_addToken_43 rfl ?_
    refine g_getI C K hLx hkx f_10_33 (v := x_466240) (kp_k (κ := κ) hI_466247 (by rw [hkx, hb_466237k]; decide) (kp_k (κ := κ) hI_466244 (by rw [hkx, hb_466239k]; decide) hx_466240)) dX10_addToken_44 ?_
    refine g_iconst C (v := 1) dX10_addToken_47 (by decide) ?_
    obtain ⟨x_466252, hx_466252, rx_466252, tx_466252⟩ := ex_add 1 901 r_466243 rc_1 (by decide) (by decide) (by decide) (by decide)
    refine g_iadd C (v := x_466252) dX10_addToken_48 hx_466252 ?_
    refine h_putI C K hLx hkx f_10_33 p_10_6 dX10_addToken_49 (fun I_466253 hI_466253 => ?_)
    have hU_466254 := iv_put W9 hU_466248 hI_466253 (ro_o hkx (by decide)) (lo := 0) (hi := 901) (rfl) (rg_w rx_466252 (by decide) (by decide)) rfl
    have hF_466255 := fq_puto hF_466249 hI_466253 hkx (by decide) (by decide)
    exact g_vret B K rfl ⟨hU_466254, hF_466255, hG_466251⟩ dX10_addToken_52
set_option maxRecDepth 100000 in
set_option maxHeartbeats 8000000 in
theorem c_X10_advance {l : Launch} {D : va_G} {cy : Nat → ClassId} {L : List Nat} {κ ln : Nat → Nat} {R : Nat → Nat → Option Nat} {I : Nat → Nat → Int32} {J : Nat → Nat → Int64} {ow : Nat → Nat × Nat} (W9 : ∀ a ∈ L, Shp L κ ln R ow a) {x : Nat} (hLx : x ∈ L) (hkx : κ x = 10) (hU : Iv L κ R ow I) : CtV l yX10_advance cX10_advance 1 none { frames := 0, cells := 0, slots := 0, locals := 0 } D cy L κ ln R I J [.ref x] (fun I2 J2 => Iv L κ R ow I2 ∧ Fq L κ ow [1007, 1008, 1009] I I2 ∧ Fq L κ ow [1010] J J2) := by
  refine CtV.of (by decide +kernel) (Nat.le_of_ble_eq_true rfl) ?_
  intro p e s m below meth c B K
  have C := B.1
  have hF : Fq L κ ow [1007, 1008, 1009] I I := fq_rf
  have hG : Fq L κ ow [1010] J J := fq_rf
  obtain ⟨b_466302, hb_466302, hb_466302L, hb_466302k, hb_466302n, hb_466302o⟩ := shp_a (W9 x hLx) hkx 3 14 901 rfl (by decide)
  obtain ⟨b_466303, hb_466303, hb_466303L, hb_466303k, hb_466303n, hb_466303o⟩ := shp_a (W9 x hLx) hkx 4 15 901 rfl (by decide)
  obtain ⟨b_466304, hb_466304, hb_466304L, hb_466304k, hb_466304n, hb_466304o⟩ := shp_a (W9 x hLx) hkx 2 14 901 rfl (by decide)
  refine g_lo (is := [0]) (lo2 := [(0, .ref x)]) rfl ?_
  refine g_aload_n C 0 dX10_advance_0 rfl rfl ?_
  obtain ⟨x_466305, hx_466305, rx_466305⟩ := ex_get (I := I) (a := x) (j := 7) (lo := (-1)) (hi := 900) hU.1 hLx (ro_o hkx (by decide)) rfl
  refine g_getI C K hLx hkx f_10_36 (v := x_466305) hx_466305 dX10_advance_1 ?_
  refine g_iconst C (v := 1) dX10_advance_4 (by decide) ?_
  obtain ⟨x_466306, hx_466306, rx_466306, tx_466306⟩ := ex_add 0 901 rx_466305 rc_1 (by decide) (by decide) (by decide) (by decide)
  refine g_iadd C (v := x_466306) dX10_advance_5 hx_466306 ?_
  refine g_aload_n C 0 dX10_advance_6 rfl rfl ?_
  obtain ⟨x_466307, hx_466307, rx_466307⟩ := ex_get (I := I) (a := x) (j := 6) (lo := 0) (hi := 901) hU.1 hLx (ro_o hkx (by decide)) rfl
  refine g_getI C K hLx hkx f_10_33 (v := x_466307) hx_466307 dX10_advance_7 ?_
  refine g_icmp_ge C (tgt := 62) dX10_advance_10 (by decide) (fun h_466308 => ?_) (fun h_466308 => ?_)
  · skip
    exact g_vret B K rfl ⟨hU, hF, hG⟩ dX10_advance_62
  · skip
    have r_466309 := lt_l (hi := 900) (nle h_466308) rx_466306 rx_466307 (by decide)
    have r_466310 := lt_r (lo := 1) (nle h_466308) rx_466306 rx_466307 (by decide)
    refine g_aload_n C 0 dX10_advance_13 rfl rfl ?_
    refine g_dup C dX10_advance_14 rfl ?_
    refine g_getI C K hLx hkx f_10_36 (v := x_466305) hx_466305 dX10_advance_15 ?_
    refine g_iconst C (v := 1) dX10_advance_18 (by decide) ?_
    refine g_iadd C (v := x_466306) dX10_advance_19 hx_466306 ?_
    refine h_putI C K hLx hkx f_10_36 p_10_7 dX10_advance_20 (fun I_466311 hI_466311 => ?_)
    have hU_466312 := iv_put W9 hU hI_466311 (ro_o hkx (by decide)) (lo := (-1)) (hi := 900) (rfl) (rg_w r_466309 (by decide) (by decide)) rfl
    have hF_466313 := fq_puto hF hI_466311 hkx (by decide) (by decide)
    refine g_aload_n C 0 dX10_advance_23 rfl rfl ?_
    refine g_aload_n C 0 dX10_advance_24 rfl rfl ?_
    refine g_getR C K hLx hkx f_10_19 hb_466304 dX10_advance_25 ?_
    refine g_aload_n C 0 dX10_advance_28 rfl rfl ?_
    refine g_getI C K hLx hkx f_10_36 (v := x_466306) (kp_s hI_466311) dX10_advance_29 ?_
    obtain ⟨x_466314, hx_466314, rx_466314⟩ := ex_get (I := I_466311) (a := b_466304) (j := x_466306.toNatClampNeg) (lo := (-2147483648)) (hi := 2147483647) hU_466312.1 hb_466304L (ro_a hb_466304k (by decide) hb_466304o hkx rfl) (rfl)
    refine h_iald C K hb_466304L hb_466304k (v := x_466314) (x_466306.toNatClampNeg) (rfl) (ix_0 r_466309 (by decide)) (ix_lt r_466309 (by decide) hb_466304n (by decide)) hx_466314 dX10_advance_32 ?_
    refine h_putI C K hLx hkx f_10_39 p_10_8 dX10_advance_33 (fun I_466315 hI_466315 => ?_)
    have hU_466316 := iv_put W9 hU_466312 hI_466315 (ro_o hkx (by decide)) (lo := (-2147483648)) (hi := 2147483647) (rfl) (rx_466314) rfl
    have hF_466317 := fq_puto hF_466313 hI_466315 hkx (by decide) (by decide)
    refine g_aload_n C 0 dX10_advance_36 rfl rfl ?_
    refine g_aload_n C 0 dX10_advance_37 rfl rfl ?_
    refine g_getR C K hLx hkx f_10_23 hb_466302 dX10_advance_38 ?_
    refine g_aload_n C 0 dX10_advance_41 rfl rfl ?_
    refine g_getI C K hLx hkx f_10_36 (v := x_466306) (kp_j hI_466315 (by decide) (kp_s hI_466311)) dX10_advance_42 ?_
    obtain ⟨x_466318, hx_466318, rx_466318⟩ := ex_get (I := I_466315) (a := b_466302) (j := x_466306.toNatClampNeg) (lo := (-2147483648)) (hi := 2147483647) hU_466316.1 hb_466302L (ro_a hb_466302k (by decide) hb_466302o hkx rfl) (rfl)
    refine h_iald C K hb_466302L hb_466302k (v := x_466318) (x_466306.toNatClampNeg) (rfl) (ix_0 r_466309 (by decide)) (ix_lt r_466309 (by decide) hb_466302n (by decide)) hx_466318 dX10_advance_45 ?_
    refine h_putI C K hLx hkx f_10_42 p_10_9 dX10_advance_46 (fun I_466319 hI_466319 => ?_)
    have hU_466320 := iv_put W9 hU_466316 hI_466319 (ro_o hkx (by decide)) (lo := (-2147483648)) (hi := 2147483647) (rfl) (rx_466318) rfl
    have hF_466321 := fq_puto hF_466317 hI_466319 hkx (by decide) (by decide)
    refine g_aload_n C 0 dX10_advance_49 rfl rfl ?_
    refine g_aload_n C 0 dX10_advance_50 rfl rfl ?_
    refine g_getR C K hLx hkx f_10_26 hb_466303 dX10_advance_51 ?_
    refine g_aload_n C 0 dX10_advance_54 rfl rfl ?_
    refine g_getI C K hLx hkx f_10_36 (v := x_466306) (kp_j hI_466319 (by decide) (kp_j hI_466315 (by decide) (kp_s hI_466311))) dX10_advance_55 ?_
    obtain ⟨y_466322, hy_466322⟩ : ∃ z, J b_466303 (x_466306.toNatClampNeg) = z := ⟨_, rfl⟩
    refine h_lald C K hb_466303L hb_466303k (v := y_466322) (x_466306.toNatClampNeg) (rfl) (ix_0 r_466309 (by decide)) (ix_lt r_466309 (by decide) hb_466303n (by decide)) hy_466322 dX10_advance_58 ?_
    refine h_putJ C K hLx hkx f_10_45 p_10_10 dX10_advance_59 (fun J_466323 hJ_466323 => ?_)
    have hG_466324 := fq_puto hG hJ_466323 hkx (by decide) (by decide)
    exact g_vret B K rfl ⟨hU_466320, hF_466321, hG_466324⟩ dX10_advance_62
set_option maxRecDepth 100000 in
set_option maxHeartbeats 8000000 in
theorem c_X10_isDigit {l : Launch} {D : va_G} {cy : Nat → ClassId} {L : List Nat} {κ ln : Nat → Nat} {R : Nat → Nat → Option Nat} {I : Nat → Nat → Int32} {J : Nat → Nat → Int64} {ow : Nat → Nat × Nat} (W9 : ∀ a ∈ L, Shp L κ ln R ow a) (a0 : Int32) (ra0 : Rg (-128) 127 a0) (hU : Iv L κ R ow I) : CtI l yX10_isDigit cX10_isDigit 1 (some .boolean) { frames := 0, cells := 0, slots := 0, locals := 0 } D cy L κ ln R I J [.int a0] (fun r I2 J2 => I = I2 ∧ J = J2 ∧ Rg 0 1 r) := by
  refine CtI.of (by decide +kernel) (Nat.le_of_ble_eq_true rfl) ?_
  intro p e s m below meth c B K
  have C := B.1
  refine g_lo (is := [0]) (lo2 := [(0, .int a0)]) rfl ?_
  refine g_iload_n C 0 dX10_isDigit_0 rfl rfl ?_
  refine g_bipush C (v := 48) dX10_isDigit_1 (by decide) ?_
  refine g_icmp_lt C (tgt := 16) dX10_isDigit_3 (by decide) (fun h_466337 => ?_) (fun h_466337 => ?_)
  · skip
    have r_466338 := lt_l (hi := 47) (h_466337) ra0 rc_48 (by decide)
    refine g_iconst C (v := 0) dX10_isDigit_16 (by decide) ?_
    exact g_zret (ty := .boolean) (r := 0) B K rfl (rfl) ⟨rfl, rfl, rg_w rc_0 (by decide) (by decide)⟩ dX10_isDigit_17
  · skip
    have r_466339 := le_r (nlt h_466337) rc_48 ra0
    refine g_iload_n C 0 dX10_isDigit_6 rfl rfl ?_
    refine g_bipush C (v := 57) dX10_isDigit_7 (by decide) ?_
    refine g_icmp_gt C (tgt := 16) dX10_isDigit_9 (by decide) (fun h_466340 => ?_) (fun h_466340 => ?_)
    · skip
      have r_466341 := lt_r (lo := 58) (h_466340) rc_57 r_466339 (by decide)
      refine g_iconst C (v := 0) dX10_isDigit_16 (by decide) ?_
      exact g_zret (ty := .boolean) (r := 0) B K rfl (rfl) ⟨rfl, rfl, rg_w rc_0 (by decide) (by decide)⟩ dX10_isDigit_17
    · skip
      have r_466342 := le_l (nlt h_466340) r_466339 rc_57
      refine g_iconst C (v := 1) dX10_isDigit_12 (by decide) ?_
      refine g_goto C (tgt := 17) dX10_isDigit_13 (by decide) ?_
      exact g_zret (ty := .boolean) (r := 1) B K rfl (rfl) ⟨rfl, rfl, rg_w rc_1 (by decide) (by decide)⟩ dX10_isDigit_17
set_option maxRecDepth 100000 in
set_option maxHeartbeats 8000000 in
theorem c_X10_isLetter {l : Launch} {D : va_G} {cy : Nat → ClassId} {L : List Nat} {κ ln : Nat → Nat} {R : Nat → Nat → Option Nat} {I : Nat → Nat → Int32} {J : Nat → Nat → Int64} {ow : Nat → Nat × Nat} (W9 : ∀ a ∈ L, Shp L κ ln R ow a) (a0 : Int32) (ra0 : Rg (-128) 127 a0) (hU : Iv L κ R ow I) : CtI l yX10_isLetter cX10_isLetter 1 (some .boolean) { frames := 0, cells := 0, slots := 0, locals := 0 } D cy L κ ln R I J [.int a0] (fun r I2 J2 => I = I2 ∧ J = J2 ∧ Rg 0 1 r) := by
  refine CtI.of (by decide +kernel) (Nat.le_of_ble_eq_true rfl) ?_
  intro p e s m below meth c B K
  have C := B.1
  refine g_lo (is := [0]) (lo2 := [(0, .int a0)]) rfl ?_
  refine g_iload_n C 0 dX10_isLetter_0 rfl rfl ?_
  refine g_bipush C (v := 97) dX10_isLetter_1 (by decide) ?_
  refine g_icmp_lt C (tgt := 16) dX10_isLetter_3 (by decide) (fun h_466355 => ?_) (fun h_466355 => ?_)
  · skip
    have r_466356 := lt_l (hi := 96) (h_466355) ra0 rc_97 (by decide)
    refine g_iconst C (v := 0) dX10_isLetter_16 (by decide) ?_
    exact g_zret (ty := .boolean) (r := 0) B K rfl (rfl) ⟨rfl, rfl, rg_w rc_0 (by decide) (by decide)⟩ dX10_isLetter_17
  · skip
    have r_466357 := le_r (nlt h_466355) rc_97 ra0
    refine g_iload_n C 0 dX10_isLetter_6 rfl rfl ?_
    refine g_bipush C (v := 122) dX10_isLetter_7 (by decide) ?_
    refine g_icmp_gt C (tgt := 16) dX10_isLetter_9 (by decide) (fun h_466358 => ?_) (fun h_466358 => ?_)
    · skip
      have r_466359 := lt_r (lo := 123) (h_466358) rc_122 r_466357 (by decide)
      refine g_iconst C (v := 0) dX10_isLetter_16 (by decide) ?_
      exact g_zret (ty := .boolean) (r := 0) B K rfl (rfl) ⟨rfl, rfl, rg_w rc_0 (by decide) (by decide)⟩ dX10_isLetter_17
    · skip
      have r_466360 := le_l (nlt h_466358) r_466357 rc_122
      refine g_iconst C (v := 1) dX10_isLetter_12 (by decide) ?_
      refine g_goto C (tgt := 17) dX10_isLetter_13 (by decide) ?_
      exact g_zret (ty := .boolean) (r := 1) B K rfl (rfl) ⟨rfl, rfl, rg_w rc_1 (by decide) (by decide)⟩ dX10_isLetter_17
set_option maxRecDepth 100000 in
set_option maxHeartbeats 8000000 in
theorem c_X10_isSign {l : Launch} {D : va_G} {cy : Nat → ClassId} {L : List Nat} {κ ln : Nat → Nat} {R : Nat → Nat → Option Nat} {I : Nat → Nat → Int32} {J : Nat → Nat → Int64} {ow : Nat → Nat × Nat} (W9 : ∀ a ∈ L, Shp L κ ln R ow a) (a0 : Int32) (ra0 : Rg (-128) 127 a0) (hU : Iv L κ R ow I) : CtI l yX10_isSign cX10_isSign 1 (some .boolean) { frames := 0, cells := 0, slots := 0, locals := 0 } D cy L κ ln R I J [.int a0] (fun r I2 J2 => I = I2 ∧ J = J2 ∧ Rg 0 1 r) := by
  refine CtI.of (by decide +kernel) (Nat.le_of_ble_eq_true rfl) ?_
  intro p e s m below meth c B K
  have C := B.1
  refine g_lo (is := [0]) (lo2 := [(0, .int a0)]) rfl ?_
  have j_24 : ∀ (v_466385 : Int32) (rv_466385 : Rg 40 62 v_466385), WG p l e { frames := 0, cells := 0, slots := 0, locals := 0 } s m ([.int a0] : List Value).toArray below meth c 1 0 0 (MQ below (Qi_ D cy L κ ln R (fun r I2 J2 => I = I2 ∧ J = J2 ∧ Rg 0 1 r)) ([.int a0] : List Value).toArray s 0 0 (Al_ L)) D cy (Al_ L) s.heap L κ ln R I J 24 [(0, .int v_466385)] [] := by
    intro v_466385 rv_466385
    refine g_iconst C (v := 1) dX10_isSign_24 (by decide) ?_
    refine g_goto C (tgt := 29) dX10_isSign_25 (by decide) ?_
    exact g_zret (ty := .boolean) (r := 1) B K rfl (rfl) ⟨rfl, rfl, rg_w rc_1 (by decide) (by decide)⟩ dX10_isSign_29
  refine g_iload_n C 0 dX10_isSign_0 rfl rfl ?_
  refine g_bipush C (v := 40) dX10_isSign_1 (by decide) ?_
  refine g_icmp_eq C (tgt := 24) dX10_isSign_3 (by decide) (fun h_466386 => ?_) (fun h_466386 => ?_)
  · skip
    have r_466387 := (⟨(eq_rg (h_466386) rc_40).1, (eq_rg (h_466386) rc_40).2⟩ : Rg 40 40 a0)
    refine g_lo (is := [0]) (lo2 := [(0, .int a0)]) rfl ?_
    exact j_24 a0 (rg_w r_466387 (by decide) (by decide))
  · skip
    have n_466388 : ¬ a0 = 40 := h_466386
    refine g_iload_n C 0 dX10_isSign_6 rfl rfl ?_
    refine g_bipush C (v := 41) dX10_isSign_7 (by decide) ?_
    refine g_icmp_eq C (tgt := 24) dX10_isSign_9 (by decide) (fun h_466389 => ?_) (fun h_466389 => ?_)
    · skip
      have r_466390 := (⟨(eq_rg (h_466389) rc_41).1, (eq_rg (h_466389) rc_41).2⟩ : Rg 41 41 a0)
      refine g_lo (is := [0]) (lo2 := [(0, .int a0)]) rfl ?_
      exact j_24 a0 (rg_w r_466390 (by decide) (by decide))
    · skip
      have n_466391 : ¬ a0 = 41 := h_466389
      refine g_iload_n C 0 dX10_isSign_12 rfl rfl ?_
      refine g_bipush C (v := 59) dX10_isSign_13 (by decide) ?_
      refine g_icmp_lt C (tgt := 28) dX10_isSign_15 (by decide) (fun h_466392 => ?_) (fun h_466392 => ?_)
      · skip
        have r_466393 := lt_l (hi := 58) (h_466392) ra0 rc_59 (by decide)
        refine g_iconst C (v := 0) dX10_isSign_28 (by decide) ?_
        exact g_zret (ty := .boolean) (r := 0) B K rfl (rfl) ⟨rfl, rfl, rg_w rc_0 (by decide) (by decide)⟩ dX10_isSign_29
      · skip
        have r_466394 := le_r (nlt h_466392) rc_59 ra0
        refine g_iload_n C 0 dX10_isSign_18 rfl rfl ?_
        refine g_bipush C (v := 62) dX10_isSign_19 (by decide) ?_
        refine g_icmp_gt C (tgt := 28) dX10_isSign_21 (by decide) (fun h_466395 => ?_) (fun h_466395 => ?_)
        · skip
          have r_466396 := lt_r (lo := 63) (h_466395) rc_62 r_466394 (by decide)
          refine g_iconst C (v := 0) dX10_isSign_28 (by decide) ?_
          exact g_zret (ty := .boolean) (r := 0) B K rfl (rfl) ⟨rfl, rfl, rg_w rc_0 (by decide) (by decide)⟩ dX10_isSign_29
        · skip
          have r_466397 := le_l (nlt h_466395) r_466394 rc_62
          refine g_lo (is := [0]) (lo2 := [(0, .int a0)]) rfl ?_
          exact j_24 a0 (rg_w r_466397 (by decide) (by decide))
set_option maxRecDepth 100000 in
set_option maxHeartbeats 8000000 in
theorem c_X10_tokenOfWord {l : Launch} {D : va_G} {cy : Nat → ClassId} {L : List Nat} {κ ln : Nat → Nat} {R : Nat → Nat → Option Nat} {I : Nat → Nat → Int32} {J : Nat → Nat → Int64} {ow : Nat → Nat × Nat} (W9 : ∀ a ∈ L, Shp L κ ln R ow a) {x : Nat} (hLx : x ∈ L) (hkx : κ x = 10) (a0 : Int64) (hU : Iv L κ R ow I) : CtI l yX10_tokenOfWord cX10_tokenOfWord 4 (some .int) { frames := 0, cells := 0, slots := 0, locals := 0 } D cy L κ ln R I J [.ref x, .long a0] (fun r I2 J2 => I = I2 ∧ J = J2 ∧ Rg 0 100 r) := by
  refine CtI.of (by decide +kernel) (Nat.le_of_ble_eq_true rfl) ?_
  intro p e s m below meth c B K
  have C := B.1
  obtain ⟨b_466535, hb_466535, hb_466535L, hb_466535k, hb_466535n, hb_466535o⟩ := shp_a (W9 x hLx) hkx 1 15 28 rfl (by decide)
  refine g_lo (is := [0, 1]) (lo2 := [(0, .ref x), (1, .long a0)]) rfl ?_
  have l_2 : ∀ (n_2 : Nat) (y_466536 : Int64) (v_466537 : Int32) (rv_466537 : Rg 0 28 v_466537) (hm_466538 : 28 < (v_466537 : Int32).toInt + (n_2 : Int)), WG p l e { frames := 0, cells := 0, slots := 0, locals := 0 } s m ([.ref x, .long a0] : List Value).toArray below meth c 4 0 0 (MQ below (Qi_ D cy L κ ln R (fun r I2 J2 => I = I2 ∧ J = J2 ∧ Rg 0 100 r)) ([.ref x, .long a0] : List Value).toArray s 0 0 (Al_ L)) D cy (Al_ L) s.heap L κ ln R I J 2 [(0, .ref x), (1, .long y_466536), (3, .int v_466537)] [] := by
    intro n_2
    induction n_2 with
    | zero =>
      intro y_466536 v_466537 rv_466537 hm_466538
      exact ms_0 rv_466537 hm_466538
    | succ n_2 ih_2 =>
      intro y_466536 v_466537 rv_466537 hm_466538
      refine g_iload_n C 2 dX10_tokenOfWord_2 rfl rfl ?_
      refine g_bipush C (v := 28) dX10_tokenOfWord_3 (by decide) ?_
      refine g_icmp_ge C (tgt := 27) dX10_tokenOfWord_5 (by decide) (fun h_466539 => ?_) (fun h_466539 => ?_)
      · skip
        have r_466540 := le_r (h_466539) rc_28 rv_466537
        refine g_bipush C (v := 100) dX10_tokenOfWord_27 (by decide) ?_
        exact g_zret (ty := .int) (r := 100) B K rfl (rfl) ⟨rfl, rfl, rg_w rc_100 (by decide) (by decide)⟩ dX10_tokenOfWord_29
      · skip
        have r_466541 := lt_l (hi := 27) (nle h_466539) rv_466537 rc_28 (by decide)
        refine g_aload_n C 0 dX10_tokenOfWord_8 rfl rfl ?_
        refine g_getR C K hLx hkx f_10_15 hb_466535 dX10_tokenOfWord_9 ?_
        refine g_iload_n C 2 dX10_tokenOfWord_12 rfl rfl ?_
        obtain ⟨y_466542, hy_466542⟩ : ∃ z, J b_466535 (v_466537.toNatClampNeg) = z := ⟨_, rfl⟩
        refine h_lald C K hb_466535L hb_466535k (v := y_466542) (v_466537.toNatClampNeg) (rfl) (ix_0 r_466541 (by decide)) (ix_lt r_466541 (by decide) hb_466535n (by decide)) hy_466542 dX10_tokenOfWord_13 ?_
        refine g_lload_n C 1 dX10_tokenOfWord_14 rfl rfl ?_
        refine g_lcmp C dX10_tokenOfWord_15 (fun x_466543 rx_466543 => ?_)
        refine g_if_ne C (tgt := 21) dX10_tokenOfWord_16 (by decide) (fun h_466544 => ?_) (fun h_466544 => ?_)
        · skip
          have n_466545 : ¬ x_466543 = 0 := h_466544
          obtain ⟨x_466546, hx_466546, rx_466546, tx_466546⟩ := ex_add (y := 1) 1 28 r_466541 rc_1 (by decide) (by decide) (by decide) (by decide)
          refine g_iinc C dX10_tokenOfWord_21 (k := 2) (v := x_466546) rfl hx_466546 (by decide) (lo2 := [(3, .int x_466546), (0, .ref x), (1, .long y_466536)]) rfl ?_
          refine g_goto C (tgt := 2) dX10_tokenOfWord_24 (by decide) ?_
          refine g_lo (is := [1, 2, 0]) (lo2 := [(0, .ref x), (1, .long y_466536), (3, .int x_466546)]) rfl ?_
          exact ih_2 y_466536 x_466546 (rg_w rx_466546 (by decide) (by decide)) (ms_1 hm_466538 (ti_k tx_466546 rc_1) (by decide))
        · skip
          have r_466547 := (⟨(eq_rg (h_466544) rc_0).1, (eq_rg (h_466544) rc_0).2⟩ : Rg 0 0 x_466543)
          refine g_iload_n C 2 dX10_tokenOfWord_19 rfl rfl ?_
          exact g_zret (ty := .int) (r := v_466537) B K rfl (rfl) ⟨rfl, rfl, rg_w r_466541 (by decide) (by decide)⟩ dX10_tokenOfWord_20
  refine g_iconst C (v := 0) dX10_tokenOfWord_0 (by decide) ?_
  refine g_istore_n C dX10_tokenOfWord_1 rfl (by decide) (lo2 := [(3, .int 0), (0, .ref x), (1, .long a0)]) rfl ?_
  refine g_lo (is := [1, 2, 0]) (lo2 := [(0, .ref x), (1, .long a0), (3, .int 0)]) rfl ?_
  exact l_2 29 a0 0 (rg_w rc_0 (by decide) (by decide)) (ms_s (a := 0) (b := 28) (N := 29) (rg_w rc_0 (by decide) (by decide)) (by decide))
set_option maxRecDepth 100000 in
set_option maxHeartbeats 8000000 in
theorem c_X10_withLetter {l : Launch} {D : va_G} {cy : Nat → ClassId} {L : List Nat} {κ ln : Nat → Nat} {R : Nat → Nat → Option Nat} {I : Nat → Nat → Int32} {J : Nat → Nat → Int64} {ow : Nat → Nat × Nat} (W9 : ∀ a ∈ L, Shp L κ ln R ow a) (a0 : Int64) (a1 : Int32) (ra1 : Rg (-128) 127 a1) (hU : Iv L κ R ow I) : CtL l yX10_withLetter cX10_withLetter 3 (some .long) { frames := 0, cells := 0, slots := 0, locals := 0 } D cy L κ ln R I J [.long a0, .int a1] (fun r I2 J2 => I = I2 ∧ J = J2) := by
  refine CtL.of (by decide +kernel) (Nat.le_of_ble_eq_true rfl) ?_
  intro p e s m below meth c B K
  have C := B.1
  refine g_lo (is := [0, 1]) (lo2 := [(0, .long a0), (2, .int a1)]) rfl ?_
  refine g_lload_n C 0 dX10_withLetter_0 rfl rfl ?_
  refine g_iconst C (v := 5) dX10_withLetter_1 (by decide) ?_
  refine g_lshl C dX10_withLetter_2 (fun y_466558 => ?_)
  refine g_iload_n C 1 dX10_withLetter_3 rfl rfl ?_
  refine g_bipush C (v := 97) dX10_withLetter_4 (by decide) ?_
  obtain ⟨x_466559, hx_466559, rx_466559, tx_466559⟩ := ex_sub (-225) 30 ra1 rc_97 (by decide) (by decide) (by decide) (by decide)
  refine g_isub C (v := x_466559) dX10_withLetter_6 hx_466559 ?_
  refine g_iconst C (v := 1) dX10_withLetter_7 (by decide) ?_
  obtain ⟨x_466560, hx_466560, rx_466560, tx_466560⟩ := ex_add (-224) 31 rx_466559 rc_1 (by decide) (by decide) (by decide) (by decide)
  refine g_iadd C (v := x_466560) dX10_withLetter_8 hx_466560 ?_
  obtain ⟨y_466561, hy_466561⟩ : ∃ z, Int32.toInt64 x_466560 = z := ⟨_, rfl⟩
  refine g_i2l C (v := y_466561) dX10_withLetter_9 hy_466561 ?_
  refine g_lor C dX10_withLetter_10 (fun y_466562 => ?_)
  exact g_lret (r := y_466562) B K rfl ⟨rfl, rfl⟩ dX10_withLetter_11
