theorem dX10_add_0 : decode cX10_add 0 = .ok (.bipush 24, 2) := by decide +kernel
theorem dX10_add_2 : decode cX10_add 2 = .ok (.istore_n 2, 1) := by decide +kernel
theorem dX10_add_3 : decode cX10_add 3 = .ok (.iload_n 2, 1) := by decide +kernel
theorem dX10_add_4 : decode cX10_add 4 = .ok (.ifCond .lt 44, 3) := by decide +kernel
theorem dX10_add_7 : decode cX10_add 7 = .ok (.aload_n 0, 1) := by decide +kernel
theorem dX10_add_8 : decode cX10_add 8 = .ok (.getfield 29, 3) := by decide +kernel
theorem dX10_add_11 : decode cX10_add 11 = .ok (.aload_n 0, 1) := by decide +kernel
theorem dX10_add_12 : decode cX10_add 12 = .ok (.getfield 9, 3) := by decide +kernel
theorem dX10_add_15 : decode cX10_add 15 = .ok (.arraylength, 1) := by decide +kernel
theorem dX10_add_16 : decode cX10_add 16 = .ok (.if_icmp .ge 32, 3) := by decide +kernel
theorem dX10_add_19 : decode cX10_add 19 = .ok (.aload_n 0, 1) := by decide +kernel
theorem dX10_add_20 : decode cX10_add 20 = .ok (.getfield 9, 3) := by decide +kernel
theorem dX10_add_23 : decode cX10_add 23 = .ok (.aload_n 0, 1) := by decide +kernel
theorem dX10_add_24 : decode cX10_add 24 = .ok (.getfield 29, 3) := by decide +kernel
theorem dX10_add_27 : decode cX10_add 27 = .ok (.iload_n 1, 1) := by decide +kernel
theorem dX10_add_28 : decode cX10_add 28 = .ok (.iload_n 2, 1) := by decide +kernel
theorem dX10_add_29 : decode cX10_add 29 = .ok (.ishr, 1) := by decide +kernel
theorem dX10_add_30 : decode cX10_add 30 = .ok (.i2b, 1) := by decide +kernel
theorem dX10_add_31 : decode cX10_add 31 = .ok (.bastore, 1) := by decide +kernel
theorem dX10_add_32 : decode cX10_add 32 = .ok (.aload_n 0, 1) := by decide +kernel
theorem dX10_add_33 : decode cX10_add 33 = .ok (.dup, 1) := by decide +kernel
theorem dX10_add_34 : decode cX10_add 34 = .ok (.getfield 29, 3) := by decide +kernel
theorem dX10_add_37 : decode cX10_add 37 = .ok (.iconst 1, 1) := by decide +kernel
theorem dX10_add_38 : decode cX10_add 38 = .ok (.iadd, 1) := by decide +kernel
theorem dX10_add_39 : decode cX10_add 39 = .ok (.putfield 29, 3) := by decide +kernel
theorem dX10_add_42 : decode cX10_add 42 = .ok (.iinc 2 (-8), 3) := by decide +kernel
theorem dX10_add_45 : decode cX10_add 45 = .ok (.goto (-42), 3) := by decide +kernel
theorem dX10_add_48 : decode cX10_add 48 = .ok (.return_, 1) := by decide +kernel
theorem dX10_addToken_0 : decode cX10_addToken 0 = .ok (.aload_n 0, 1) := by decide +kernel
theorem dX10_addToken_1 : decode cX10_addToken 1 = .ok (.getfield 33, 3) := by decide +kernel
theorem dX10_addToken_4 : decode cX10_addToken 4 = .ok (.aload_n 0, 1) := by decide +kernel
theorem dX10_addToken_5 : decode cX10_addToken 5 = .ok (.getfield 19, 3) := by decide +kernel
theorem dX10_addToken_8 : decode cX10_addToken 8 = .ok (.arraylength, 1) := by decide +kernel
theorem dX10_addToken_9 : decode cX10_addToken 9 = .ok (.if_icmp .ge 43, 3) := by decide +kernel
theorem dX10_addToken_12 : decode cX10_addToken 12 = .ok (.aload_n 0, 1) := by decide +kernel
theorem dX10_addToken_13 : decode cX10_addToken 13 = .ok (.getfield 19, 3) := by decide +kernel
theorem dX10_addToken_16 : decode cX10_addToken 16 = .ok (.aload_n 0, 1) := by decide +kernel
theorem dX10_addToken_17 : decode cX10_addToken 17 = .ok (.getfield 33, 3) := by decide +kernel
theorem dX10_addToken_20 : decode cX10_addToken 20 = .ok (.iload_n 1, 1) := by decide +kernel
theorem dX10_addToken_21 : decode cX10_addToken 21 = .ok (.iastore, 1) := by decide +kernel
theorem dX10_addToken_22 : decode cX10_addToken 22 = .ok (.aload_n 0, 1) := by decide +kernel
theorem dX10_addToken_23 : decode cX10_addToken 23 = .ok (.getfield 23, 3) := by decide +kernel
theorem dX10_addToken_26 : decode cX10_addToken 26 = .ok (.aload_n 0, 1) := by decide +kernel
theorem dX10_addToken_27 : decode cX10_addToken 27 = .ok (.getfield 33, 3) := by decide +kernel
theorem dX10_addToken_30 : decode cX10_addToken 30 = .ok (.iload_n 2, 1) := by decide +kernel
theorem dX10_addToken_31 : decode cX10_addToken 31 = .ok (.iastore, 1) := by decide +kernel
theorem dX10_addToken_32 : decode cX10_addToken 32 = .ok (.aload_n 0, 1) := by decide +kernel
theorem dX10_addToken_33 : decode cX10_addToken 33 = .ok (.getfield 26, 3) := by decide +kernel
theorem dX10_addToken_36 : decode cX10_addToken 36 = .ok (.aload_n 0, 1) := by decide +kernel
theorem dX10_addToken_37 : decode cX10_addToken 37 = .ok (.getfield 33, 3) := by decide +kernel
theorem dX10_addToken_40 : decode cX10_addToken 40 = .ok (.lload_n 3, 1) := by decide +kernel
theorem dX10_addToken_41 : decode cX10_addToken 41 = .ok (.lastore, 1) := by decide +kernel
theorem dX10_addToken_42 : decode cX10_addToken 42 = .ok (.aload_n 0, 1) := by decide +kernel
theorem dX10_addToken_43 : decode cX10_addToken 43 = .ok (.dup, 1) := by decide +kernel
theorem dX10_addToken_44 : decode cX10_addToken 44 = .ok (.getfield 33, 3) := by decide +kernel
theorem dX10_addToken_47 : decode cX10_addToken 47 = .ok (.iconst 1, 1) := by decide +kernel
theorem dX10_addToken_48 : decode cX10_addToken 48 = .ok (.iadd, 1) := by decide +kernel
theorem dX10_addToken_49 : decode cX10_addToken 49 = .ok (.putfield 33, 3) := by decide +kernel
theorem dX10_addToken_52 : decode cX10_addToken 52 = .ok (.return_, 1) := by decide +kernel
theorem dX10_advance_0 : decode cX10_advance 0 = .ok (.aload_n 0, 1) := by decide +kernel
theorem dX10_advance_1 : decode cX10_advance 1 = .ok (.getfield 36, 3) := by decide +kernel
theorem dX10_advance_4 : decode cX10_advance 4 = .ok (.iconst 1, 1) := by decide +kernel
theorem dX10_advance_5 : decode cX10_advance 5 = .ok (.iadd, 1) := by decide +kernel
theorem dX10_advance_6 : decode cX10_advance 6 = .ok (.aload_n 0, 1) := by decide +kernel
theorem dX10_advance_7 : decode cX10_advance 7 = .ok (.getfield 33, 3) := by decide +kernel
theorem dX10_advance_10 : decode cX10_advance 10 = .ok (.if_icmp .ge 52, 3) := by decide +kernel
theorem dX10_advance_13 : decode cX10_advance 13 = .ok (.aload_n 0, 1) := by decide +kernel
theorem dX10_advance_14 : decode cX10_advance 14 = .ok (.dup, 1) := by decide +kernel
theorem dX10_advance_15 : decode cX10_advance 15 = .ok (.getfield 36, 3) := by decide +kernel
theorem dX10_advance_18 : decode cX10_advance 18 = .ok (.iconst 1, 1) := by decide +kernel
theorem dX10_advance_19 : decode cX10_advance 19 = .ok (.iadd, 1) := by decide +kernel
theorem dX10_advance_20 : decode cX10_advance 20 = .ok (.putfield 36, 3) := by decide +kernel
theorem dX10_advance_23 : decode cX10_advance 23 = .ok (.aload_n 0, 1) := by decide +kernel
theorem dX10_advance_24 : decode cX10_advance 24 = .ok (.aload_n 0, 1) := by decide +kernel
theorem dX10_advance_25 : decode cX10_advance 25 = .ok (.getfield 19, 3) := by decide +kernel
theorem dX10_advance_28 : decode cX10_advance 28 = .ok (.aload_n 0, 1) := by decide +kernel
theorem dX10_advance_29 : decode cX10_advance 29 = .ok (.getfield 36, 3) := by decide +kernel
theorem dX10_advance_32 : decode cX10_advance 32 = .ok (.iaload, 1) := by decide +kernel
theorem dX10_advance_33 : decode cX10_advance 33 = .ok (.putfield 39, 3) := by decide +kernel
theorem dX10_advance_36 : decode cX10_advance 36 = .ok (.aload_n 0, 1) := by decide +kernel
theorem dX10_advance_37 : decode cX10_advance 37 = .ok (.aload_n 0, 1) := by decide +kernel
theorem dX10_advance_38 : decode cX10_advance 38 = .ok (.getfield 23, 3) := by decide +kernel
theorem dX10_advance_41 : decode cX10_advance 41 = .ok (.aload_n 0, 1) := by decide +kernel
theorem dX10_advance_42 : decode cX10_advance 42 = .ok (.getfield 36, 3) := by decide +kernel
theorem dX10_advance_45 : decode cX10_advance 45 = .ok (.iaload, 1) := by decide +kernel
theorem dX10_advance_46 : decode cX10_advance 46 = .ok (.putfield 42, 3) := by decide +kernel
theorem dX10_advance_49 : decode cX10_advance 49 = .ok (.aload_n 0, 1) := by decide +kernel
theorem dX10_advance_50 : decode cX10_advance 50 = .ok (.aload_n 0, 1) := by decide +kernel
theorem dX10_advance_51 : decode cX10_advance 51 = .ok (.getfield 26, 3) := by decide +kernel
theorem dX10_advance_54 : decode cX10_advance 54 = .ok (.aload_n 0, 1) := by decide +kernel
theorem dX10_advance_55 : decode cX10_advance 55 = .ok (.getfield 36, 3) := by decide +kernel
theorem dX10_advance_58 : decode cX10_advance 58 = .ok (.laload, 1) := by decide +kernel
theorem dX10_advance_59 : decode cX10_advance 59 = .ok (.putfield 45, 3) := by decide +kernel
theorem dX10_advance_62 : decode cX10_advance 62 = .ok (.return_, 1) := by decide +kernel
theorem dX10_isDigit_0 : decode cX10_isDigit 0 = .ok (.iload_n 0, 1) := by decide +kernel
theorem dX10_isDigit_1 : decode cX10_isDigit 1 = .ok (.bipush 48, 2) := by decide +kernel
theorem dX10_isDigit_3 : decode cX10_isDigit 3 = .ok (.if_icmp .lt 13, 3) := by decide +kernel
theorem dX10_isDigit_6 : decode cX10_isDigit 6 = .ok (.iload_n 0, 1) := by decide +kernel
theorem dX10_isDigit_7 : decode cX10_isDigit 7 = .ok (.bipush 57, 2) := by decide +kernel
theorem dX10_isDigit_9 : decode cX10_isDigit 9 = .ok (.if_icmp .gt 7, 3) := by decide +kernel
theorem dX10_isDigit_12 : decode cX10_isDigit 12 = .ok (.iconst 1, 1) := by decide +kernel
theorem dX10_isDigit_13 : decode cX10_isDigit 13 = .ok (.goto 4, 3) := by decide +kernel
theorem dX10_isDigit_16 : decode cX10_isDigit 16 = .ok (.iconst 0, 1) := by decide +kernel
theorem dX10_isDigit_17 : decode cX10_isDigit 17 = .ok (.ireturn, 1) := by decide +kernel
theorem dX10_isLetter_0 : decode cX10_isLetter 0 = .ok (.iload_n 0, 1) := by decide +kernel
theorem dX10_isLetter_1 : decode cX10_isLetter 1 = .ok (.bipush 97, 2) := by decide +kernel
theorem dX10_isLetter_3 : decode cX10_isLetter 3 = .ok (.if_icmp .lt 13, 3) := by decide +kernel
theorem dX10_isLetter_6 : decode cX10_isLetter 6 = .ok (.iload_n 0, 1) := by decide +kernel
theorem dX10_isLetter_7 : decode cX10_isLetter 7 = .ok (.bipush 122, 2) := by decide +kernel
theorem dX10_isLetter_9 : decode cX10_isLetter 9 = .ok (.if_icmp .gt 7, 3) := by decide +kernel
theorem dX10_isLetter_12 : decode cX10_isLetter 12 = .ok (.iconst 1, 1) := by decide +kernel
theorem dX10_isLetter_13 : decode cX10_isLetter 13 = .ok (.goto 4, 3) := by decide +kernel
theorem dX10_isLetter_16 : decode cX10_isLetter 16 = .ok (.iconst 0, 1) := by decide +kernel
theorem dX10_isLetter_17 : decode cX10_isLetter 17 = .ok (.ireturn, 1) := by decide +kernel
theorem dX10_isSign_0 : decode cX10_isSign 0 = .ok (.iload_n 0, 1) := by decide +kernel
theorem dX10_isSign_1 : decode cX10_isSign 1 = .ok (.bipush 40, 2) := by decide +kernel
theorem dX10_isSign_3 : decode cX10_isSign 3 = .ok (.if_icmp .eq 21, 3) := by decide +kernel
theorem dX10_isSign_6 : decode cX10_isSign 6 = .ok (.iload_n 0, 1) := by decide +kernel
theorem dX10_isSign_7 : decode cX10_isSign 7 = .ok (.bipush 41, 2) := by decide +kernel
theorem dX10_isSign_9 : decode cX10_isSign 9 = .ok (.if_icmp .eq 15, 3) := by decide +kernel
theorem dX10_isSign_12 : decode cX10_isSign 12 = .ok (.iload_n 0, 1) := by decide +kernel
theorem dX10_isSign_13 : decode cX10_isSign 13 = .ok (.bipush 59, 2) := by decide +kernel
theorem dX10_isSign_15 : decode cX10_isSign 15 = .ok (.if_icmp .lt 13, 3) := by decide +kernel
theorem dX10_isSign_18 : decode cX10_isSign 18 = .ok (.iload_n 0, 1) := by decide +kernel
theorem dX10_isSign_19 : decode cX10_isSign 19 = .ok (.bipush 62, 2) := by decide +kernel
theorem dX10_isSign_21 : decode cX10_isSign 21 = .ok (.if_icmp .gt 7, 3) := by decide +kernel
theorem dX10_isSign_24 : decode cX10_isSign 24 = .ok (.iconst 1, 1) := by decide +kernel
theorem dX10_isSign_25 : decode cX10_isSign 25 = .ok (.goto 4, 3) := by decide +kernel
theorem dX10_isSign_28 : decode cX10_isSign 28 = .ok (.iconst 0, 1) := by decide +kernel
theorem dX10_isSign_29 : decode cX10_isSign 29 = .ok (.ireturn, 1) := by decide +kernel
theorem dX10_tokenOfWord_0 : decode cX10_tokenOfWord 0 = .ok (.iconst 0, 1) := by decide +kernel
theorem dX10_tokenOfWord_1 : decode cX10_tokenOfWord 1 = .ok (.istore_n 3, 1) := by decide +kernel
theorem dX10_tokenOfWord_2 : decode cX10_tokenOfWord 2 = .ok (.iload_n 3, 1) := by decide +kernel
theorem dX10_tokenOfWord_3 : decode cX10_tokenOfWord 3 = .ok (.bipush 28, 2) := by decide +kernel
theorem dX10_tokenOfWord_5 : decode cX10_tokenOfWord 5 = .ok (.if_icmp .ge 22, 3) := by decide +kernel
theorem dX10_tokenOfWord_8 : decode cX10_tokenOfWord 8 = .ok (.aload_n 0, 1) := by decide +kernel
theorem dX10_tokenOfWord_9 : decode cX10_tokenOfWord 9 = .ok (.getfield 15, 3) := by decide +kernel
theorem dX10_tokenOfWord_12 : decode cX10_tokenOfWord 12 = .ok (.iload_n 3, 1) := by decide +kernel
theorem dX10_tokenOfWord_13 : decode cX10_tokenOfWord 13 = .ok (.laload, 1) := by decide +kernel
theorem dX10_tokenOfWord_14 : decode cX10_tokenOfWord 14 = .ok (.lload_n 1, 1) := by decide +kernel
theorem dX10_tokenOfWord_15 : decode cX10_tokenOfWord 15 = .ok (.lcmp, 1) := by decide +kernel
theorem dX10_tokenOfWord_16 : decode cX10_tokenOfWord 16 = .ok (.ifCond .ne 5, 3) := by decide +kernel
theorem dX10_tokenOfWord_19 : decode cX10_tokenOfWord 19 = .ok (.iload_n 3, 1) := by decide +kernel
theorem dX10_tokenOfWord_20 : decode cX10_tokenOfWord 20 = .ok (.ireturn, 1) := by decide +kernel
theorem dX10_tokenOfWord_21 : decode cX10_tokenOfWord 21 = .ok (.iinc 3 1, 3) := by decide +kernel
theorem dX10_tokenOfWord_24 : decode cX10_tokenOfWord 24 = .ok (.goto (-22), 3) := by decide +kernel
theorem dX10_tokenOfWord_27 : decode cX10_tokenOfWord 27 = .ok (.bipush 100, 2) := by decide +kernel
theorem dX10_tokenOfWord_29 : decode cX10_tokenOfWord 29 = .ok (.ireturn, 1) := by decide +kernel
theorem dX10_withLetter_0 : decode cX10_withLetter 0 = .ok (.lload_n 0, 1) := by decide +kernel
theorem dX10_withLetter_1 : decode cX10_withLetter 1 = .ok (.iconst 5, 1) := by decide +kernel
theorem dX10_withLetter_2 : decode cX10_withLetter 2 = .ok (.lshl, 1) := by decide +kernel
theorem dX10_withLetter_3 : decode cX10_withLetter 3 = .ok (.iload_n 2, 1) := by decide +kernel
theorem dX10_withLetter_4 : decode cX10_withLetter 4 = .ok (.bipush 97, 2) := by decide +kernel
theorem dX10_withLetter_6 : decode cX10_withLetter 6 = .ok (.isub, 1) := by decide +kernel
theorem dX10_withLetter_7 : decode cX10_withLetter 7 = .ok (.iconst 1, 1) := by decide +kernel
theorem dX10_withLetter_8 : decode cX10_withLetter 8 = .ok (.iadd, 1) := by decide +kernel
theorem dX10_withLetter_9 : decode cX10_withLetter 9 = .ok (.i2l, 1) := by decide +kernel
theorem dX10_withLetter_10 : decode cX10_withLetter 10 = .ok (.lor, 1) := by decide +kernel
theorem dX10_withLetter_11 : decode cX10_withLetter 11 = .ok (.lreturn, 1) := by decide +kernel
theorem dX11_end_0 : decode cX11_end 0 = .ok (.iload_n 1, 1) := by decide +kernel
theorem dX11_end_1 : decode cX11_end 1 = .ok (.ifCond .lt 14, 3) := by decide +kernel
theorem dX11_end_4 : decode cX11_end 4 = .ok (.iload_n 1, 1) := by decide +kernel
theorem dX11_end_5 : decode cX11_end 5 = .ok (.aload_n 0, 1) := by decide +kernel
theorem dX11_end_6 : decode cX11_end 6 = .ok (.getfield 10, 3) := by decide +kernel
theorem dX11_end_9 : decode cX11_end 9 = .ok (.getfield 102, 3) := by decide +kernel
theorem dX11_end_12 : decode cX11_end 12 = .ok (.if_icmp .le 5, 3) := by decide +kernel
theorem dX11_end_15 : decode cX11_end 15 = .ok (.iconst 0, 1) := by decide +kernel
theorem dX11_end_16 : decode cX11_end 16 = .ok (.ireturn, 1) := by decide +kernel
theorem dX11_end_17 : decode cX11_end 17 = .ok (.aload_n 0, 1) := by decide +kernel
theorem dX11_end_18 : decode cX11_end 18 = .ok (.getfield 10, 3) := by decide +kernel
theorem dX11_end_21 : decode cX11_end 21 = .ok (.iload_n 1, 1) := by decide +kernel
theorem dX11_end_22 : decode cX11_end 22 = .ok (.putfield 102, 3) := by decide +kernel
theorem dX11_end_25 : decode cX11_end 25 = .ok (.iconst 1, 1) := by decide +kernel
theorem dX11_end_26 : decode cX11_end 26 = .ok (.ireturn, 1) := by decide +kernel
theorem dX11_feed_0 : decode cX11_feed 0 = .ok (.aload_n 0, 1) := by decide +kernel
theorem dX11_feed_1 : decode cX11_feed 1 = .ok (.getfield 10, 3) := by decide +kernel
theorem dX11_feed_4 : decode cX11_feed 4 = .ok (.getfield 102, 3) := by decide +kernel
theorem dX11_feed_7 : decode cX11_feed 7 = .ok (.sipush 920, 3) := by decide +kernel
theorem dX11_feed_10 : decode cX11_feed 10 = .ok (.if_icmp .le 5, 3) := by decide +kernel
theorem dX11_feed_13 : decode cX11_feed 13 = .ok (.iconst (-1), 1) := by decide +kernel
theorem dX11_feed_14 : decode cX11_feed 14 = .ok (.ireturn, 1) := by decide +kernel
theorem dX11_feed_15 : decode cX11_feed 15 = .ok (.aload_n 0, 1) := by decide +kernel
theorem dX11_feed_16 : decode cX11_feed 16 = .ok (.getfield 10, 3) := by decide +kernel
theorem dX11_feed_19 : decode cX11_feed 19 = .ok (.iload_n 1, 1) := by decide +kernel
theorem dX11_feed_20 : decode cX11_feed 20 = .ok (.invokevirtual 105, 3) := by decide +kernel
theorem dX11_feed_23 : decode cX11_feed 23 = .ok (.aload_n 0, 1) := by decide +kernel
theorem dX11_feed_24 : decode cX11_feed 24 = .ok (.getfield 10, 3) := by decide +kernel
theorem dX11_feed_27 : decode cX11_feed 27 = .ok (.iload_n 2, 1) := by decide +kernel
theorem dX11_feed_28 : decode cX11_feed 28 = .ok (.invokevirtual 105, 3) := by decide +kernel
theorem dX11_feed_31 : decode cX11_feed 31 = .ok (.aload_n 0, 1) := by decide +kernel
theorem dX11_feed_32 : decode cX11_feed 32 = .ok (.getfield 10, 3) := by decide +kernel
theorem dX11_feed_35 : decode cX11_feed 35 = .ok (.iload_n 3, 1) := by decide +kernel
theorem dX11_feed_36 : decode cX11_feed 36 = .ok (.invokevirtual 105, 3) := by decide +kernel
theorem dX11_feed_39 : decode cX11_feed 39 = .ok (.aload_n 0, 1) := by decide +kernel
theorem dX11_feed_40 : decode cX11_feed 40 = .ok (.getfield 10, 3) := by decide +kernel
theorem dX11_feed_43 : decode cX11_feed 43 = .ok (.iload 4, 2) := by decide +kernel
theorem dX11_feed_45 : decode cX11_feed 45 = .ok (.invokevirtual 105, 3) := by decide +kernel
theorem dX11_feed_48 : decode cX11_feed 48 = .ok (.aload_n 0, 1) := by decide +kernel
theorem dX11_feed_49 : decode cX11_feed 49 = .ok (.getfield 10, 3) := by decide +kernel
theorem dX11_feed_52 : decode cX11_feed 52 = .ok (.iload 5, 2) := by decide +kernel
theorem dX11_feed_54 : decode cX11_feed 54 = .ok (.invokevirtual 105, 3) := by decide +kernel
theorem dX11_feed_57 : decode cX11_feed 57 = .ok (.aload_n 0, 1) := by decide +kernel
theorem dX11_feed_58 : decode cX11_feed 58 = .ok (.getfield 10, 3) := by decide +kernel
theorem dX11_feed_61 : decode cX11_feed 61 = .ok (.getfield 102, 3) := by decide +kernel
theorem dX11_feed_64 : decode cX11_feed 64 = .ok (.ireturn, 1) := by decide +kernel
theorem dX1_become_0 : decode cX1_become 0 = .ok (.aload_n 1, 1) := by decide +kernel
theorem dX1_become_1 : decode cX1_become 1 = .ok (.getfield 9, 3) := by decide +kernel
theorem dX1_become_4 : decode cX1_become 4 = .ok (.iconst 0, 1) := by decide +kernel
theorem dX1_become_5 : decode cX1_become 5 = .ok (.aload_n 0, 1) := by decide +kernel
theorem dX1_become_6 : decode cX1_become 6 = .ok (.getfield 9, 3) := by decide +kernel
theorem dX1_become_9 : decode cX1_become 9 = .ok (.iconst 0, 1) := by decide +kernel
theorem dX1_become_10 : decode cX1_become 10 = .ok (.bipush 6, 2) := by decide +kernel
theorem dX1_become_12 : decode cX1_become 12 = .ok (.invokestatic 56, 3) := by decide +kernel
theorem dX1_become_15 : decode cX1_become 15 = .ok (.aload_n 1, 1) := by decide +kernel
theorem dX1_become_16 : decode cX1_become 16 = .ok (.getfield 15, 3) := by decide +kernel
theorem dX1_become_19 : decode cX1_become 19 = .ok (.iconst 0, 1) := by decide +kernel
theorem dX1_become_20 : decode cX1_become 20 = .ok (.aload_n 0, 1) := by decide +kernel
theorem dX1_become_21 : decode cX1_become 21 = .ok (.getfield 15, 3) := by decide +kernel
theorem dX1_become_24 : decode cX1_become 24 = .ok (.iconst 0, 1) := by decide +kernel
theorem dX1_become_25 : decode cX1_become 25 = .ok (.bipush 42, 2) := by decide +kernel
theorem dX1_become_27 : decode cX1_become 27 = .ok (.invokestatic 56, 3) := by decide +kernel
theorem dX1_become_30 : decode cX1_become 30 = .ok (.aload_n 1, 1) := by decide +kernel
theorem dX1_become_31 : decode cX1_become 31 = .ok (.getfield 18, 3) := by decide +kernel
theorem dX1_become_34 : decode cX1_become 34 = .ok (.iconst 0, 1) := by decide +kernel
theorem dX1_become_35 : decode cX1_become 35 = .ok (.aload_n 0, 1) := by decide +kernel
theorem dX1_become_36 : decode cX1_become 36 = .ok (.getfield 18, 3) := by decide +kernel
theorem dX1_become_39 : decode cX1_become 39 = .ok (.iconst 0, 1) := by decide +kernel
theorem dX1_become_40 : decode cX1_become 40 = .ok (.bipush 7, 2) := by decide +kernel
theorem dX1_become_42 : decode cX1_become 42 = .ok (.invokestatic 56, 3) := by decide +kernel
theorem dX1_become_45 : decode cX1_become 45 = .ok (.aload_n 1, 1) := by decide +kernel
theorem dX1_become_46 : decode cX1_become 46 = .ok (.getfield 21, 3) := by decide +kernel
theorem dX1_become_49 : decode cX1_become 49 = .ok (.iconst 0, 1) := by decide +kernel
theorem dX1_become_50 : decode cX1_become 50 = .ok (.aload_n 0, 1) := by decide +kernel
theorem dX1_become_51 : decode cX1_become 51 = .ok (.getfield 21, 3) := by decide +kernel
theorem dX1_become_54 : decode cX1_become 54 = .ok (.iconst 0, 1) := by decide +kernel
theorem dX1_become_55 : decode cX1_become 55 = .ok (.bipush 7, 2) := by decide +kernel
theorem dX1_become_57 : decode cX1_become 57 = .ok (.invokestatic 56, 3) := by decide +kernel
theorem dX1_become_60 : decode cX1_become 60 = .ok (.aload_n 1, 1) := by decide +kernel
theorem dX1_become_61 : decode cX1_become 61 = .ok (.getfield 24, 3) := by decide +kernel
theorem dX1_become_64 : decode cX1_become 64 = .ok (.iconst 0, 1) := by decide +kernel
theorem dX1_become_65 : decode cX1_become 65 = .ok (.aload_n 0, 1) := by decide +kernel
theorem dX1_become_66 : decode cX1_become 66 = .ok (.getfield 24, 3) := by decide +kernel
theorem dX1_become_69 : decode cX1_become 69 = .ok (.iconst 0, 1) := by decide +kernel
theorem dX1_become_70 : decode cX1_become 70 = .ok (.bipush 7, 2) := by decide +kernel
theorem dX1_become_72 : decode cX1_become 72 = .ok (.invokestatic 56, 3) := by decide +kernel
theorem dX1_become_75 : decode cX1_become 75 = .ok (.aload_n 1, 1) := by decide +kernel
theorem dX1_become_76 : decode cX1_become 76 = .ok (.getfield 27, 3) := by decide +kernel
theorem dX1_become_79 : decode cX1_become 79 = .ok (.iconst 0, 1) := by decide +kernel
theorem dX1_become_80 : decode cX1_become 80 = .ok (.aload_n 0, 1) := by decide +kernel
theorem dX1_become_81 : decode cX1_become 81 = .ok (.getfield 27, 3) := by decide +kernel
theorem dX1_become_84 : decode cX1_become 84 = .ok (.iconst 0, 1) := by decide +kernel
theorem dX1_become_85 : decode cX1_become 85 = .ok (.bipush 7, 2) := by decide +kernel
theorem dX1_become_87 : decode cX1_become 87 = .ok (.invokestatic 56, 3) := by decide +kernel
theorem dX1_become_90 : decode cX1_become 90 = .ok (.aload_n 0, 1) := by decide +kernel
theorem dX1_become_91 : decode cX1_become 91 = .ok (.aload_n 1, 1) := by decide +kernel
theorem dX1_become_92 : decode cX1_become 92 = .ok (.getfield 30, 3) := by decide +kernel
theorem dX1_become_95 : decode cX1_become 95 = .ok (.putfield 30, 3) := by decide +kernel
theorem dX1_become_98 : decode cX1_become 98 = .ok (.aload_n 0, 1) := by decide +kernel
theorem dX1_become_99 : decode cX1_become 99 = .ok (.aload_n 1, 1) := by decide +kernel
theorem dX1_become_100 : decode cX1_become 100 = .ok (.getfield 34, 3) := by decide +kernel
theorem dX1_become_103 : decode cX1_become 103 = .ok (.putfield 34, 3) := by decide +kernel
theorem dX1_become_106 : decode cX1_become 106 = .ok (.aload_n 0, 1) := by decide +kernel
theorem dX1_become_107 : decode cX1_become 107 = .ok (.aload_n 1, 1) := by decide +kernel
theorem dX1_become_108 : decode cX1_become 108 = .ok (.getfield 37, 3) := by decide +kernel
theorem dX1_become_111 : decode cX1_become 111 = .ok (.putfield 37, 3) := by decide +kernel
theorem dX1_become_114 : decode cX1_become 114 = .ok (.aload_n 0, 1) := by decide +kernel
theorem dX1_become_115 : decode cX1_become 115 = .ok (.aload_n 1, 1) := by decide +kernel
theorem dX1_become_116 : decode cX1_become 116 = .ok (.getfield 40, 3) := by decide +kernel
theorem dX1_become_119 : decode cX1_become 119 = .ok (.putfield 40, 3) := by decide +kernel
theorem dX1_become_122 : decode cX1_become 122 = .ok (.aload_n 0, 1) := by decide +kernel
theorem dX1_become_123 : decode cX1_become 123 = .ok (.aload_n 1, 1) := by decide +kernel
theorem dX1_become_124 : decode cX1_become 124 = .ok (.getfield 43, 3) := by decide +kernel
theorem dX1_become_127 : decode cX1_become 127 = .ok (.putfield 43, 3) := by decide +kernel
theorem dX1_become_130 : decode cX1_become 130 = .ok (.aload_n 0, 1) := by decide +kernel
theorem dX1_become_131 : decode cX1_become 131 = .ok (.aload_n 1, 1) := by decide +kernel
theorem dX1_become_132 : decode cX1_become 132 = .ok (.getfield 46, 3) := by decide +kernel
theorem dX1_become_135 : decode cX1_become 135 = .ok (.putfield 46, 3) := by decide +kernel
theorem dX1_become_138 : decode cX1_become 138 = .ok (.return_, 1) := by decide +kernel
theorem dX5_forget_0 : decode cX5_forget 0 = .ok (.aload_n 0, 1) := by decide +kernel
theorem dX5_forget_1 : decode cX5_forget 1 = .ok (.iconst 0, 1) := by decide +kernel
theorem dX5_forget_2 : decode cX5_forget 2 = .ok (.putfield 17, 3) := by decide +kernel
theorem dX5_forget_5 : decode cX5_forget 5 = .ok (.return_, 1) := by decide +kernel
theorem dX7_forget_0 : decode cX7_forget 0 = .ok (.aload_n 0, 1) := by decide +kernel
theorem dX7_forget_1 : decode cX7_forget 1 = .ok (.iconst 0, 1) := by decide +kernel
theorem dX7_forget_2 : decode cX7_forget 2 = .ok (.putfield 24, 3) := by decide +kernel
theorem dX7_forget_5 : decode cX7_forget 5 = .ok (.aload_n 0, 1) := by decide +kernel
theorem dX7_forget_6 : decode cX7_forget 6 = .ok (.iconst 0, 1) := by decide +kernel
theorem dX7_forget_7 : decode cX7_forget 7 = .ok (.putfield 28, 3) := by decide +kernel
theorem dX7_forget_10 : decode cX7_forget 10 = .ok (.return_, 1) := by decide +kernel
theorem dX8_become_0 : decode cX8_become 0 = .ok (.aload_n 1, 1) := by decide +kernel
theorem dX8_become_1 : decode cX8_become 1 = .ok (.getfield 9, 3) := by decide +kernel
theorem dX8_become_4 : decode cX8_become 4 = .ok (.iconst 0, 1) := by decide +kernel
theorem dX8_become_5 : decode cX8_become 5 = .ok (.aload_n 0, 1) := by decide +kernel
theorem dX8_become_6 : decode cX8_become 6 = .ok (.getfield 9, 3) := by decide +kernel
theorem dX8_become_9 : decode cX8_become 9 = .ok (.iconst 0, 1) := by decide +kernel
theorem dX8_become_10 : decode cX8_become 10 = .ok (.bipush 7, 2) := by decide +kernel
theorem dX8_become_12 : decode cX8_become 12 = .ok (.invokestatic 41, 3) := by decide +kernel
theorem dX8_become_15 : decode cX8_become 15 = .ok (.aload_n 1, 1) := by decide +kernel
theorem dX8_become_16 : decode cX8_become 16 = .ok (.getfield 15, 3) := by decide +kernel
theorem dX8_become_19 : decode cX8_become 19 = .ok (.iconst 0, 1) := by decide +kernel
theorem dX8_become_20 : decode cX8_become 20 = .ok (.aload_n 0, 1) := by decide +kernel
theorem dX8_become_21 : decode cX8_become 21 = .ok (.getfield 15, 3) := by decide +kernel
theorem dX8_become_24 : decode cX8_become 24 = .ok (.iconst 0, 1) := by decide +kernel
theorem dX8_become_25 : decode cX8_become 25 = .ok (.bipush 7, 2) := by decide +kernel
theorem dX8_become_27 : decode cX8_become 27 = .ok (.invokestatic 41, 3) := by decide +kernel
theorem dX8_become_30 : decode cX8_become 30 = .ok (.aload_n 1, 1) := by decide +kernel
theorem dX8_become_31 : decode cX8_become 31 = .ok (.getfield 19, 3) := by decide +kernel
theorem dX8_become_34 : decode cX8_become 34 = .ok (.iconst 0, 1) := by decide +kernel
theorem dX8_become_35 : decode cX8_become 35 = .ok (.aload_n 0, 1) := by decide +kernel
theorem dX8_become_36 : decode cX8_become 36 = .ok (.getfield 19, 3) := by decide +kernel
theorem dX8_become_39 : decode cX8_become 39 = .ok (.iconst 0, 1) := by decide +kernel
theorem dX8_become_40 : decode cX8_become 40 = .ok (.bipush 7, 2) := by decide +kernel
theorem dX8_become_42 : decode cX8_become 42 = .ok (.invokestatic 41, 3) := by decide +kernel
theorem dX8_become_45 : decode cX8_become 45 = .ok (.aload_n 1, 1) := by decide +kernel
theorem dX8_become_46 : decode cX8_become 46 = .ok (.getfield 22, 3) := by decide +kernel
theorem dX8_become_49 : decode cX8_become 49 = .ok (.iconst 0, 1) := by decide +kernel
theorem dX8_become_50 : decode cX8_become 50 = .ok (.aload_n 0, 1) := by decide +kernel
theorem dX8_become_51 : decode cX8_become 51 = .ok (.getfield 22, 3) := by decide +kernel
theorem dX8_become_54 : decode cX8_become 54 = .ok (.iconst 0, 1) := by decide +kernel
theorem dX8_become_55 : decode cX8_become 55 = .ok (.bipush 6, 2) := by decide +kernel
theorem dX8_become_57 : decode cX8_become 57 = .ok (.invokestatic 41, 3) := by decide +kernel
theorem dX8_become_60 : decode cX8_become 60 = .ok (.aload_n 1, 1) := by decide +kernel
theorem dX8_become_61 : decode cX8_become 61 = .ok (.getfield 25, 3) := by decide +kernel
theorem dX8_become_64 : decode cX8_become 64 = .ok (.iconst 0, 1) := by decide +kernel
theorem dX8_become_65 : decode cX8_become 65 = .ok (.aload_n 0, 1) := by decide +kernel
theorem dX8_become_66 : decode cX8_become 66 = .ok (.getfield 25, 3) := by decide +kernel
theorem dX8_become_69 : decode cX8_become 69 = .ok (.iconst 0, 1) := by decide +kernel
theorem dX8_become_70 : decode cX8_become 70 = .ok (.bipush 6, 2) := by decide +kernel
theorem dX8_become_72 : decode cX8_become 72 = .ok (.invokestatic 41, 3) := by decide +kernel
theorem dX8_become_75 : decode cX8_become 75 = .ok (.aload_n 0, 1) := by decide +kernel
theorem dX8_become_76 : decode cX8_become 76 = .ok (.aload_n 1, 1) := by decide +kernel
theorem dX8_become_77 : decode cX8_become 77 = .ok (.getfield 28, 3) := by decide +kernel
theorem dX8_become_80 : decode cX8_become 80 = .ok (.putfield 28, 3) := by decide +kernel
theorem dX8_become_83 : decode cX8_become 83 = .ok (.aload_n 0, 1) := by decide +kernel
theorem dX8_become_84 : decode cX8_become 84 = .ok (.aload_n 1, 1) := by decide +kernel
theorem dX8_become_85 : decode cX8_become 85 = .ok (.getfield 32, 3) := by decide +kernel
theorem dX8_become_88 : decode cX8_become 88 = .ok (.putfield 32, 3) := by decide +kernel
theorem dX8_become_91 : decode cX8_become 91 = .ok (.aload_n 0, 1) := by decide +kernel
theorem dX8_become_92 : decode cX8_become 92 = .ok (.aload_n 1, 1) := by decide +kernel
theorem dX8_become_93 : decode cX8_become 93 = .ok (.getfield 35, 3) := by decide +kernel
theorem dX8_become_96 : decode cX8_become 96 = .ok (.putfield 35, 3) := by decide +kernel
theorem dX8_become_99 : decode cX8_become 99 = .ok (.aload_n 0, 1) := by decide +kernel
theorem dX8_become_100 : decode cX8_become 100 = .ok (.aload_n 1, 1) := by decide +kernel
theorem dX8_become_101 : decode cX8_become 101 = .ok (.getfield 38, 3) := by decide +kernel
theorem dX8_become_104 : decode cX8_become 104 = .ok (.putfield 38, 3) := by decide +kernel
theorem dX8_become_107 : decode cX8_become 107 = .ok (.return_, 1) := by decide +kernel
theorem rc_m8 : Rg (-8) (-8) (-8) := ⟨by decide, by decide⟩
theorem rc_m1 : Rg (-1) (-1) (-1) := ⟨by decide, by decide⟩
theorem rc_0 : Rg 0 0 0 := ⟨by decide, by decide⟩
theorem rc_1 : Rg 1 1 1 := ⟨by decide, by decide⟩
theorem rc_8 : Rg 8 8 8 := ⟨by decide, by decide⟩
theorem rc_16 : Rg 16 16 16 := ⟨by decide, by decide⟩
theorem rc_24 : Rg 24 24 24 := ⟨by decide, by decide⟩
theorem rc_28 : Rg 28 28 28 := ⟨by decide, by decide⟩
theorem rc_40 : Rg 40 40 40 := ⟨by decide, by decide⟩
theorem rc_41 : Rg 41 41 41 := ⟨by decide, by decide⟩
theorem rc_48 : Rg 48 48 48 := ⟨by decide, by decide⟩
theorem rc_57 : Rg 57 57 57 := ⟨by decide, by decide⟩
theorem rc_59 : Rg 59 59 59 := ⟨by decide, by decide⟩
theorem rc_62 : Rg 62 62 62 := ⟨by decide, by decide⟩
theorem rc_97 : Rg 97 97 97 := ⟨by decide, by decide⟩
theorem rc_100 : Rg 100 100 100 := ⟨by decide, by decide⟩
theorem rc_122 : Rg 122 122 122 := ⟨by decide, by decide⟩
theorem rc_901 : Rg 901 901 901 := ⟨by decide, by decide⟩
theorem rc_920 : Rg 920 920 920 := ⟨by decide, by decide⟩
theorem rc_940 : Rg 940 940 940 := ⟨by decide, by decide⟩
set_option maxRecDepth 100000 in
set_option maxHeartbeats 8000000 in
theorem c_X10_add {l : Launch} {D : va_G} {cy : Nat → ClassId} {L : List Nat} {κ ln : Nat → Nat} {R : Nat → Nat → Option Nat} {I : Nat → Nat → Int32} {J : Nat → Nat → Int64} {ow : Nat → Nat × Nat} (W9 : ∀ a ∈ L, Shp L κ ln R ow a) {x : Nat} (hLx : x ∈ L) (hkx : κ x = 10) (a0 : Int32) (hU : Iv L κ R ow I) : CtV l yX10_add cX10_add 3 none { frames := 0, cells := 0, slots := 0, locals := 0 } D cy L κ ln R I J [.ref x, .int a0] (fun I2 J2 => Iv L κ R ow I2 ∧ Fq L κ ow [1005, 70000] I I2 ∧ Fq L κ ow [] J J2 ∧ (TPf R I2 J2 x = fAdd a0 (TPf R I J x))) := by
  refine CtV.of (by decide +kernel) (Nat.le_of_ble_eq_true rfl) ?_
  intro p e s m below meth c B K
  have C := B.1
  have hF : Fq L κ ow [1005, 70000] I I := fq_rf
  have hG : Fq L κ ow [] J J := fq_rf
  obtain ⟨b_1, hb_1, hb_1L, hb_1k, hb_1n, hb_1o⟩ := shp_a (W9 x hLx) hkx 0 13 940 rfl (by decide)
  obtain ⟨b_2, hb_2, hb_2L, hb_2k, hb_2n, hb_2o⟩ := shp_a (W9 x hLx) hkx 1 15 28 rfl (by decide)
  obtain ⟨b_3, hb_3, hb_3L, hb_3k, hb_3n, hb_3o⟩ := shp_a (W9 x hLx) hkx 2 14 901 rfl (by decide)
  obtain ⟨b_4, hb_4, hb_4L, hb_4k, hb_4n, hb_4o⟩ := shp_a (W9 x hLx) hkx 3 14 901 rfl (by decide)
  obtain ⟨b_5, hb_5, hb_5L, hb_5k, hb_5n, hb_5o⟩ := shp_a (W9 x hLx) hkx 4 15 901 rfl (by decide)
  have etqx : ∀ I J, TPf R I J x = TPq I J x b_1 b_2 b_3 b_4 b_5 := fun I J => by simp only [TPf, rr_, Option.getD_some, hb_1, hb_2, hb_3, hb_4, hb_5]
  have wtqx : tqw_ L κ ow x b_1 b_2 b_3 b_4 b_5 := ⟨⟨hLx, hb_1L, hb_2L, hb_3L, hb_4L, hb_5L⟩, ⟨(ro_o hkx (by decide)), (ro_a hb_1k (by decide) hb_1o hkx rfl), (ro_a hb_2k (by decide) hb_2o hkx rfl), (ro_a hb_3k (by decide) hb_3o hkx rfl), (ro_a hb_4k (by decide) hb_4o hkx rfl), (ro_a hb_5k (by decide) hb_5o hkx rfl)⟩⟩
  obtain ⟨s_6, hs_6⟩ : ∃ z, TPq I J x b_1 b_2 b_3 b_4 b_5 = z := ⟨_, rfl⟩
  refine g_lo (is := [0, 1]) (lo2 := [(0, .ref x), (1, .int a0)]) rfl ?_
  refine g_bipush C (v := 24) dX10_add_0 (by decide) ?_
  refine g_istore_n C dX10_add_2 rfl (by decide) (lo2 := [(2, .int 24), (0, .ref x), (1, .int a0)]) rfl ?_
  refine g_iload_n C 0 dX10_add_3 rfl rfl ?_
  refine g_if_lt C (tgt := 48) dX10_add_4 (by decide) (fun h_7 => ?_) (fun h_7 => ?_)
  · skip
    exact absurd (h_7) (by decide)
  · skip
    refine g_aload_n C 1 dX10_add_7 rfl rfl ?_
    obtain ⟨x_8, hx_8, rx_8⟩ := ex_get (I := I) (a := x) (j := 5) (lo := 0) (hi := 940) hU.1 hLx (ro_o hkx (by decide)) rfl
    have f_9 : s_6.len = x_8 := (congrArg TP_.len hs_6).symm.trans hx_8
    refine g_getI C K hLx hkx f_10_29 (v := x_8) hx_8 dX10_add_8 ?_
    refine g_aload_n C 1 dX10_add_11 rfl rfl ?_
    refine g_getR C K hLx hkx f_10_9 hb_1 dX10_add_12 ?_
    refine g_alenB C K hb_1L hb_1k (v := 940) (by rw [hb_1n]; rfl) dX10_add_15 ?_
    refine g_icmp_ge C (tgt := 48) dX10_add_16 (by decide) (fun h_10 => ?_) (fun h_10 => ?_)
    · skip
      have r_11 := le_r (h_10) rc_940 rx_8
      exact g_vret B K rfl ⟨hU, hF, hG, (by simp only [fAdd, fPutB, etqx, hs_6, h_7, (nlt h_7), hx_8, f_9, h_10, if_true, if_false, tqM_by_, tqM_wd, tqM_tk, tqM_pl, tqM_vl, tqM_len, tqM_n, tqM_at_, tqM_token, tqM_place, tqM_value, tqM_fault, tqM_fat, TP_.w_by_, TP_.w_wd, TP_.w_tk, TP_.w_pl, TP_.w_vl, TP_.w_len, TP_.w_n, TP_.w_at_, TP_.w_token, TP_.w_place, TP_.w_value, TP_.w_fault, TP_.w_fat])⟩ dX10_add_48
    · skip
      have r_12 := lt_l (hi := 939) (nle h_10) rx_8 rc_940 (by decide)
      refine g_aload_n C 1 dX10_add_19 rfl rfl ?_
      refine g_getR C K hLx hkx f_10_9 hb_1 dX10_add_20 ?_
      refine g_aload_n C 1 dX10_add_23 rfl rfl ?_
      refine g_getI C K hLx hkx f_10_29 (v := x_8) hx_8 dX10_add_24 ?_
      refine g_iload_n C 2 dX10_add_27 rfl rfl ?_
      refine g_iload_n C 0 dX10_add_28 rfl rfl ?_
      obtain ⟨x_13, hx_13, rx_13⟩ := ex_any (z0 := a0 >>> (24 &&& 31))
      refine g_ishr C (v := x_13) dX10_add_29 hx_13 ?_
      obtain ⟨x_14, hx_14, rx_14⟩ := ex_b2 (x := x_13)
      refine g_i2b C (v := x_14) dX10_add_30 hx_14 ?_
      refine h_bast C K hb_1L hb_1k (x_8.toNatClampNeg) (rfl) (ix_0 r_12 (by decide)) (ix_lt r_12 (by decide) hb_1n (by decide)) dX10_add_31 (fun I_15 hI_15 => ?_)
      have hU_16 := iv_put W9 hU hI_15 (ro_a hb_1k (by decide) hb_1o hkx rfl) (lo := (-128)) (hi := 127) (rfl) (nar_b _) rfl
      have hF_17 := fq_puta hF hI_15 (ro_a hb_1k (by decide) hb_1o hkx rfl) (by decide) (by decide)
      have hs_18 : TPq I_15 J x b_1 b_2 b_3 b_4 b_5 = (TP_.w_by_ s_6 (up1 (s_6.by_) (x_8.toNatClampNeg) ((vp_nar .byte x_14)))) := by rw [hI_15]; exact ((tq_by_ wtqx).trans (congrArg (fun z : TP_ => TP_.w_by_ z (up1 (z.by_) (x_8.toNatClampNeg) ((vp_nar .byte x_14)))) hs_6)).trans rfl
      refine g_aload_n C 1 dX10_add_32 rfl rfl ?_
      refine g_dup C dX10_add_33 rfl ?_
      refine g_getI C K hLx hkx f_10_29 (v := x_8) (kp_k (κ := κ) hI_15 (by rw [hkx, hb_1k]; decide) hx_8) dX10_add_34 ?_
      refine g_iconst C (v := 1) dX10_add_37 (by decide) ?_
      obtain ⟨x_19, hx_19, rx_19, tx_19⟩ := ex_add 1 940 r_12 rc_1 (by decide) (by decide) (by decide) (by decide)
      refine g_iadd C (v := x_19) dX10_add_38 hx_19 ?_
      refine h_putI C K hLx hkx f_10_29 p_10_5 dX10_add_39 (fun I_20 hI_20 => ?_)
      have hU_21 := iv_put W9 hU_16 hI_20 (ro_o hkx (by decide)) (lo := 0) (hi := 940) (rfl) (rg_w rx_19 (by decide) (by decide)) rfl
      have hF_22 := fq_puto hF_17 hI_20 hkx (by decide) (by decide)
      have hs_23 : TPq I_20 J x b_1 b_2 b_3 b_4 b_5 = (TP_.w_len (TP_.w_by_ s_6 (up1 (s_6.by_) (x_8.toNatClampNeg) ((vp_nar .byte x_14)))) (x_19)) := by rw [hI_20]; exact ((tq_len wtqx).trans (congrArg (fun z : TP_ => TP_.w_len z (x_19)) hs_18)).trans rfl
      refine g_iinc C dX10_add_42 (k := 0) (v := 16) rfl (by decide) (by decide) (lo2 := [(2, .int 16), (0, .ref x), (1, .int a0)]) rfl ?_
      refine g_goto C (tgt := 3) dX10_add_45 (by decide) ?_
      refine g_iload_n C 0 dX10_add_3 rfl rfl ?_
      refine g_if_lt C (tgt := 48) dX10_add_4 (by decide) (fun h_24 => ?_) (fun h_24 => ?_)
      · skip
        exact absurd (h_24) (by decide)
      · skip
        refine g_aload_n C 1 dX10_add_7 rfl rfl ?_
        refine g_getI C K hLx hkx f_10_29 (v := x_19) (kp_s hI_20) dX10_add_8 ?_
        refine g_aload_n C 1 dX10_add_11 rfl rfl ?_
        refine g_getR C K hLx hkx f_10_9 hb_1 dX10_add_12 ?_
        refine g_alenB C K hb_1L hb_1k (v := 940) (by rw [hb_1n]; rfl) dX10_add_15 ?_
        refine g_icmp_ge C (tgt := 48) dX10_add_16 (by decide) (fun h_25 => ?_) (fun h_25 => ?_)
        · skip
          have r_26 := le_r (h_25) rc_940 rx_19
          exact g_vret B K rfl ⟨hU_21, hF_22, hG, (by first | (simp only [fAdd, fPutB, etqx, hs_23, hs_6, h_7, (nlt h_7), hx_8, f_9, h_10, (nle h_10), hx_13, hx_14, hx_19, h_24, (nlt h_24), h_25, if_true, if_false, tqM_by_, tqM_wd, tqM_tk, tqM_pl, tqM_vl, tqM_len, tqM_n, tqM_at_, tqM_token, tqM_place, tqM_value, tqM_fault, tqM_fat, TP_.w_by_, TP_.w_wd, TP_.w_tk, TP_.w_pl, TP_.w_vl, TP_.w_len, TP_.w_n, TP_.w_at_, TP_.w_token, TP_.w_place, TP_.w_value, TP_.w_fault, TP_.w_fat]; done) | exact absurd (nle h_10) h_7 | exact absurd (nle h_10) h_24)⟩ dX10_add_48
        · skip
          have r_27 := lt_l (hi := 939) (nle h_25) rx_19 rc_940 (by decide)
          refine g_aload_n C 1 dX10_add_19 rfl rfl ?_
          refine g_getR C K hLx hkx f_10_9 hb_1 dX10_add_20 ?_
          refine g_aload_n C 1 dX10_add_23 rfl rfl ?_
          refine g_getI C K hLx hkx f_10_29 (v := x_19) (kp_s hI_20) dX10_add_24 ?_
          refine g_iload_n C 2 dX10_add_27 rfl rfl ?_
          refine g_iload_n C 0 dX10_add_28 rfl rfl ?_
          obtain ⟨x_28, hx_28, rx_28⟩ := ex_any (z0 := a0 >>> (16 &&& 31))
          refine g_ishr C (v := x_28) dX10_add_29 hx_28 ?_
          obtain ⟨x_29, hx_29, rx_29⟩ := ex_b2 (x := x_28)
          refine g_i2b C (v := x_29) dX10_add_30 hx_29 ?_
          refine h_bast C K hb_1L hb_1k (x_19.toNatClampNeg) (rfl) (ix_0 r_27 (by decide)) (ix_lt r_27 (by decide) hb_1n (by decide)) dX10_add_31 (fun I_30 hI_30 => ?_)
          have hU_31 := iv_put W9 hU_21 hI_30 (ro_a hb_1k (by decide) hb_1o hkx rfl) (lo := (-128)) (hi := 127) (rfl) (nar_b _) rfl
          have hF_32 := fq_puta hF_22 hI_30 (ro_a hb_1k (by decide) hb_1o hkx rfl) (by decide) (by decide)
          have hs_33 : TPq I_30 J x b_1 b_2 b_3 b_4 b_5 = (TP_.w_by_ (TP_.w_len s_6 (x_19)) (up1 (up1 (s_6.by_) (x_8.toNatClampNeg) ((vp_nar .byte x_14))) (x_19.toNatClampNeg) ((vp_nar .byte x_29)))) := by rw [hI_30]; exact ((tq_by_ wtqx).trans (congrArg (fun z : TP_ => TP_.w_by_ z (up1 (z.by_) (x_19.toNatClampNeg) ((vp_nar .byte x_29)))) hs_23)).trans rfl
          refine g_aload_n C 1 dX10_add_32 rfl rfl ?_
          refine g_dup C dX10_add_33 rfl ?_
          refine g_getI C K hLx hkx f_10_29 (v := x_19) (kp_k (κ := κ) hI_30 (by rw [hkx, hb_1k]; decide) (kp_s hI_20)) dX10_add_34 ?_
          refine g_iconst C (v := 1) dX10_add_37 (by decide) ?_
          obtain ⟨x_34, hx_34, rx_34, tx_34⟩ := ex_add 2 940 r_27 rc_1 (by decide) (by decide) (by decide) (by decide)
          refine g_iadd C (v := x_34) dX10_add_38 hx_34 ?_
          refine h_putI C K hLx hkx f_10_29 p_10_5 dX10_add_39 (fun I_35 hI_35 => ?_)
          have hU_36 := iv_put W9 hU_31 hI_35 (ro_o hkx (by decide)) (lo := 0) (hi := 940) (rfl) (rg_w rx_34 (by decide) (by decide)) rfl
          have hF_37 := fq_puto hF_32 hI_35 hkx (by decide) (by decide)
          have hs_38 : TPq I_35 J x b_1 b_2 b_3 b_4 b_5 = (TP_.w_len (TP_.w_by_ s_6 (up1 (up1 (s_6.by_) (x_8.toNatClampNeg) ((vp_nar .byte x_14))) (x_19.toNatClampNeg) ((vp_nar .byte x_29)))) (x_34)) := by rw [hI_35]; exact ((tq_len wtqx).trans (congrArg (fun z : TP_ => TP_.w_len z (x_34)) hs_33)).trans rfl
          refine g_iinc C dX10_add_42 (k := 0) (v := 8) rfl (by decide) (by decide) (lo2 := [(2, .int 8), (0, .ref x), (1, .int a0)]) rfl ?_
          refine g_goto C (tgt := 3) dX10_add_45 (by decide) ?_
          refine g_iload_n C 0 dX10_add_3 rfl rfl ?_
          refine g_if_lt C (tgt := 48) dX10_add_4 (by decide) (fun h_39 => ?_) (fun h_39 => ?_)
          · skip
            exact absurd (h_39) (by decide)
          · skip
            refine g_aload_n C 1 dX10_add_7 rfl rfl ?_
            refine g_getI C K hLx hkx f_10_29 (v := x_34) (kp_s hI_35) dX10_add_8 ?_
            refine g_aload_n C 1 dX10_add_11 rfl rfl ?_
            refine g_getR C K hLx hkx f_10_9 hb_1 dX10_add_12 ?_
            refine g_alenB C K hb_1L hb_1k (v := 940) (by rw [hb_1n]; rfl) dX10_add_15 ?_
            refine g_icmp_ge C (tgt := 48) dX10_add_16 (by decide) (fun h_40 => ?_) (fun h_40 => ?_)
            · skip
              have r_41 := le_r (h_40) rc_940 rx_34
              exact g_vret B K rfl ⟨hU_36, hF_37, hG, (by first | (simp only [fAdd, fPutB, etqx, hs_38, hs_6, h_7, (nlt h_7), hx_8, f_9, h_10, (nle h_10), hx_13, hx_14, hx_19, h_24, (nlt h_24), h_25, (nle h_25), hx_28, hx_29, hx_34, h_39, (nlt h_39), h_40, if_true, if_false, tqM_by_, tqM_wd, tqM_tk, tqM_pl, tqM_vl, tqM_len, tqM_n, tqM_at_, tqM_token, tqM_place, tqM_value, tqM_fault, tqM_fat, TP_.w_by_, TP_.w_wd, TP_.w_tk, TP_.w_pl, TP_.w_vl, TP_.w_len, TP_.w_n, TP_.w_at_, TP_.w_token, TP_.w_place, TP_.w_value, TP_.w_fault, TP_.w_fat]; done) | exact absurd (nle h_10) h_7 | exact absurd (nle h_10) h_24 | exact absurd (nle h_10) h_39 | exact absurd (nle h_25) h_7 | exact absurd (nle h_25) h_24 | exact absurd (nle h_25) h_39)⟩ dX10_add_48
            · skip
              have r_42 := lt_l (hi := 939) (nle h_40) rx_34 rc_940 (by decide)
              refine g_aload_n C 1 dX10_add_19 rfl rfl ?_
              refine g_getR C K hLx hkx f_10_9 hb_1 dX10_add_20 ?_
              refine g_aload_n C 1 dX10_add_23 rfl rfl ?_
              refine g_getI C K hLx hkx f_10_29 (v := x_34) (kp_s hI_35) dX10_add_24 ?_
              refine g_iload_n C 2 dX10_add_27 rfl rfl ?_
              refine g_iload_n C 0 dX10_add_28 rfl rfl ?_
              obtain ⟨x_43, hx_43, rx_43⟩ := ex_any (z0 := a0 >>> (8 &&& 31))
              refine g_ishr C (v := x_43) dX10_add_29 hx_43 ?_
              obtain ⟨x_44, hx_44, rx_44⟩ := ex_b2 (x := x_43)
              refine g_i2b C (v := x_44) dX10_add_30 hx_44 ?_
              refine h_bast C K hb_1L hb_1k (x_34.toNatClampNeg) (rfl) (ix_0 r_42 (by decide)) (ix_lt r_42 (by decide) hb_1n (by decide)) dX10_add_31 (fun I_45 hI_45 => ?_)
              have hU_46 := iv_put W9 hU_36 hI_45 (ro_a hb_1k (by decide) hb_1o hkx rfl) (lo := (-128)) (hi := 127) (rfl) (nar_b _) rfl
              have hF_47 := fq_puta hF_37 hI_45 (ro_a hb_1k (by decide) hb_1o hkx rfl) (by decide) (by decide)
              have hs_48 : TPq I_45 J x b_1 b_2 b_3 b_4 b_5 = (TP_.w_by_ (TP_.w_len s_6 (x_34)) (up1 (up1 (up1 (s_6.by_) (x_8.toNatClampNeg) ((vp_nar .byte x_14))) (x_19.toNatClampNeg) ((vp_nar .byte x_29))) (x_34.toNatClampNeg) ((vp_nar .byte x_44)))) := by rw [hI_45]; exact ((tq_by_ wtqx).trans (congrArg (fun z : TP_ => TP_.w_by_ z (up1 (z.by_) (x_34.toNatClampNeg) ((vp_nar .byte x_44)))) hs_38)).trans rfl
              refine g_aload_n C 1 dX10_add_32 rfl rfl ?_
              refine g_dup C dX10_add_33 rfl ?_
              refine g_getI C K hLx hkx f_10_29 (v := x_34) (kp_k (κ := κ) hI_45 (by rw [hkx, hb_1k]; decide) (kp_s hI_35)) dX10_add_34 ?_
              refine g_iconst C (v := 1) dX10_add_37 (by decide) ?_
              obtain ⟨x_49, hx_49, rx_49, tx_49⟩ := ex_add 3 940 r_42 rc_1 (by decide) (by decide) (by decide) (by decide)
              refine g_iadd C (v := x_49) dX10_add_38 hx_49 ?_
              refine h_putI C K hLx hkx f_10_29 p_10_5 dX10_add_39 (fun I_50 hI_50 => ?_)
              have hU_51 := iv_put W9 hU_46 hI_50 (ro_o hkx (by decide)) (lo := 0) (hi := 940) (rfl) (rg_w rx_49 (by decide) (by decide)) rfl
              have hF_52 := fq_puto hF_47 hI_50 hkx (by decide) (by decide)
              have hs_53 : TPq I_50 J x b_1 b_2 b_3 b_4 b_5 = (TP_.w_len (TP_.w_by_ s_6 (up1 (up1 (up1 (s_6.by_) (x_8.toNatClampNeg) ((vp_nar .byte x_14))) (x_19.toNatClampNeg) ((vp_nar .byte x_29))) (x_34.toNatClampNeg) ((vp_nar .byte x_44)))) (x_49)) := by rw [hI_50]; exact ((tq_len wtqx).trans (congrArg (fun z : TP_ => TP_.w_len z (x_49)) hs_48)).trans rfl
              refine g_iinc C dX10_add_42 (k := 0) (v := 0) rfl (by decide) (by decide) (lo2 := [(2, .int 0), (0, .ref x), (1, .int a0)]) rfl ?_
              refine g_goto C (tgt := 3) dX10_add_45 (by decide) ?_
              refine g_iload_n C 0 dX10_add_3 rfl rfl ?_
              refine g_if_lt C (tgt := 48) dX10_add_4 (by decide) (fun h_54 => ?_) (fun h_54 => ?_)
              · skip
                exact absurd (h_54) (by decide)
              · skip
                refine g_aload_n C 1 dX10_add_7 rfl rfl ?_
                refine g_getI C K hLx hkx f_10_29 (v := x_49) (kp_s hI_50) dX10_add_8 ?_
                refine g_aload_n C 1 dX10_add_11 rfl rfl ?_
                refine g_getR C K hLx hkx f_10_9 hb_1 dX10_add_12 ?_
                refine g_alenB C K hb_1L hb_1k (v := 940) (by rw [hb_1n]; rfl) dX10_add_15 ?_
                refine g_icmp_ge C (tgt := 48) dX10_add_16 (by decide) (fun h_55 => ?_) (fun h_55 => ?_)
                · skip
                  have r_56 := le_r (h_55) rc_940 rx_49
                  exact g_vret B K rfl ⟨hU_51, hF_52, hG, (by first | (simp only [fAdd, fPutB, etqx, hs_53, hs_6, h_7, (nlt h_7), hx_8, f_9, h_10, (nle h_10), hx_13, hx_14, hx_19, h_24, (nlt h_24), h_25, (nle h_25), hx_28, hx_29, hx_34, h_39, (nlt h_39), h_40, (nle h_40), hx_43, hx_44, hx_49, h_54, (nlt h_54), h_55, if_true, if_false, tqM_by_, tqM_wd, tqM_tk, tqM_pl, tqM_vl, tqM_len, tqM_n, tqM_at_, tqM_token, tqM_place, tqM_value, tqM_fault, tqM_fat, TP_.w_by_, TP_.w_wd, TP_.w_tk, TP_.w_pl, TP_.w_vl, TP_.w_len, TP_.w_n, TP_.w_at_, TP_.w_token, TP_.w_place, TP_.w_value, TP_.w_fault, TP_.w_fat]; done) | exact absurd (nle h_10) h_7 | exact absurd (nle h_10) h_24 | exact absurd (nle h_10) h_39 | exact absurd (nle h_10) h_54 | exact absurd (nle h_25) h_7 | exact absurd (nle h_25) h_24 | exact absurd (nle h_25) h_39 | exact absurd (nle h_25) h_54 | exact absurd (nle h_40) h_7 | exact absurd (nle h_40) h_24 | exact absurd (nle h_40) h_39 | exact absurd (nle h_40) h_54)⟩ dX10_add_48
                · skip
                  have r_57 := lt_l (hi := 939) (nle h_55) rx_49 rc_940 (by decide)
                  refine g_aload_n C 1 dX10_add_19 rfl rfl ?_
                  refine g_getR C K hLx hkx f_10_9 hb_1 dX10_add_20 ?_
                  refine g_aload_n C 1 dX10_add_23 rfl rfl ?_
                  refine g_getI C K hLx hkx f_10_29 (v := x_49) (kp_s hI_50) dX10_add_24 ?_
                  refine g_iload_n C 2 dX10_add_27 rfl rfl ?_
                  refine g_iload_n C 0 dX10_add_28 rfl rfl ?_
                  obtain ⟨x_58, hx_58, rx_58⟩ := ex_any (z0 := a0 >>> (0 &&& 31))
                  refine g_ishr C (v := x_58) dX10_add_29 hx_58 ?_
                  obtain ⟨x_59, hx_59, rx_59⟩ := ex_b2 (x := x_58)
                  refine g_i2b C (v := x_59) dX10_add_30 hx_59 ?_
                  refine h_bast C K hb_1L hb_1k (x_49.toNatClampNeg) (rfl) (ix_0 r_57 (by decide)) (ix_lt r_57 (by decide) hb_1n (by decide)) dX10_add_31 (fun I_60 hI_60 => ?_)
                  have hU_61 := iv_put W9 hU_51 hI_60 (ro_a hb_1k (by decide) hb_1o hkx rfl) (lo := (-128)) (hi := 127) (rfl) (nar_b _) rfl
                  have hF_62 := fq_puta hF_52 hI_60 (ro_a hb_1k (by decide) hb_1o hkx rfl) (by decide) (by decide)
                  have hs_63 : TPq I_60 J x b_1 b_2 b_3 b_4 b_5 = (TP_.w_by_ (TP_.w_len s_6 (x_49)) (up1 (up1 (up1 (up1 (s_6.by_) (x_8.toNatClampNeg) ((vp_nar .byte x_14))) (x_19.toNatClampNeg) ((vp_nar .byte x_29))) (x_34.toNatClampNeg) ((vp_nar .byte x_44))) (x_49.toNatClampNeg) ((vp_nar .byte x_59)))) := by rw [hI_60]; exact ((tq_by_ wtqx).trans (congrArg (fun z : TP_ => TP_.w_by_ z (up1 (z.by_) (x_49.toNatClampNeg) ((vp_nar .byte x_59)))) hs_53)).trans rfl
                  refine g_aload_n C 1 dX10_add_32 rfl rfl ?_
                  refine g_dup C dX10_add_33 rfl ?_
                  refine g_getI C K hLx hkx f_10_29 (v := x_49) (kp_k (κ := κ) hI_60 (by rw [hkx, hb_1k]; decide) (kp_s hI_50)) dX10_add_34 ?_
                  refine g_iconst C (v := 1) dX10_add_37 (by decide) ?_
                  obtain ⟨x_64, hx_64, rx_64, tx_64⟩ := ex_add 4 940 r_57 rc_1 (by decide) (by decide) (by decide) (by decide)
                  refine g_iadd C (v := x_64) dX10_add_38 hx_64 ?_
                  refine h_putI C K hLx hkx f_10_29 p_10_5 dX10_add_39 (fun I_65 hI_65 => ?_)
                  have hU_66 := iv_put W9 hU_61 hI_65 (ro_o hkx (by decide)) (lo := 0) (hi := 940) (rfl) (rg_w rx_64 (by decide) (by decide)) rfl
                  have hF_67 := fq_puto hF_62 hI_65 hkx (by decide) (by decide)
                  have hs_68 : TPq I_65 J x b_1 b_2 b_3 b_4 b_5 = (TP_.w_len (TP_.w_by_ s_6 (up1 (up1 (up1 (up1 (s_6.by_) (x_8.toNatClampNeg) ((vp_nar .byte x_14))) (x_19.toNatClampNeg) ((vp_nar .byte x_29))) (x_34.toNatClampNeg) ((vp_nar .byte x_44))) (x_49.toNatClampNeg) ((vp_nar .byte x_59)))) (x_64)) := by rw [hI_65]; exact ((tq_len wtqx).trans (congrArg (fun z : TP_ => TP_.w_len z (x_64)) hs_63)).trans rfl
                  refine g_iinc C dX10_add_42 (k := 0) (v := (-8)) rfl (by decide) (by decide) (lo2 := [(2, .int (-8)), (0, .ref x), (1, .int a0)]) rfl ?_
                  refine g_goto C (tgt := 3) dX10_add_45 (by decide) ?_
                  refine g_iload_n C 0 dX10_add_3 rfl rfl ?_
                  refine g_if_lt C (tgt := 48) dX10_add_4 (by decide) (fun h_69 => ?_) (fun h_69 => ?_)
                  · skip
                    exact g_vret B K rfl ⟨hU_66, hF_67, hG, (by first | (simp only [fAdd, fPutB, etqx, hs_68, hs_6, h_7, (nlt h_7), hx_8, f_9, h_10, (nle h_10), hx_13, hx_14, hx_19, h_24, (nlt h_24), h_25, (nle h_25), hx_28, hx_29, hx_34, h_39, (nlt h_39), h_40, (nle h_40), hx_43, hx_44, hx_49, h_54, (nlt h_54), h_55, (nle h_55), hx_58, hx_59, hx_64, h_69, if_true, if_false, tqM_by_, tqM_wd, tqM_tk, tqM_pl, tqM_vl, tqM_len, tqM_n, tqM_at_, tqM_token, tqM_place, tqM_value, tqM_fault, tqM_fat, TP_.w_by_, TP_.w_wd, TP_.w_tk, TP_.w_pl, TP_.w_vl, TP_.w_len, TP_.w_n, TP_.w_at_, TP_.w_token, TP_.w_place, TP_.w_value, TP_.w_fault, TP_.w_fat]; done) | exact absurd (nle h_10) h_7 | exact absurd (nle h_10) h_24 | exact absurd (nle h_10) h_39 | exact absurd (nle h_10) h_54 | exact absurd (nle h_25) h_7 | exact absurd (nle h_25) h_24 | exact absurd (nle h_25) h_39 | exact absurd (nle h_25) h_54 | exact absurd (nle h_40) h_7 | exact absurd (nle h_40) h_24 | exact absurd (nle h_40) h_39 | exact absurd (nle h_40) h_54 | exact absurd (nle h_55) h_7 | exact absurd (nle h_55) h_24 | exact absurd (nle h_55) h_39 | exact absurd (nle h_55) h_54)⟩ dX10_add_48
                  · skip
                    exact absurd (nlt h_69) (by decide)
set_option maxRecDepth 100000 in
set_option maxHeartbeats 8000000 in
theorem c_X11_feed {l : Launch} {D : va_G} {cy : Nat → ClassId} {L : List Nat} {κ ln : Nat → Nat} {R : Nat → Nat → Option Nat} {I : Nat → Nat → Int32} {J : Nat → Nat → Int64} {ow : Nat → Nat × Nat} (W9 : ∀ a ∈ L, Shp L κ ln R ow a) {x : Nat} (hLx : x ∈ L) (hkx : κ x = 11) (a0 : Int32) (a1 : Int32) (a2 : Int32) (a3 : Int32) (a4 : Int32) (hU : Iv L κ R ow I) : CtI l yX11_feed cX11_feed 6 (some .int) { frames := 1, cells := 0, slots := 0, locals := 22 } D cy L κ ln R I J [.ref x, .int a0, .int a1, .int a2, .int a3, .int a4] (fun r I2 J2 => Iv L κ R ow I2 ∧ Fq L κ ow [1005, 70000] I I2 ∧ Fq L κ ow [] J J2 ∧ Rg (-1) 940 r ∧ ((r, TPf R I2 J2 (rr_ R x 0)) = fFeed a0 a1 a2 a3 a4 (TPf R I J (rr_ R x 0)))) := by
  refine CtI.of (by decide +kernel) (Nat.le_of_ble_eq_true rfl) ?_
  intro p e s m below meth c B K
  have C := B.1
  have hF : Fq L κ ow [1005, 70000] I I := fq_rf
  have hG : Fq L κ ow [] J J := fq_rf
  obtain ⟨b_1, hb_1, hb_1L, hb_1k⟩ := shp_o (W9 x hLx) hkx 0 10 rfl (by decide)
  obtain ⟨b_2, hb_2, hb_2L, hb_2k, hb_2n, hb_2o⟩ := shp_a (W9 b_1 hb_1L) hb_1k 0 13 940 rfl (by decide)
  obtain ⟨b_3, hb_3, hb_3L, hb_3k, hb_3n, hb_3o⟩ := shp_a (W9 b_1 hb_1L) hb_1k 1 15 28 rfl (by decide)
  obtain ⟨b_4, hb_4, hb_4L, hb_4k, hb_4n, hb_4o⟩ := shp_a (W9 b_1 hb_1L) hb_1k 2 14 901 rfl (by decide)
  obtain ⟨b_5, hb_5, hb_5L, hb_5k, hb_5n, hb_5o⟩ := shp_a (W9 b_1 hb_1L) hb_1k 3 14 901 rfl (by decide)
  obtain ⟨b_6, hb_6, hb_6L, hb_6k, hb_6n, hb_6o⟩ := shp_a (W9 b_1 hb_1L) hb_1k 4 15 901 rfl (by decide)
  have etqx_0 : ∀ I J, TPf R I J (rr_ R x 0) = TPq I J b_1 b_2 b_3 b_4 b_5 b_6 := fun I J => by simp only [TPf, rr_, Option.getD_some, hb_2, hb_3, hb_4, hb_5, hb_6, hb_1]
  have dtqx_0 : ∀ I J, TPf R I J b_1 = TPq I J b_1 b_2 b_3 b_4 b_5 b_6 := fun I J => by simp only [TPf, rr_, Option.getD_some, hb_2, hb_3, hb_4, hb_5, hb_6, hb_1]
  have wtqx_0 : tqw_ L κ ow b_1 b_2 b_3 b_4 b_5 b_6 := ⟨⟨hb_1L, hb_2L, hb_3L, hb_4L, hb_5L, hb_6L⟩, ⟨(ro_o hb_1k (by decide)), (ro_a hb_2k (by decide) hb_2o hb_1k rfl), (ro_a hb_3k (by decide) hb_3o hb_1k rfl), (ro_a hb_4k (by decide) hb_4o hb_1k rfl), (ro_a hb_5k (by decide) hb_5o hb_1k rfl), (ro_a hb_6k (by decide) hb_6o hb_1k rfl)⟩⟩
  obtain ⟨s_7, hs_7⟩ : ∃ z, TPq I J b_1 b_2 b_3 b_4 b_5 b_6 = z := ⟨_, rfl⟩
  refine g_lo (is := [0, 1, 2, 3, 4, 5]) (lo2 := [(0, .ref x), (1, .int a0), (2, .int a1), (3, .int a2), (4, .int a3), (5, .int a4)]) rfl ?_
  refine g_aload_n C 0 dX11_feed_0 rfl rfl ?_
  refine g_getR C K hLx hkx f_11_10 hb_1 dX11_feed_1 ?_
  obtain ⟨x_8, hx_8, rx_8⟩ := ex_get (I := I) (a := b_1) (j := 5) (lo := 0) (hi := 940) hU.1 hb_1L (ro_o hb_1k (by decide)) rfl
  have f_9 : s_7.len = x_8 := (congrArg TP_.len hs_7).symm.trans hx_8
  refine g_getI C K hb_1L hb_1k f_11_102 (v := x_8) hx_8 dX11_feed_4 ?_
  refine g_sipush C (v := 920) dX11_feed_7 (by decide) ?_
  refine g_icmp_le C (tgt := 15) dX11_feed_10 (by decide) (fun h_10 => ?_) (fun h_10 => ?_)
  · skip
    have r_11 := le_l (h_10) rx_8 rc_920
    refine g_aload_n C 0 dX11_feed_15 rfl rfl ?_
    refine g_getR C K hLx hkx f_11_10 hb_1 dX11_feed_16 ?_
    refine g_iload_n C 1 dX11_feed_19 rfl rfl ?_
    refine g_callVV C K (c_X10_add W9 hb_1L hb_1k a0  hU) hb_1L hb_1k (by decide) rfl v_11_105 rfl ⟨rfl, rfl⟩ ⟨Nat.le_of_ble_eq_true rfl, Nat.le_of_ble_eq_true rfl⟩ (Nat.le_of_ble_eq_true rfl) ⟨Nat.le_of_ble_eq_true rfl, Nat.le_of_ble_eq_true rfl⟩ dX11_feed_20 rfl (st := []) (fun I_13 J_14 h_15 => ?_)
    obtain ⟨hUI_13, hFI_13, hGJ_14, fx_12⟩ := h_15
    have hF_16 := fq_tr hF hFI_13 (by decide)
    have hG_17 := fq_tr hG hGJ_14 (by decide)
    obtain ⟨s_19, hs_19⟩ : ∃ z, TPq I_13 J_14 b_1 b_2 b_3 b_4 b_5 b_6 = z := ⟨_, rfl⟩
    have c_18 : fAdd (a0) (s_7) = s_19 := by have q := fx_12; simp only [etqx_0, dtqx_0, hs_7, hs_19] at q; exact q.symm
    refine g_aload_n C 0 dX11_feed_23 rfl rfl ?_
    refine g_getR C K hLx hkx f_11_10 hb_1 dX11_feed_24 ?_
    refine g_iload_n C 2 dX11_feed_27 rfl rfl ?_
    refine g_callVV C K (c_X10_add W9 hb_1L hb_1k a1  hUI_13) hb_1L hb_1k (by decide) rfl v_11_105 rfl ⟨rfl, rfl⟩ ⟨Nat.le_of_ble_eq_true rfl, Nat.le_of_ble_eq_true rfl⟩ (Nat.le_of_ble_eq_true rfl) ⟨Nat.le_of_ble_eq_true rfl, Nat.le_of_ble_eq_true rfl⟩ dX11_feed_28 rfl (st := []) (fun I_21 J_22 h_23 => ?_)
    obtain ⟨hUI_21, hFI_21, hGJ_22, fx_20⟩ := h_23
    have hF_24 := fq_tr hF_16 hFI_21 (by decide)
    have hG_25 := fq_tr hG_17 hGJ_22 (by decide)
    obtain ⟨s_27, hs_27⟩ : ∃ z, TPq I_21 J_22 b_1 b_2 b_3 b_4 b_5 b_6 = z := ⟨_, rfl⟩
    have c_26 : fAdd (a1) (s_19) = s_27 := by have q := fx_20; simp only [etqx_0, dtqx_0, hs_19, hs_27] at q; exact q.symm
    refine g_aload_n C 0 dX11_feed_31 rfl rfl ?_
    refine g_getR C K hLx hkx f_11_10 hb_1 dX11_feed_32 ?_
    refine g_iload_n C 3 dX11_feed_35 rfl rfl ?_
    refine g_callVV C K (c_X10_add W9 hb_1L hb_1k a2  hUI_21) hb_1L hb_1k (by decide) rfl v_11_105 rfl ⟨rfl, rfl⟩ ⟨Nat.le_of_ble_eq_true rfl, Nat.le_of_ble_eq_true rfl⟩ (Nat.le_of_ble_eq_true rfl) ⟨Nat.le_of_ble_eq_true rfl, Nat.le_of_ble_eq_true rfl⟩ dX11_feed_36 rfl (st := []) (fun I_29 J_30 h_31 => ?_)
    obtain ⟨hUI_29, hFI_29, hGJ_30, fx_28⟩ := h_31
    have hF_32 := fq_tr hF_24 hFI_29 (by decide)
    have hG_33 := fq_tr hG_25 hGJ_30 (by decide)
    obtain ⟨s_35, hs_35⟩ : ∃ z, TPq I_29 J_30 b_1 b_2 b_3 b_4 b_5 b_6 = z := ⟨_, rfl⟩
    have c_34 : fAdd (a2) (s_27) = s_35 := by have q := fx_28; simp only [etqx_0, dtqx_0, hs_27, hs_35] at q; exact q.symm
    refine g_aload_n C 0 dX11_feed_39 rfl rfl ?_
    refine g_getR C K hLx hkx f_11_10 hb_1 dX11_feed_40 ?_
    refine g_iload C 4 dX11_feed_43 rfl ?_
    refine g_callVV C K (c_X10_add W9 hb_1L hb_1k a3  hUI_29) hb_1L hb_1k (by decide) rfl v_11_105 rfl ⟨rfl, rfl⟩ ⟨Nat.le_of_ble_eq_true rfl, Nat.le_of_ble_eq_true rfl⟩ (Nat.le_of_ble_eq_true rfl) ⟨Nat.le_of_ble_eq_true rfl, Nat.le_of_ble_eq_true rfl⟩ dX11_feed_45 rfl (st := []) (fun I_37 J_38 h_39 => ?_)
    obtain ⟨hUI_37, hFI_37, hGJ_38, fx_36⟩ := h_39
    have hF_40 := fq_tr hF_32 hFI_37 (by decide)
    have hG_41 := fq_tr hG_33 hGJ_38 (by decide)
    obtain ⟨s_43, hs_43⟩ : ∃ z, TPq I_37 J_38 b_1 b_2 b_3 b_4 b_5 b_6 = z := ⟨_, rfl⟩
    have c_42 : fAdd (a3) (s_35) = s_43 := by have q := fx_36; simp only [etqx_0, dtqx_0, hs_35, hs_43] at q; exact q.symm
    refine g_aload_n C 0 dX11_feed_48 rfl rfl ?_
    refine g_getR C K hLx hkx f_11_10 hb_1 dX11_feed_49 ?_
    refine g_iload C 5 dX11_feed_52 rfl ?_
    refine g_callVV C K (c_X10_add W9 hb_1L hb_1k a4  hUI_37) hb_1L hb_1k (by decide) rfl v_11_105 rfl ⟨rfl, rfl⟩ ⟨Nat.le_of_ble_eq_true rfl, Nat.le_of_ble_eq_true rfl⟩ (Nat.le_of_ble_eq_true rfl) ⟨Nat.le_of_ble_eq_true rfl, Nat.le_of_ble_eq_true rfl⟩ dX11_feed_54 rfl (st := []) (fun I_45 J_46 h_47 => ?_)
    obtain ⟨hUI_45, hFI_45, hGJ_46, fx_44⟩ := h_47
    have hF_48 := fq_tr hF_40 hFI_45 (by decide)
    have hG_49 := fq_tr hG_41 hGJ_46 (by decide)
    obtain ⟨s_51, hs_51⟩ : ∃ z, TPq I_45 J_46 b_1 b_2 b_3 b_4 b_5 b_6 = z := ⟨_, rfl⟩
    have c_50 : fAdd (a4) (s_43) = s_51 := by have q := fx_44; simp only [etqx_0, dtqx_0, hs_43, hs_51] at q; exact q.symm
    refine g_aload_n C 0 dX11_feed_57 rfl rfl ?_
    refine g_getR C K hLx hkx f_11_10 hb_1 dX11_feed_58 ?_
    obtain ⟨x_52, hx_52, rx_52⟩ := ex_get (I := I_45) (a := b_1) (j := 5) (lo := 0) (hi := 940) hUI_45.1 hb_1L (ro_o hb_1k (by decide)) rfl
    have f_53 : s_51.len = x_52 := (congrArg TP_.len hs_51).symm.trans hx_52
    refine g_getI C K hb_1L hb_1k f_11_102 (v := x_52) hx_52 dX11_feed_61 ?_
    exact g_zret (ty := .int) (r := x_52) B K rfl (rfl) ⟨hUI_45, hF_48, hG_49, rg_w rx_52 (by decide) (by decide), (by simp only [fFeed, etqx_0, dtqx_0, hs_51, hs_7, hx_8, f_9, h_10, c_18, c_26, c_34, c_42, c_50, hx_52, f_53, if_true, if_false, tqM_by_, tqM_wd, tqM_tk, tqM_pl, tqM_vl, tqM_len, tqM_n, tqM_at_, tqM_token, tqM_place, tqM_value, tqM_fault, tqM_fat, TP_.w_by_, TP_.w_wd, TP_.w_tk, TP_.w_pl, TP_.w_vl, TP_.w_len, TP_.w_n, TP_.w_at_, TP_.w_token, TP_.w_place, TP_.w_value, TP_.w_fault, TP_.w_fat])⟩ dX11_feed_64
  · skip
    have r_54 := lt_r (lo := 921) (nle h_10) rc_920 rx_8 (by decide)
    refine g_iconst C (v := (-1)) dX11_feed_13 (by decide) ?_
    exact g_zret (ty := .int) (r := (-1)) B K rfl (rfl) ⟨hU, hF, hG, rg_w rc_m1 (by decide) (by decide), (by simp only [fFeed, etqx_0, dtqx_0, hs_7, hx_8, f_9, h_10, (nle h_10), if_true, if_false, tqM_by_, tqM_wd, tqM_tk, tqM_pl, tqM_vl, tqM_len, tqM_n, tqM_at_, tqM_token, tqM_place, tqM_value, tqM_fault, tqM_fat, TP_.w_by_, TP_.w_wd, TP_.w_tk, TP_.w_pl, TP_.w_vl, TP_.w_len, TP_.w_n, TP_.w_at_, TP_.w_token, TP_.w_place, TP_.w_value, TP_.w_fault, TP_.w_fat])⟩ dX11_feed_14
set_option maxRecDepth 100000 in
set_option maxHeartbeats 8000000 in
theorem c_X11_end {l : Launch} {D : va_G} {cy : Nat → ClassId} {L : List Nat} {κ ln : Nat → Nat} {R : Nat → Nat → Option Nat} {I : Nat → Nat → Int32} {J : Nat → Nat → Int64} {ow : Nat → Nat × Nat} (W9 : ∀ a ∈ L, Shp L κ ln R ow a) {x : Nat} (hLx : x ∈ L) (hkx : κ x = 11) (a0 : Int32) (hU : Iv L κ R ow I) : CtI l yX11_end cX11_end 2 (some .boolean) { frames := 0, cells := 0, slots := 0, locals := 0 } D cy L κ ln R I J [.ref x, .int a0] (fun r I2 J2 => Iv L κ R ow I2 ∧ Fq L κ ow [1005] I I2 ∧ Fq L κ ow [] J J2 ∧ Rg 0 1 r) := by
  refine CtI.of (by decide +kernel) (Nat.le_of_ble_eq_true rfl) ?_
  intro p e s m below meth c B K
  have C := B.1
  have hF : Fq L κ ow [1005] I I := fq_rf
  have hG : Fq L κ ow [] J J := fq_rf
  obtain ⟨b_1, hb_1, hb_1L, hb_1k⟩ := shp_o (W9 x hLx) hkx 0 10 rfl (by decide)
  refine g_lo (is := [0, 1]) (lo2 := [(0, .ref x), (1, .int a0)]) rfl ?_
  refine g_iload_n C 1 dX11_end_0 rfl rfl ?_
  refine g_if_lt C (tgt := 15) dX11_end_1 (by decide) (fun h_2 => ?_) (fun h_2 => ?_)
  · skip
    have r_3 := lt_l (hi := (-1)) (h_2) (rg_all a0) rc_0 (by decide)
    refine g_iconst C (v := 0) dX11_end_15 (by decide) ?_
    exact g_zret (ty := .boolean) (r := 0) B K rfl (rfl) ⟨hU, hF, hG, rg_w rc_0 (by decide) (by decide)⟩ dX11_end_16
  · skip
    have r_4 := le_r (nlt h_2) rc_0 (rg_all a0)
    refine g_iload_n C 1 dX11_end_4 rfl rfl ?_
    refine g_aload_n C 0 dX11_end_5 rfl rfl ?_
    refine g_getR C K hLx hkx f_11_10 hb_1 dX11_end_6 ?_
    obtain ⟨x_5, hx_5, rx_5⟩ := ex_get (I := I) (a := b_1) (j := 5) (lo := 0) (hi := 940) hU.1 hb_1L (ro_o hb_1k (by decide)) rfl
    refine g_getI C K hb_1L hb_1k f_11_102 (v := x_5) hx_5 dX11_end_9 ?_
    refine g_icmp_le C (tgt := 17) dX11_end_12 (by decide) (fun h_6 => ?_) (fun h_6 => ?_)
    · skip
      have r_7 := le_l (h_6) r_4 rx_5
      refine g_aload_n C 0 dX11_end_17 rfl rfl ?_
      refine g_getR C K hLx hkx f_11_10 hb_1 dX11_end_18 ?_
      refine g_iload_n C 1 dX11_end_21 rfl rfl ?_
      refine h_putI C K hb_1L hb_1k f_11_102 p_10_5 dX11_end_22 (fun I_8 hI_8 => ?_)
      have hU_9 := iv_put W9 hU hI_8 (ro_o hb_1k (by decide)) (lo := 0) (hi := 940) (rfl) (r_7) rfl
      have hF_10 := fq_puto hF hI_8 hb_1k (by decide) (by decide)
      refine g_iconst C (v := 1) dX11_end_25 (by decide) ?_
      exact g_zret (ty := .boolean) (r := 1) B K rfl (rfl) ⟨hU_9, hF_10, hG, rg_w rc_1 (by decide) (by decide)⟩ dX11_end_26
    · skip
      have r_11 := lt_r (lo := 1) (nle h_6) rx_5 r_4 (by decide)
      refine g_iconst C (v := 0) dX11_end_15 (by decide) ?_
      exact g_zret (ty := .boolean) (r := 0) B K rfl (rfl) ⟨hU, hF, hG, rg_w rc_0 (by decide) (by decide)⟩ dX11_end_16
set_option maxRecDepth 100000 in
set_option maxHeartbeats 8000000 in
theorem c_X1_become {l : Launch} {D : va_G} {cy : Nat → ClassId} {L : List Nat} {κ ln : Nat → Nat} {R : Nat → Nat → Option Nat} {I : Nat → Nat → Int32} {J : Nat → Nat → Int64} {ow : Nat → Nat × Nat} (W9 : ∀ a ∈ L, Shp L κ ln R ow a) {x : Nat} (hLx : x ∈ L) (hkx : κ x = 1) {a0 : Nat} (hLa0 : a0 ∈ L) (hka0 : κ a0 = 1) (hU : Iv L κ R ow I) : CtV l yX1_become cX1_become 2 none { frames := 1, cells := 0, slots := 0, locals := 60 } D cy L κ ln R I J [.ref x, .ref a0] (fun I2 J2 => Iv L κ R ow I2 ∧ Fq L κ ow [107, 108, 109, 110, 111, 112, 16100, 16200, 16300, 16400, 16500, 16600] I I2 ∧ Fq L κ ow [] J J2) := by
  refine CtV.of (by decide +kernel) (Nat.le_of_ble_eq_true rfl) ?_
  intro p e s m below meth c B K
  have C := B.1
  have hF : Fq L κ ow [107, 108, 109, 110, 111, 112, 16100, 16200, 16300, 16400, 16500, 16600] I I := fq_rf
  have hG : Fq L κ ow [] J J := fq_rf
  obtain ⟨b_1, hb_1, hb_1L, hb_1k, hb_1n, hb_1o⟩ := shp_a (W9 x hLx) hkx 3 14 7 rfl (by decide)
  obtain ⟨b_2, hb_2, hb_2L, hb_2k, hb_2n, hb_2o⟩ := shp_a (W9 x hLx) hkx 4 14 7 rfl (by decide)
  obtain ⟨b_3, hb_3, hb_3L, hb_3k, hb_3n, hb_3o⟩ := shp_a (W9 a0 hLa0) hka0 1 14 6 rfl (by decide)
  obtain ⟨b_4, hb_4, hb_4L, hb_4k, hb_4n, hb_4o⟩ := shp_a (W9 a0 hLa0) hka0 3 14 7 rfl (by decide)
  obtain ⟨b_5, hb_5, hb_5L, hb_5k, hb_5n, hb_5o⟩ := shp_a (W9 x hLx) hkx 6 14 7 rfl (by decide)
  obtain ⟨b_6, hb_6, hb_6L, hb_6k, hb_6n, hb_6o⟩ := shp_a (W9 x hLx) hkx 5 14 7 rfl (by decide)
  obtain ⟨b_7, hb_7, hb_7L, hb_7k, hb_7n, hb_7o⟩ := shp_a (W9 a0 hLa0) hka0 6 14 7 rfl (by decide)
  obtain ⟨b_8, hb_8, hb_8L, hb_8k, hb_8n, hb_8o⟩ := shp_a (W9 x hLx) hkx 2 14 42 rfl (by decide)
  obtain ⟨b_9, hb_9, hb_9L, hb_9k, hb_9n, hb_9o⟩ := shp_a (W9 a0 hLa0) hka0 2 14 42 rfl (by decide)
  obtain ⟨b_10, hb_10, hb_10L, hb_10k, hb_10n, hb_10o⟩ := shp_a (W9 a0 hLa0) hka0 5 14 7 rfl (by decide)
  obtain ⟨b_11, hb_11, hb_11L, hb_11k, hb_11n, hb_11o⟩ := shp_a (W9 a0 hLa0) hka0 4 14 7 rfl (by decide)
  obtain ⟨b_12, hb_12, hb_12L, hb_12k, hb_12n, hb_12o⟩ := shp_a (W9 x hLx) hkx 1 14 6 rfl (by decide)
  refine g_lo (is := [0, 1]) (lo2 := [(0, .ref x), (1, .ref a0)]) rfl ?_
  refine g_aload_n C 1 dX1_become_0 rfl rfl ?_
  refine g_getR C K hLa0 hka0 f_1_9 hb_3 dX1_become_1 ?_
  refine g_iconst C (v := 0) dX1_become_4 (by decide) ?_
  refine g_aload_n C 0 dX1_become_5 rfl rfl ?_
  refine g_getR C K hLx hkx f_1_9 hb_12 dX1_become_6 ?_
  refine g_iconst C (v := 0) dX1_become_9 (by decide) ?_
  refine g_bipush C (v := 6) dX1_become_10 (by decide) ?_
  refine h_copyI C K hb_12L hb_12k hb_3L hb_3k ac_1_56 6 (by decide) (by decide) (by rw [hb_3n]; decide) (by rw [hb_12n]; decide) w_cp (Nat.le_of_ble_eq_true rfl) (Nat.le_of_ble_eq_true rfl) dX1_become_12 (fun I_13 hI_13 => ?_)
  have hU_14 := iv_cp W9 hU (uv_cp hU.1 hb_3L hI_13 (ro_a hb_12k (by decide) hb_12o hkx rfl) (ro_a hb_3k (by decide) hb_3o hka0 rfl)) hI_13 (ro_a hb_12k (by decide) hb_12o hkx rfl) (fun _ => rfl)
  have hF_15 := fq_cp hF hI_13 (ro_a hb_12k (by decide) hb_12o hkx rfl) (by decide) (by decide)
  refine g_aload_n C 1 dX1_become_15 rfl rfl ?_
  refine g_getR C K hLa0 hka0 f_1_15 hb_9 dX1_become_16 ?_
  refine g_iconst C (v := 0) dX1_become_19 (by decide) ?_
  refine g_aload_n C 0 dX1_become_20 rfl rfl ?_
  refine g_getR C K hLx hkx f_1_15 hb_8 dX1_become_21 ?_
  refine g_iconst C (v := 0) dX1_become_24 (by decide) ?_
  refine g_bipush C (v := 42) dX1_become_25 (by decide) ?_
  refine h_copyI C K hb_8L hb_8k hb_9L hb_9k ac_1_56 42 (by decide) (by decide) (by rw [hb_9n]; decide) (by rw [hb_8n]; decide) w_cp (Nat.le_of_ble_eq_true rfl) (Nat.le_of_ble_eq_true rfl) dX1_become_27 (fun I_16 hI_16 => ?_)
  have hU_17 := iv_cp W9 hU_14 (uv_cp hU_14.1 hb_9L hI_16 (ro_a hb_8k (by decide) hb_8o hkx rfl) (ro_a hb_9k (by decide) hb_9o hka0 rfl)) hI_16 (ro_a hb_8k (by decide) hb_8o hkx rfl) (fun _ => rfl)
  have hF_18 := fq_cp hF_15 hI_16 (ro_a hb_8k (by decide) hb_8o hkx rfl) (by decide) (by decide)
  refine g_aload_n C 1 dX1_become_30 rfl rfl ?_
  refine g_getR C K hLa0 hka0 f_1_18 hb_4 dX1_become_31 ?_
  refine g_iconst C (v := 0) dX1_become_34 (by decide) ?_
  refine g_aload_n C 0 dX1_become_35 rfl rfl ?_
  refine g_getR C K hLx hkx f_1_18 hb_1 dX1_become_36 ?_
  refine g_iconst C (v := 0) dX1_become_39 (by decide) ?_
  refine g_bipush C (v := 7) dX1_become_40 (by decide) ?_
  refine h_copyI C K hb_1L hb_1k hb_4L hb_4k ac_1_56 7 (by decide) (by decide) (by rw [hb_4n]; decide) (by rw [hb_1n]; decide) w_cp (Nat.le_of_ble_eq_true rfl) (Nat.le_of_ble_eq_true rfl) dX1_become_42 (fun I_19 hI_19 => ?_)
  have hU_20 := iv_cp W9 hU_17 (uv_cp hU_17.1 hb_4L hI_19 (ro_a hb_1k (by decide) hb_1o hkx rfl) (ro_a hb_4k (by decide) hb_4o hka0 rfl)) hI_19 (ro_a hb_1k (by decide) hb_1o hkx rfl) (fun _ => rfl)
  have hF_21 := fq_cp hF_18 hI_19 (ro_a hb_1k (by decide) hb_1o hkx rfl) (by decide) (by decide)
  refine g_aload_n C 1 dX1_become_45 rfl rfl ?_
  refine g_getR C K hLa0 hka0 f_1_21 hb_11 dX1_become_46 ?_
  refine g_iconst C (v := 0) dX1_become_49 (by decide) ?_
  refine g_aload_n C 0 dX1_become_50 rfl rfl ?_
  refine g_getR C K hLx hkx f_1_21 hb_2 dX1_become_51 ?_
  refine g_iconst C (v := 0) dX1_become_54 (by decide) ?_
  refine g_bipush C (v := 7) dX1_become_55 (by decide) ?_
  refine h_copyI C K hb_2L hb_2k hb_11L hb_11k ac_1_56 7 (by decide) (by decide) (by rw [hb_11n]; decide) (by rw [hb_2n]; decide) w_cp (Nat.le_of_ble_eq_true rfl) (Nat.le_of_ble_eq_true rfl) dX1_become_57 (fun I_22 hI_22 => ?_)
  have hU_23 := iv_cp W9 hU_20 (uv_cp hU_20.1 hb_11L hI_22 (ro_a hb_2k (by decide) hb_2o hkx rfl) (ro_a hb_11k (by decide) hb_11o hka0 rfl)) hI_22 (ro_a hb_2k (by decide) hb_2o hkx rfl) (fun _ => rfl)
  have hF_24 := fq_cp hF_21 hI_22 (ro_a hb_2k (by decide) hb_2o hkx rfl) (by decide) (by decide)
  refine g_aload_n C 1 dX1_become_60 rfl rfl ?_
  refine g_getR C K hLa0 hka0 f_1_24 hb_10 dX1_become_61 ?_
  refine g_iconst C (v := 0) dX1_become_64 (by decide) ?_
  refine g_aload_n C 0 dX1_become_65 rfl rfl ?_
  refine g_getR C K hLx hkx f_1_24 hb_6 dX1_become_66 ?_
  refine g_iconst C (v := 0) dX1_become_69 (by decide) ?_
  refine g_bipush C (v := 7) dX1_become_70 (by decide) ?_
  refine h_copyI C K hb_6L hb_6k hb_10L hb_10k ac_1_56 7 (by decide) (by decide) (by rw [hb_10n]; decide) (by rw [hb_6n]; decide) w_cp (Nat.le_of_ble_eq_true rfl) (Nat.le_of_ble_eq_true rfl) dX1_become_72 (fun I_25 hI_25 => ?_)
  have hU_26 := iv_cp W9 hU_23 (uv_cp hU_23.1 hb_10L hI_25 (ro_a hb_6k (by decide) hb_6o hkx rfl) (ro_a hb_10k (by decide) hb_10o hka0 rfl)) hI_25 (ro_a hb_6k (by decide) hb_6o hkx rfl) (fun _ => rfl)
  have hF_27 := fq_cp hF_24 hI_25 (ro_a hb_6k (by decide) hb_6o hkx rfl) (by decide) (by decide)
  refine g_aload_n C 1 dX1_become_75 rfl rfl ?_
  refine g_getR C K hLa0 hka0 f_1_27 hb_7 dX1_become_76 ?_
  refine g_iconst C (v := 0) dX1_become_79 (by decide) ?_
  refine g_aload_n C 0 dX1_become_80 rfl rfl ?_
  refine g_getR C K hLx hkx f_1_27 hb_5 dX1_become_81 ?_
  refine g_iconst C (v := 0) dX1_become_84 (by decide) ?_
  refine g_bipush C (v := 7) dX1_become_85 (by decide) ?_
  refine h_copyI C K hb_5L hb_5k hb_7L hb_7k ac_1_56 7 (by decide) (by decide) (by rw [hb_7n]; decide) (by rw [hb_5n]; decide) w_cp (Nat.le_of_ble_eq_true rfl) (Nat.le_of_ble_eq_true rfl) dX1_become_87 (fun I_28 hI_28 => ?_)
  have hU_29 := iv_cp W9 hU_26 (uv_cp hU_26.1 hb_7L hI_28 (ro_a hb_5k (by decide) hb_5o hkx rfl) (ro_a hb_7k (by decide) hb_7o hka0 rfl)) hI_28 (ro_a hb_5k (by decide) hb_5o hkx rfl) (fun _ => rfl)
  have hF_30 := fq_cp hF_27 hI_28 (ro_a hb_5k (by decide) hb_5o hkx rfl) (by decide) (by decide)
  refine g_aload_n C 0 dX1_become_90 rfl rfl ?_
  refine g_aload_n C 1 dX1_become_91 rfl rfl ?_
  obtain ⟨x_31, hx_31, rx_31⟩ := ex_get (I := I_28) (a := a0) (j := 7) (lo := (-2147483648)) (hi := 2147483647) hU_29.1 hLa0 (ro_o hka0 (by decide)) rfl
  refine g_getI C K hLa0 hka0 f_1_30 (v := x_31) hx_31 dX1_become_92 ?_
  refine h_putI C K hLx hkx f_1_30 p_1_7 dX1_become_95 (fun I_32 hI_32 => ?_)
  have hU_33 := iv_put W9 hU_29 hI_32 (ro_o hkx (by decide)) (lo := (-2147483648)) (hi := 2147483647) (rfl) (rx_31) rfl
  have hF_34 := fq_puto hF_30 hI_32 hkx (by decide) (by decide)
  refine g_aload_n C 0 dX1_become_98 rfl rfl ?_
  refine g_aload_n C 1 dX1_become_99 rfl rfl ?_
  obtain ⟨x_35, hx_35, rx_35⟩ := ex_get (I := I_32) (a := a0) (j := 8) (lo := (-2147483648)) (hi := 2147483647) hU_33.1 hLa0 (ro_o hka0 (by decide)) rfl
  refine g_getI C K hLa0 hka0 f_1_34 (v := x_35) hx_35 dX1_become_100 ?_
  refine h_putI C K hLx hkx f_1_34 p_1_8 dX1_become_103 (fun I_36 hI_36 => ?_)
  have hU_37 := iv_put W9 hU_33 hI_36 (ro_o hkx (by decide)) (lo := (-2147483648)) (hi := 2147483647) (rfl) (rx_35) rfl
  have hF_38 := fq_puto hF_34 hI_36 hkx (by decide) (by decide)
  refine g_aload_n C 0 dX1_become_106 rfl rfl ?_
  refine g_aload_n C 1 dX1_become_107 rfl rfl ?_
  obtain ⟨x_39, hx_39, rx_39⟩ := ex_get (I := I_36) (a := a0) (j := 9) (lo := (-2147483648)) (hi := 2147483647) hU_37.1 hLa0 (ro_o hka0 (by decide)) rfl
  refine g_getI C K hLa0 hka0 f_1_37 (v := x_39) hx_39 dX1_become_108 ?_
  refine h_putI C K hLx hkx f_1_37 p_1_9 dX1_become_111 (fun I_40 hI_40 => ?_)
  have hU_41 := iv_put W9 hU_37 hI_40 (ro_o hkx (by decide)) (lo := (-2147483648)) (hi := 2147483647) (rfl) (rx_39) rfl
  have hF_42 := fq_puto hF_38 hI_40 hkx (by decide) (by decide)
  refine g_aload_n C 0 dX1_become_114 rfl rfl ?_
  refine g_aload_n C 1 dX1_become_115 rfl rfl ?_
  obtain ⟨x_43, hx_43, rx_43⟩ := ex_get (I := I_40) (a := a0) (j := 10) (lo := (-2147483648)) (hi := 2147483647) hU_41.1 hLa0 (ro_o hka0 (by decide)) rfl
  refine g_getI C K hLa0 hka0 f_1_40 (v := x_43) hx_43 dX1_become_116 ?_
  refine h_putI C K hLx hkx f_1_40 p_1_10 dX1_become_119 (fun I_44 hI_44 => ?_)
  have hU_45 := iv_put W9 hU_41 hI_44 (ro_o hkx (by decide)) (lo := (-2147483648)) (hi := 2147483647) (rfl) (rx_43) rfl
  have hF_46 := fq_puto hF_42 hI_44 hkx (by decide) (by decide)
  refine g_aload_n C 0 dX1_become_122 rfl rfl ?_
  refine g_aload_n C 1 dX1_become_123 rfl rfl ?_
  obtain ⟨x_47, hx_47, rx_47⟩ := ex_get (I := I_44) (a := a0) (j := 11) (lo := (-2147483648)) (hi := 2147483647) hU_45.1 hLa0 (ro_o hka0 (by decide)) rfl
  refine g_getI C K hLa0 hka0 f_1_43 (v := x_47) hx_47 dX1_become_124 ?_
  refine h_putI C K hLx hkx f_1_43 p_1_11 dX1_become_127 (fun I_48 hI_48 => ?_)
  have hU_49 := iv_put W9 hU_45 hI_48 (ro_o hkx (by decide)) (lo := (-2147483648)) (hi := 2147483647) (rfl) (rx_47) rfl
  have hF_50 := fq_puto hF_46 hI_48 hkx (by decide) (by decide)
  refine g_aload_n C 0 dX1_become_130 rfl rfl ?_
  refine g_aload_n C 1 dX1_become_131 rfl rfl ?_
  obtain ⟨x_51, hx_51, rx_51⟩ := ex_get (I := I_48) (a := a0) (j := 12) (lo := (-2147483648)) (hi := 2147483647) hU_49.1 hLa0 (ro_o hka0 (by decide)) rfl
  refine g_getI C K hLa0 hka0 f_1_46 (v := x_51) hx_51 dX1_become_132 ?_
  refine h_putI C K hLx hkx f_1_46 p_1_12 dX1_become_135 (fun I_52 hI_52 => ?_)
  have hU_53 := iv_put W9 hU_49 hI_52 (ro_o hkx (by decide)) (lo := (-2147483648)) (hi := 2147483647) (rfl) (rx_51) rfl
  have hF_54 := fq_puto hF_50 hI_52 hkx (by decide) (by decide)
  exact g_vret B K rfl ⟨hU_53, hF_54, hG⟩ dX1_become_138
set_option maxRecDepth 100000 in
set_option maxHeartbeats 8000000 in
theorem c_X5_forget {l : Launch} {D : va_G} {cy : Nat → ClassId} {L : List Nat} {κ ln : Nat → Nat} {R : Nat → Nat → Option Nat} {I : Nat → Nat → Int32} {J : Nat → Nat → Int64} {ow : Nat → Nat × Nat} (W9 : ∀ a ∈ L, Shp L κ ln R ow a) {x : Nat} (hLx : x ∈ L) (hkx : κ x = 5) (hU : Iv L κ R ow I) : CtV l yX5_forget cX5_forget 1 none { frames := 0, cells := 0, slots := 0, locals := 0 } D cy L κ ln R I J [.ref x] (fun I2 J2 => Iv L κ R ow I2 ∧ Fq L κ ow [501] I I2 ∧ Fq L κ ow [] J J2) := by
  refine CtV.of (by decide +kernel) (Nat.le_of_ble_eq_true rfl) ?_
  intro p e s m below meth c B K
  have C := B.1
  have hF : Fq L κ ow [501] I I := fq_rf
  have hG : Fq L κ ow [] J J := fq_rf
  refine g_lo (is := [0]) (lo2 := [(0, .ref x)]) rfl ?_
  refine g_aload_n C 0 dX5_forget_0 rfl rfl ?_
  refine g_iconst C (v := 0) dX5_forget_1 (by decide) ?_
  refine h_putI C K hLx hkx f_5_17 p_5_1 dX5_forget_2 (fun I_1 hI_1 => ?_)
  have hU_2 := iv_put W9 hU hI_1 (ro_o hkx (by decide)) (lo := 0) (hi := 8) (rfl) (rg_w rc_0 (by decide) (by decide)) rfl
  have hF_3 := fq_puto hF hI_1 hkx (by decide) (by decide)
  exact g_vret B K rfl ⟨hU_2, hF_3, hG⟩ dX5_forget_5
set_option maxRecDepth 100000 in
set_option maxHeartbeats 8000000 in
theorem c_X7_forget {l : Launch} {D : va_G} {cy : Nat → ClassId} {L : List Nat} {κ ln : Nat → Nat} {R : Nat → Nat → Option Nat} {I : Nat → Nat → Int32} {J : Nat → Nat → Int64} {ow : Nat → Nat × Nat} (W9 : ∀ a ∈ L, Shp L κ ln R ow a) {x : Nat} (hLx : x ∈ L) (hkx : κ x = 7) (hU : Iv L κ R ow I) : CtV l yX7_forget cX7_forget 1 none { frames := 0, cells := 0, slots := 0, locals := 0 } D cy L κ ln R I J [.ref x] (fun I2 J2 => Iv L κ R ow I2 ∧ Fq L κ ow [704, 705] I I2 ∧ Fq L κ ow [] J J2 ∧ (SPf R I2 J2 x = fForgetS (SPf R I J x))) := by
  refine CtV.of (by decide +kernel) (Nat.le_of_ble_eq_true rfl) ?_
  intro p e s m below meth c B K
  have C := B.1
  have hF : Fq L κ ow [704, 705] I I := fq_rf
  have hG : Fq L κ ow [] J J := fq_rf
  have esqx : ∀ I J, SPf R I J x = SPq I J x := fun I J => by simp only [SPf, rr_, Option.getD_some]
  have wsqx : sqw_ L κ ow x := ⟨hLx, (ro_o hkx (by decide))⟩
  obtain ⟨s_1, hs_1⟩ : ∃ z, SPq I J x = z := ⟨_, rfl⟩
  refine g_lo (is := [0]) (lo2 := [(0, .ref x)]) rfl ?_
  refine g_aload_n C 0 dX7_forget_0 rfl rfl ?_
  refine g_iconst C (v := 0) dX7_forget_1 (by decide) ?_
  refine h_putI C K hLx hkx f_7_24 p_7_4 dX7_forget_2 (fun I_2 hI_2 => ?_)
  have hU_3 := iv_put W9 hU hI_2 (ro_o hkx (by decide)) (lo := 0) (hi := 40) (rfl) (rg_w rc_0 (by decide) (by decide)) rfl
  have hF_4 := fq_puto hF hI_2 hkx (by decide) (by decide)
  have hs_5 : SPq I_2 J x = (SP_.w_sl s_1 (0)) := by rw [hI_2]; exact ((sq_sl wsqx).trans (congrArg (fun z : SP_ => SP_.w_sl z (0)) hs_1)).trans rfl
  refine g_aload_n C 0 dX7_forget_5 rfl rfl ?_
  refine g_iconst C (v := 0) dX7_forget_6 (by decide) ?_
  refine h_putI C K hLx hkx f_7_28 p_7_5 dX7_forget_7 (fun I_6 hI_6 => ?_)
  have hU_7 := iv_put W9 hU_3 hI_6 (ro_o hkx (by decide)) (lo := (-2147483648)) (hi := 2147483647) (rfl) (rg_all _) rfl
  have hF_8 := fq_puto hF_4 hI_6 hkx (by decide) (by decide)
  have hs_9 : SPq I_6 J x = (SP_.w_so (SP_.w_sl s_1 (0)) (0)) := by rw [hI_6]; exact ((sq_so wsqx).trans (congrArg (fun z : SP_ => SP_.w_so z (0)) hs_5)).trans rfl
  exact g_vret B K rfl ⟨hU_7, hF_8, hG, (by simp only [fForgetS, esqx, hs_9, hs_1, if_true, if_false, sqM_sl, sqM_so, SP_.w_sl, SP_.w_so])⟩ dX7_forget_10
set_option maxRecDepth 100000 in
set_option maxHeartbeats 8000000 in
theorem c_X8_become {l : Launch} {D : va_G} {cy : Nat → ClassId} {L : List Nat} {κ ln : Nat → Nat} {R : Nat → Nat → Option Nat} {I : Nat → Nat → Int32} {J : Nat → Nat → Int64} {ow : Nat → Nat × Nat} (W9 : ∀ a ∈ L, Shp L κ ln R ow a) {x : Nat} (hLx : x ∈ L) (hkx : κ x = 8) {a0 : Nat} (hLa0 : a0 ∈ L) (hka0 : κ a0 = 8) (hU : Iv L κ R ow I) : CtV l yX8_become cX8_become 2 none { frames := 1, cells := 0, slots := 0, locals := 60 } D cy L κ ln R I J [.ref x, .ref a0] (fun I2 J2 => Iv L κ R ow I2 ∧ Fq L κ ow [805, 806, 807, 808, 58100, 58200, 58400] I I2 ∧ Fq L κ ow [58000, 58300] J J2 ∧ (Kt_ L κ R I I2 [x]) ∧ (Sc_ R I I2 x a0) ∧ (Kn_ L κ R J J2 [x]) ∧ (Sn_ R J J2 x a0)) := by
  obtain ⟨x_1, hx_1, rx_1⟩ := ex_get (I := I) (a := a0) (j := 5) (lo := 0) (hi := 7) hU.1 hLa0 (ro_o hka0 (by decide)) rfl
  obtain ⟨x_2, hx_2, rx_2⟩ := ex_get (I := I) (a := a0) (j := 6) (lo := 0) (hi := 6) hU.1 hLa0 (ro_o hka0 (by decide)) rfl
  obtain ⟨x_3, hx_3, rx_3⟩ := ex_get (I := I) (a := a0) (j := 7) (lo := (-2147483648)) (hi := 2147483647) hU.1 hLa0 (ro_o hka0 (by decide)) rfl
  obtain ⟨x_4, hx_4, rx_4⟩ := ex_get (I := I) (a := a0) (j := 8) (lo := (-2147483648)) (hi := 2147483647) hU.1 hLa0 (ro_o hka0 (by decide)) rfl
  refine CtV.of (by decide +kernel) (Nat.le_of_ble_eq_true rfl) ?_
  intro p e s m below meth c B K
  have C := B.1
  have hF : Fq L κ ow [805, 806, 807, 808, 58100, 58200, 58400] I I := fq_rf
  have hG : Fq L κ ow [58000, 58300] J J := fq_rf
  obtain ⟨b_5, hb_5, hb_5L, hb_5k, hb_5n, hb_5o⟩ := shp_a (W9 x hLx) hkx 3 15 6 rfl (by decide)
  obtain ⟨b_6, hb_6, hb_6L, hb_6k, hb_6n, hb_6o⟩ := shp_a (W9 a0 hLa0) hka0 0 15 7 rfl (by decide)
  obtain ⟨b_7, hb_7, hb_7L, hb_7k, hb_7n, hb_7o⟩ := shp_a (W9 x hLx) hkx 4 14 6 rfl (by decide)
  obtain ⟨b_8, hb_8, hb_8L, hb_8k, hb_8n, hb_8o⟩ := shp_a (W9 a0 hLa0) hka0 1 14 7 rfl (by decide)
  obtain ⟨b_9, hb_9, hb_9L, hb_9k, hb_9n, hb_9o⟩ := shp_a (W9 a0 hLa0) hka0 3 15 6 rfl (by decide)
  obtain ⟨b_10, hb_10, hb_10L, hb_10k, hb_10n, hb_10o⟩ := shp_a (W9 x hLx) hkx 2 14 7 rfl (by decide)
  obtain ⟨b_11, hb_11, hb_11L, hb_11k, hb_11n, hb_11o⟩ := shp_a (W9 a0 hLa0) hka0 2 14 7 rfl (by decide)
  obtain ⟨b_12, hb_12, hb_12L, hb_12k, hb_12n, hb_12o⟩ := shp_a (W9 a0 hLa0) hka0 4 14 6 rfl (by decide)
  obtain ⟨b_13, hb_13, hb_13L, hb_13k, hb_13n, hb_13o⟩ := shp_a (W9 x hLx) hkx 1 14 7 rfl (by decide)
  obtain ⟨b_14, hb_14, hb_14L, hb_14k, hb_14n, hb_14o⟩ := shp_a (W9 x hLx) hkx 0 15 7 rfl (by decide)
  refine g_lo (is := [0, 1]) (lo2 := [(0, .ref x), (1, .ref a0)]) rfl ?_
  refine g_aload_n C 1 dX8_become_0 rfl rfl ?_
  refine g_getR C K hLa0 hka0 f_8_9 hb_6 dX8_become_1 ?_
  refine g_iconst C (v := 0) dX8_become_4 (by decide) ?_
  refine g_aload_n C 0 dX8_become_5 rfl rfl ?_
  refine g_getR C K hLx hkx f_8_9 hb_14 dX8_become_6 ?_
  refine g_iconst C (v := 0) dX8_become_9 (by decide) ?_
  refine g_bipush C (v := 7) dX8_become_10 (by decide) ?_
  refine h_copyJ C K hb_14L hb_14k hb_6L hb_6k ac_8_41 7 (by decide) (by decide) (by rw [hb_6n]; decide) (by rw [hb_14n]; decide) w_cp (Nat.le_of_ble_eq_true rfl) (Nat.le_of_ble_eq_true rfl) dX8_become_12 (fun J_15 hJ_15 => ?_)
  have hG_16 := fq_cp hG hJ_15 (ro_a hb_14k (by decide) hb_14o hkx rfl) (by decide) (by decide)
  have kn_17 : Kn_ L κ R J J_15 [x] := (kn_cp (r := 0) W9 kn_rf hJ_15 (Or.inr ⟨_, (by simp only [List.mem_cons, true_or, or_true]), congrArg Prod.fst hb_14o⟩))
  refine g_aload_n C 1 dX8_become_15 rfl rfl ?_
  refine g_getR C K hLa0 hka0 f_8_15 hb_8 dX8_become_16 ?_
  refine g_iconst C (v := 0) dX8_become_19 (by decide) ?_
  refine g_aload_n C 0 dX8_become_20 rfl rfl ?_
  refine g_getR C K hLx hkx f_8_15 hb_13 dX8_become_21 ?_
  refine g_iconst C (v := 0) dX8_become_24 (by decide) ?_
  refine g_bipush C (v := 7) dX8_become_25 (by decide) ?_
  refine h_copyI C K hb_13L hb_13k hb_8L hb_8k ac_8_41 7 (by decide) (by decide) (by rw [hb_8n]; decide) (by rw [hb_13n]; decide) w_cp (Nat.le_of_ble_eq_true rfl) (Nat.le_of_ble_eq_true rfl) dX8_become_27 (fun I_18 hI_18 => ?_)
  have hU_19 := iv_cp W9 hU (uv_cp hU.1 hb_8L hI_18 (ro_a hb_13k (by decide) hb_13o hkx rfl) (ro_a hb_8k (by decide) hb_8o hka0 rfl)) hI_18 (ro_a hb_13k (by decide) hb_13o hkx rfl) (fun _ => rfl)
  have hF_20 := fq_cp hF hI_18 (ro_a hb_13k (by decide) hb_13o hkx rfl) (by decide) (by decide)
  refine g_aload_n C 1 dX8_become_30 rfl rfl ?_
  refine g_getR C K hLa0 hka0 f_8_19 hb_11 dX8_become_31 ?_
  refine g_iconst C (v := 0) dX8_become_34 (by decide) ?_
  refine g_aload_n C 0 dX8_become_35 rfl rfl ?_
  refine g_getR C K hLx hkx f_8_19 hb_10 dX8_become_36 ?_
  refine g_iconst C (v := 0) dX8_become_39 (by decide) ?_
  refine g_bipush C (v := 7) dX8_become_40 (by decide) ?_
  refine h_copyI C K hb_10L hb_10k hb_11L hb_11k ac_8_41 7 (by decide) (by decide) (by rw [hb_11n]; decide) (by rw [hb_10n]; decide) w_cp (Nat.le_of_ble_eq_true rfl) (Nat.le_of_ble_eq_true rfl) dX8_become_42 (fun I_21 hI_21 => ?_)
  have hU_22 := iv_cp W9 hU_19 (uv_cp hU_19.1 hb_11L hI_21 (ro_a hb_10k (by decide) hb_10o hkx rfl) (ro_a hb_11k (by decide) hb_11o hka0 rfl)) hI_21 (ro_a hb_10k (by decide) hb_10o hkx rfl) (fun _ => rfl)
  have hF_23 := fq_cp hF_20 hI_21 (ro_a hb_10k (by decide) hb_10o hkx rfl) (by decide) (by decide)
  refine g_aload_n C 1 dX8_become_45 rfl rfl ?_
  refine g_getR C K hLa0 hka0 f_8_22 hb_9 dX8_become_46 ?_
  refine g_iconst C (v := 0) dX8_become_49 (by decide) ?_
  refine g_aload_n C 0 dX8_become_50 rfl rfl ?_
  refine g_getR C K hLx hkx f_8_22 hb_5 dX8_become_51 ?_
  refine g_iconst C (v := 0) dX8_become_54 (by decide) ?_
  refine g_bipush C (v := 6) dX8_become_55 (by decide) ?_
  refine h_copyJ C K hb_5L hb_5k hb_9L hb_9k ac_8_41 6 (by decide) (by decide) (by rw [hb_9n]; decide) (by rw [hb_5n]; decide) w_cp (Nat.le_of_ble_eq_true rfl) (Nat.le_of_ble_eq_true rfl) dX8_become_57 (fun J_24 hJ_24 => ?_)
  have hG_25 := fq_cp hG_16 hJ_24 (ro_a hb_5k (by decide) hb_5o hkx rfl) (by decide) (by decide)
  have kn_26 : Kn_ L κ R J J_24 [x] := (kn_cp (r := 0) W9 kn_17 hJ_24 (Or.inr ⟨_, (by simp only [List.mem_cons, true_or, or_true]), congrArg Prod.fst hb_5o⟩))
  refine g_aload_n C 1 dX8_become_60 rfl rfl ?_
  refine g_getR C K hLa0 hka0 f_8_25 hb_12 dX8_become_61 ?_
  refine g_iconst C (v := 0) dX8_become_64 (by decide) ?_
  refine g_aload_n C 0 dX8_become_65 rfl rfl ?_
  refine g_getR C K hLx hkx f_8_25 hb_7 dX8_become_66 ?_
  refine g_iconst C (v := 0) dX8_become_69 (by decide) ?_
  refine g_bipush C (v := 6) dX8_become_70 (by decide) ?_
  refine h_copyI C K hb_7L hb_7k hb_12L hb_12k ac_8_41 6 (by decide) (by decide) (by rw [hb_12n]; decide) (by rw [hb_7n]; decide) w_cp (Nat.le_of_ble_eq_true rfl) (Nat.le_of_ble_eq_true rfl) dX8_become_72 (fun I_27 hI_27 => ?_)
  have hU_28 := iv_cp W9 hU_22 (uv_cp hU_22.1 hb_12L hI_27 (ro_a hb_7k (by decide) hb_7o hkx rfl) (ro_a hb_12k (by decide) hb_12o hka0 rfl)) hI_27 (ro_a hb_7k (by decide) hb_7o hkx rfl) (fun _ => rfl)
  have hF_29 := fq_cp hF_23 hI_27 (ro_a hb_7k (by decide) hb_7o hkx rfl) (by decide) (by decide)
  refine g_aload_n C 0 dX8_become_75 rfl rfl ?_
  refine g_aload_n C 1 dX8_become_76 rfl rfl ?_
  refine g_getI C K hLa0 hka0 f_8_28 (v := x_1) (kp_c (κ := κ) hI_27 (by rw [hka0, hb_7k]; decide) (kp_c (κ := κ) hI_21 (by rw [hka0, hb_10k]; decide) (kp_c (κ := κ) hI_18 (by rw [hka0, hb_13k]; decide) hx_1))) dX8_become_77 ?_
  refine h_putI C K hLx hkx f_8_28 p_8_5 dX8_become_80 (fun I_30 hI_30 => ?_)
  have hU_31 := iv_put W9 hU_28 hI_30 (ro_o hkx (by decide)) (lo := 0) (hi := 7) (rfl) (rx_1) rfl
  have hF_32 := fq_puto hF_29 hI_30 hkx (by decide) (by decide)
  refine g_aload_n C 0 dX8_become_83 rfl rfl ?_
  refine g_aload_n C 1 dX8_become_84 rfl rfl ?_
  refine g_getI C K hLa0 hka0 f_8_32 (v := x_2) (kp_j hI_30 (by decide) (kp_c (κ := κ) hI_27 (by rw [hka0, hb_7k]; decide) (kp_c (κ := κ) hI_21 (by rw [hka0, hb_10k]; decide) (kp_c (κ := κ) hI_18 (by rw [hka0, hb_13k]; decide) hx_2)))) dX8_become_85 ?_
  refine h_putI C K hLx hkx f_8_32 p_8_6 dX8_become_88 (fun I_33 hI_33 => ?_)
  have hU_34 := iv_put W9 hU_31 hI_33 (ro_o hkx (by decide)) (lo := 0) (hi := 6) (rfl) (rx_2) rfl
  have hF_35 := fq_puto hF_32 hI_33 hkx (by decide) (by decide)
  refine g_aload_n C 0 dX8_become_91 rfl rfl ?_
  refine g_aload_n C 1 dX8_become_92 rfl rfl ?_
  have q_36 := (kp_j hI_33 (by decide) (kp_j hI_30 (by decide) (kp_c (κ := κ) hI_27 (by rw [hka0, hb_7k]; decide) (kp_c (κ := κ) hI_21 (by rw [hka0, hb_10k]; decide) (kp_c (κ := κ) hI_18 (by rw [hka0, hb_13k]; decide) hx_3)))))
  refine g_getI C K hLa0 hka0 f_8_35 (v := x_3) q_36 dX8_become_93 ?_
  refine h_putI C K hLx hkx f_8_35 p_8_7 dX8_become_96 (fun I_37 hI_37 => ?_)
  have hU_38 := iv_put W9 hU_34 hI_37 (ro_o hkx (by decide)) (lo := (-2147483648)) (hi := 2147483647) (rfl) (rx_3) rfl
  have hF_39 := fq_puto hF_35 hI_37 hkx (by decide) (by decide)
  refine g_aload_n C 0 dX8_become_99 rfl rfl ?_
  refine g_aload_n C 1 dX8_become_100 rfl rfl ?_
  have q_40 := (kp_j hI_37 (by decide) (kp_j hI_33 (by decide) (kp_j hI_30 (by decide) (kp_c (κ := κ) hI_27 (by rw [hka0, hb_7k]; decide) (kp_c (κ := κ) hI_21 (by rw [hka0, hb_10k]; decide) (kp_c (κ := κ) hI_18 (by rw [hka0, hb_13k]; decide) hx_4))))))
  refine g_getI C K hLa0 hka0 f_8_38 (v := x_4) q_40 dX8_become_101 ?_
  refine h_putI C K hLx hkx f_8_38 p_8_8 dX8_become_104 (fun I_41 hI_41 => ?_)
  have hU_42 := iv_put W9 hU_38 hI_41 (ro_o hkx (by decide)) (lo := (-2147483648)) (hi := 2147483647) (rfl) (rx_4) rfl
  have hF_43 := fq_puto hF_39 hI_41 hkx (by decide) (by decide)
  have kt_44 : Kt_ L κ R I I_18 [x] := (kt_k W9 kt_rf hI_18 (Or.inr (Or.inr (Or.inl ⟨(ro_a hb_13k (by decide) hb_13o hkx rfl), by decide, by decide⟩))))
  have kt_45 : Kt_ L κ R I I_21 [x] := (kt_k (r := 0) W9 kt_44 hI_21 (Or.inr (Or.inr (Or.inr ⟨_, (by simp only [List.mem_cons, true_or, or_true]), hb_10o, hb_10k⟩))))
  have kt_46 : Kt_ L κ R I I_27 [x] := (kt_k W9 kt_45 hI_27 (Or.inr (Or.inr (Or.inl ⟨(ro_a hb_7k (by decide) hb_7o hkx rfl), by decide, by decide⟩))))
  have kt_47 : Kt_ L κ R I I_30 [x] := (kt_u (r := 0) W9 kt_46 hI_30 (Or.inr (Or.inl ⟨(by simp only [List.mem_cons, true_or, or_true]), hkx⟩)))
  have kt_48 : Kt_ L κ R I I_33 [x] := (kt_u (r := 0) W9 kt_47 hI_33 (Or.inr (Or.inl ⟨(by simp only [List.mem_cons, true_or, or_true]), hkx⟩)))
  have kt_49 : Kt_ L κ R I I_37 [x] := (kt_u (r := 0) W9 kt_48 hI_37 (Or.inr (Or.inl ⟨(by simp only [List.mem_cons, true_or, or_true]), hkx⟩)))
  have kt_50 : Kt_ L κ R I I_41 [x] := (kt_u (r := 0) W9 kt_49 hI_41 (Or.inr (Or.inl ⟨(by simp only [List.mem_cons, true_or, or_true]), hkx⟩)))
  exact g_vret B K rfl ⟨hU_42, hF_43, hG_25, kt_50, ⟨tj_4 (((kp_j hI_41 (by decide) (kp_j hI_37 (by decide) (kp_j hI_33 (by decide) (kp_s hI_30))))).trans (hx_1).symm) (((kp_j hI_41 (by decide) (kp_j hI_37 (by decide) (kp_s hI_33)))).trans (hx_2).symm) (((kp_j hI_41 (by decide) (kp_s hI_37))).trans (hx_3).symm) (((kp_s hI_41)).trans (hx_4).symm), fun q b hq hb j hj => by rw [hb_10] at hq; cases hq; rw [hb_11] at hb; cases hb; exact (kp_k (κ := κ) hI_41 (by rw [hb_10k, hkx]; decide) (kp_k (κ := κ) hI_37 (by rw [hb_10k, hkx]; decide) (kp_k (κ := κ) hI_33 (by rw [hb_10k, hkx]; decide) (kp_k (κ := κ) hI_30 (by rw [hb_10k, hkx]; decide) (kp_cr hI_27 (ro_a hb_10k (by decide) hb_10o hkx rfl) (ro_a hb_7k (by decide) hb_7o hkx rfl) (by decide) (k2_to hI_21 hj (kp_cr hI_18 (ro_a hb_11k (by decide) hb_11o hka0 rfl) (ro_a hb_13k (by decide) hb_13o hkx rfl) (by decide) rfl)))))))⟩, kn_26, ⟨fun q b hq hb j hj => by rw [hb_14] at hq; cases hq; rw [hb_6] at hb; cases hb; exact (kp_cr hJ_24 (ro_a hb_14k (by decide) hb_14o hkx rfl) (ro_a hb_5k (by decide) hb_5o hkx rfl) (by decide) (k2_to hJ_15 hj rfl)), fun q b hq hb j hj => by rw [hb_5] at hq; cases hq; rw [hb_9] at hb; cases hb; exact (k2_to hJ_24 hj (kp_cr hJ_15 (ro_a hb_9k (by decide) hb_9o hka0 rfl) (ro_a hb_14k (by decide) hb_14o hkx rfl) (by decide) rfl))⟩⟩ dX8_become_107
set_option maxRecDepth 100000 in
set_option maxHeartbeats 8000000 in
theorem c_X10_addToken {l : Launch} {D : va_G} {cy : Nat → ClassId} {L : List Nat} {κ ln : Nat → Nat} {R : Nat → Nat → Option Nat} {I : Nat → Nat → Int32} {J : Nat → Nat → Int64} {ow : Nat → Nat × Nat} (W9 : ∀ a ∈ L, Shp L κ ln R ow a) {x : Nat} (hLx : x ∈ L) (hkx : κ x = 10) (a0 : Int32) (a1 : Int32) (a2 : Int64) (ra0 : Rg (-128) 127 a0) (ra1 : Rg 0 939 a1) (hU : Iv L κ R ow I) : CtV l yX10_addToken cX10_addToken 5 none { frames := 0, cells := 0, slots := 0, locals := 0 } D cy L κ ln R I J [.ref x, .int a0, .int a1, .long a2] (fun I2 J2 => Iv L κ R ow I2 ∧ Fq L κ ow [1006, 70200, 70300] I I2 ∧ Fq L κ ow [70400] J J2 ∧ (TPf R I2 J2 x = fAddToken a0 a1 a2 (TPf R I J x))) := by
  refine CtV.of (by decide +kernel) (Nat.le_of_ble_eq_true rfl) ?_
  intro p e s m below meth c B K
  have C := B.1
  have hF : Fq L κ ow [1006, 70200, 70300] I I := fq_rf
  have hG : Fq L κ ow [70400] J J := fq_rf
  obtain ⟨b_1, hb_1, hb_1L, hb_1k, hb_1n, hb_1o⟩ := shp_a (W9 x hLx) hkx 3 14 901 rfl (by decide)
  obtain ⟨b_2, hb_2, hb_2L, hb_2k, hb_2n, hb_2o⟩ := shp_a (W9 x hLx) hkx 4 15 901 rfl (by decide)
  obtain ⟨b_3, hb_3, hb_3L, hb_3k, hb_3n, hb_3o⟩ := shp_a (W9 x hLx) hkx 2 14 901 rfl (by decide)
  obtain ⟨b_4, hb_4, hb_4L, hb_4k, hb_4n, hb_4o⟩ := shp_a (W9 x hLx) hkx 0 13 940 rfl (by decide)
  obtain ⟨b_5, hb_5, hb_5L, hb_5k, hb_5n, hb_5o⟩ := shp_a (W9 x hLx) hkx 1 15 28 rfl (by decide)
  have etqx : ∀ I J, TPf R I J x = TPq I J x b_4 b_5 b_3 b_1 b_2 := fun I J => by simp only [TPf, rr_, Option.getD_some, hb_4, hb_5, hb_3, hb_1, hb_2]
  have wtqx : tqw_ L κ ow x b_4 b_5 b_3 b_1 b_2 := ⟨⟨hLx, hb_4L, hb_5L, hb_3L, hb_1L, hb_2L⟩, ⟨(ro_o hkx (by decide)), (ro_a hb_4k (by decide) hb_4o hkx rfl), (ro_a hb_5k (by decide) hb_5o hkx rfl), (ro_a hb_3k (by decide) hb_3o hkx rfl), (ro_a hb_1k (by decide) hb_1o hkx rfl), (ro_a hb_2k (by decide) hb_2o hkx rfl)⟩⟩
  obtain ⟨s_6, hs_6⟩ : ∃ z, TPq I J x b_4 b_5 b_3 b_1 b_2 = z := ⟨_, rfl⟩
  refine g_lo (is := [0, 1, 2, 3]) (lo2 := [(0, .ref x), (1, .int a0), (2, .int a1), (3, .long a2)]) rfl ?_
  refine g_aload_n C 0 dX10_addToken_0 rfl rfl ?_
  obtain ⟨x_7, hx_7, rx_7⟩ := ex_get (I := I) (a := x) (j := 6) (lo := 0) (hi := 901) hU.1 hLx (ro_o hkx (by decide)) rfl
  have f_8 : s_6.n = x_7 := (congrArg TP_.n hs_6).symm.trans hx_7
  refine g_getI C K hLx hkx f_10_33 (v := x_7) hx_7 dX10_addToken_1 ?_
  refine g_aload_n C 0 dX10_addToken_4 rfl rfl ?_
  refine g_getR C K hLx hkx f_10_19 hb_3 dX10_addToken_5 ?_
  refine g_alenI C K hb_3L hb_3k (v := 901) (by rw [hb_3n]; rfl) dX10_addToken_8 ?_
  refine g_icmp_ge C (tgt := 52) dX10_addToken_9 (by decide) (fun h_9 => ?_) (fun h_9 => ?_)
  · skip
    have r_10 := le_r (h_9) rc_901 rx_7
    exact g_vret B K rfl ⟨hU, hF, hG, (by simp only [fAddToken, etqx, hs_6, hx_7, f_8, h_9, if_true, if_false, tqM_by_, tqM_wd, tqM_tk, tqM_pl, tqM_vl, tqM_len, tqM_n, tqM_at_, tqM_token, tqM_place, tqM_value, tqM_fault, tqM_fat, TP_.w_by_, TP_.w_wd, TP_.w_tk, TP_.w_pl, TP_.w_vl, TP_.w_len, TP_.w_n, TP_.w_at_, TP_.w_token, TP_.w_place, TP_.w_value, TP_.w_fault, TP_.w_fat])⟩ dX10_addToken_52
  · skip
    have r_11 := lt_l (hi := 900) (nle h_9) rx_7 rc_901 (by decide)
    refine g_aload_n C 0 dX10_addToken_12 rfl rfl ?_
    refine g_getR C K hLx hkx f_10_19 hb_3 dX10_addToken_13 ?_
    refine g_aload_n C 0 dX10_addToken_16 rfl rfl ?_
    refine g_getI C K hLx hkx f_10_33 (v := x_7) hx_7 dX10_addToken_17 ?_
    refine g_iload_n C 1 dX10_addToken_20 rfl rfl ?_
    refine h_iast C K hb_3L hb_3k (x_7.toNatClampNeg) (rfl) (ix_0 r_11 (by decide)) (ix_lt r_11 (by decide) hb_3n (by decide)) dX10_addToken_21 (fun I_12 hI_12 => ?_)
    have hU_13 := iv_put W9 hU hI_12 (ro_a hb_3k (by decide) hb_3o hkx rfl) (lo := (-2147483648)) (hi := 2147483647) (rfl) (rg_all _) rfl
    have hF_14 := fq_puta hF hI_12 (ro_a hb_3k (by decide) hb_3o hkx rfl) (by decide) (by decide)
    have hs_15 : TPq I_12 J x b_4 b_5 b_3 b_1 b_2 = (TP_.w_tk s_6 (up1 (s_6.tk) (x_7.toNatClampNeg) (a0))) := by rw [hI_12]; exact ((tq_tk wtqx).trans (congrArg (fun z : TP_ => TP_.w_tk z (up1 (z.tk) (x_7.toNatClampNeg) (a0))) hs_6)).trans rfl
    refine g_aload_n C 0 dX10_addToken_22 rfl rfl ?_
    refine g_getR C K hLx hkx f_10_23 hb_1 dX10_addToken_23 ?_
    refine g_aload_n C 0 dX10_addToken_26 rfl rfl ?_
    refine g_getI C K hLx hkx f_10_33 (v := x_7) (kp_k (κ := κ) hI_12 (by rw [hkx, hb_3k]; decide) hx_7) dX10_addToken_27 ?_
    refine g_iload_n C 2 dX10_addToken_30 rfl rfl ?_
    refine h_iast C K hb_1L hb_1k (x_7.toNatClampNeg) (rfl) (ix_0 r_11 (by decide)) (ix_lt r_11 (by decide) hb_1n (by decide)) dX10_addToken_31 (fun I_16 hI_16 => ?_)
    have hU_17 := iv_put W9 hU_13 hI_16 (ro_a hb_1k (by decide) hb_1o hkx rfl) (lo := (-2147483648)) (hi := 2147483647) (rfl) (rg_all _) rfl
    have hF_18 := fq_puta hF_14 hI_16 (ro_a hb_1k (by decide) hb_1o hkx rfl) (by decide) (by decide)
    have hs_19 : TPq I_16 J x b_4 b_5 b_3 b_1 b_2 = (TP_.w_pl (TP_.w_tk s_6 (up1 (s_6.tk) (x_7.toNatClampNeg) (a0))) (up1 (s_6.pl) (x_7.toNatClampNeg) (a1))) := by rw [hI_16]; exact ((tq_pl wtqx).trans (congrArg (fun z : TP_ => TP_.w_pl z (up1 (z.pl) (x_7.toNatClampNeg) (a1))) hs_15)).trans rfl
    refine g_aload_n C 0 dX10_addToken_32 rfl rfl ?_
    refine g_getR C K hLx hkx f_10_26 hb_2 dX10_addToken_33 ?_
    refine g_aload_n C 0 dX10_addToken_36 rfl rfl ?_
    refine g_getI C K hLx hkx f_10_33 (v := x_7) (kp_k (κ := κ) hI_16 (by rw [hkx, hb_1k]; decide) (kp_k (κ := κ) hI_12 (by rw [hkx, hb_3k]; decide) hx_7)) dX10_addToken_37 ?_
    refine g_lload_n C 3 dX10_addToken_40 rfl rfl ?_
    refine h_last C K hb_2L hb_2k (x_7.toNatClampNeg) (rfl) (ix_0 r_11 (by decide)) (ix_lt r_11 (by decide) hb_2n (by decide)) dX10_addToken_41 (fun J_20 hJ_20 => ?_)
    have hG_21 := fq_puta hG hJ_20 (ro_a hb_2k (by decide) hb_2o hkx rfl) (by decide) (by decide)
    have hs_22 : TPq I_16 J_20 x b_4 b_5 b_3 b_1 b_2 = (TP_.w_vl (TP_.w_pl (TP_.w_tk s_6 (up1 (s_6.tk) (x_7.toNatClampNeg) (a0))) (up1 (s_6.pl) (x_7.toNatClampNeg) (a1))) (up1 (s_6.vl) (x_7.toNatClampNeg) (a2))) := by rw [hJ_20]; exact ((tq_vl wtqx).trans (congrArg (fun z : TP_ => TP_.w_vl z (up1 (z.vl) (x_7.toNatClampNeg) (a2))) hs_19)).trans rfl
    refine g_aload_n C 0 dX10_addToken_42 rfl rfl ?_
    refine g_dup C dX10_addToken_43 rfl ?_
    refine g_getI C K hLx hkx f_10_33 (v := x_7) (kp_k (κ := κ) hI_16 (by rw [hkx, hb_1k]; decide) (kp_k (κ := κ) hI_12 (by rw [hkx, hb_3k]; decide) hx_7)) dX10_addToken_44 ?_
    refine g_iconst C (v := 1) dX10_addToken_47 (by decide) ?_
    obtain ⟨x_23, hx_23, rx_23, tx_23⟩ := ex_add 1 901 r_11 rc_1 (by decide) (by decide) (by decide) (by decide)
    refine g_iadd C (v := x_23) dX10_addToken_48 hx_23 ?_
    refine h_putI C K hLx hkx f_10_33 p_10_6 dX10_addToken_49 (fun I_24 hI_24 => ?_)
    have hU_25 := iv_put W9 hU_17 hI_24 (ro_o hkx (by decide)) (lo := 0) (hi := 901) (rfl) (rg_w rx_23 (by decide) (by decide)) rfl
    have hF_26 := fq_puto hF_18 hI_24 hkx (by decide) (by decide)
    have hs_27 : TPq I_24 J_20 x b_4 b_5 b_3 b_1 b_2 = (TP_.w_n (TP_.w_vl (TP_.w_pl (TP_.w_tk s_6 (up1 (s_6.tk) (x_7.toNatClampNeg) (a0))) (up1 (s_6.pl) (x_7.toNatClampNeg) (a1))) (up1 (s_6.vl) (x_7.toNatClampNeg) (a2))) (x_23)) := by rw [hI_24]; exact ((tq_n wtqx).trans (congrArg (fun z : TP_ => TP_.w_n z (x_23)) hs_22)).trans rfl
    exact g_vret B K rfl ⟨hU_25, hF_26, hG_21, (by simp only [fAddToken, etqx, hs_27, hs_6, hx_7, f_8, h_9, (nle h_9), hx_23, if_true, if_false, tqM_by_, tqM_wd, tqM_tk, tqM_pl, tqM_vl, tqM_len, tqM_n, tqM_at_, tqM_token, tqM_place, tqM_value, tqM_fault, tqM_fat, TP_.w_by_, TP_.w_wd, TP_.w_tk, TP_.w_pl, TP_.w_vl, TP_.w_len, TP_.w_n, TP_.w_at_, TP_.w_token, TP_.w_place, TP_.w_value, TP_.w_fault, TP_.w_fat])⟩ dX10_addToken_52
set_option maxRecDepth 100000 in
set_option maxHeartbeats 8000000 in
theorem c_X10_advance {l : Launch} {D : va_G} {cy : Nat → ClassId} {L : List Nat} {κ ln : Nat → Nat} {R : Nat → Nat → Option Nat} {I : Nat → Nat → Int32} {J : Nat → Nat → Int64} {ow : Nat → Nat × Nat} (W9 : ∀ a ∈ L, Shp L κ ln R ow a) {x : Nat} (hLx : x ∈ L) (hkx : κ x = 10) (hU : Iv L κ R ow I) : CtV l yX10_advance cX10_advance 1 none { frames := 0, cells := 0, slots := 0, locals := 0 } D cy L κ ln R I J [.ref x] (fun I2 J2 => Iv L κ R ow I2 ∧ Fq L κ ow [1007, 1008, 1009] I I2 ∧ Fq L κ ow [1010] J J2 ∧ (TPf R I2 J2 x = fAdvance (TPf R I J x))) := by
  refine CtV.of (by decide +kernel) (Nat.le_of_ble_eq_true rfl) ?_
  intro p e s m below meth c B K
  have C := B.1
  have hF : Fq L κ ow [1007, 1008, 1009] I I := fq_rf
  have hG : Fq L κ ow [1010] J J := fq_rf
  obtain ⟨b_1, hb_1, hb_1L, hb_1k, hb_1n, hb_1o⟩ := shp_a (W9 x hLx) hkx 3 14 901 rfl (by decide)
  obtain ⟨b_2, hb_2, hb_2L, hb_2k, hb_2n, hb_2o⟩ := shp_a (W9 x hLx) hkx 4 15 901 rfl (by decide)
  obtain ⟨b_3, hb_3, hb_3L, hb_3k, hb_3n, hb_3o⟩ := shp_a (W9 x hLx) hkx 2 14 901 rfl (by decide)
  obtain ⟨b_4, hb_4, hb_4L, hb_4k, hb_4n, hb_4o⟩ := shp_a (W9 x hLx) hkx 0 13 940 rfl (by decide)
  obtain ⟨b_5, hb_5, hb_5L, hb_5k, hb_5n, hb_5o⟩ := shp_a (W9 x hLx) hkx 1 15 28 rfl (by decide)
  have etqx : ∀ I J, TPf R I J x = TPq I J x b_4 b_5 b_3 b_1 b_2 := fun I J => by simp only [TPf, rr_, Option.getD_some, hb_4, hb_5, hb_3, hb_1, hb_2]
  have wtqx : tqw_ L κ ow x b_4 b_5 b_3 b_1 b_2 := ⟨⟨hLx, hb_4L, hb_5L, hb_3L, hb_1L, hb_2L⟩, ⟨(ro_o hkx (by decide)), (ro_a hb_4k (by decide) hb_4o hkx rfl), (ro_a hb_5k (by decide) hb_5o hkx rfl), (ro_a hb_3k (by decide) hb_3o hkx rfl), (ro_a hb_1k (by decide) hb_1o hkx rfl), (ro_a hb_2k (by decide) hb_2o hkx rfl)⟩⟩
  obtain ⟨s_6, hs_6⟩ : ∃ z, TPq I J x b_4 b_5 b_3 b_1 b_2 = z := ⟨_, rfl⟩
  refine g_lo (is := [0]) (lo2 := [(0, .ref x)]) rfl ?_
  refine g_aload_n C 0 dX10_advance_0 rfl rfl ?_
  obtain ⟨x_7, hx_7, rx_7⟩ := ex_get (I := I) (a := x) (j := 7) (lo := (-1)) (hi := 900) hU.1 hLx (ro_o hkx (by decide)) rfl
  have f_8 : s_6.at_ = x_7 := (congrArg TP_.at_ hs_6).symm.trans hx_7
  refine g_getI C K hLx hkx f_10_36 (v := x_7) hx_7 dX10_advance_1 ?_
  refine g_iconst C (v := 1) dX10_advance_4 (by decide) ?_
  obtain ⟨x_9, hx_9, rx_9, tx_9⟩ := ex_add 0 901 rx_7 rc_1 (by decide) (by decide) (by decide) (by decide)
  refine g_iadd C (v := x_9) dX10_advance_5 hx_9 ?_
  refine g_aload_n C 0 dX10_advance_6 rfl rfl ?_
  obtain ⟨x_10, hx_10, rx_10⟩ := ex_get (I := I) (a := x) (j := 6) (lo := 0) (hi := 901) hU.1 hLx (ro_o hkx (by decide)) rfl
  have f_11 : s_6.n = x_10 := (congrArg TP_.n hs_6).symm.trans hx_10
  refine g_getI C K hLx hkx f_10_33 (v := x_10) hx_10 dX10_advance_7 ?_
  refine g_icmp_ge C (tgt := 62) dX10_advance_10 (by decide) (fun h_12 => ?_) (fun h_12 => ?_)
  · skip
    exact g_vret B K rfl ⟨hU, hF, hG, (by simp only [fAdvance, etqx, hs_6, hx_7, f_8, hx_9, hx_10, f_11, h_12, if_true, if_false, tqM_by_, tqM_wd, tqM_tk, tqM_pl, tqM_vl, tqM_len, tqM_n, tqM_at_, tqM_token, tqM_place, tqM_value, tqM_fault, tqM_fat, TP_.w_by_, TP_.w_wd, TP_.w_tk, TP_.w_pl, TP_.w_vl, TP_.w_len, TP_.w_n, TP_.w_at_, TP_.w_token, TP_.w_place, TP_.w_value, TP_.w_fault, TP_.w_fat])⟩ dX10_advance_62
  · skip
    have r_13 := lt_l (hi := 900) (nle h_12) rx_9 rx_10 (by decide)
    have r_14 := lt_r (lo := 1) (nle h_12) rx_9 rx_10 (by decide)
    refine g_aload_n C 0 dX10_advance_13 rfl rfl ?_
    refine g_dup C dX10_advance_14 rfl ?_
    refine g_getI C K hLx hkx f_10_36 (v := x_7) hx_7 dX10_advance_15 ?_
    refine g_iconst C (v := 1) dX10_advance_18 (by decide) ?_
    refine g_iadd C (v := x_9) dX10_advance_19 hx_9 ?_
    refine h_putI C K hLx hkx f_10_36 p_10_7 dX10_advance_20 (fun I_15 hI_15 => ?_)
    have hU_16 := iv_put W9 hU hI_15 (ro_o hkx (by decide)) (lo := (-1)) (hi := 900) (rfl) (rg_w r_13 (by decide) (by decide)) rfl
    have hF_17 := fq_puto hF hI_15 hkx (by decide) (by decide)
    have hs_18 : TPq I_15 J x b_4 b_5 b_3 b_1 b_2 = (TP_.w_at_ s_6 (x_9)) := by rw [hI_15]; exact ((tq_at_ wtqx).trans (congrArg (fun z : TP_ => TP_.w_at_ z (x_9)) hs_6)).trans rfl
    refine g_aload_n C 0 dX10_advance_23 rfl rfl ?_
    refine g_aload_n C 0 dX10_advance_24 rfl rfl ?_
    refine g_getR C K hLx hkx f_10_19 hb_3 dX10_advance_25 ?_
    refine g_aload_n C 0 dX10_advance_28 rfl rfl ?_
    refine g_getI C K hLx hkx f_10_36 (v := x_9) (kp_s hI_15) dX10_advance_29 ?_
    obtain ⟨x_19, hx_19, rx_19⟩ := ex_any (z0 := I_15 b_3 (x_9.toNatClampNeg))
    refine h_iald C K hb_3L hb_3k (v := x_19) (x_9.toNatClampNeg) (rfl) (ix_0 r_13 (by decide)) (ix_lt r_13 (by decide) hb_3n (by decide)) hx_19 dX10_advance_32 ?_
    have f_20 : s_6.tk (x_9.toNatClampNeg) = x_19 := (congrFun (congrArg TP_.tk hs_18) _).symm.trans hx_19
    refine h_putI C K hLx hkx f_10_39 p_10_8 dX10_advance_33 (fun I_21 hI_21 => ?_)
    have hU_22 := iv_put W9 hU_16 hI_21 (ro_o hkx (by decide)) (lo := (-2147483648)) (hi := 2147483647) (rfl) (rx_19) rfl
    have hF_23 := fq_puto hF_17 hI_21 hkx (by decide) (by decide)
    have hs_24 : TPq I_21 J x b_4 b_5 b_3 b_1 b_2 = (TP_.w_token (TP_.w_at_ s_6 (x_9)) (x_19)) := by rw [hI_21]; exact ((tq_token wtqx).trans (congrArg (fun z : TP_ => TP_.w_token z (x_19)) hs_18)).trans rfl
    refine g_aload_n C 0 dX10_advance_36 rfl rfl ?_
    refine g_aload_n C 0 dX10_advance_37 rfl rfl ?_
    refine g_getR C K hLx hkx f_10_23 hb_1 dX10_advance_38 ?_
    refine g_aload_n C 0 dX10_advance_41 rfl rfl ?_
    refine g_getI C K hLx hkx f_10_36 (v := x_9) (kp_j hI_21 (by decide) (kp_s hI_15)) dX10_advance_42 ?_
    obtain ⟨x_25, hx_25, rx_25⟩ := ex_any (z0 := I_21 b_1 (x_9.toNatClampNeg))
    refine h_iald C K hb_1L hb_1k (v := x_25) (x_9.toNatClampNeg) (rfl) (ix_0 r_13 (by decide)) (ix_lt r_13 (by decide) hb_1n (by decide)) hx_25 dX10_advance_45 ?_
    have f_26 : s_6.pl (x_9.toNatClampNeg) = x_25 := (congrFun (congrArg TP_.pl hs_24) _).symm.trans hx_25
    refine h_putI C K hLx hkx f_10_42 p_10_9 dX10_advance_46 (fun I_27 hI_27 => ?_)
    have hU_28 := iv_put W9 hU_22 hI_27 (ro_o hkx (by decide)) (lo := (-2147483648)) (hi := 2147483647) (rfl) (rx_25) rfl
    have hF_29 := fq_puto hF_23 hI_27 hkx (by decide) (by decide)
    have hs_30 : TPq I_27 J x b_4 b_5 b_3 b_1 b_2 = (TP_.w_place (TP_.w_token (TP_.w_at_ s_6 (x_9)) (x_19)) (x_25)) := by rw [hI_27]; exact ((tq_place wtqx).trans (congrArg (fun z : TP_ => TP_.w_place z (x_25)) hs_24)).trans rfl
    refine g_aload_n C 0 dX10_advance_49 rfl rfl ?_
    refine g_aload_n C 0 dX10_advance_50 rfl rfl ?_
    refine g_getR C K hLx hkx f_10_26 hb_2 dX10_advance_51 ?_
    refine g_aload_n C 0 dX10_advance_54 rfl rfl ?_
    refine g_getI C K hLx hkx f_10_36 (v := x_9) (kp_j hI_27 (by decide) (kp_j hI_21 (by decide) (kp_s hI_15))) dX10_advance_55 ?_
    obtain ⟨y_31, hy_31⟩ : ∃ z, J b_2 (x_9.toNatClampNeg) = z := ⟨_, rfl⟩
    have f_32 : s_6.vl (x_9.toNatClampNeg) = y_31 := (congrFun (congrArg TP_.vl hs_30) _).symm.trans hy_31
    refine h_lald C K hb_2L hb_2k (v := y_31) (x_9.toNatClampNeg) (rfl) (ix_0 r_13 (by decide)) (ix_lt r_13 (by decide) hb_2n (by decide)) hy_31 dX10_advance_58 ?_
    refine h_putJ C K hLx hkx f_10_45 p_10_10 dX10_advance_59 (fun J_33 hJ_33 => ?_)
    have hG_34 := fq_puto hG hJ_33 hkx (by decide) (by decide)
    have hs_35 : TPq I_27 J_33 x b_4 b_5 b_3 b_1 b_2 = (TP_.w_value (TP_.w_place (TP_.w_token (TP_.w_at_ s_6 (x_9)) (x_19)) (x_25)) (y_31)) := by rw [hJ_33]; exact ((tq_value wtqx).trans (congrArg (fun z : TP_ => TP_.w_value z (y_31)) hs_30)).trans rfl
    exact g_vret B K rfl ⟨hU_28, hF_29, hG_34, (by simp only [fAdvance, etqx, hs_35, hs_6, hx_7, f_8, hx_9, hx_10, f_11, h_12, (nle h_12), hx_19, f_20, hx_25, f_26, hy_31, f_32, if_true, if_false, tqM_by_, tqM_wd, tqM_tk, tqM_pl, tqM_vl, tqM_len, tqM_n, tqM_at_, tqM_token, tqM_place, tqM_value, tqM_fault, tqM_fat, TP_.w_by_, TP_.w_wd, TP_.w_tk, TP_.w_pl, TP_.w_vl, TP_.w_len, TP_.w_n, TP_.w_at_, TP_.w_token, TP_.w_place, TP_.w_value, TP_.w_fault, TP_.w_fat])⟩ dX10_advance_62
set_option maxRecDepth 100000 in
set_option maxHeartbeats 8000000 in
theorem c_X10_isDigit {l : Launch} {D : va_G} {cy : Nat → ClassId} {L : List Nat} {κ ln : Nat → Nat} {R : Nat → Nat → Option Nat} {I : Nat → Nat → Int32} {J : Nat → Nat → Int64} {ow : Nat → Nat × Nat} (W9 : ∀ a ∈ L, Shp L κ ln R ow a) (a0 : Int32) (ra0 : Rg (-128) 127 a0) (hU : Iv L κ R ow I) : CtI l yX10_isDigit cX10_isDigit 1 (some .boolean) { frames := 0, cells := 0, slots := 0, locals := 0 } D cy L κ ln R I J [.int a0] (fun r I2 J2 => I = I2 ∧ J = J2 ∧ Rg 0 1 r ∧ (r = isDc a0)) := by
  refine CtI.of (by decide +kernel) (Nat.le_of_ble_eq_true rfl) ?_
  intro p e s m below meth c B K
  have C := B.1
  refine g_lo (is := [0]) (lo2 := [(0, .int a0)]) rfl ?_
  refine g_iload_n C 0 dX10_isDigit_0 rfl rfl ?_
  refine g_bipush C (v := 48) dX10_isDigit_1 (by decide) ?_
  refine g_icmp_lt C (tgt := 16) dX10_isDigit_3 (by decide) (fun h_1 => ?_) (fun h_1 => ?_)
  · skip
    have r_2 := lt_l (hi := 47) (h_1) ra0 rc_48 (by decide)
    refine g_iconst C (v := 0) dX10_isDigit_16 (by decide) ?_
    exact g_zret (ty := .boolean) (r := 0) B K rfl (rfl) ⟨rfl, rfl, rg_w rc_0 (by decide) (by decide), (by simp only [isDc, h_1, if_true, if_false])⟩ dX10_isDigit_17
  · skip
    have r_3 := le_r (nlt h_1) rc_48 ra0
    refine g_iload_n C 0 dX10_isDigit_6 rfl rfl ?_
    refine g_bipush C (v := 57) dX10_isDigit_7 (by decide) ?_
    refine g_icmp_gt C (tgt := 16) dX10_isDigit_9 (by decide) (fun h_4 => ?_) (fun h_4 => ?_)
    · skip
      have r_5 := lt_r (lo := 58) (h_4) rc_57 r_3 (by decide)
      refine g_iconst C (v := 0) dX10_isDigit_16 (by decide) ?_
      exact g_zret (ty := .boolean) (r := 0) B K rfl (rfl) ⟨rfl, rfl, rg_w rc_0 (by decide) (by decide), (by simp only [isDc, h_1, (nlt h_1), h_4, if_true, if_false])⟩ dX10_isDigit_17
    · skip
      have r_6 := le_l (nlt h_4) r_3 rc_57
      refine g_iconst C (v := 1) dX10_isDigit_12 (by decide) ?_
      refine g_goto C (tgt := 17) dX10_isDigit_13 (by decide) ?_
      exact g_zret (ty := .boolean) (r := 1) B K rfl (rfl) ⟨rfl, rfl, rg_w rc_1 (by decide) (by decide), (by simp only [isDc, h_1, (nlt h_1), h_4, (nlt h_4), if_true, if_false])⟩ dX10_isDigit_17
set_option maxRecDepth 100000 in
set_option maxHeartbeats 8000000 in
theorem c_X10_isLetter {l : Launch} {D : va_G} {cy : Nat → ClassId} {L : List Nat} {κ ln : Nat → Nat} {R : Nat → Nat → Option Nat} {I : Nat → Nat → Int32} {J : Nat → Nat → Int64} {ow : Nat → Nat × Nat} (W9 : ∀ a ∈ L, Shp L κ ln R ow a) (a0 : Int32) (ra0 : Rg (-128) 127 a0) (hU : Iv L κ R ow I) : CtI l yX10_isLetter cX10_isLetter 1 (some .boolean) { frames := 0, cells := 0, slots := 0, locals := 0 } D cy L κ ln R I J [.int a0] (fun r I2 J2 => I = I2 ∧ J = J2 ∧ Rg 0 1 r ∧ (r = isLc a0)) := by
  refine CtI.of (by decide +kernel) (Nat.le_of_ble_eq_true rfl) ?_
  intro p e s m below meth c B K
  have C := B.1
  refine g_lo (is := [0]) (lo2 := [(0, .int a0)]) rfl ?_
  refine g_iload_n C 0 dX10_isLetter_0 rfl rfl ?_
  refine g_bipush C (v := 97) dX10_isLetter_1 (by decide) ?_
  refine g_icmp_lt C (tgt := 16) dX10_isLetter_3 (by decide) (fun h_1 => ?_) (fun h_1 => ?_)
  · skip
    have r_2 := lt_l (hi := 96) (h_1) ra0 rc_97 (by decide)
    refine g_iconst C (v := 0) dX10_isLetter_16 (by decide) ?_
    exact g_zret (ty := .boolean) (r := 0) B K rfl (rfl) ⟨rfl, rfl, rg_w rc_0 (by decide) (by decide), (by simp only [isLc, h_1, if_true, if_false])⟩ dX10_isLetter_17
  · skip
    have r_3 := le_r (nlt h_1) rc_97 ra0
    refine g_iload_n C 0 dX10_isLetter_6 rfl rfl ?_
    refine g_bipush C (v := 122) dX10_isLetter_7 (by decide) ?_
    refine g_icmp_gt C (tgt := 16) dX10_isLetter_9 (by decide) (fun h_4 => ?_) (fun h_4 => ?_)
    · skip
      have r_5 := lt_r (lo := 123) (h_4) rc_122 r_3 (by decide)
      refine g_iconst C (v := 0) dX10_isLetter_16 (by decide) ?_
      exact g_zret (ty := .boolean) (r := 0) B K rfl (rfl) ⟨rfl, rfl, rg_w rc_0 (by decide) (by decide), (by simp only [isLc, h_1, (nlt h_1), h_4, if_true, if_false])⟩ dX10_isLetter_17
    · skip
      have r_6 := le_l (nlt h_4) r_3 rc_122
      refine g_iconst C (v := 1) dX10_isLetter_12 (by decide) ?_
      refine g_goto C (tgt := 17) dX10_isLetter_13 (by decide) ?_
      exact g_zret (ty := .boolean) (r := 1) B K rfl (rfl) ⟨rfl, rfl, rg_w rc_1 (by decide) (by decide), (by simp only [isLc, h_1, (nlt h_1), h_4, (nlt h_4), if_true, if_false])⟩ dX10_isLetter_17
set_option maxRecDepth 100000 in
set_option maxHeartbeats 8000000 in
theorem c_X10_isSign {l : Launch} {D : va_G} {cy : Nat → ClassId} {L : List Nat} {κ ln : Nat → Nat} {R : Nat → Nat → Option Nat} {I : Nat → Nat → Int32} {J : Nat → Nat → Int64} {ow : Nat → Nat × Nat} (W9 : ∀ a ∈ L, Shp L κ ln R ow a) (a0 : Int32) (ra0 : Rg (-128) 127 a0) (hU : Iv L κ R ow I) : CtI l yX10_isSign cX10_isSign 1 (some .boolean) { frames := 0, cells := 0, slots := 0, locals := 0 } D cy L κ ln R I J [.int a0] (fun r I2 J2 => I = I2 ∧ J = J2 ∧ Rg 0 1 r ∧ (r = isSg a0)) := by
  refine CtI.of (by decide +kernel) (Nat.le_of_ble_eq_true rfl) ?_
  intro p e s m below meth c B K
  have C := B.1
  refine g_lo (is := [0]) (lo2 := [(0, .int a0)]) rfl ?_
  refine g_iload_n C 0 dX10_isSign_0 rfl rfl ?_
  refine g_bipush C (v := 40) dX10_isSign_1 (by decide) ?_
  refine g_icmp_eq C (tgt := 24) dX10_isSign_3 (by decide) (fun h_1 => ?_) (fun h_1 => ?_)
  · skip
    have r_2 := (⟨(eq_rg (h_1) rc_40).1, (eq_rg (h_1) rc_40).2⟩ : Rg 40 40 a0)
    refine g_iconst C (v := 1) dX10_isSign_24 (by decide) ?_
    refine g_goto C (tgt := 29) dX10_isSign_25 (by decide) ?_
    exact g_zret (ty := .boolean) (r := 1) B K rfl (rfl) ⟨rfl, rfl, rg_w rc_1 (by decide) (by decide), (by simp only [isSg, (eq_true h_1), if_true, if_false])⟩ dX10_isSign_29
  · skip
    have n_3 : ¬ a0 = 40 := h_1
    refine g_iload_n C 0 dX10_isSign_6 rfl rfl ?_
    refine g_bipush C (v := 41) dX10_isSign_7 (by decide) ?_
    refine g_icmp_eq C (tgt := 24) dX10_isSign_9 (by decide) (fun h_4 => ?_) (fun h_4 => ?_)
    · skip
      have r_5 := (⟨(eq_rg (h_4) rc_41).1, (eq_rg (h_4) rc_41).2⟩ : Rg 41 41 a0)
      refine g_iconst C (v := 1) dX10_isSign_24 (by decide) ?_
      refine g_goto C (tgt := 29) dX10_isSign_25 (by decide) ?_
      exact g_zret (ty := .boolean) (r := 1) B K rfl (rfl) ⟨rfl, rfl, rg_w rc_1 (by decide) (by decide), (by simp only [isSg, h_1, (eq_true h_4), if_true, if_false])⟩ dX10_isSign_29
    · skip
      have n_6 : ¬ a0 = 41 := h_4
      refine g_iload_n C 0 dX10_isSign_12 rfl rfl ?_
      refine g_bipush C (v := 59) dX10_isSign_13 (by decide) ?_
      refine g_icmp_lt C (tgt := 28) dX10_isSign_15 (by decide) (fun h_7 => ?_) (fun h_7 => ?_)
      · skip
        have r_8 := lt_l (hi := 58) (h_7) ra0 rc_59 (by decide)
        refine g_iconst C (v := 0) dX10_isSign_28 (by decide) ?_
        exact g_zret (ty := .boolean) (r := 0) B K rfl (rfl) ⟨rfl, rfl, rg_w rc_0 (by decide) (by decide), (by simp only [isSg, h_1, h_4, h_7, if_true, if_false])⟩ dX10_isSign_29
      · skip
        have r_9 := le_r (nlt h_7) rc_59 ra0
        refine g_iload_n C 0 dX10_isSign_18 rfl rfl ?_
        refine g_bipush C (v := 62) dX10_isSign_19 (by decide) ?_
        refine g_icmp_gt C (tgt := 28) dX10_isSign_21 (by decide) (fun h_10 => ?_) (fun h_10 => ?_)
        · skip
          have r_11 := lt_r (lo := 63) (h_10) rc_62 r_9 (by decide)
          refine g_iconst C (v := 0) dX10_isSign_28 (by decide) ?_
          exact g_zret (ty := .boolean) (r := 0) B K rfl (rfl) ⟨rfl, rfl, rg_w rc_0 (by decide) (by decide), (by simp only [isSg, h_1, h_4, h_7, (nlt h_7), h_10, if_true, if_false])⟩ dX10_isSign_29
        · skip
          have r_12 := le_l (nlt h_10) r_9 rc_62
          refine g_iconst C (v := 1) dX10_isSign_24 (by decide) ?_
          refine g_goto C (tgt := 29) dX10_isSign_25 (by decide) ?_
          exact g_zret (ty := .boolean) (r := 1) B K rfl (rfl) ⟨rfl, rfl, rg_w rc_1 (by decide) (by decide), (by simp only [isSg, h_1, h_4, h_7, (nlt h_7), h_10, (nlt h_10), if_true, if_false])⟩ dX10_isSign_29
set_option maxRecDepth 100000 in
set_option maxHeartbeats 8000000 in
theorem c_X10_tokenOfWord {l : Launch} {D : va_G} {cy : Nat → ClassId} {L : List Nat} {κ ln : Nat → Nat} {R : Nat → Nat → Option Nat} {I : Nat → Nat → Int32} {J : Nat → Nat → Int64} {ow : Nat → Nat × Nat} (W9 : ∀ a ∈ L, Shp L κ ln R ow a) {x : Nat} (hLx : x ∈ L) (hkx : κ x = 10) (a0 : Int64) (hU : Iv L κ R ow I) : CtI l yX10_tokenOfWord cX10_tokenOfWord 4 (some .int) { frames := 0, cells := 0, slots := 0, locals := 0 } D cy L κ ln R I J [.ref x, .long a0] (fun r I2 J2 => I = I2 ∧ J = J2 ∧ Rg 0 100 r ∧ (r = fTow a0 (TPf R I J x))) := by
  refine CtI.of (by decide +kernel) (Nat.le_of_ble_eq_true rfl) ?_
  intro p e s m below meth c B K
  have C := B.1
  obtain ⟨b_1, hb_1, hb_1L, hb_1k, hb_1n, hb_1o⟩ := shp_a (W9 x hLx) hkx 1 15 28 rfl (by decide)
  obtain ⟨b_2, hb_2, hb_2L, hb_2k, hb_2n, hb_2o⟩ := shp_a (W9 x hLx) hkx 0 13 940 rfl (by decide)
  obtain ⟨b_3, hb_3, hb_3L, hb_3k, hb_3n, hb_3o⟩ := shp_a (W9 x hLx) hkx 2 14 901 rfl (by decide)
  obtain ⟨b_4, hb_4, hb_4L, hb_4k, hb_4n, hb_4o⟩ := shp_a (W9 x hLx) hkx 3 14 901 rfl (by decide)
  obtain ⟨b_5, hb_5, hb_5L, hb_5k, hb_5n, hb_5o⟩ := shp_a (W9 x hLx) hkx 4 15 901 rfl (by decide)
  have etqx : ∀ I J, TPf R I J x = TPq I J x b_2 b_1 b_3 b_4 b_5 := fun I J => by simp only [TPf, rr_, Option.getD_some, hb_2, hb_1, hb_3, hb_4, hb_5]
  have wtqx : tqw_ L κ ow x b_2 b_1 b_3 b_4 b_5 := ⟨⟨hLx, hb_2L, hb_1L, hb_3L, hb_4L, hb_5L⟩, ⟨(ro_o hkx (by decide)), (ro_a hb_2k (by decide) hb_2o hkx rfl), (ro_a hb_1k (by decide) hb_1o hkx rfl), (ro_a hb_3k (by decide) hb_3o hkx rfl), (ro_a hb_4k (by decide) hb_4o hkx rfl), (ro_a hb_5k (by decide) hb_5o hkx rfl)⟩⟩
  obtain ⟨s_6, hs_6⟩ : ∃ z, TPq I J x b_2 b_1 b_3 b_4 b_5 = z := ⟨_, rfl⟩
  refine g_lo (is := [0, 1]) (lo2 := [(0, .ref x), (1, .long a0)]) rfl ?_
  have l_2 : ∀ (n_2 : Nat) (v_7 : Int32) (rv_7 : Rg 0 28 v_7) (hq_8 : tow s_6.wd a0 v_7 = tow s_6.wd a0 0) (hm_9 : 28 < (v_7 : Int32).toInt + (n_2 : Int)), WG p l e { frames := 0, cells := 0, slots := 0, locals := 0 } s m ([.ref x, .long a0] : List Value).toArray below meth c 4 0 0 (MQ below (Qi_ D cy L κ ln R (fun r I2 J2 => I = I2 ∧ J = J2 ∧ Rg 0 100 r ∧ (r = fTow a0 (TPf R I J x)))) ([.ref x, .long a0] : List Value).toArray s 0 0 (Al_ L)) D cy (Al_ L) s.heap L κ ln R I J 2 [(0, .ref x), (1, .long a0), (3, .int v_7)] [] := by
    intro n_2
    induction n_2 with
    | zero =>
      intro v_7 rv_7 hq_8 hm_9
      exact ms_0 rv_7 hm_9
    | succ n_2 ih_2 =>
      intro v_7 rv_7 hq_8 hm_9
      have hQ_10 := hq_8.symm
      have u_11 := tow_eq (wd := s_6.wd) (w := a0) (i := v_7) (rv_7)
      refine g_iload_n C 2 dX10_tokenOfWord_2 rfl rfl ?_
      refine g_bipush C (v := 28) dX10_tokenOfWord_3 (by decide) ?_
      refine g_icmp_ge C (tgt := 27) dX10_tokenOfWord_5 (by decide) (fun h_12 => ?_) (fun h_12 => ?_)
      · skip
        have r_13 := le_r (h_12) rc_28 rv_7
        refine g_bipush C (v := 100) dX10_tokenOfWord_27 (by decide) ?_
        exact g_zret (ty := .int) (r := 100) B K rfl (rfl) ⟨rfl, rfl, rg_w rc_100 (by decide) (by decide), (by (try simp only [h_12, if_true, if_false, tqM_by_, tqM_wd, tqM_tk, tqM_pl, tqM_vl, tqM_len, tqM_n, tqM_at_, tqM_token, tqM_place, tqM_value, tqM_fault, tqM_fat, TP_.w_by_, TP_.w_wd, TP_.w_tk, TP_.w_pl, TP_.w_vl, TP_.w_len, TP_.w_n, TP_.w_at_, TP_.w_token, TP_.w_place, TP_.w_value, TP_.w_fault, TP_.w_fat] at hQ_10); (try simp only [h_12, if_true, if_false, tqM_by_, tqM_wd, tqM_tk, tqM_pl, tqM_vl, tqM_len, tqM_n, tqM_at_, tqM_token, tqM_place, tqM_value, tqM_fault, tqM_fat, TP_.w_by_, TP_.w_wd, TP_.w_tk, TP_.w_pl, TP_.w_vl, TP_.w_len, TP_.w_n, TP_.w_at_, TP_.w_token, TP_.w_place, TP_.w_value, TP_.w_fault, TP_.w_fat] at u_11); simp only [fTow, etqx, hs_6, hQ_10, u_11, h_12, if_true, if_false, tqM_by_, tqM_wd, tqM_tk, tqM_pl, tqM_vl, tqM_len, tqM_n, tqM_at_, tqM_token, tqM_place, tqM_value, tqM_fault, tqM_fat, TP_.w_by_, TP_.w_wd, TP_.w_tk, TP_.w_pl, TP_.w_vl, TP_.w_len, TP_.w_n, TP_.w_at_, TP_.w_token, TP_.w_place, TP_.w_value, TP_.w_fault, TP_.w_fat])⟩ dX10_tokenOfWord_29
      · skip
        have r_14 := lt_l (hi := 27) (nle h_12) rv_7 rc_28 (by decide)
        refine g_aload_n C 0 dX10_tokenOfWord_8 rfl rfl ?_
        refine g_getR C K hLx hkx f_10_15 hb_1 dX10_tokenOfWord_9 ?_
        refine g_iload_n C 2 dX10_tokenOfWord_12 rfl rfl ?_
        obtain ⟨y_15, hy_15⟩ : ∃ z, J b_1 (v_7.toNatClampNeg) = z := ⟨_, rfl⟩
        have f_16 : s_6.wd (v_7.toNatClampNeg) = y_15 := (congrFun (congrArg TP_.wd hs_6) _).symm.trans hy_15
        refine h_lald C K hb_1L hb_1k (v := y_15) (v_7.toNatClampNeg) (rfl) (ix_0 r_14 (by decide)) (ix_lt r_14 (by decide) hb_1n (by decide)) hy_15 dX10_tokenOfWord_13 ?_
        refine g_lload_n C 1 dX10_tokenOfWord_14 rfl rfl ?_
        refine g_lcmpX C dX10_tokenOfWord_15 (fun x_17 rx_17 hx_17 => ?_)
        refine g_if_ne C (tgt := 21) dX10_tokenOfWord_16 (by decide) (fun h_18 => ?_) (fun h_18 => ?_)
        · skip
          have n_19 : ¬ x_17 = 0 := h_18
          obtain ⟨x_20, hx_20, rx_20, tx_20⟩ := ex_add (y := 1) 1 28 r_14 rc_1 (by decide) (by decide) (by decide) (by decide)
          refine g_iinc C dX10_tokenOfWord_21 (k := 2) (v := x_20) rfl hx_20 (by decide) (lo2 := [(3, .int x_20), (0, .ref x), (1, .long a0)]) rfl ?_
          refine g_goto C (tgt := 2) dX10_tokenOfWord_24 (by decide) ?_
          refine g_lo (is := [1, 2, 0]) (lo2 := [(0, .ref x), (1, .long a0), (3, .int x_20)]) rfl ?_
          exact ih_2 x_20 (rg_w rx_20 (by decide) (by decide)) (by (try simp only [h_12, (nle h_12), hy_15, f_16, hx_17, h_18, hx_20, if_true, if_false, tqM_by_, tqM_wd, tqM_tk, tqM_pl, tqM_vl, tqM_len, tqM_n, tqM_at_, tqM_token, tqM_place, tqM_value, tqM_fault, tqM_fat, TP_.w_by_, TP_.w_wd, TP_.w_tk, TP_.w_pl, TP_.w_vl, TP_.w_len, TP_.w_n, TP_.w_at_, TP_.w_token, TP_.w_place, TP_.w_value, TP_.w_fault, TP_.w_fat] at hQ_10); (try simp only [h_12, (nle h_12), hy_15, f_16, hx_17, h_18, hx_20, if_true, if_false, tqM_by_, tqM_wd, tqM_tk, tqM_pl, tqM_vl, tqM_len, tqM_n, tqM_at_, tqM_token, tqM_place, tqM_value, tqM_fault, tqM_fat, TP_.w_by_, TP_.w_wd, TP_.w_tk, TP_.w_pl, TP_.w_vl, TP_.w_len, TP_.w_n, TP_.w_at_, TP_.w_token, TP_.w_place, TP_.w_value, TP_.w_fault, TP_.w_fat] at u_11); simp only [etqx, hs_6, hQ_10, u_11, h_12, (nle h_12), hy_15, f_16, hx_17, h_18, hx_20, if_true, if_false, tqM_by_, tqM_wd, tqM_tk, tqM_pl, tqM_vl, tqM_len, tqM_n, tqM_at_, tqM_token, tqM_place, tqM_value, tqM_fault, tqM_fat, TP_.w_by_, TP_.w_wd, TP_.w_tk, TP_.w_pl, TP_.w_vl, TP_.w_len, TP_.w_n, TP_.w_at_, TP_.w_token, TP_.w_place, TP_.w_value, TP_.w_fault, TP_.w_fat]) (ms_1 hm_9 (ti_k tx_20 rc_1) (by decide))
        · skip
          have r_21 := (⟨(eq_rg (h_18) rc_0).1, (eq_rg (h_18) rc_0).2⟩ : Rg 0 0 x_17)
          refine g_iload_n C 2 dX10_tokenOfWord_19 rfl rfl ?_
          exact g_zret (ty := .int) (r := v_7) B K rfl (rfl) ⟨rfl, rfl, rg_w r_14 (by decide) (by decide), (by (try simp only [h_12, (nle h_12), hy_15, f_16, hx_17, (eq_true h_18), if_true, if_false, tqM_by_, tqM_wd, tqM_tk, tqM_pl, tqM_vl, tqM_len, tqM_n, tqM_at_, tqM_token, tqM_place, tqM_value, tqM_fault, tqM_fat, TP_.w_by_, TP_.w_wd, TP_.w_tk, TP_.w_pl, TP_.w_vl, TP_.w_len, TP_.w_n, TP_.w_at_, TP_.w_token, TP_.w_place, TP_.w_value, TP_.w_fault, TP_.w_fat] at hQ_10); (try simp only [h_12, (nle h_12), hy_15, f_16, hx_17, (eq_true h_18), if_true, if_false, tqM_by_, tqM_wd, tqM_tk, tqM_pl, tqM_vl, tqM_len, tqM_n, tqM_at_, tqM_token, tqM_place, tqM_value, tqM_fault, tqM_fat, TP_.w_by_, TP_.w_wd, TP_.w_tk, TP_.w_pl, TP_.w_vl, TP_.w_len, TP_.w_n, TP_.w_at_, TP_.w_token, TP_.w_place, TP_.w_value, TP_.w_fault, TP_.w_fat] at u_11); simp only [fTow, etqx, hs_6, hQ_10, u_11, h_12, (nle h_12), hy_15, f_16, hx_17, (eq_true h_18), if_true, if_false, tqM_by_, tqM_wd, tqM_tk, tqM_pl, tqM_vl, tqM_len, tqM_n, tqM_at_, tqM_token, tqM_place, tqM_value, tqM_fault, tqM_fat, TP_.w_by_, TP_.w_wd, TP_.w_tk, TP_.w_pl, TP_.w_vl, TP_.w_len, TP_.w_n, TP_.w_at_, TP_.w_token, TP_.w_place, TP_.w_value, TP_.w_fault, TP_.w_fat])⟩ dX10_tokenOfWord_20
  refine g_iconst C (v := 0) dX10_tokenOfWord_0 (by decide) ?_
  refine g_istore_n C dX10_tokenOfWord_1 rfl (by decide) (lo2 := [(3, .int 0), (0, .ref x), (1, .long a0)]) rfl ?_
  refine g_lo (is := [1, 2, 0]) (lo2 := [(0, .ref x), (1, .long a0), (3, .int 0)]) rfl ?_
  exact l_2 29 0 (rg_w rc_0 (by decide) (by decide)) (by simp only [fTow, etqx, hs_6, if_true, if_false, tqM_by_, tqM_wd, tqM_tk, tqM_pl, tqM_vl, tqM_len, tqM_n, tqM_at_, tqM_token, tqM_place, tqM_value, tqM_fault, tqM_fat, TP_.w_by_, TP_.w_wd, TP_.w_tk, TP_.w_pl, TP_.w_vl, TP_.w_len, TP_.w_n, TP_.w_at_, TP_.w_token, TP_.w_place, TP_.w_value, TP_.w_fault, TP_.w_fat]) (ms_s (a := 0) (b := 28) (N := 29) (rg_w rc_0 (by decide) (by decide)) (by decide))
set_option maxRecDepth 100000 in
set_option maxHeartbeats 8000000 in
theorem c_X10_withLetter {l : Launch} {D : va_G} {cy : Nat → ClassId} {L : List Nat} {κ ln : Nat → Nat} {R : Nat → Nat → Option Nat} {I : Nat → Nat → Int32} {J : Nat → Nat → Int64} {ow : Nat → Nat × Nat} (W9 : ∀ a ∈ L, Shp L κ ln R ow a) (a0 : Int64) (a1 : Int32) (ra1 : Rg (-128) 127 a1) (hU : Iv L κ R ow I) : CtL l yX10_withLetter cX10_withLetter 3 (some .long) { frames := 0, cells := 0, slots := 0, locals := 0 } D cy L κ ln R I J [.long a0, .int a1] (fun r I2 J2 => I = I2 ∧ J = J2 ∧ (r = wlt a0 a1)) := by
  refine CtL.of (by decide +kernel) (Nat.le_of_ble_eq_true rfl) ?_
  intro p e s m below meth c B K
  have C := B.1
  refine g_lo (is := [0, 1]) (lo2 := [(0, .long a0), (2, .int a1)]) rfl ?_
  refine g_lload_n C 0 dX10_withLetter_0 rfl rfl ?_
  refine g_iconst C (v := 5) dX10_withLetter_1 (by decide) ?_
  refine g_lshlE C dX10_withLetter_2 (fun y_1 hy_1 => ?_)
  refine g_iload_n C 1 dX10_withLetter_3 rfl rfl ?_
  refine g_bipush C (v := 97) dX10_withLetter_4 (by decide) ?_
  obtain ⟨x_2, hx_2, rx_2, tx_2⟩ := ex_sub (-225) 30 ra1 rc_97 (by decide) (by decide) (by decide) (by decide)
  refine g_isub C (v := x_2) dX10_withLetter_6 hx_2 ?_
  refine g_iconst C (v := 1) dX10_withLetter_7 (by decide) ?_
  obtain ⟨x_3, hx_3, rx_3, tx_3⟩ := ex_add (-224) 31 rx_2 rc_1 (by decide) (by decide) (by decide) (by decide)
  refine g_iadd C (v := x_3) dX10_withLetter_8 hx_3 ?_
  obtain ⟨y_4, hy_4⟩ : ∃ z, Int32.toInt64 x_3 = z := ⟨_, rfl⟩
  refine g_i2l C (v := y_4) dX10_withLetter_9 hy_4 ?_
  refine g_lorE C dX10_withLetter_10 (fun y_5 hy_5 => ?_)
  exact g_lret (r := y_5) B K rfl ⟨rfl, rfl, (by simp only [wlt, hy_1, hx_2, hx_3, hy_4, hy_5, if_true, if_false])⟩ dX10_withLetter_11
