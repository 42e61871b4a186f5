theorem dX11_accept_0 : decode cX11_accept 0 = .ok (.aload_n 0, 1) := by decide +kernel
theorem dX11_accept_1 : decode cX11_accept 1 = .ok (.getfield 19, 3) := by decide +kernel
theorem dX11_accept_4 : decode cX11_accept 4 = .ok (.iload_n 1, 1) := by decide +kernel
theorem dX11_accept_5 : decode cX11_accept 5 = .ok (.invokevirtual 133, 3) := by decide +kernel
theorem dX11_accept_8 : decode cX11_accept 8 = .ok (.ifCond .ne 5, 3) := by decide +kernel
theorem dX11_accept_11 : decode cX11_accept 11 = .ok (.iconst (-1), 1) := by decide +kernel
theorem dX11_accept_12 : decode cX11_accept 12 = .ok (.ireturn, 1) := by decide +kernel
theorem dX11_ask_0 : decode cX11_ask 0 = .ok (.aload_n 0, 1) := by decide +kernel
theorem dX11_ask_1 : decode cX11_ask 1 = .ok (.getfield 83, 3) := by decide +kernel
theorem dX11_ask_4 : decode cX11_ask 4 = .ok (.getfield 285, 3) := by decide +kernel
theorem dX11_ask_7 : decode cX11_ask 7 = .ok (.ireturn, 1) := by decide +kernel
theorem dX11_byteAt_0 : decode cX11_byteAt 0 = .ok (.iload_n 1, 1) := by decide +kernel
theorem dX11_byteAt_1 : decode cX11_byteAt 1 = .ok (.ifCond .lt 20, 3) := by decide +kernel
theorem dX11_byteAt_4 : decode cX11_byteAt 4 = .ok (.iload_n 1, 1) := by decide +kernel
theorem dX11_byteAt_5 : decode cX11_byteAt 5 = .ok (.aload_n 0, 1) := by decide +kernel
theorem dX11_byteAt_6 : decode cX11_byteAt 6 = .ok (.getfield 97, 3) := by decide +kernel
theorem dX11_byteAt_9 : decode cX11_byteAt 9 = .ok (.if_icmp .ge 12, 3) := by decide +kernel
theorem dX11_byteAt_21 : decode cX11_byteAt 21 = .ok (.iconst (-1), 1) := by decide +kernel
theorem dX11_byteAt_22 : decode cX11_byteAt 22 = .ok (.ireturn, 1) := by decide +kernel
theorem dX11_count_0 : decode cX11_count 0 = .ok (.iload_n 1, 1) := by decide +kernel
theorem dX11_count_1 : decode cX11_count 1 = .ok (.tableswitch 75 0 4 #[35, 43, 51, 59, 67], 35) := by decide +kernel
theorem dX11_count_36 : decode cX11_count 36 = .ok (.aload_n 0, 1) := by decide +kernel
theorem dX11_count_37 : decode cX11_count 37 = .ok (.getfield 19, 3) := by decide +kernel
theorem dX11_count_40 : decode cX11_count 40 = .ok (.getfield 213, 3) := by decide +kernel
theorem dX11_count_43 : decode cX11_count 43 = .ok (.ireturn, 1) := by decide +kernel
theorem dX11_count_44 : decode cX11_count 44 = .ok (.aload_n 0, 1) := by decide +kernel
theorem dX11_count_45 : decode cX11_count 45 = .ok (.getfield 19, 3) := by decide +kernel
theorem dX11_count_48 : decode cX11_count 48 = .ok (.getfield 216, 3) := by decide +kernel
theorem dX11_count_51 : decode cX11_count 51 = .ok (.ireturn, 1) := by decide +kernel
theorem dX11_count_52 : decode cX11_count 52 = .ok (.aload_n 0, 1) := by decide +kernel
theorem dX11_count_53 : decode cX11_count 53 = .ok (.getfield 19, 3) := by decide +kernel
theorem dX11_count_56 : decode cX11_count 56 = .ok (.getfield 219, 3) := by decide +kernel
theorem dX11_count_59 : decode cX11_count 59 = .ok (.ireturn, 1) := by decide +kernel
theorem dX11_count_60 : decode cX11_count 60 = .ok (.aload_n 0, 1) := by decide +kernel
theorem dX11_count_61 : decode cX11_count 61 = .ok (.getfield 19, 3) := by decide +kernel
theorem dX11_count_64 : decode cX11_count 64 = .ok (.getfield 222, 3) := by decide +kernel
theorem dX11_count_67 : decode cX11_count 67 = .ok (.ireturn, 1) := by decide +kernel
theorem dX11_count_68 : decode cX11_count 68 = .ok (.aload_n 0, 1) := by decide +kernel
theorem dX11_count_69 : decode cX11_count 69 = .ok (.getfield 10, 3) := by decide +kernel
theorem dX11_count_72 : decode cX11_count 72 = .ok (.getfield 102, 3) := by decide +kernel
theorem dX11_count_75 : decode cX11_count 75 = .ok (.ireturn, 1) := by decide +kernel
theorem dX11_count_76 : decode cX11_count 76 = .ok (.iconst (-1), 1) := by decide +kernel
theorem dX11_count_77 : decode cX11_count 77 = .ok (.ireturn, 1) := by decide +kernel
theorem dX11_die_0 : decode cX11_die 0 = .ok (.aload_n 0, 1) := by decide +kernel
theorem dX11_die_1 : decode cX11_die 1 = .ok (.getfield 19, 3) := by decide +kernel
theorem dX11_die_4 : decode cX11_die 4 = .ok (.iload_n 1, 1) := by decide +kernel
theorem dX11_die_5 : decode cX11_die 5 = .ok (.invokevirtual 133, 3) := by decide +kernel
theorem dX11_die_8 : decode cX11_die 8 = .ok (.ifCond .ne 5, 3) := by decide +kernel
theorem dX11_die_11 : decode cX11_die 11 = .ok (.iconst (-1), 1) := by decide +kernel
theorem dX11_die_12 : decode cX11_die 12 = .ok (.ireturn, 1) := by decide +kernel
theorem dX11_dish_0 : decode cX11_dish 0 = .ok (.aload_n 0, 1) := by decide +kernel
theorem dX11_dish_1 : decode cX11_dish 1 = .ok (.getfield 19, 3) := by decide +kernel
theorem dX11_dish_4 : decode cX11_dish 4 = .ok (.iload_n 1, 1) := by decide +kernel
theorem dX11_dish_5 : decode cX11_dish 5 = .ok (.invokevirtual 175, 3) := by decide +kernel
theorem dX11_dish_8 : decode cX11_dish 8 = .ok (.ifCond .ne 5, 3) := by decide +kernel
theorem dX11_dish_11 : decode cX11_dish 11 = .ok (.iconst (-1), 1) := by decide +kernel
theorem dX11_dish_12 : decode cX11_dish 12 = .ok (.ireturn, 1) := by decide +kernel
theorem dX11_drawn_0 : decode cX11_drawn 0 = .ok (.iload_n 1, 1) := by decide +kernel
theorem dX11_drawn_1 : decode cX11_drawn 1 = .ok (.iconst 1, 1) := by decide +kernel
theorem dX11_drawn_2 : decode cX11_drawn 2 = .ok (.if_icmp .lt 19, 3) := by decide +kernel
theorem dX11_drawn_5 : decode cX11_drawn 5 = .ok (.iload_n 1, 1) := by decide +kernel
theorem dX11_drawn_6 : decode cX11_drawn 6 = .ok (.bipush 60, 2) := by decide +kernel
theorem dX11_drawn_8 : decode cX11_drawn 8 = .ok (.if_icmp .gt 13, 3) := by decide +kernel
theorem dX11_drawn_11 : decode cX11_drawn 11 = .ok (.aload_n 0, 1) := by decide +kernel
theorem dX11_drawn_12 : decode cX11_drawn 12 = .ok (.getfield 19, 3) := by decide +kernel
theorem dX11_drawn_15 : decode cX11_drawn 15 = .ok (.getfield 213, 3) := by decide +kernel
theorem dX11_drawn_18 : decode cX11_drawn 18 = .ok (.ifCond .ne 5, 3) := by decide +kernel
theorem dX11_drawn_21 : decode cX11_drawn 21 = .ok (.iconst (-1), 1) := by decide +kernel
theorem dX11_drawn_22 : decode cX11_drawn 22 = .ok (.ireturn, 1) := by decide +kernel
theorem dX11_eat_0 : decode cX11_eat 0 = .ok (.aload_n 0, 1) := by decide +kernel
theorem dX11_eat_1 : decode cX11_eat 1 = .ok (.getfield 19, 3) := by decide +kernel
theorem dX11_eat_4 : decode cX11_eat 4 = .ok (.iload_n 1, 1) := by decide +kernel
theorem dX11_eat_5 : decode cX11_eat 5 = .ok (.invokevirtual 133, 3) := by decide +kernel
theorem dX11_eat_8 : decode cX11_eat 8 = .ok (.ifCond .eq 25, 3) := by decide +kernel
theorem dX11_eat_33 : decode cX11_eat 33 = .ok (.iconst (-1), 1) := by decide +kernel
theorem dX11_eat_34 : decode cX11_eat 34 = .ok (.ireturn, 1) := by decide +kernel
theorem dX11_eaters_0 : decode cX11_eaters 0 = .ok (.aload_n 0, 1) := by decide +kernel
theorem dX11_eaters_1 : decode cX11_eaters 1 = .ok (.getfield 10, 3) := by decide +kernel
theorem dX11_eaters_4 : decode cX11_eaters 4 = .ok (.getfield 102, 3) := by decide +kernel
theorem dX11_eaters_7 : decode cX11_eaters 7 = .ok (.iconst 2, 1) := by decide +kernel
theorem dX11_eaters_8 : decode cX11_eaters 8 = .ok (.if_icmp .ne 7, 3) := by decide +kernel
theorem dX11_eaters_15 : decode cX11_eaters 15 = .ok (.iconst 0, 1) := by decide +kernel
theorem dX11_eaters_16 : decode cX11_eaters 16 = .ok (.istore_n 1, 1) := by decide +kernel
theorem dX11_eaters_17 : decode cX11_eaters 17 = .ok (.aload_n 0, 1) := by decide +kernel
theorem dX11_eaters_18 : decode cX11_eaters 18 = .ok (.getfield 10, 3) := by decide +kernel
theorem dX11_eaters_21 : decode cX11_eaters 21 = .ok (.iconst 0, 1) := by decide +kernel
theorem dX11_eaters_22 : decode cX11_eaters 22 = .ok (.invokevirtual 275, 3) := by decide +kernel
theorem dX11_eaters_25 : decode cX11_eaters 25 = .ok (.istore_n 2, 1) := by decide +kernel
theorem dX11_eaters_26 : decode cX11_eaters 26 = .ok (.aload_n 0, 1) := by decide +kernel
theorem dX11_eaters_27 : decode cX11_eaters 27 = .ok (.getfield 10, 3) := by decide +kernel
theorem dX11_eaters_30 : decode cX11_eaters 30 = .ok (.iconst 1, 1) := by decide +kernel
theorem dX11_eaters_31 : decode cX11_eaters 31 = .ok (.invokevirtual 275, 3) := by decide +kernel
theorem dX11_eaters_34 : decode cX11_eaters 34 = .ok (.istore_n 3, 1) := by decide +kernel
theorem dX11_eaters_35 : decode cX11_eaters 35 = .ok (.aload_n 0, 1) := by decide +kernel
theorem dX11_eaters_36 : decode cX11_eaters 36 = .ok (.getfield 10, 3) := by decide +kernel
theorem dX11_eaters_39 : decode cX11_eaters 39 = .ok (.iconst 0, 1) := by decide +kernel
theorem dX11_eaters_40 : decode cX11_eaters 40 = .ok (.putfield 102, 3) := by decide +kernel
theorem dX11_eaters_43 : decode cX11_eaters 43 = .ok (.iload_n 1, 1) := by decide +kernel
theorem dX11_eaters_44 : decode cX11_eaters 44 = .ok (.ifCond .eq 30, 3) := by decide +kernel
theorem dX11_eaters_74 : decode cX11_eaters 74 = .ok (.iconst (-1), 1) := by decide +kernel
theorem dX11_eaters_75 : decode cX11_eaters 75 = .ok (.ireturn, 1) := by decide +kernel
theorem dX11_end_0 : decode cX11_end 0 = .ok (.iload_n 1, 1) := by decide +kernel
theorem dX11_end_1 : decode cX11_end 1 = .ok (.ifCond .lt 14, 3) := by decide +kernel
theorem dX11_end_4 : decode cX11_end 4 = .ok (.iload_n 1, 1) := by decide +kernel
theorem dX11_end_5 : decode cX11_end 5 = .ok (.aload_n 0, 1) := by decide +kernel
theorem dX11_end_6 : decode cX11_end 6 = .ok (.getfield 10, 3) := by decide +kernel
theorem dX11_end_9 : decode cX11_end 9 = .ok (.getfield 102, 3) := by decide +kernel
theorem dX11_end_12 : decode cX11_end 12 = .ok (.if_icmp .le 5, 3) := by decide +kernel
theorem dX11_end_15 : decode cX11_end 15 = .ok (.iconst 0, 1) := by decide +kernel
theorem dX11_end_16 : decode cX11_end 16 = .ok (.ireturn, 1) := by decide +kernel
theorem dX11_end_17 : decode cX11_end 17 = .ok (.aload_n 0, 1) := by decide +kernel
theorem dX11_end_18 : decode cX11_end 18 = .ok (.getfield 10, 3) := by decide +kernel
theorem dX11_end_21 : decode cX11_end 21 = .ok (.iload_n 1, 1) := by decide +kernel
theorem dX11_end_22 : decode cX11_end 22 = .ok (.putfield 102, 3) := by decide +kernel
theorem dX11_end_25 : decode cX11_end 25 = .ok (.iconst 1, 1) := by decide +kernel
theorem dX11_end_26 : decode cX11_end 26 = .ok (.ireturn, 1) := by decide +kernel
theorem dX11_fault_0 : decode cX11_fault 0 = .ok (.aload_n 0, 1) := by decide +kernel
theorem dX11_fault_1 : decode cX11_fault 1 = .ok (.getfield 10, 3) := by decide +kernel
theorem dX11_fault_4 : decode cX11_fault 4 = .ok (.getfield 113, 3) := by decide +kernel
theorem dX11_fault_7 : decode cX11_fault 7 = .ok (.ireturn, 1) := by decide +kernel
theorem dX11_feed_0 : decode cX11_feed 0 = .ok (.aload_n 0, 1) := by decide +kernel
theorem dX11_feed_1 : decode cX11_feed 1 = .ok (.getfield 10, 3) := by decide +kernel
theorem dX11_feed_4 : decode cX11_feed 4 = .ok (.getfield 102, 3) := by decide +kernel
theorem dX11_feed_7 : decode cX11_feed 7 = .ok (.sipush 920, 3) := by decide +kernel
theorem dX11_feed_10 : decode cX11_feed 10 = .ok (.if_icmp .le 5, 3) := by decide +kernel
theorem dX11_feed_15 : decode cX11_feed 15 = .ok (.aload_n 0, 1) := by decide +kernel
theorem dX11_feed_16 : decode cX11_feed 16 = .ok (.getfield 10, 3) := by decide +kernel
theorem dX11_feed_19 : decode cX11_feed 19 = .ok (.iload_n 1, 1) := by decide +kernel
theorem dX11_feed_20 : decode cX11_feed 20 = .ok (.invokevirtual 105, 3) := by decide +kernel
theorem dX11_feed_23 : decode cX11_feed 23 = .ok (.aload_n 0, 1) := by decide +kernel
theorem dX11_feed_24 : decode cX11_feed 24 = .ok (.getfield 10, 3) := by decide +kernel
theorem dX11_feed_27 : decode cX11_feed 27 = .ok (.iload_n 2, 1) := by decide +kernel
theorem dX11_feed_28 : decode cX11_feed 28 = .ok (.invokevirtual 105, 3) := by decide +kernel
theorem dX11_feed_31 : decode cX11_feed 31 = .ok (.aload_n 0, 1) := by decide +kernel
theorem dX11_feed_32 : decode cX11_feed 32 = .ok (.getfield 10, 3) := by decide +kernel
theorem dX11_feed_35 : decode cX11_feed 35 = .ok (.iload_n 3, 1) := by decide +kernel
theorem dX11_feed_36 : decode cX11_feed 36 = .ok (.invokevirtual 105, 3) := by decide +kernel
theorem dX11_feed_39 : decode cX11_feed 39 = .ok (.aload_n 0, 1) := by decide +kernel
theorem dX11_feed_40 : decode cX11_feed 40 = .ok (.getfield 10, 3) := by decide +kernel
theorem dX11_feed_43 : decode cX11_feed 43 = .ok (.iload 4, 2) := by decide +kernel
theorem dX11_feed_45 : decode cX11_feed 45 = .ok (.invokevirtual 105, 3) := by decide +kernel
theorem dX11_feed_48 : decode cX11_feed 48 = .ok (.aload_n 0, 1) := by decide +kernel
theorem dX11_feed_49 : decode cX11_feed 49 = .ok (.getfield 10, 3) := by decide +kernel
theorem dX11_feed_52 : decode cX11_feed 52 = .ok (.iload 5, 2) := by decide +kernel
theorem dX11_feed_54 : decode cX11_feed 54 = .ok (.invokevirtual 105, 3) := by decide +kernel
theorem dX11_feed_57 : decode cX11_feed 57 = .ok (.aload_n 0, 1) := by decide +kernel
theorem dX11_feed_58 : decode cX11_feed 58 = .ok (.getfield 10, 3) := by decide +kernel
theorem dX11_feed_61 : decode cX11_feed 61 = .ok (.getfield 102, 3) := by decide +kernel
theorem dX11_feed_64 : decode cX11_feed 64 = .ok (.ireturn, 1) := by decide +kernel
theorem dX11_heir_0 : decode cX11_heir 0 = .ok (.aload_n 0, 1) := by decide +kernel
theorem dX11_heir_1 : decode cX11_heir 1 = .ok (.getfield 19, 3) := by decide +kernel
theorem dX11_heir_4 : decode cX11_heir 4 = .ok (.iload_n 1, 1) := by decide +kernel
theorem dX11_heir_5 : decode cX11_heir 5 = .ok (.invokevirtual 133, 3) := by decide +kernel
theorem dX11_heir_8 : decode cX11_heir 8 = .ok (.ifCond .eq 21, 3) := by decide +kernel
theorem dX11_heir_29 : decode cX11_heir 29 = .ok (.iconst (-1), 1) := by decide +kernel
theorem dX11_heir_30 : decode cX11_heir 30 = .ok (.ireturn, 1) := by decide +kernel
theorem dX11_hungriest_0 : decode cX11_hungriest 0 = .ok (.iconst (-1), 1) := by decide +kernel
theorem dX11_hungriest_1 : decode cX11_hungriest 1 = .ok (.istore_n 1, 1) := by decide +kernel
theorem dX11_hungriest_2 : decode cX11_hungriest 2 = .ok (.iconst 0, 1) := by decide +kernel
theorem dX11_hungriest_3 : decode cX11_hungriest 3 = .ok (.istore_n 2, 1) := by decide +kernel
theorem dX11_hungriest_4 : decode cX11_hungriest 4 = .ok (.iload_n 2, 1) := by decide +kernel
theorem dX11_hungriest_5 : decode cX11_hungriest 5 = .ok (.aload_n 0, 1) := by decide +kernel
theorem dX11_hungriest_6 : decode cX11_hungriest 6 = .ok (.getfield 19, 3) := by decide +kernel
theorem dX11_hungriest_9 : decode cX11_hungriest 9 = .ok (.getfield 213, 3) := by decide +kernel
theorem dX11_hungriest_12 : decode cX11_hungriest 12 = .ok (.if_icmp .ge 48, 3) := by decide +kernel
theorem dX11_hungriest_60 : decode cX11_hungriest 60 = .ok (.iload_n 1, 1) := by decide +kernel
theorem dX11_hungriest_61 : decode cX11_hungriest 61 = .ok (.ireturn, 1) := by decide +kernel
theorem dX11_kin_0 : decode cX11_kin 0 = .ok (.aload_n 0, 1) := by decide +kernel
theorem dX11_kin_1 : decode cX11_kin 1 = .ok (.getfield 19, 3) := by decide +kernel
theorem dX11_kin_4 : decode cX11_kin 4 = .ok (.iload_n 1, 1) := by decide +kernel
theorem dX11_kin_5 : decode cX11_kin 5 = .ok (.invokevirtual 133, 3) := by decide +kernel
theorem dX11_kin_8 : decode cX11_kin 8 = .ok (.ifCond .eq 26, 3) := by decide +kernel
theorem dX11_kin_34 : decode cX11_kin 34 = .ok (.iconst (-1), 1) := by decide +kernel
theorem dX11_kin_35 : decode cX11_kin 35 = .ok (.ireturn, 1) := by decide +kernel
theorem dX11_last_0 : decode cX11_last 0 = .ok (.aload_n 0, 1) := by decide +kernel
theorem dX11_last_1 : decode cX11_last 1 = .ok (.getfield 19, 3) := by decide +kernel
theorem dX11_last_4 : decode cX11_last 4 = .ok (.iload_n 1, 1) := by decide +kernel
theorem dX11_last_5 : decode cX11_last 5 = .ok (.invokevirtual 175, 3) := by decide +kernel
theorem dX11_last_8 : decode cX11_last 8 = .ok (.ifCond .ne 5, 3) := by decide +kernel
theorem dX11_last_11 : decode cX11_last 11 = .ok (.iconst (-1), 1) := by decide +kernel
theorem dX11_last_12 : decode cX11_last 12 = .ok (.ireturn, 1) := by decide +kernel
theorem dX11_left_0 : decode cX11_left 0 = .ok (.aload_n 0, 1) := by decide +kernel
theorem dX11_left_1 : decode cX11_left 1 = .ok (.getfield 19, 3) := by decide +kernel
theorem dX11_left_4 : decode cX11_left 4 = .ok (.iload_n 1, 1) := by decide +kernel
theorem dX11_left_5 : decode cX11_left 5 = .ok (.invokevirtual 133, 3) := by decide +kernel
theorem dX11_left_8 : decode cX11_left 8 = .ok (.ifCond .eq 30, 3) := by decide +kernel
theorem dX11_left_38 : decode cX11_left 38 = .ok (.iconst 0, 1) := by decide +kernel
theorem dX11_left_39 : decode cX11_left 39 = .ok (.istore_n 2, 1) := by decide +kernel
theorem dX11_left_40 : decode cX11_left 40 = .ok (.aload_n 0, 1) := by decide +kernel
theorem dX11_left_41 : decode cX11_left 41 = .ok (.getfield 32, 3) := by decide +kernel
theorem dX11_left_44 : decode cX11_left 44 = .ok (.aload_n 0, 1) := by decide +kernel
theorem dX11_left_45 : decode cX11_left 45 = .ok (.getfield 28, 3) := by decide +kernel
theorem dX11_left_48 : decode cX11_left 48 = .ok (.invokevirtual 126, 3) := by decide +kernel
theorem dX11_left_51 : decode cX11_left 51 = .ok (.iconst 0, 1) := by decide +kernel
theorem dX11_left_52 : decode cX11_left 52 = .ok (.istore_n 3, 1) := by decide +kernel
theorem dX11_left_53 : decode cX11_left 53 = .ok (.iload_n 3, 1) := by decide +kernel
theorem dX11_left_54 : decode cX11_left 54 = .ok (.aload_n 0, 1) := by decide +kernel
theorem dX11_left_55 : decode cX11_left 55 = .ok (.getfield 10, 3) := by decide +kernel
theorem dX11_left_58 : decode cX11_left 58 = .ok (.getfield 102, 3) := by decide +kernel
theorem dX11_left_61 : decode cX11_left 61 = .ok (.if_icmp .ge 47, 3) := by decide +kernel
theorem dX11_left_108 : decode cX11_left 108 = .ok (.aload_n 0, 1) := by decide +kernel
theorem dX11_left_109 : decode cX11_left 109 = .ok (.getfield 10, 3) := by decide +kernel
theorem dX11_left_112 : decode cX11_left 112 = .ok (.iconst 0, 1) := by decide +kernel
theorem dX11_left_113 : decode cX11_left 113 = .ok (.putfield 102, 3) := by decide +kernel
theorem dX11_left_116 : decode cX11_left 116 = .ok (.iload_n 2, 1) := by decide +kernel
theorem dX11_left_117 : decode cX11_left 117 = .ok (.ifCond .eq 15, 3) := by decide +kernel
theorem dX11_left_132 : decode cX11_left 132 = .ok (.iconst (-1), 1) := by decide +kernel
theorem dX11_left_133 : decode cX11_left 133 = .ok (.ireturn, 1) := by decide +kernel
theorem dX11_line_0 : decode cX11_line 0 = .ok (.aload_n 0, 1) := by decide +kernel
theorem dX11_line_1 : decode cX11_line 1 = .ok (.getfield 19, 3) := by decide +kernel
theorem dX11_line_4 : decode cX11_line 4 = .ok (.iload_n 1, 1) := by decide +kernel
theorem dX11_line_5 : decode cX11_line 5 = .ok (.invokevirtual 133, 3) := by decide +kernel
theorem dX11_line_8 : decode cX11_line 8 = .ok (.ifCond .eq 13, 3) := by decide +kernel
theorem dX11_line_21 : decode cX11_line 21 = .ok (.iconst (-1), 1) := by decide +kernel
theorem dX11_line_22 : decode cX11_line 22 = .ok (.ireturn, 1) := by decide +kernel
theorem dX11_now_0 : decode cX11_now 0 = .ok (.iload_n 1, 1) := by decide +kernel
theorem dX11_now_1 : decode cX11_now 1 = .ok (.tableswitch 111 0 7 #[47, 55, 63, 71, 79, 87, 95, 103], 47) := by decide +kernel
theorem dX11_now_48 : decode cX11_now 48 = .ok (.aload_n 0, 1) := by decide +kernel
theorem dX11_now_49 : decode cX11_now 49 = .ok (.getfield 28, 3) := by decide +kernel
theorem dX11_now_52 : decode cX11_now 52 = .ok (.getfield 195, 3) := by decide +kernel
theorem dX11_now_55 : decode cX11_now 55 = .ok (.ireturn, 1) := by decide +kernel
theorem dX11_now_56 : decode cX11_now 56 = .ok (.aload_n 0, 1) := by decide +kernel
theorem dX11_now_57 : decode cX11_now 57 = .ok (.getfield 28, 3) := by decide +kernel
theorem dX11_now_60 : decode cX11_now 60 = .ok (.getfield 151, 3) := by decide +kernel
theorem dX11_now_63 : decode cX11_now 63 = .ok (.ireturn, 1) := by decide +kernel
theorem dX11_now_64 : decode cX11_now 64 = .ok (.aload_n 0, 1) := by decide +kernel
theorem dX11_now_65 : decode cX11_now 65 = .ok (.getfield 28, 3) := by decide +kernel
theorem dX11_now_68 : decode cX11_now 68 = .ok (.getfield 154, 3) := by decide +kernel
theorem dX11_now_71 : decode cX11_now 71 = .ok (.ireturn, 1) := by decide +kernel
theorem dX11_now_72 : decode cX11_now 72 = .ok (.aload_n 0, 1) := by decide +kernel
theorem dX11_now_73 : decode cX11_now 73 = .ok (.getfield 28, 3) := by decide +kernel
theorem dX11_now_76 : decode cX11_now 76 = .ok (.getfield 198, 3) := by decide +kernel
theorem dX11_now_79 : decode cX11_now 79 = .ok (.ireturn, 1) := by decide +kernel
theorem dX11_now_80 : decode cX11_now 80 = .ok (.aload_n 0, 1) := by decide +kernel
theorem dX11_now_81 : decode cX11_now 81 = .ok (.getfield 28, 3) := by decide +kernel
theorem dX11_now_84 : decode cX11_now 84 = .ok (.getfield 201, 3) := by decide +kernel
theorem dX11_now_87 : decode cX11_now 87 = .ok (.ireturn, 1) := by decide +kernel
theorem dX11_now_88 : decode cX11_now 88 = .ok (.aload_n 0, 1) := by decide +kernel
theorem dX11_now_89 : decode cX11_now 89 = .ok (.getfield 28, 3) := by decide +kernel
theorem dX11_now_92 : decode cX11_now 92 = .ok (.invokevirtual 204, 3) := by decide +kernel
theorem dX11_now_95 : decode cX11_now 95 = .ok (.ireturn, 1) := by decide +kernel
theorem dX11_now_96 : decode cX11_now 96 = .ok (.aload_n 0, 1) := by decide +kernel
theorem dX11_now_97 : decode cX11_now 97 = .ok (.getfield 28, 3) := by decide +kernel
theorem dX11_now_100 : decode cX11_now 100 = .ok (.invokevirtual 207, 3) := by decide +kernel
theorem dX11_now_103 : decode cX11_now 103 = .ok (.ireturn, 1) := by decide +kernel
theorem dX11_now_104 : decode cX11_now 104 = .ok (.aload_n 0, 1) := by decide +kernel
theorem dX11_now_105 : decode cX11_now 105 = .ok (.getfield 28, 3) := by decide +kernel
theorem dX11_now_108 : decode cX11_now 108 = .ok (.getfield 210, 3) := by decide +kernel
theorem dX11_now_111 : decode cX11_now 111 = .ok (.ireturn, 1) := by decide +kernel
theorem dX11_now_112 : decode cX11_now 112 = .ok (.iconst (-1), 1) := by decide +kernel
theorem dX11_now_113 : decode cX11_now 113 = .ok (.ireturn, 1) := by decide +kernel
theorem dX11_odds_0 : decode cX11_odds 0 = .ok (.aload_n 0, 1) := by decide +kernel
theorem dX11_odds_1 : decode cX11_odds 1 = .ok (.getfield 19, 3) := by decide +kernel
theorem dX11_odds_4 : decode cX11_odds 4 = .ok (.iload_n 1, 1) := by decide +kernel
theorem dX11_odds_5 : decode cX11_odds 5 = .ok (.invokevirtual 133, 3) := by decide +kernel
theorem dX11_odds_8 : decode cX11_odds 8 = .ok (.ifCond .eq 14, 3) := by decide +kernel
theorem dX11_odds_22 : decode cX11_odds 22 = .ok (.iconst (-1), 1) := by decide +kernel
theorem dX11_odds_23 : decode cX11_odds 23 = .ok (.ireturn, 1) := by decide +kernel
theorem dX11_order_0 : decode cX11_order 0 = .ok (.aload_n 0, 1) := by decide +kernel
theorem dX11_order_1 : decode cX11_order 1 = .ok (.getfield 69, 3) := by decide +kernel
theorem dX11_order_4 : decode cX11_order 4 = .ok (.aload_n 0, 1) := by decide +kernel
theorem dX11_order_5 : decode cX11_order 5 = .ok (.getfield 28, 3) := by decide +kernel
theorem dX11_order_8 : decode cX11_order 8 = .ok (.invokevirtual 266, 3) := by decide +kernel
theorem dX11_order_11 : decode cX11_order 11 = .ok (.ireturn, 1) := by decide +kernel
theorem dX11_orderAt_0 : decode cX11_orderAt 0 = .ok (.iload_n 1, 1) := by decide +kernel
theorem dX11_orderAt_1 : decode cX11_orderAt 1 = .ok (.ifCond .lt 26, 3) := by decide +kernel
theorem dX11_orderAt_4 : decode cX11_orderAt 4 = .ok (.iload_n 1, 1) := by decide +kernel
theorem dX11_orderAt_5 : decode cX11_orderAt 5 = .ok (.aload_n 0, 1) := by decide +kernel
theorem dX11_orderAt_6 : decode cX11_orderAt 6 = .ok (.getfield 69, 3) := by decide +kernel
theorem dX11_orderAt_9 : decode cX11_orderAt 9 = .ok (.getfield 269, 3) := by decide +kernel
theorem dX11_orderAt_12 : decode cX11_orderAt 12 = .ok (.if_icmp .ge 15, 3) := by decide +kernel
theorem dX11_orderAt_27 : decode cX11_orderAt 27 = .ok (.iconst (-1), 1) := by decide +kernel
theorem dX11_orderAt_28 : decode cX11_orderAt 28 = .ok (.ireturn, 1) := by decide +kernel
theorem dX11_plate_0 : decode cX11_plate 0 = .ok (.aload_n 0, 1) := by decide +kernel
theorem dX11_plate_1 : decode cX11_plate 1 = .ok (.getfield 19, 3) := by decide +kernel
theorem dX11_plate_4 : decode cX11_plate 4 = .ok (.iload_n 1, 1) := by decide +kernel
theorem dX11_plate_5 : decode cX11_plate 5 = .ok (.invokevirtual 133, 3) := by decide +kernel
theorem dX11_plate_8 : decode cX11_plate 8 = .ok (.ifCond .eq 14, 3) := by decide +kernel
theorem dX11_plate_22 : decode cX11_plate 22 = .ok (.iconst (-1), 1) := by decide +kernel
theorem dX11_plate_23 : decode cX11_plate 23 = .ok (.ireturn, 1) := by decide +kernel
theorem dX11_refuse_0 : decode cX11_refuse 0 = .ok (.aload_n 0, 1) := by decide +kernel
theorem dX11_refuse_1 : decode cX11_refuse 1 = .ok (.getfield 19, 3) := by decide +kernel
theorem dX11_refuse_4 : decode cX11_refuse 4 = .ok (.iload_n 1, 1) := by decide +kernel
theorem dX11_refuse_5 : decode cX11_refuse 5 = .ok (.invokevirtual 133, 3) := by decide +kernel
theorem dX11_refuse_8 : decode cX11_refuse 8 = .ok (.ifCond .ne 5, 3) := by decide +kernel
theorem dX11_refuse_11 : decode cX11_refuse 11 = .ok (.iconst (-1), 1) := by decide +kernel
theorem dX11_refuse_12 : decode cX11_refuse 12 = .ok (.ireturn, 1) := by decide +kernel
theorem dX11_rise_0 : decode cX11_rise 0 = .ok (.aload_n 0, 1) := by decide +kernel
theorem dX11_rise_1 : decode cX11_rise 1 = .ok (.getfield 19, 3) := by decide +kernel
theorem dX11_rise_4 : decode cX11_rise 4 = .ok (.iload_n 1, 1) := by decide +kernel
theorem dX11_rise_5 : decode cX11_rise 5 = .ok (.invokevirtual 133, 3) := by decide +kernel
theorem dX11_rise_8 : decode cX11_rise 8 = .ok (.ifCond .ne 5, 3) := by decide +kernel
theorem dX11_rise_11 : decode cX11_rise 11 = .ok (.iconst (-1), 1) := by decide +kernel
theorem dX11_rise_12 : decode cX11_rise 12 = .ok (.ireturn, 1) := by decide +kernel
theorem dX11_said_0 : decode cX11_said 0 = .ok (.aload_n 0, 1) := by decide +kernel
theorem dX11_said_1 : decode cX11_said 1 = .ok (.getfield 59, 3) := by decide +kernel
theorem dX11_said_4 : decode cX11_said 4 = .ok (.getfield 368, 3) := by decide +kernel
theorem dX11_said_7 : decode cX11_said 7 = .ok (.ifCond .ne 5, 3) := by decide +kernel
theorem dX11_said_10 : decode cX11_said 10 = .ok (.iconst (-1), 1) := by decide +kernel
theorem dX11_said_11 : decode cX11_said 11 = .ok (.ireturn, 1) := by decide +kernel
theorem dX11_seatAt_0 : decode cX11_seatAt 0 = .ok (.iload_n 1, 1) := by decide +kernel
theorem dX11_seatAt_1 : decode cX11_seatAt 1 = .ok (.ifCond .lt 26, 3) := by decide +kernel
theorem dX11_seatAt_4 : decode cX11_seatAt 4 = .ok (.iload_n 1, 1) := by decide +kernel
theorem dX11_seatAt_5 : decode cX11_seatAt 5 = .ok (.aload_n 0, 1) := by decide +kernel
theorem dX11_seatAt_6 : decode cX11_seatAt 6 = .ok (.getfield 76, 3) := by decide +kernel
theorem dX11_seatAt_9 : decode cX11_seatAt 9 = .ok (.getfield 294, 3) := by decide +kernel
theorem dX11_seatAt_12 : decode cX11_seatAt 12 = .ok (.if_icmp .ge 15, 3) := by decide +kernel
theorem dX11_seatAt_27 : decode cX11_seatAt 27 = .ok (.iconst (-1), 1) := by decide +kernel
theorem dX11_seatAt_28 : decode cX11_seatAt 28 = .ok (.ireturn, 1) := by decide +kernel
theorem dX11_seats_0 : decode cX11_seats 0 = .ok (.aload_n 0, 1) := by decide +kernel
theorem dX11_seats_1 : decode cX11_seats 1 = .ok (.getfield 76, 3) := by decide +kernel
theorem dX11_seats_4 : decode cX11_seats 4 = .ok (.aload_n 0, 1) := by decide +kernel
theorem dX11_seats_5 : decode cX11_seats 5 = .ok (.getfield 28, 3) := by decide +kernel
theorem dX11_seats_8 : decode cX11_seats 8 = .ok (.invokevirtual 291, 3) := by decide +kernel
theorem dX11_seats_11 : decode cX11_seats 11 = .ok (.ireturn, 1) := by decide +kernel
theorem dX11_serve_0 : decode cX11_serve 0 = .ok (.aload_n 0, 1) := by decide +kernel
theorem dX11_serve_1 : decode cX11_serve 1 = .ok (.getfield 19, 3) := by decide +kernel
theorem dX11_serve_4 : decode cX11_serve 4 = .ok (.iload_n 1, 1) := by decide +kernel
theorem dX11_serve_5 : decode cX11_serve 5 = .ok (.invokevirtual 133, 3) := by decide +kernel
theorem dX11_serve_8 : decode cX11_serve 8 = .ok (.ifCond .eq 25, 3) := by decide +kernel
theorem dX11_serve_33 : decode cX11_serve 33 = .ok (.iconst (-1), 1) := by decide +kernel
theorem dX11_serve_34 : decode cX11_serve 34 = .ok (.ireturn, 1) := by decide +kernel
theorem dX11_share_0 : decode cX11_share 0 = .ok (.aload_n 0, 1) := by decide +kernel
theorem dX11_share_1 : decode cX11_share 1 = .ok (.getfield 19, 3) := by decide +kernel
theorem dX11_share_4 : decode cX11_share 4 = .ok (.iload_n 1, 1) := by decide +kernel
theorem dX11_share_5 : decode cX11_share 5 = .ok (.invokevirtual 175, 3) := by decide +kernel
theorem dX11_share_8 : decode cX11_share 8 = .ok (.ifCond .eq 32, 3) := by decide +kernel
theorem dX11_share_40 : decode cX11_share 40 = .ok (.iconst 0, 1) := by decide +kernel
theorem dX11_share_41 : decode cX11_share 41 = .ok (.istore 4, 2) := by decide +kernel
theorem dX11_share_43 : decode cX11_share 43 = .ok (.iload 4, 2) := by decide +kernel
theorem dX11_share_45 : decode cX11_share 45 = .ok (.ifCond .eq 11, 3) := by decide +kernel
theorem dX11_share_56 : decode cX11_share 56 = .ok (.iconst (-1), 1) := by decide +kernel
theorem dX11_share_57 : decode cX11_share 57 = .ok (.ireturn, 1) := by decide +kernel
theorem dX11_surely_0 : decode cX11_surely 0 = .ok (.aload_n 0, 1) := by decide +kernel
theorem dX11_surely_1 : decode cX11_surely 1 = .ok (.getfield 83, 3) := by decide +kernel
theorem dX11_surely_4 : decode cX11_surely 4 = .ok (.getfield 282, 3) := by decide +kernel
theorem dX11_surely_7 : decode cX11_surely 7 = .ok (.ireturn, 1) := by decide +kernel
theorem dX11_table_0 : decode cX11_table 0 = .ok (.aload_n 0, 1) := by decide +kernel
theorem dX11_table_1 : decode cX11_table 1 = .ok (.getfield 45, 3) := by decide +kernel
theorem dX11_table_4 : decode cX11_table 4 = .ok (.aload_n 0, 1) := by decide +kernel
theorem dX11_table_5 : decode cX11_table 5 = .ok (.getfield 10, 3) := by decide +kernel
theorem dX11_table_8 : decode cX11_table 8 = .ok (.invokevirtual 109, 3) := by decide +kernel
theorem dX11_table_11 : decode cX11_table 11 = .ok (.istore_n 1, 1) := by decide +kernel
theorem dX11_table_12 : decode cX11_table 12 = .ok (.aload_n 0, 1) := by decide +kernel
theorem dX11_table_13 : decode cX11_table 13 = .ok (.getfield 10, 3) := by decide +kernel
theorem dX11_table_16 : decode cX11_table 16 = .ok (.iconst 0, 1) := by decide +kernel
theorem dX11_table_17 : decode cX11_table 17 = .ok (.putfield 102, 3) := by decide +kernel
theorem dX11_table_20 : decode cX11_table 20 = .ok (.aload_n 0, 1) := by decide +kernel
theorem dX11_table_21 : decode cX11_table 21 = .ok (.getfield 10, 3) := by decide +kernel
theorem dX11_table_24 : decode cX11_table 24 = .ok (.getfield 113, 3) := by decide +kernel
theorem dX11_table_27 : decode cX11_table 27 = .ok (.ifCond .eq 13, 3) := by decide +kernel
theorem dX11_table_40 : decode cX11_table 40 = .ok (.aload_n 0, 1) := by decide +kernel
theorem dX11_table_41 : decode cX11_table 41 = .ok (.getfield 19, 3) := by decide +kernel
theorem dX11_table_44 : decode cX11_table 44 = .ok (.aload_n 0, 1) := by decide +kernel
theorem dX11_table_45 : decode cX11_table 45 = .ok (.getfield 45, 3) := by decide +kernel
theorem dX11_table_48 : decode cX11_table 48 = .ok (.getfield 119, 3) := by decide +kernel
theorem dX11_table_51 : decode cX11_table 51 = .ok (.invokevirtual 120, 3) := by decide +kernel
theorem dX11_table_54 : decode cX11_table 54 = .ok (.aload_n 0, 1) := by decide +kernel
theorem dX11_table_55 : decode cX11_table 55 = .ok (.getfield 28, 3) := by decide +kernel
theorem dX11_table_58 : decode cX11_table 58 = .ok (.aload_n 0, 1) := by decide +kernel
theorem dX11_table_59 : decode cX11_table 59 = .ok (.getfield 45, 3) := by decide +kernel
theorem dX11_table_62 : decode cX11_table 62 = .ok (.getfield 123, 3) := by decide +kernel
theorem dX11_table_65 : decode cX11_table 65 = .ok (.invokevirtual 126, 3) := by decide +kernel
theorem dX11_table_68 : decode cX11_table 68 = .ok (.aload_n 0, 1) := by decide +kernel
theorem dX11_table_69 : decode cX11_table 69 = .ok (.getfield 59, 3) := by decide +kernel
theorem dX11_table_72 : decode cX11_table 72 = .ok (.invokevirtual 129, 3) := by decide +kernel
theorem dX11_table_75 : decode cX11_table 75 = .ok (.aload_n 0, 1) := by decide +kernel
theorem dX11_table_76 : decode cX11_table 76 = .ok (.getfield 38, 3) := by decide +kernel
theorem dX11_table_79 : decode cX11_table 79 = .ok (.invokevirtual 132, 3) := by decide +kernel
theorem dX11_table_82 : decode cX11_table 82 = .ok (.iload_n 1, 1) := by decide +kernel
theorem dX11_table_83 : decode cX11_table 83 = .ok (.ireturn, 1) := by decide +kernel
theorem dX11_told_0 : decode cX11_told 0 = .ok (.aload_n 0, 1) := by decide +kernel
theorem dX11_told_1 : decode cX11_told 1 = .ok (.getfield 52, 3) := by decide +kernel
theorem dX11_told_4 : decode cX11_told 4 = .ok (.getfield 352, 3) := by decide +kernel
theorem dX11_told_7 : decode cX11_told 7 = .ok (.ifCond .ne 5, 3) := by decide +kernel
theorem dX11_told_10 : decode cX11_told 10 = .ok (.iconst (-1), 1) := by decide +kernel
theorem dX11_told_11 : decode cX11_told 11 = .ok (.ireturn, 1) := by decide +kernel
theorem dX11_undo_0 : decode cX11_undo 0 = .ok (.aload_n 0, 1) := by decide +kernel
theorem dX11_undo_1 : decode cX11_undo 1 = .ok (.getfield 38, 3) := by decide +kernel
theorem dX11_undo_4 : decode cX11_undo 4 = .ok (.aload_n 0, 1) := by decide +kernel
theorem dX11_undo_5 : decode cX11_undo 5 = .ok (.getfield 28, 3) := by decide +kernel
theorem dX11_undo_8 : decode cX11_undo 8 = .ok (.invokevirtual 256, 3) := by decide +kernel
theorem dX11_undo_11 : decode cX11_undo 11 = .ok (.ireturn, 1) := by decide +kernel
theorem dX11_will_0 : decode cX11_will 0 = .ok (.aload_n 0, 1) := by decide +kernel
theorem dX11_will_1 : decode cX11_will 1 = .ok (.getfield 19, 3) := by decide +kernel
theorem dX11_will_4 : decode cX11_will 4 = .ok (.iload_n 1, 1) := by decide +kernel
theorem dX11_will_5 : decode cX11_will 5 = .ok (.invokevirtual 133, 3) := by decide +kernel
theorem dX11_will_8 : decode cX11_will 8 = .ok (.ifCond .ne 5, 3) := by decide +kernel
theorem dX11_will_11 : decode cX11_will 11 = .ok (.iconst (-1), 1) := by decide +kernel
theorem dX11_will_12 : decode cX11_will 12 = .ok (.ireturn, 1) := by decide +kernel
def fv_ (kd j : Nat) : Int32 := if kd = 10 ∧ j = 8 then 102 else if kd = 2 ∧ (j = 1 ∨ j = 2) then -1 else if kd = 12 ∧ (j = 32 ∨ j = 33) then -1 else 0
/-- all ints of the pool are as a new object has them -/
def Fz_ (L : List Nat) (κ : Nat → Nat) (I : Nat → Nat → Int32) : Prop := ∀ a ∈ L, ∀ j, I a j = fv_ (κ a) j
theorem fz_Z {L : List Nat} {κ : Nat → Nat} {I : Nat → Nat → Int32} (h : Fz_ L κ I) (kd : Nat) (h1 : kd ≠ 10) (h2 : kd ≠ 2) (h3 : kd ≠ 12) : Zk L κ kd I := fun b hb hk j => by rw [h b hb j, hk]; simp [fv_, h1, h2, h3]
theorem z_hp {x : Int32} : (if 0 ≤ x ∧ x < 0 then (1 : Int32) else 0) = 0 := if_neg (fun q => Int32.lt_irrefl (Int32.lt_of_le_of_lt q.1 q.2))
theorem sw_lt {x : Int32} (h : x < 0) : x.toInt < 0 := Int32.lt_iff_toInt_lt.mp h
theorem sw_ge {x : Int32} {n : Nat} (h : nI n ≤ x) (hn : n < 2147483648) {k : Int} (hk : k < (n : Int) := by decide) : k < x.toInt := by
  have h1 := Int32.le_iff_toInt_le.mp h
  rw [nI_toInt hn] at h1
  omega
theorem mk_N {n : Int32} (h1 : ¬ n < 1) (h2 : ¬ 60 < n) : ∃ N : Nat, (1 ≤ N ∧ N ≤ 60) ∧ nI N = n := by
  have a1 := Int32.le_iff_toInt_le.mp (Int32.not_lt.mp h1)
  have a2 := Int32.le_iff_toInt_le.mp (Int32.not_lt.mp h2)
  have e1 : (1 : Int32).toInt = 1 := rfl
  have e2 : (60 : Int32).toInt = 60 := rfl
  refine ⟨n.toInt.toNat, by omega, ?_⟩
  apply Int32.toInt_inj.mp
  rw [nI_toInt (by omega)]
  omega
theorem mk_i {k : Int32} (h1 : ¬ k < 0) (h2 : ¬ 2 ≤ k) : ∃ i : Nat, i < 2 ∧ nI i = k := by
  have a1 := Int32.le_iff_toInt_le.mp (Int32.not_lt.mp h1)
  have a2 := Int32.lt_iff_toInt_lt.mp (Int32.not_le.mp h2)
  have e1 : (0 : Int32).toInt = 0 := rfl
  have e2 : (2 : Int32).toInt = 2 := rfl
  refine ⟨k.toInt.toNat, by omega, ?_⟩
  apply Int32.toInt_inj.mp
  rw [nI_toInt (by omega)]
  omega
theorem p_lo {x a b c d : Int32} (h : x < a) : d = (if a ≤ x ∧ x ≤ b then c else d) := by rw [if_neg (fun q => Int32.lt_irrefl (Int32.lt_of_lt_of_le h q.1))]
theorem p_hi {x a b c d : Int32} (h : b < x) : d = (if a ≤ x ∧ x ≤ b then c else d) := by rw [if_neg (fun q => Int32.lt_irrefl (Int32.lt_of_lt_of_le h q.2))]
theorem p_hi' {x a b e c d : Int32} (h : e ≤ x) (he : b < e) : d = (if a ≤ x ∧ x ≤ b then c else d) := p_hi (Int32.lt_of_lt_of_le he h)
theorem p_in {x a b c d : Int32} (h : a ≤ x ∧ x ≤ b) : c = (if a ≤ x ∧ x ≤ b then c else d) := by rw [if_pos h]
set_option maxRecDepth 100000 in
set_option maxHeartbeats 4000000 in
theorem t_feed {l : Launch} {D : va_G} {cy : Nat → ClassId} {L : List Nat} {κ ln : Nat → Nat} {R : Nat → Nat → Option Nat} {I : Nat → Nat → Int32} {J : Nat → Nat → Int64} {ow : Nat → Nat × Nat} (W9 : ∀ a ∈ L, Shp L κ ln R ow a) {x : Nat} (hLx : x ∈ L) (hkx : κ x = 11) (FZ : Fz_ L κ I) (a : Int32) (b : Int32) (c1 : Int32) (d : Int32) (e1 : Int32) : CtI l yX11_feed cX11_feed 6 (some .int) { frames := 5, cells := 0, slots := 0, locals := 320 } D cy L κ ln R I J [.ref x, .int a, .int b, .int c1, .int d, .int e1] (fun r _ _ => r = 20) := by
  refine CtI.of (by decide +kernel) (Nat.le_of_ble_eq_true rfl) ?_
  intro p e s m below meth c B K
  have C := B.1
  have Z1 := fz_Z FZ 1 (by decide) (by decide) (by decide)
  have Z8 := fz_Z FZ 8 (by decide) (by decide) (by decide)
  refine g_lo (is := [0, 1, 2, 3, 4, 5]) (lo2 := [(0, .ref x), (1, .int a), (2, .int b), (3, .int c1), (4, .int d), (5, .int e1)]) rfl ?_
  refine g_aload_n C 0 dX11_feed_0 rfl rfl ?_
  obtain ⟨b_434, hb_434, hb_434L, hb_434k⟩ := shp_o (W9 x hLx) hkx 0 10 rfl (by decide)
  refine g_getR C K hLx hkx f_11_10 hb_434 dX11_feed_1 ?_
  refine g_getI C K hb_434L hb_434k f_11_102 (v := 0) ((by rw [FZ b_434 hb_434L 5, hb_434k]; rfl)) dX11_feed_4 ?_
  refine g_sipush C (v := 920) dX11_feed_7 (by decide) ?_
  refine t_icmp_le C (tgt := 15) (by decide) dX11_feed_10 (by decide) ?_
  refine g_aload_n C 0 dX11_feed_15 rfl rfl ?_
  refine g_getR C K hLx hkx f_11_10 hb_434 dX11_feed_16 ?_
  refine g_iload_n C 1 dX11_feed_19 rfl rfl ?_
  refine g_callVV C K (c_Tape_add W9 hb_434L hb_434k (0) (by omega) ((by rw [FZ b_434 hb_434L 5, hb_434k]; rfl)) a) hb_434L hb_434k (by decide) rfl v_11_105 rfl ⟨rfl, rfl⟩ ⟨Nat.le_of_ble_eq_true rfl, Nat.le_of_ble_eq_true rfl⟩ (Nat.le_of_ble_eq_true rfl) ⟨Nat.le_of_ble_eq_true rfl, Nat.le_of_ble_eq_true rfl⟩ dX11_feed_20 rfl (st := []) (fun I_435 J_436 h_437 => ?_)
  obtain ⟨rfl, v_439⟩ := h_437
  refine g_aload_n C 0 dX11_feed_23 rfl rfl ?_
  refine g_getR C K hLx hkx f_11_10 hb_434 dX11_feed_24 ?_
  refine g_iload_n C 2 dX11_feed_27 rfl rfl ?_
  refine g_callVV C K (c_Tape_add W9 hb_434L hb_434k (0 + 4) (by omega) (v_439) b) hb_434L hb_434k (by decide) rfl v_11_105 rfl ⟨rfl, rfl⟩ ⟨Nat.le_of_ble_eq_true rfl, Nat.le_of_ble_eq_true rfl⟩ (Nat.le_of_ble_eq_true rfl) ⟨Nat.le_of_ble_eq_true rfl, Nat.le_of_ble_eq_true rfl⟩ dX11_feed_28 rfl (st := []) (fun I_440 J_441 h_442 => ?_)
  obtain ⟨rfl, v_444⟩ := h_442
  refine g_aload_n C 0 dX11_feed_31 rfl rfl ?_
  refine g_getR C K hLx hkx f_11_10 hb_434 dX11_feed_32 ?_
  refine g_iload_n C 3 dX11_feed_35 rfl rfl ?_
  refine g_callVV C K (c_Tape_add W9 hb_434L hb_434k (0 + 4 + 4) (by omega) (v_444) c1) hb_434L hb_434k (by decide) rfl v_11_105 rfl ⟨rfl, rfl⟩ ⟨Nat.le_of_ble_eq_true rfl, Nat.le_of_ble_eq_true rfl⟩ (Nat.le_of_ble_eq_true rfl) ⟨Nat.le_of_ble_eq_true rfl, Nat.le_of_ble_eq_true rfl⟩ dX11_feed_36 rfl (st := []) (fun I_445 J_446 h_447 => ?_)
  obtain ⟨rfl, v_449⟩ := h_447
  refine g_aload_n C 0 dX11_feed_39 rfl rfl ?_
  refine g_getR C K hLx hkx f_11_10 hb_434 dX11_feed_40 ?_
  refine g_iload C 4 dX11_feed_43 rfl ?_
  refine g_callVV C K (c_Tape_add W9 hb_434L hb_434k (0 + 4 + 4 + 4) (by omega) (v_449) d) hb_434L hb_434k (by decide) rfl v_11_105 rfl ⟨rfl, rfl⟩ ⟨Nat.le_of_ble_eq_true rfl, Nat.le_of_ble_eq_true rfl⟩ (Nat.le_of_ble_eq_true rfl) ⟨Nat.le_of_ble_eq_true rfl, Nat.le_of_ble_eq_true rfl⟩ dX11_feed_45 rfl (st := []) (fun I_450 J_451 h_452 => ?_)
  obtain ⟨rfl, v_454⟩ := h_452
  refine g_aload_n C 0 dX11_feed_48 rfl rfl ?_
  refine g_getR C K hLx hkx f_11_10 hb_434 dX11_feed_49 ?_
  refine g_iload C 5 dX11_feed_52 rfl ?_
  refine g_callVV C K (c_Tape_add W9 hb_434L hb_434k (0 + 4 + 4 + 4 + 4) (by omega) (v_454) e1) hb_434L hb_434k (by decide) rfl v_11_105 rfl ⟨rfl, rfl⟩ ⟨Nat.le_of_ble_eq_true rfl, Nat.le_of_ble_eq_true rfl⟩ (Nat.le_of_ble_eq_true rfl) ⟨Nat.le_of_ble_eq_true rfl, Nat.le_of_ble_eq_true rfl⟩ dX11_feed_54 rfl (st := []) (fun I_455 J_456 h_457 => ?_)
  obtain ⟨rfl, v_459⟩ := h_457
  refine g_aload_n C 0 dX11_feed_57 rfl rfl ?_
  refine g_getR C K hLx hkx f_11_10 hb_434 dX11_feed_58 ?_
  refine g_getI C K hb_434L hb_434k f_11_102 (v := nI (0 + 4 + 4 + 4 + 4 + 4)) (v_459) dX11_feed_61 ?_
  exact g_zret (ty := .int) (r := nI (0 + 4 + 4 + 4 + 4 + 4)) B K rfl rfl (rfl) dX11_feed_64
set_option maxRecDepth 100000 in
set_option maxHeartbeats 4000000 in
theorem t_end {l : Launch} {D : va_G} {cy : Nat → ClassId} {L : List Nat} {κ ln : Nat → Nat} {R : Nat → Nat → Option Nat} {I : Nat → Nat → Int32} {J : Nat → Nat → Int64} {ow : Nat → Nat × Nat} (W9 : ∀ a ∈ L, Shp L κ ln R ow a) {x : Nat} (hLx : x ∈ L) (hkx : κ x = 11) (FZ : Fz_ L κ I) (n : Int32) : CtI l yX11_end cX11_end 2 (some .boolean) { frames := 5, cells := 0, slots := 0, locals := 320 } D cy L κ ln R I J [.ref x, .int n] (fun r _ _ => r = if 0 ≤ n ∧ n ≤ 0 then 1 else 0) := by
  refine CtI.of (by decide +kernel) (Nat.le_of_ble_eq_true rfl) ?_
  intro p e s m below meth c B K
  have C := B.1
  have Z1 := fz_Z FZ 1 (by decide) (by decide) (by decide)
  have Z8 := fz_Z FZ 8 (by decide) (by decide) (by decide)
  refine g_lo (is := [0, 1]) (lo2 := [(0, .ref x), (1, .int n)]) rfl ?_
  refine g_iload_n C 1 dX11_end_0 rfl rfl ?_
  refine g_if_lt C (tgt := 15) dX11_end_1 (by decide) (fun h_460 => ?_) (fun h_460 => ?_)
  · skip
    refine g_iconst C (v := 0) dX11_end_15 (by decide) ?_
    exact g_zret (ty := .boolean) (r := 0) B K rfl (by decide) (by first | exact p_in ⟨i32_lt_le (by assumption), by assumption⟩ | exact p_hi (Int32.not_le.mp (by assumption)) | exact p_lo (by assumption)) dX11_end_16
  · skip
    refine g_iload_n C 1 dX11_end_4 rfl rfl ?_
    refine g_aload_n C 0 dX11_end_5 rfl rfl ?_
    obtain ⟨b_461, hb_461, hb_461L, hb_461k⟩ := shp_o (W9 x hLx) hkx 0 10 rfl (by decide)
    refine g_getR C K hLx hkx f_11_10 hb_461 dX11_end_6 ?_
    refine g_getI C K hb_461L hb_461k f_11_102 (v := 0) ((by rw [FZ b_461 hb_461L 5, hb_461k]; rfl)) dX11_end_9 ?_
    refine g_icmp_le C (tgt := 17) dX11_end_12 (by decide) (fun h_462 => ?_) (fun h_462 => ?_)
    · skip
      refine g_aload_n C 0 dX11_end_17 rfl rfl ?_
      refine g_getR C K hLx hkx f_11_10 hb_461 dX11_end_18 ?_
      refine g_iload_n C 1 dX11_end_21 rfl rfl ?_
      refine h_putI C K hb_461L hb_461k f_11_102 p_10_5 dX11_end_22 (fun I_463 hI_463 => ?_)
      refine g_iconst C (v := 1) dX11_end_25 (by decide) ?_
      exact g_zret (ty := .boolean) (r := 1) B K rfl (by decide) (by first | exact p_in ⟨i32_lt_le (by assumption), by assumption⟩ | exact p_hi (Int32.not_le.mp (by assumption)) | exact p_lo (by assumption)) dX11_end_26
    · skip
      refine g_iconst C (v := 0) dX11_end_15 (by decide) ?_
      exact g_zret (ty := .boolean) (r := 0) B K rfl (by decide) (by first | exact p_in ⟨i32_lt_le (by assumption), by assumption⟩ | exact p_hi (Int32.not_le.mp (by assumption)) | exact p_lo (by assumption)) dX11_end_16
set_option maxRecDepth 100000 in
set_option maxHeartbeats 4000000 in
theorem t_table {l : Launch} {D : va_G} {cy : Nat → ClassId} {L : List Nat} {κ ln : Nat → Nat} {R : Nat → Nat → Option Nat} {I : Nat → Nat → Int32} {J : Nat → Nat → Int64} {ow : Nat → Nat × Nat} (W9 : ∀ a ∈ L, Shp L κ ln R ow a) {x : Nat} (hLx : x ∈ L) (hkx : κ x = 11) (FZ : Fz_ L κ I) : CtI l yX11_table cX11_table 2 (some .int) { frames := 5, cells := 0, slots := 0, locals := 320 } D cy L κ ln R I J [.ref x] (fun r _ _ => r = 0) := by
  refine CtI.of (by decide +kernel) (Nat.le_of_ble_eq_true rfl) ?_
  intro p e s m below meth c B K
  have C := B.1
  have Z1 := fz_Z FZ 1 (by decide) (by decide) (by decide)
  have Z8 := fz_Z FZ 8 (by decide) (by decide) (by decide)
  refine g_lo (is := [0]) (lo2 := [(0, .ref x)]) rfl ?_
  refine g_aload_n C 0 dX11_table_0 rfl rfl ?_
  obtain ⟨b_464, hb_464, hb_464L, hb_464k⟩ := shp_o (W9 x hLx) hkx 5 9 rfl (by decide)
  refine g_getR C K hLx hkx f_11_45 hb_464 dX11_table_1 ?_
  refine g_aload_n C 0 dX11_table_4 rfl rfl ?_
  obtain ⟨b_465, hb_465, hb_465L, hb_465k⟩ := shp_o (W9 x hLx) hkx 0 10 rfl (by decide)
  refine g_getR C K hLx hkx f_11_10 hb_465 dX11_table_5 ?_
  refine g_callVI C K (c_TR_readFrom0 W9 hb_464L hb_464k hb_465L hb_465k (Z1) (Z8) ((by rw [FZ b_465 hb_465L 5, hb_465k]; rfl))) hb_464L hb_464k (by decide) rfl v_11_109 rfl ⟨rfl, rfl⟩ ⟨Nat.le_of_ble_eq_true rfl, Nat.le_of_ble_eq_true rfl⟩ (Nat.le_of_ble_eq_true rfl) ⟨Nat.le_of_ble_eq_true rfl, Nat.le_of_ble_eq_true rfl⟩ dX11_table_8 rfl (st := []) (fun r_469 I_466 J_467 h_468 => ?_)
  obtain ⟨g_471, f_470, z_472, z_473, v_474, rfl⟩ := h_468
  refine g_istore_n C dX11_table_11 rfl (by decide) (lo2 := [(1, .int 0), (0, .ref x)]) rfl ?_
  refine g_aload_n C 1 dX11_table_12 rfl rfl ?_
  refine g_getR C K hLx hkx f_11_10 hb_465 dX11_table_13 ?_
  refine g_iconst C (v := 0) dX11_table_16 (by decide) ?_
  refine h_putI C K hb_465L hb_465k f_11_102 p_10_5 dX11_table_17 (fun I_475 hI_475 => ?_)
  refine g_aload_n C 1 dX11_table_20 rfl rfl ?_
  refine g_getR C K hLx hkx f_11_10 hb_465 dX11_table_21 ?_
  refine g_getI C K hb_465L hb_465k f_11_113 (v := 0) (by rw [hI_475, u2_j (by decide)]; exact v_474) dX11_table_24 ?_
  refine t_if_eq C (tgt := 40) (by decide) dX11_table_27 (by decide) ?_
  refine g_aload_n C 1 dX11_table_40 rfl rfl ?_
  obtain ⟨b_476, hb_476, hb_476L, hb_476k⟩ := shp_o (W9 x hLx) hkx 1 8 rfl (by decide)
  refine g_getR C K hLx hkx f_11_19 hb_476 dX11_table_41 ?_
  refine g_aload_n C 1 dX11_table_44 rfl rfl ?_
  refine g_getR C K hLx hkx f_11_45 hb_464 dX11_table_45 ?_
  obtain ⟨b_477, hb_477, hb_477L, hb_477k⟩ := shp_o (W9 b_464 hb_464L) hb_464k 0 8 rfl (by decide)
  refine g_getR C K hb_464L hb_464k f_11_119 hb_477 dX11_table_48 ?_
  refine g_callVV C K (c_Table_become W9 hb_476L hb_476k hb_477L hb_477k ((z_473).u2 hI_475 rfl)) hb_476L hb_476k (by decide) rfl v_11_120 rfl ⟨rfl, rfl⟩ ⟨Nat.le_of_ble_eq_true rfl, Nat.le_of_ble_eq_true rfl⟩ (Nat.le_of_ble_eq_true rfl) ⟨Nat.le_of_ble_eq_true rfl, Nat.le_of_ble_eq_true rfl⟩ dX11_table_51 rfl (st := []) (fun I_478 J_479 h_480 => ?_)
  obtain ⟨g_483, f_482, z_484⟩ := h_480
  refine g_aload_n C 1 dX11_table_54 rfl rfl ?_
  obtain ⟨b_485, hb_485, hb_485L, hb_485k⟩ := shp_o (W9 x hLx) hkx 2 1 rfl (by decide)
  refine g_getR C K hLx hkx f_11_28 hb_485 dX11_table_55 ?_
  refine g_aload_n C 1 dX11_table_58 rfl rfl ?_
  refine g_getR C K hLx hkx f_11_45 hb_464 dX11_table_59 ?_
  obtain ⟨b_486, hb_486, hb_486L, hb_486k⟩ := shp_o (W9 b_464 hb_464L) hb_464k 1 1 rfl (by decide)
  refine g_getR C K hb_464L hb_464k f_11_123 hb_486 dX11_table_62 ?_
  refine g_callVV C K (c_Course_become W9 hb_485L hb_485k hb_486L hb_486k (((z_472).u2 hI_475 rfl).fk f_482 (by decide))) hb_485L hb_485k (by decide) rfl v_11_126 rfl ⟨rfl, rfl⟩ ⟨Nat.le_of_ble_eq_true rfl, Nat.le_of_ble_eq_true rfl⟩ (Nat.le_of_ble_eq_true rfl) ⟨Nat.le_of_ble_eq_true rfl, Nat.le_of_ble_eq_true rfl⟩ dX11_table_65 rfl (st := []) (fun I_487 J_488 h_489 => ?_)
  obtain ⟨rfl, f_491, z_493⟩ := h_489
  refine g_aload_n C 1 dX11_table_68 rfl rfl ?_
  obtain ⟨b_494, hb_494, hb_494L, hb_494k⟩ := shp_o (W9 x hLx) hkx 7 7 rfl (by decide)
  refine g_getR C K hLx hkx f_11_59 hb_494 dX11_table_69 ?_
  refine g_callVV C K (c_Sen_forget hb_494L hb_494k) hb_494L hb_494k (by decide) rfl v_11_129 rfl ⟨rfl, rfl⟩ ⟨Nat.le_of_ble_eq_true rfl, Nat.le_of_ble_eq_true rfl⟩ (Nat.le_of_ble_eq_true rfl) ⟨Nat.le_of_ble_eq_true rfl, Nat.le_of_ble_eq_true rfl⟩ dX11_table_72 rfl (st := []) (fun I_495 J_496 h_497 => ?_)
  obtain ⟨rfl, f_499⟩ := h_497
  refine g_aload_n C 1 dX11_table_75 rfl rfl ?_
  obtain ⟨b_501, hb_501, hb_501L, hb_501k⟩ := shp_o (W9 x hLx) hkx 4 5 rfl (by decide)
  refine g_getR C K hLx hkx f_11_38 hb_501 dX11_table_76 ?_
  refine g_callVV C K (c_Past_forget hb_501L hb_501k) hb_501L hb_501k (by decide) rfl v_11_132 rfl ⟨rfl, rfl⟩ ⟨Nat.le_of_ble_eq_true rfl, Nat.le_of_ble_eq_true rfl⟩ (Nat.le_of_ble_eq_true rfl) ⟨Nat.le_of_ble_eq_true rfl, Nat.le_of_ble_eq_true rfl⟩ dX11_table_79 rfl (st := []) (fun I_502 J_503 h_504 => ?_)
  obtain ⟨rfl, f_506⟩ := h_504
  refine g_iload_n C 0 dX11_table_82 rfl rfl ?_
  exact g_zret (ty := .int) (r := 0) B K rfl rfl (rfl) dX11_table_83
set_option maxRecDepth 100000 in
set_option maxHeartbeats 4000000 in
theorem t_fault {l : Launch} {D : va_G} {cy : Nat → ClassId} {L : List Nat} {κ ln : Nat → Nat} {R : Nat → Nat → Option Nat} {I : Nat → Nat → Int32} {J : Nat → Nat → Int64} {ow : Nat → Nat × Nat} (W9 : ∀ a ∈ L, Shp L κ ln R ow a) {x : Nat} (hLx : x ∈ L) (hkx : κ x = 11) (FZ : Fz_ L κ I) : CtI l yX11_fault cX11_fault 1 (some .int) { frames := 5, cells := 0, slots := 0, locals := 320 } D cy L κ ln R I J [.ref x] (fun r _ _ => r = 0) := by
  refine CtI.of (by decide +kernel) (Nat.le_of_ble_eq_true rfl) ?_
  intro p e s m below meth c B K
  have C := B.1
  have Z1 := fz_Z FZ 1 (by decide) (by decide) (by decide)
  have Z8 := fz_Z FZ 8 (by decide) (by decide) (by decide)
  refine g_lo (is := [0]) (lo2 := [(0, .ref x)]) rfl ?_
  refine g_aload_n C 0 dX11_fault_0 rfl rfl ?_
  obtain ⟨b_508, hb_508, hb_508L, hb_508k⟩ := shp_o (W9 x hLx) hkx 0 10 rfl (by decide)
  refine g_getR C K hLx hkx f_11_10 hb_508 dX11_fault_1 ?_
  refine g_getI C K hb_508L hb_508k f_11_113 (v := 0) ((by rw [FZ b_508 hb_508L 11, hb_508k]; rfl)) dX11_fault_4 ?_
  exact g_zret (ty := .int) (r := 0) B K rfl rfl (rfl) dX11_fault_7
set_option maxRecDepth 100000 in
set_option maxHeartbeats 4000000 in
theorem t_plate {l : Launch} {D : va_G} {cy : Nat → ClassId} {L : List Nat} {κ ln : Nat → Nat} {R : Nat → Nat → Option Nat} {I : Nat → Nat → Int32} {J : Nat → Nat → Int64} {ow : Nat → Nat × Nat} (W9 : ∀ a ∈ L, Shp L κ ln R ow a) {x : Nat} (hLx : x ∈ L) (hkx : κ x = 11) (FZ : Fz_ L κ I) (p1 : Int32) (d : Int32) : CtI l yX11_plate cX11_plate 3 (some .int) { frames := 5, cells := 0, slots := 0, locals := 320 } D cy L κ ln R I J [.ref x, .int p1, .int d] (fun r _ _ => r = -1) := by
  refine CtI.of (by decide +kernel) (Nat.le_of_ble_eq_true rfl) ?_
  intro p e s m below meth c B K
  have C := B.1
  have Z1 := fz_Z FZ 1 (by decide) (by decide) (by decide)
  have Z8 := fz_Z FZ 8 (by decide) (by decide) (by decide)
  refine g_lo (is := [0, 1, 2]) (lo2 := [(0, .ref x), (1, .int p1), (2, .int d)]) rfl ?_
  refine g_aload_n C 0 dX11_plate_0 rfl rfl ?_
  obtain ⟨b_509, hb_509, hb_509L, hb_509k⟩ := shp_o (W9 x hLx) hkx 1 8 rfl (by decide)
  refine g_getR C K hLx hkx f_11_19 hb_509 dX11_plate_1 ?_
  refine g_iload_n C 1 dX11_plate_4 rfl rfl ?_
  refine g_callVI C K (c_Table_hasPerson hb_509L hb_509k p1 0 ((by rw [FZ b_509 hb_509L 5, hb_509k]; rfl))) hb_509L hb_509k (by decide) rfl v_11_133 rfl ⟨rfl, rfl⟩ ⟨Nat.le_of_ble_eq_true rfl, Nat.le_of_ble_eq_true rfl⟩ (Nat.le_of_ble_eq_true rfl) ⟨Nat.le_of_ble_eq_true rfl, Nat.le_of_ble_eq_true rfl⟩ dX11_plate_5 rfl (st := []) (fun r_513 I_510 J_511 h_512 => ?_)
  obtain ⟨rfl, rfl, er_513⟩ := h_512
  have h0r_513 := er_513
  rw [z_hp] at er_513
  subst er_513
  refine t_if_eq C (tgt := 22) (by decide) dX11_plate_8 (by decide) ?_
  refine g_iconst C (v := (-1)) dX11_plate_22 (by decide) ?_
  exact g_zret (ty := .int) (r := (-1)) B K rfl rfl (rfl) dX11_plate_23
set_option maxRecDepth 100000 in
set_option maxHeartbeats 4000000 in
theorem t_dish {l : Launch} {D : va_G} {cy : Nat → ClassId} {L : List Nat} {κ ln : Nat → Nat} {R : Nat → Nat → Option Nat} {I : Nat → Nat → Int32} {J : Nat → Nat → Int64} {ow : Nat → Nat × Nat} (W9 : ∀ a ∈ L, Shp L κ ln R ow a) {x : Nat} (hLx : x ∈ L) (hkx : κ x = 11) (FZ : Fz_ L κ I) (d : Int32) (w : Int32) : CtI l yX11_dish cX11_dish 3 (some .int) { frames := 5, cells := 0, slots := 0, locals := 320 } D cy L κ ln R I J [.ref x, .int d, .int w] (fun r _ _ => r = -1) := by
  refine CtI.of (by decide +kernel) (Nat.le_of_ble_eq_true rfl) ?_
  intro p e s m below meth c B K
  have C := B.1
  have Z1 := fz_Z FZ 1 (by decide) (by decide) (by decide)
  have Z8 := fz_Z FZ 8 (by decide) (by decide) (by decide)
  refine g_lo (is := [0, 1, 2]) (lo2 := [(0, .ref x), (1, .int d), (2, .int w)]) rfl ?_
  refine g_aload_n C 0 dX11_dish_0 rfl rfl ?_
  obtain ⟨b_514, hb_514, hb_514L, hb_514k⟩ := shp_o (W9 x hLx) hkx 1 8 rfl (by decide)
  refine g_getR C K hLx hkx f_11_19 hb_514 dX11_dish_1 ?_
  refine g_iload_n C 1 dX11_dish_4 rfl rfl ?_
  refine g_callVI C K (c_Table_hasDish hb_514L hb_514k d 0 ((by rw [FZ b_514 hb_514L 6, hb_514k]; rfl))) hb_514L hb_514k (by decide) rfl v_11_175 rfl ⟨rfl, rfl⟩ ⟨Nat.le_of_ble_eq_true rfl, Nat.le_of_ble_eq_true rfl⟩ (Nat.le_of_ble_eq_true rfl) ⟨Nat.le_of_ble_eq_true rfl, Nat.le_of_ble_eq_true rfl⟩ dX11_dish_5 rfl (st := []) (fun r_518 I_515 J_516 h_517 => ?_)
  obtain ⟨rfl, rfl, er_518⟩ := h_517
  have h0r_518 := er_518
  rw [z_hp] at er_518
  subst er_518
  refine n_if_ne C (tgt := 13) (by decide) dX11_dish_8 (by decide) ?_
  refine g_iconst C (v := (-1)) dX11_dish_11 (by decide) ?_
  exact g_zret (ty := .int) (r := (-1)) B K rfl rfl (rfl) dX11_dish_12
set_option maxRecDepth 100000 in
set_option maxHeartbeats 4000000 in
theorem t_now {l : Launch} {D : va_G} {cy : Nat → ClassId} {L : List Nat} {κ ln : Nat → Nat} {R : Nat → Nat → Option Nat} {I : Nat → Nat → Int32} {J : Nat → Nat → Int64} {ow : Nat → Nat × Nat} (W9 : ∀ a ∈ L, Shp L κ ln R ow a) {x : Nat} (hLx : x ∈ L) (hkx : κ x = 11) (FZ : Fz_ L κ I) (w : Int32) : CtI l yX11_now cX11_now 2 (some .int) { frames := 5, cells := 0, slots := 0, locals := 320 } D cy L κ ln R I J [.ref x, .int w] (fun r _ _ => r = if 0 ≤ w ∧ w ≤ 7 then 0 else -1) := by
  refine CtI.of (by decide +kernel) (Nat.le_of_ble_eq_true rfl) ?_
  intro p e s m below meth c B K
  have C := B.1
  have Z1 := fz_Z FZ 1 (by decide) (by decide) (by decide)
  have Z8 := fz_Z FZ 8 (by decide) (by decide) (by decide)
  refine g_lo (is := [0, 1]) (lo2 := [(0, .ref x), (1, .int w)]) rfl ?_
  refine g_iload_n C 1 dX11_now_0 rfl rfl ?_
  rcases pk_ix w (n := 8) (by decide) with hsw | hsw | ⟨i_519, hi_520, rfl⟩
  · skip
    refine g_tableOut C (tgt := 112) dX11_now_1 (Or.inl (sw_lt hsw)) (by decide) ?_
    refine g_iconst C (v := (-1)) dX11_now_112 (by decide) ?_
    exact g_zret (ty := .int) (r := (-1)) B K rfl rfl (p_lo hsw) dX11_now_113
  · skip
    refine g_tableOut C (tgt := 112) dX11_now_1 (Or.inr (sw_ge hsw (by decide))) (by decide) ?_
    refine g_iconst C (v := (-1)) dX11_now_112 (by decide) ?_
    exact g_zret (ty := .int) (r := (-1)) B K rfl rfl (p_hi' hsw (by decide)) dX11_now_113
  · rcases (show i_519 = 0 ∨ i_519 = 1 ∨ i_519 = 2 ∨ i_519 = 3 ∨ i_519 = 4 ∨ i_519 = 5 ∨ i_519 = 6 ∨ i_519 = 7 by omega) with rfl | rfl | rfl | rfl | rfl | rfl | rfl | rfl
    · skip
      refine g_tableIn C (tgt := 48) dX11_now_1 (by decide) (by decide) (off := 47) (by decide) (by decide) ?_
      refine g_aload_n C 0 dX11_now_48 rfl rfl ?_
      obtain ⟨b_521, hb_521, hb_521L, hb_521k⟩ := shp_o (W9 x hLx) hkx 2 1 rfl (by decide)
      refine g_getR C K hLx hkx f_11_28 hb_521 dX11_now_49 ?_
      refine g_getI C K hb_521L hb_521k f_11_195 (v := 0) ((by rw [FZ b_521 hb_521L 9, hb_521k]; rfl)) dX11_now_52 ?_
      exact g_zret (ty := .int) (r := 0) B K rfl rfl (by decide) dX11_now_55
    · skip
      refine g_tableIn C (tgt := 56) dX11_now_1 (by decide) (by decide) (off := 55) (by decide) (by decide) ?_
      refine g_aload_n C 0 dX11_now_56 rfl rfl ?_
      obtain ⟨b_522, hb_522, hb_522L, hb_522k⟩ := shp_o (W9 x hLx) hkx 2 1 rfl (by decide)
      refine g_getR C K hLx hkx f_11_28 hb_522 dX11_now_57 ?_
      refine g_getI C K hb_522L hb_522k f_11_151 (v := 0) ((by rw [FZ b_522 hb_522L 7, hb_522k]; rfl)) dX11_now_60 ?_
      exact g_zret (ty := .int) (r := 0) B K rfl rfl (by decide) dX11_now_63
    · skip
      refine g_tableIn C (tgt := 64) dX11_now_1 (by decide) (by decide) (off := 63) (by decide) (by decide) ?_
      refine g_aload_n C 0 dX11_now_64 rfl rfl ?_
      obtain ⟨b_523, hb_523, hb_523L, hb_523k⟩ := shp_o (W9 x hLx) hkx 2 1 rfl (by decide)
      refine g_getR C K hLx hkx f_11_28 hb_523 dX11_now_65 ?_
      refine g_getI C K hb_523L hb_523k f_11_154 (v := 0) ((by rw [FZ b_523 hb_523L 8, hb_523k]; rfl)) dX11_now_68 ?_
      exact g_zret (ty := .int) (r := 0) B K rfl rfl (by decide) dX11_now_71
    · skip
      refine g_tableIn C (tgt := 72) dX11_now_1 (by decide) (by decide) (off := 71) (by decide) (by decide) ?_
      refine g_aload_n C 0 dX11_now_72 rfl rfl ?_
      obtain ⟨b_524, hb_524, hb_524L, hb_524k⟩ := shp_o (W9 x hLx) hkx 2 1 rfl (by decide)
      refine g_getR C K hLx hkx f_11_28 hb_524 dX11_now_73 ?_
      refine g_getI C K hb_524L hb_524k f_11_198 (v := 0) ((by rw [FZ b_524 hb_524L 10, hb_524k]; rfl)) dX11_now_76 ?_
      exact g_zret (ty := .int) (r := 0) B K rfl rfl (by decide) dX11_now_79
    · skip
      refine g_tableIn C (tgt := 80) dX11_now_1 (by decide) (by decide) (off := 79) (by decide) (by decide) ?_
      refine g_aload_n C 0 dX11_now_80 rfl rfl ?_
      obtain ⟨b_525, hb_525, hb_525L, hb_525k⟩ := shp_o (W9 x hLx) hkx 2 1 rfl (by decide)
      refine g_getR C K hLx hkx f_11_28 hb_525 dX11_now_81 ?_
      refine g_getI C K hb_525L hb_525k f_11_201 (v := 0) ((by rw [FZ b_525 hb_525L 11, hb_525k]; rfl)) dX11_now_84 ?_
      exact g_zret (ty := .int) (r := 0) B K rfl rfl (by decide) dX11_now_87
    · skip
      refine g_tableIn C (tgt := 88) dX11_now_1 (by decide) (by decide) (off := 87) (by decide) (by decide) ?_
      refine g_aload_n C 0 dX11_now_88 rfl rfl ?_
      obtain ⟨b_526, hb_526, hb_526L, hb_526k⟩ := shp_o (W9 x hLx) hkx 2 1 rfl (by decide)
      refine g_getR C K hLx hkx f_11_28 hb_526 dX11_now_89 ?_
      refine g_callVI C K (c_Course_allEaten0 W9 hb_526L hb_526k (Z8)) hb_526L hb_526k (by decide) rfl v_11_204 rfl ⟨rfl, rfl⟩ ⟨Nat.le_of_ble_eq_true rfl, Nat.le_of_ble_eq_true rfl⟩ (Nat.le_of_ble_eq_true rfl) ⟨Nat.le_of_ble_eq_true rfl, Nat.le_of_ble_eq_true rfl⟩ dX11_now_92 rfl (st := []) (fun r_530 I_527 J_528 h_529 => ?_)
      obtain ⟨rfl, rfl, er_530⟩ := h_529
      have h0r_530 := er_530
      subst er_530
      exact g_zret (ty := .int) (r := 0) B K rfl rfl (by decide) dX11_now_95
    · skip
      refine g_tableIn C (tgt := 96) dX11_now_1 (by decide) (by decide) (off := 95) (by decide) (by decide) ?_
      refine g_aload_n C 0 dX11_now_96 rfl rfl ?_
      obtain ⟨b_531, hb_531, hb_531L, hb_531k⟩ := shp_o (W9 x hLx) hkx 2 1 rfl (by decide)
      refine g_getR C K hLx hkx f_11_28 hb_531 dX11_now_97 ?_
      refine g_callVI C K (c_Course_allHunger0 W9 hb_531L hb_531k (Z8)) hb_531L hb_531k (by decide) rfl v_11_207 rfl ⟨rfl, rfl⟩ ⟨Nat.le_of_ble_eq_true rfl, Nat.le_of_ble_eq_true rfl⟩ (Nat.le_of_ble_eq_true rfl) ⟨Nat.le_of_ble_eq_true rfl, Nat.le_of_ble_eq_true rfl⟩ dX11_now_100 rfl (st := []) (fun r_535 I_532 J_533 h_534 => ?_)
      obtain ⟨rfl, rfl, er_535⟩ := h_534
      have h0r_535 := er_535
      subst er_535
      exact g_zret (ty := .int) (r := 0) B K rfl rfl (by decide) dX11_now_103
    · skip
      refine g_tableIn C (tgt := 104) dX11_now_1 (by decide) (by decide) (off := 103) (by decide) (by decide) ?_
      refine g_aload_n C 0 dX11_now_104 rfl rfl ?_
      obtain ⟨b_536, hb_536, hb_536L, hb_536k⟩ := shp_o (W9 x hLx) hkx 2 1 rfl (by decide)
      refine g_getR C K hLx hkx f_11_28 hb_536 dX11_now_105 ?_
      refine g_getI C K hb_536L hb_536k f_11_210 (v := 0) ((by rw [FZ b_536 hb_536L 12, hb_536k]; rfl)) dX11_now_108 ?_
      exact g_zret (ty := .int) (r := 0) B K rfl rfl (by decide) dX11_now_111
set_option maxRecDepth 100000 in
set_option maxHeartbeats 4000000 in
theorem t_eat {l : Launch} {D : va_G} {cy : Nat → ClassId} {L : List Nat} {κ ln : Nat → Nat} {R : Nat → Nat → Option Nat} {I : Nat → Nat → Int32} {J : Nat → Nat → Int64} {ow : Nat → Nat × Nat} (W9 : ∀ a ∈ L, Shp L κ ln R ow a) {x : Nat} (hLx : x ∈ L) (hkx : κ x = 11) (FZ : Fz_ L κ I) (p1 : Int32) (d : Int32) (n : Int32) : CtI l yX11_eat cX11_eat 4 (some .int) { frames := 5, cells := 0, slots := 0, locals := 320 } D cy L κ ln R I J [.ref x, .int p1, .int d, .int n] (fun r _ _ => r = -1) := by
  refine CtI.of (by decide +kernel) (Nat.le_of_ble_eq_true rfl) ?_
  intro p e s m below meth c B K
  have C := B.1
  have Z1 := fz_Z FZ 1 (by decide) (by decide) (by decide)
  have Z8 := fz_Z FZ 8 (by decide) (by decide) (by decide)
  refine g_lo (is := [0, 1, 2, 3]) (lo2 := [(0, .ref x), (1, .int p1), (2, .int d), (3, .int n)]) rfl ?_
  refine g_aload_n C 0 dX11_eat_0 rfl rfl ?_
  obtain ⟨b_537, hb_537, hb_537L, hb_537k⟩ := shp_o (W9 x hLx) hkx 1 8 rfl (by decide)
  refine g_getR C K hLx hkx f_11_19 hb_537 dX11_eat_1 ?_
  refine g_iload_n C 1 dX11_eat_4 rfl rfl ?_
  refine g_callVI C K (c_Table_hasPerson hb_537L hb_537k p1 0 ((by rw [FZ b_537 hb_537L 5, hb_537k]; rfl))) hb_537L hb_537k (by decide) rfl v_11_133 rfl ⟨rfl, rfl⟩ ⟨Nat.le_of_ble_eq_true rfl, Nat.le_of_ble_eq_true rfl⟩ (Nat.le_of_ble_eq_true rfl) ⟨Nat.le_of_ble_eq_true rfl, Nat.le_of_ble_eq_true rfl⟩ dX11_eat_5 rfl (st := []) (fun r_541 I_538 J_539 h_540 => ?_)
  obtain ⟨rfl, rfl, er_541⟩ := h_540
  have h0r_541 := er_541
  rw [z_hp] at er_541
  subst er_541
  refine t_if_eq C (tgt := 33) (by decide) dX11_eat_8 (by decide) ?_
  refine g_iconst C (v := (-1)) dX11_eat_33 (by decide) ?_
  exact g_zret (ty := .int) (r := (-1)) B K rfl rfl (rfl) dX11_eat_34
set_option maxRecDepth 100000 in
set_option maxHeartbeats 4000000 in
theorem t_serve {l : Launch} {D : va_G} {cy : Nat → ClassId} {L : List Nat} {κ ln : Nat → Nat} {R : Nat → Nat → Option Nat} {I : Nat → Nat → Int32} {J : Nat → Nat → Int64} {ow : Nat → Nat × Nat} (W9 : ∀ a ∈ L, Shp L κ ln R ow a) {x : Nat} (hLx : x ∈ L) (hkx : κ x = 11) (FZ : Fz_ L κ I) (p1 : Int32) (d : Int32) (n : Int32) : CtI l yX11_serve cX11_serve 4 (some .int) { frames := 5, cells := 0, slots := 0, locals := 320 } D cy L κ ln R I J [.ref x, .int p1, .int d, .int n] (fun r _ _ => r = -1) := by
  refine CtI.of (by decide +kernel) (Nat.le_of_ble_eq_true rfl) ?_
  intro p e s m below meth c B K
  have C := B.1
  have Z1 := fz_Z FZ 1 (by decide) (by decide) (by decide)
  have Z8 := fz_Z FZ 8 (by decide) (by decide) (by decide)
  refine g_lo (is := [0, 1, 2, 3]) (lo2 := [(0, .ref x), (1, .int p1), (2, .int d), (3, .int n)]) rfl ?_
  refine g_aload_n C 0 dX11_serve_0 rfl rfl ?_
  obtain ⟨b_542, hb_542, hb_542L, hb_542k⟩ := shp_o (W9 x hLx) hkx 1 8 rfl (by decide)
  refine g_getR C K hLx hkx f_11_19 hb_542 dX11_serve_1 ?_
  refine g_iload_n C 1 dX11_serve_4 rfl rfl ?_
  refine g_callVI C K (c_Table_hasPerson hb_542L hb_542k p1 0 ((by rw [FZ b_542 hb_542L 5, hb_542k]; rfl))) hb_542L hb_542k (by decide) rfl v_11_133 rfl ⟨rfl, rfl⟩ ⟨Nat.le_of_ble_eq_true rfl, Nat.le_of_ble_eq_true rfl⟩ (Nat.le_of_ble_eq_true rfl) ⟨Nat.le_of_ble_eq_true rfl, Nat.le_of_ble_eq_true rfl⟩ dX11_serve_5 rfl (st := []) (fun r_546 I_543 J_544 h_545 => ?_)
  obtain ⟨rfl, rfl, er_546⟩ := h_545
  have h0r_546 := er_546
  rw [z_hp] at er_546
  subst er_546
  refine t_if_eq C (tgt := 33) (by decide) dX11_serve_8 (by decide) ?_
  refine g_iconst C (v := (-1)) dX11_serve_33 (by decide) ?_
  exact g_zret (ty := .int) (r := (-1)) B K rfl rfl (rfl) dX11_serve_34
set_option maxRecDepth 100000 in
set_option maxHeartbeats 4000000 in
theorem t_rise {l : Launch} {D : va_G} {cy : Nat → ClassId} {L : List Nat} {κ ln : Nat → Nat} {R : Nat → Nat → Option Nat} {I : Nat → Nat → Int32} {J : Nat → Nat → Int64} {ow : Nat → Nat × Nat} (W9 : ∀ a ∈ L, Shp L κ ln R ow a) {x : Nat} (hLx : x ∈ L) (hkx : κ x = 11) (FZ : Fz_ L κ I) (p1 : Int32) : CtI l yX11_rise cX11_rise 2 (some .int) { frames := 5, cells := 0, slots := 0, locals := 320 } D cy L κ ln R I J [.ref x, .int p1] (fun r _ _ => r = -1) := by
  refine CtI.of (by decide +kernel) (Nat.le_of_ble_eq_true rfl) ?_
  intro p e s m below meth c B K
  have C := B.1
  have Z1 := fz_Z FZ 1 (by decide) (by decide) (by decide)
  have Z8 := fz_Z FZ 8 (by decide) (by decide) (by decide)
  refine g_lo (is := [0, 1]) (lo2 := [(0, .ref x), (1, .int p1)]) rfl ?_
  refine g_aload_n C 0 dX11_rise_0 rfl rfl ?_
  obtain ⟨b_547, hb_547, hb_547L, hb_547k⟩ := shp_o (W9 x hLx) hkx 1 8 rfl (by decide)
  refine g_getR C K hLx hkx f_11_19 hb_547 dX11_rise_1 ?_
  refine g_iload_n C 1 dX11_rise_4 rfl rfl ?_
  refine g_callVI C K (c_Table_hasPerson hb_547L hb_547k p1 0 ((by rw [FZ b_547 hb_547L 5, hb_547k]; rfl))) hb_547L hb_547k (by decide) rfl v_11_133 rfl ⟨rfl, rfl⟩ ⟨Nat.le_of_ble_eq_true rfl, Nat.le_of_ble_eq_true rfl⟩ (Nat.le_of_ble_eq_true rfl) ⟨Nat.le_of_ble_eq_true rfl, Nat.le_of_ble_eq_true rfl⟩ dX11_rise_5 rfl (st := []) (fun r_551 I_548 J_549 h_550 => ?_)
  obtain ⟨rfl, rfl, er_551⟩ := h_550
  have h0r_551 := er_551
  rw [z_hp] at er_551
  subst er_551
  refine n_if_ne C (tgt := 13) (by decide) dX11_rise_8 (by decide) ?_
  refine g_iconst C (v := (-1)) dX11_rise_11 (by decide) ?_
  exact g_zret (ty := .int) (r := (-1)) B K rfl rfl (rfl) dX11_rise_12
set_option maxRecDepth 100000 in
set_option maxHeartbeats 4000000 in
theorem t_refuse {l : Launch} {D : va_G} {cy : Nat → ClassId} {L : List Nat} {κ ln : Nat → Nat} {R : Nat → Nat → Option Nat} {I : Nat → Nat → Int32} {J : Nat → Nat → Int64} {ow : Nat → Nat × Nat} (W9 : ∀ a ∈ L, Shp L κ ln R ow a) {x : Nat} (hLx : x ∈ L) (hkx : κ x = 11) (FZ : Fz_ L κ I) (p1 : Int32) : CtI l yX11_refuse cX11_refuse 2 (some .int) { frames := 5, cells := 0, slots := 0, locals := 320 } D cy L κ ln R I J [.ref x, .int p1] (fun r _ _ => r = -1) := by
  refine CtI.of (by decide +kernel) (Nat.le_of_ble_eq_true rfl) ?_
  intro p e s m below meth c B K
  have C := B.1
  have Z1 := fz_Z FZ 1 (by decide) (by decide) (by decide)
  have Z8 := fz_Z FZ 8 (by decide) (by decide) (by decide)
  refine g_lo (is := [0, 1]) (lo2 := [(0, .ref x), (1, .int p1)]) rfl ?_
  refine g_aload_n C 0 dX11_refuse_0 rfl rfl ?_
  obtain ⟨b_552, hb_552, hb_552L, hb_552k⟩ := shp_o (W9 x hLx) hkx 1 8 rfl (by decide)
  refine g_getR C K hLx hkx f_11_19 hb_552 dX11_refuse_1 ?_
  refine g_iload_n C 1 dX11_refuse_4 rfl rfl ?_
  refine g_callVI C K (c_Table_hasPerson hb_552L hb_552k p1 0 ((by rw [FZ b_552 hb_552L 5, hb_552k]; rfl))) hb_552L hb_552k (by decide) rfl v_11_133 rfl ⟨rfl, rfl⟩ ⟨Nat.le_of_ble_eq_true rfl, Nat.le_of_ble_eq_true rfl⟩ (Nat.le_of_ble_eq_true rfl) ⟨Nat.le_of_ble_eq_true rfl, Nat.le_of_ble_eq_true rfl⟩ dX11_refuse_5 rfl (st := []) (fun r_556 I_553 J_554 h_555 => ?_)
  obtain ⟨rfl, rfl, er_556⟩ := h_555
  have h0r_556 := er_556
  rw [z_hp] at er_556
  subst er_556
  refine n_if_ne C (tgt := 13) (by decide) dX11_refuse_8 (by decide) ?_
  refine g_iconst C (v := (-1)) dX11_refuse_11 (by decide) ?_
  exact g_zret (ty := .int) (r := (-1)) B K rfl rfl (rfl) dX11_refuse_12
set_option maxRecDepth 100000 in
set_option maxHeartbeats 4000000 in
theorem t_accept {l : Launch} {D : va_G} {cy : Nat → ClassId} {L : List Nat} {κ ln : Nat → Nat} {R : Nat → Nat → Option Nat} {I : Nat → Nat → Int32} {J : Nat → Nat → Int64} {ow : Nat → Nat × Nat} (W9 : ∀ a ∈ L, Shp L κ ln R ow a) {x : Nat} (hLx : x ∈ L) (hkx : κ x = 11) (FZ : Fz_ L κ I) (p1 : Int32) : CtI l yX11_accept cX11_accept 2 (some .int) { frames := 5, cells := 0, slots := 0, locals := 320 } D cy L κ ln R I J [.ref x, .int p1] (fun r _ _ => r = -1) := by
  refine CtI.of (by decide +kernel) (Nat.le_of_ble_eq_true rfl) ?_
  intro p e s m below meth c B K
  have C := B.1
  have Z1 := fz_Z FZ 1 (by decide) (by decide) (by decide)
  have Z8 := fz_Z FZ 8 (by decide) (by decide) (by decide)
  refine g_lo (is := [0, 1]) (lo2 := [(0, .ref x), (1, .int p1)]) rfl ?_
  refine g_aload_n C 0 dX11_accept_0 rfl rfl ?_
  obtain ⟨b_557, hb_557, hb_557L, hb_557k⟩ := shp_o (W9 x hLx) hkx 1 8 rfl (by decide)
  refine g_getR C K hLx hkx f_11_19 hb_557 dX11_accept_1 ?_
  refine g_iload_n C 1 dX11_accept_4 rfl rfl ?_
  refine g_callVI C K (c_Table_hasPerson hb_557L hb_557k p1 0 ((by rw [FZ b_557 hb_557L 5, hb_557k]; rfl))) hb_557L hb_557k (by decide) rfl v_11_133 rfl ⟨rfl, rfl⟩ ⟨Nat.le_of_ble_eq_true rfl, Nat.le_of_ble_eq_true rfl⟩ (Nat.le_of_ble_eq_true rfl) ⟨Nat.le_of_ble_eq_true rfl, Nat.le_of_ble_eq_true rfl⟩ dX11_accept_5 rfl (st := []) (fun r_561 I_558 J_559 h_560 => ?_)
  obtain ⟨rfl, rfl, er_561⟩ := h_560
  have h0r_561 := er_561
  rw [z_hp] at er_561
  subst er_561
  refine n_if_ne C (tgt := 13) (by decide) dX11_accept_8 (by decide) ?_
  refine g_iconst C (v := (-1)) dX11_accept_11 (by decide) ?_
  exact g_zret (ty := .int) (r := (-1)) B K rfl rfl (rfl) dX11_accept_12
set_option maxRecDepth 100000 in
set_option maxHeartbeats 4000000 in
theorem t_die {l : Launch} {D : va_G} {cy : Nat → ClassId} {L : List Nat} {κ ln : Nat → Nat} {R : Nat → Nat → Option Nat} {I : Nat → Nat → Int32} {J : Nat → Nat → Int64} {ow : Nat → Nat × Nat} (W9 : ∀ a ∈ L, Shp L κ ln R ow a) {x : Nat} (hLx : x ∈ L) (hkx : κ x = 11) (FZ : Fz_ L κ I) (p1 : Int32) : CtI l yX11_die cX11_die 2 (some .int) { frames := 5, cells := 0, slots := 0, locals := 320 } D cy L κ ln R I J [.ref x, .int p1] (fun r _ _ => r = -1) := by
  refine CtI.of (by decide +kernel) (Nat.le_of_ble_eq_true rfl) ?_
  intro p e s m below meth c B K
  have C := B.1
  have Z1 := fz_Z FZ 1 (by decide) (by decide) (by decide)
  have Z8 := fz_Z FZ 8 (by decide) (by decide) (by decide)
  refine g_lo (is := [0, 1]) (lo2 := [(0, .ref x), (1, .int p1)]) rfl ?_
  refine g_aload_n C 0 dX11_die_0 rfl rfl ?_
  obtain ⟨b_562, hb_562, hb_562L, hb_562k⟩ := shp_o (W9 x hLx) hkx 1 8 rfl (by decide)
  refine g_getR C K hLx hkx f_11_19 hb_562 dX11_die_1 ?_
  refine g_iload_n C 1 dX11_die_4 rfl rfl ?_
  refine g_callVI C K (c_Table_hasPerson hb_562L hb_562k p1 0 ((by rw [FZ b_562 hb_562L 5, hb_562k]; rfl))) hb_562L hb_562k (by decide) rfl v_11_133 rfl ⟨rfl, rfl⟩ ⟨Nat.le_of_ble_eq_true rfl, Nat.le_of_ble_eq_true rfl⟩ (Nat.le_of_ble_eq_true rfl) ⟨Nat.le_of_ble_eq_true rfl, Nat.le_of_ble_eq_true rfl⟩ dX11_die_5 rfl (st := []) (fun r_566 I_563 J_564 h_565 => ?_)
  obtain ⟨rfl, rfl, er_566⟩ := h_565
  have h0r_566 := er_566
  rw [z_hp] at er_566
  subst er_566
  refine n_if_ne C (tgt := 13) (by decide) dX11_die_8 (by decide) ?_
  refine g_iconst C (v := (-1)) dX11_die_11 (by decide) ?_
  exact g_zret (ty := .int) (r := (-1)) B K rfl rfl (rfl) dX11_die_12
set_option maxRecDepth 100000 in
set_option maxHeartbeats 4000000 in
theorem t_heir {l : Launch} {D : va_G} {cy : Nat → ClassId} {L : List Nat} {κ ln : Nat → Nat} {R : Nat → Nat → Option Nat} {I : Nat → Nat → Int32} {J : Nat → Nat → Int64} {ow : Nat → Nat × Nat} (W9 : ∀ a ∈ L, Shp L κ ln R ow a) {x : Nat} (hLx : x ∈ L) (hkx : κ x = 11) (FZ : Fz_ L κ I) (p1 : Int32) : CtI l yX11_heir cX11_heir 2 (some .int) { frames := 5, cells := 0, slots := 0, locals := 320 } D cy L κ ln R I J [.ref x, .int p1] (fun r _ _ => r = -1) := by
  refine CtI.of (by decide +kernel) (Nat.le_of_ble_eq_true rfl) ?_
  intro p e s m below meth c B K
  have C := B.1
  have Z1 := fz_Z FZ 1 (by decide) (by decide) (by decide)
  have Z8 := fz_Z FZ 8 (by decide) (by decide) (by decide)
  refine g_lo (is := [0, 1]) (lo2 := [(0, .ref x), (1, .int p1)]) rfl ?_
  refine g_aload_n C 0 dX11_heir_0 rfl rfl ?_
  obtain ⟨b_567, hb_567, hb_567L, hb_567k⟩ := shp_o (W9 x hLx) hkx 1 8 rfl (by decide)
  refine g_getR C K hLx hkx f_11_19 hb_567 dX11_heir_1 ?_
  refine g_iload_n C 1 dX11_heir_4 rfl rfl ?_
  refine g_callVI C K (c_Table_hasPerson hb_567L hb_567k p1 0 ((by rw [FZ b_567 hb_567L 5, hb_567k]; rfl))) hb_567L hb_567k (by decide) rfl v_11_133 rfl ⟨rfl, rfl⟩ ⟨Nat.le_of_ble_eq_true rfl, Nat.le_of_ble_eq_true rfl⟩ (Nat.le_of_ble_eq_true rfl) ⟨Nat.le_of_ble_eq_true rfl, Nat.le_of_ble_eq_true rfl⟩ dX11_heir_5 rfl (st := []) (fun r_571 I_568 J_569 h_570 => ?_)
  obtain ⟨rfl, rfl, er_571⟩ := h_570
  have h0r_571 := er_571
  rw [z_hp] at er_571
  subst er_571
  refine t_if_eq C (tgt := 29) (by decide) dX11_heir_8 (by decide) ?_
  refine g_iconst C (v := (-1)) dX11_heir_29 (by decide) ?_
  exact g_zret (ty := .int) (r := (-1)) B K rfl rfl (rfl) dX11_heir_30
set_option maxRecDepth 100000 in
set_option maxHeartbeats 4000000 in
theorem t_will {l : Launch} {D : va_G} {cy : Nat → ClassId} {L : List Nat} {κ ln : Nat → Nat} {R : Nat → Nat → Option Nat} {I : Nat → Nat → Int32} {J : Nat → Nat → Int64} {ow : Nat → Nat × Nat} (W9 : ∀ a ∈ L, Shp L κ ln R ow a) {x : Nat} (hLx : x ∈ L) (hkx : κ x = 11) (FZ : Fz_ L κ I) (p1 : Int32) : CtI l yX11_will cX11_will 4 (some .int) { frames := 5, cells := 0, slots := 0, locals := 320 } D cy L κ ln R I J [.ref x, .int p1] (fun r _ _ => r = -1) := by
  refine CtI.of (by decide +kernel) (Nat.le_of_ble_eq_true rfl) ?_
  intro p e s m below meth c B K
  have C := B.1
  have Z1 := fz_Z FZ 1 (by decide) (by decide) (by decide)
  have Z8 := fz_Z FZ 8 (by decide) (by decide) (by decide)
  refine g_lo (is := [0, 1]) (lo2 := [(0, .ref x), (1, .int p1)]) rfl ?_
  refine g_aload_n C 0 dX11_will_0 rfl rfl ?_
  obtain ⟨b_572, hb_572, hb_572L, hb_572k⟩ := shp_o (W9 x hLx) hkx 1 8 rfl (by decide)
  refine g_getR C K hLx hkx f_11_19 hb_572 dX11_will_1 ?_
  refine g_iload_n C 1 dX11_will_4 rfl rfl ?_
  refine g_callVI C K (c_Table_hasPerson hb_572L hb_572k p1 0 ((by rw [FZ b_572 hb_572L 5, hb_572k]; rfl))) hb_572L hb_572k (by decide) rfl v_11_133 rfl ⟨rfl, rfl⟩ ⟨Nat.le_of_ble_eq_true rfl, Nat.le_of_ble_eq_true rfl⟩ (Nat.le_of_ble_eq_true rfl) ⟨Nat.le_of_ble_eq_true rfl, Nat.le_of_ble_eq_true rfl⟩ dX11_will_5 rfl (st := []) (fun r_576 I_573 J_574 h_575 => ?_)
  obtain ⟨rfl, rfl, er_576⟩ := h_575
  have h0r_576 := er_576
  rw [z_hp] at er_576
  subst er_576
  refine n_if_ne C (tgt := 13) (by decide) dX11_will_8 (by decide) ?_
  refine g_iconst C (v := (-1)) dX11_will_11 (by decide) ?_
  exact g_zret (ty := .int) (r := (-1)) B K rfl rfl (rfl) dX11_will_12
set_option maxRecDepth 100000 in
set_option maxHeartbeats 4000000 in
theorem t_line {l : Launch} {D : va_G} {cy : Nat → ClassId} {L : List Nat} {κ ln : Nat → Nat} {R : Nat → Nat → Option Nat} {I : Nat → Nat → Int32} {J : Nat → Nat → Int64} {ow : Nat → Nat × Nat} (W9 : ∀ a ∈ L, Shp L κ ln R ow a) {x : Nat} (hLx : x ∈ L) (hkx : κ x = 11) (FZ : Fz_ L κ I) (p1 : Int32) (k : Int32) : CtI l yX11_line cX11_line 6 (some .int) { frames := 5, cells := 0, slots := 0, locals := 320 } D cy L κ ln R I J [.ref x, .int p1, .int k] (fun r _ _ => r = -1) := by
  refine CtI.of (by decide +kernel) (Nat.le_of_ble_eq_true rfl) ?_
  intro p e s m below meth c B K
  have C := B.1
  have Z1 := fz_Z FZ 1 (by decide) (by decide) (by decide)
  have Z8 := fz_Z FZ 8 (by decide) (by decide) (by decide)
  refine g_lo (is := [0, 1, 2]) (lo2 := [(0, .ref x), (1, .int p1), (2, .int k)]) rfl ?_
  refine g_aload_n C 0 dX11_line_0 rfl rfl ?_
  obtain ⟨b_577, hb_577, hb_577L, hb_577k⟩ := shp_o (W9 x hLx) hkx 1 8 rfl (by decide)
  refine g_getR C K hLx hkx f_11_19 hb_577 dX11_line_1 ?_
  refine g_iload_n C 1 dX11_line_4 rfl rfl ?_
  refine g_callVI C K (c_Table_hasPerson hb_577L hb_577k p1 0 ((by rw [FZ b_577 hb_577L 5, hb_577k]; rfl))) hb_577L hb_577k (by decide) rfl v_11_133 rfl ⟨rfl, rfl⟩ ⟨Nat.le_of_ble_eq_true rfl, Nat.le_of_ble_eq_true rfl⟩ (Nat.le_of_ble_eq_true rfl) ⟨Nat.le_of_ble_eq_true rfl, Nat.le_of_ble_eq_true rfl⟩ dX11_line_5 rfl (st := []) (fun r_581 I_578 J_579 h_580 => ?_)
  obtain ⟨rfl, rfl, er_581⟩ := h_580
  have h0r_581 := er_581
  rw [z_hp] at er_581
  subst er_581
  refine t_if_eq C (tgt := 21) (by decide) dX11_line_8 (by decide) ?_
  refine g_iconst C (v := (-1)) dX11_line_21 (by decide) ?_
  exact g_zret (ty := .int) (r := (-1)) B K rfl rfl (rfl) dX11_line_22
set_option maxRecDepth 100000 in
set_option maxHeartbeats 4000000 in
theorem t_undo {l : Launch} {D : va_G} {cy : Nat → ClassId} {L : List Nat} {κ ln : Nat → Nat} {R : Nat → Nat → Option Nat} {I : Nat → Nat → Int32} {J : Nat → Nat → Int64} {ow : Nat → Nat × Nat} (W9 : ∀ a ∈ L, Shp L κ ln R ow a) {x : Nat} (hLx : x ∈ L) (hkx : κ x = 11) (FZ : Fz_ L κ I) : CtI l yX11_undo cX11_undo 1 (some .int) { frames := 5, cells := 0, slots := 0, locals := 320 } D cy L κ ln R I J [.ref x] (fun r _ _ => r = -1) := by
  refine CtI.of (by decide +kernel) (Nat.le_of_ble_eq_true rfl) ?_
  intro p e s m below meth c B K
  have C := B.1
  have Z1 := fz_Z FZ 1 (by decide) (by decide) (by decide)
  have Z8 := fz_Z FZ 8 (by decide) (by decide) (by decide)
  refine g_lo (is := [0]) (lo2 := [(0, .ref x)]) rfl ?_
  refine g_aload_n C 0 dX11_undo_0 rfl rfl ?_
  obtain ⟨b_582, hb_582, hb_582L, hb_582k⟩ := shp_o (W9 x hLx) hkx 4 5 rfl (by decide)
  refine g_getR C K hLx hkx f_11_38 hb_582 dX11_undo_1 ?_
  refine g_aload_n C 0 dX11_undo_4 rfl rfl ?_
  obtain ⟨b_583, hb_583, hb_583L, hb_583k⟩ := shp_o (W9 x hLx) hkx 2 1 rfl (by decide)
  refine g_getR C K hLx hkx f_11_28 hb_583 dX11_undo_5 ?_
  refine g_callVI C K (c_Past_takeBack0 hb_582L hb_582k hb_583L hb_583k ((by rw [FZ b_582 hb_582L 1, hb_582k]; rfl))) hb_582L hb_582k (by decide) rfl v_11_256 rfl ⟨rfl, rfl⟩ ⟨Nat.le_of_ble_eq_true rfl, Nat.le_of_ble_eq_true rfl⟩ (Nat.le_of_ble_eq_true rfl) ⟨Nat.le_of_ble_eq_true rfl, Nat.le_of_ble_eq_true rfl⟩ dX11_undo_8 rfl (st := []) (fun r_587 I_584 J_585 h_586 => ?_)
  obtain ⟨rfl, rfl, er_587⟩ := h_586
  have h0r_587 := er_587
  subst er_587
  exact g_zret (ty := .int) (r := (-1)) B K rfl rfl (rfl) dX11_undo_11
set_option maxRecDepth 100000 in
set_option maxHeartbeats 4000000 in
theorem t_order {l : Launch} {D : va_G} {cy : Nat → ClassId} {L : List Nat} {κ ln : Nat → Nat} {R : Nat → Nat → Option Nat} {I : Nat → Nat → Int32} {J : Nat → Nat → Int64} {ow : Nat → Nat × Nat} (W9 : ∀ a ∈ L, Shp L κ ln R ow a) {x : Nat} (hLx : x ∈ L) (hkx : κ x = 11) (FZ : Fz_ L κ I) : CtI l yX11_order cX11_order 1 (some .int) { frames := 5, cells := 0, slots := 0, locals := 320 } D cy L κ ln R I J [.ref x] (fun r _ _ => r = 0) := by
  refine CtI.of (by decide +kernel) (Nat.le_of_ble_eq_true rfl) ?_
  intro p e s m below meth c B K
  have C := B.1
  have Z1 := fz_Z FZ 1 (by decide) (by decide) (by decide)
  have Z8 := fz_Z FZ 8 (by decide) (by decide) (by decide)
  refine g_lo (is := [0]) (lo2 := [(0, .ref x)]) rfl ?_
  refine g_aload_n C 0 dX11_order_0 rfl rfl ?_
  obtain ⟨b_588, hb_588, hb_588L, hb_588k⟩ := shp_o (W9 x hLx) hkx 9 4 rfl (by decide)
  refine g_getR C K hLx hkx f_11_69 hb_588 dX11_order_1 ?_
  refine g_aload_n C 0 dX11_order_4 rfl rfl ?_
  obtain ⟨b_589, hb_589, hb_589L, hb_589k⟩ := shp_o (W9 x hLx) hkx 2 1 rfl (by decide)
  refine g_getR C K hLx hkx f_11_28 hb_589 dX11_order_5 ?_
  refine g_callVI C K (c_Order_findFrom0 W9 hb_588L hb_588k hb_589L hb_589k Z1 Z8) hb_588L hb_588k (by decide) rfl v_11_266 rfl ⟨rfl, rfl⟩ ⟨Nat.le_of_ble_eq_true rfl, Nat.le_of_ble_eq_true rfl⟩ (Nat.le_of_ble_eq_true rfl) ⟨Nat.le_of_ble_eq_true rfl, Nat.le_of_ble_eq_true rfl⟩ dX11_order_8 rfl (st := []) (fun r_593 I_590 J_591 h_592 => ?_)
  obtain ⟨rfl, f_594, rfl⟩ := h_592
  exact g_zret (ty := .int) (r := 0) B K rfl rfl (rfl) dX11_order_11
set_option maxRecDepth 100000 in
set_option maxHeartbeats 4000000 in
theorem t_orderAt {l : Launch} {D : va_G} {cy : Nat → ClassId} {L : List Nat} {κ ln : Nat → Nat} {R : Nat → Nat → Option Nat} {I : Nat → Nat → Int32} {J : Nat → Nat → Int64} {ow : Nat → Nat × Nat} (W9 : ∀ a ∈ L, Shp L κ ln R ow a) {x : Nat} (hLx : x ∈ L) (hkx : κ x = 11) (FZ : Fz_ L κ I) (k : Int32) : CtI l yX11_orderAt cX11_orderAt 2 (some .int) { frames := 5, cells := 0, slots := 0, locals := 320 } D cy L κ ln R I J [.ref x, .int k] (fun r _ _ => r = -1) := by
  refine CtI.of (by decide +kernel) (Nat.le_of_ble_eq_true rfl) ?_
  intro p e s m below meth c B K
  have C := B.1
  have Z1 := fz_Z FZ 1 (by decide) (by decide) (by decide)
  have Z8 := fz_Z FZ 8 (by decide) (by decide) (by decide)
  refine g_lo (is := [0, 1]) (lo2 := [(0, .ref x), (1, .int k)]) rfl ?_
  refine g_iload_n C 1 dX11_orderAt_0 rfl rfl ?_
  refine g_if_lt C (tgt := 27) dX11_orderAt_1 (by decide) (fun h_596 => ?_) (fun h_596 => ?_)
  · skip
    refine g_iconst C (v := (-1)) dX11_orderAt_27 (by decide) ?_
    exact g_zret (ty := .int) (r := (-1)) B K rfl rfl (rfl) dX11_orderAt_28
  · skip
    refine g_iload_n C 1 dX11_orderAt_4 rfl rfl ?_
    refine g_aload_n C 0 dX11_orderAt_5 rfl rfl ?_
    obtain ⟨b_597, hb_597, hb_597L, hb_597k⟩ := shp_o (W9 x hLx) hkx 9 4 rfl (by decide)
    refine g_getR C K hLx hkx f_11_69 hb_597 dX11_orderAt_6 ?_
    refine g_getI C K hb_597L hb_597k f_11_269 (v := 0) ((by rw [FZ b_597 hb_597L 3, hb_597k]; rfl)) dX11_orderAt_9 ?_
    refine t_icmp_ge C (tgt := 27) (i32_lt_le h_596) dX11_orderAt_12 (by decide) ?_
    refine g_iconst C (v := (-1)) dX11_orderAt_27 (by decide) ?_
    exact g_zret (ty := .int) (r := (-1)) B K rfl rfl (rfl) dX11_orderAt_28
set_option maxRecDepth 100000 in
set_option maxHeartbeats 4000000 in
theorem t_seatAt {l : Launch} {D : va_G} {cy : Nat → ClassId} {L : List Nat} {κ ln : Nat → Nat} {R : Nat → Nat → Option Nat} {I : Nat → Nat → Int32} {J : Nat → Nat → Int64} {ow : Nat → Nat × Nat} (W9 : ∀ a ∈ L, Shp L κ ln R ow a) {x : Nat} (hLx : x ∈ L) (hkx : κ x = 11) (FZ : Fz_ L κ I) (k : Int32) : CtI l yX11_seatAt cX11_seatAt 2 (some .int) { frames := 5, cells := 0, slots := 0, locals := 320 } D cy L κ ln R I J [.ref x, .int k] (fun r _ _ => r = -1) := by
  refine CtI.of (by decide +kernel) (Nat.le_of_ble_eq_true rfl) ?_
  intro p e s m below meth c B K
  have C := B.1
  have Z1 := fz_Z FZ 1 (by decide) (by decide) (by decide)
  have Z8 := fz_Z FZ 8 (by decide) (by decide) (by decide)
  refine g_lo (is := [0, 1]) (lo2 := [(0, .ref x), (1, .int k)]) rfl ?_
  refine g_iload_n C 1 dX11_seatAt_0 rfl rfl ?_
  refine g_if_lt C (tgt := 27) dX11_seatAt_1 (by decide) (fun h_598 => ?_) (fun h_598 => ?_)
  · skip
    refine g_iconst C (v := (-1)) dX11_seatAt_27 (by decide) ?_
    exact g_zret (ty := .int) (r := (-1)) B K rfl rfl (rfl) dX11_seatAt_28
  · skip
    refine g_iload_n C 1 dX11_seatAt_4 rfl rfl ?_
    refine g_aload_n C 0 dX11_seatAt_5 rfl rfl ?_
    obtain ⟨b_599, hb_599, hb_599L, hb_599k⟩ := shp_o (W9 x hLx) hkx 10 6 rfl (by decide)
    refine g_getR C K hLx hkx f_11_76 hb_599 dX11_seatAt_6 ?_
    refine g_getI C K hb_599L hb_599k f_11_294 (v := 0) ((by rw [FZ b_599 hb_599L 1, hb_599k]; rfl)) dX11_seatAt_9 ?_
    refine t_icmp_ge C (tgt := 27) (i32_lt_le h_598) dX11_seatAt_12 (by decide) ?_
    refine g_iconst C (v := (-1)) dX11_seatAt_27 (by decide) ?_
    exact g_zret (ty := .int) (r := (-1)) B K rfl rfl (rfl) dX11_seatAt_28
set_option maxRecDepth 100000 in
set_option maxHeartbeats 4000000 in
theorem t_byteAt {l : Launch} {D : va_G} {cy : Nat → ClassId} {L : List Nat} {κ ln : Nat → Nat} {R : Nat → Nat → Option Nat} {I : Nat → Nat → Int32} {J : Nat → Nat → Int64} {ow : Nat → Nat × Nat} (W9 : ∀ a ∈ L, Shp L κ ln R ow a) {x : Nat} (hLx : x ∈ L) (hkx : κ x = 11) (FZ : Fz_ L κ I) (i : Int32) : CtI l yX11_byteAt cX11_byteAt 2 (some .int) { frames := 5, cells := 0, slots := 0, locals := 320 } D cy L κ ln R I J [.ref x, .int i] (fun r _ _ => r = -1) := by
  refine CtI.of (by decide +kernel) (Nat.le_of_ble_eq_true rfl) ?_
  intro p e s m below meth c B K
  have C := B.1
  have Z1 := fz_Z FZ 1 (by decide) (by decide) (by decide)
  have Z8 := fz_Z FZ 8 (by decide) (by decide) (by decide)
  refine g_lo (is := [0, 1]) (lo2 := [(0, .ref x), (1, .int i)]) rfl ?_
  refine g_iload_n C 1 dX11_byteAt_0 rfl rfl ?_
  refine g_if_lt C (tgt := 21) dX11_byteAt_1 (by decide) (fun h_600 => ?_) (fun h_600 => ?_)
  · skip
    refine g_iconst C (v := (-1)) dX11_byteAt_21 (by decide) ?_
    exact g_zret (ty := .int) (r := (-1)) B K rfl rfl (rfl) dX11_byteAt_22
  · skip
    refine g_iload_n C 1 dX11_byteAt_4 rfl rfl ?_
    refine g_aload_n C 0 dX11_byteAt_5 rfl rfl ?_
    refine g_getI C K hLx hkx f_11_97 (v := 0) ((by rw [FZ x hLx 14, hkx]; rfl)) dX11_byteAt_6 ?_
    refine t_icmp_ge C (tgt := 21) (i32_lt_le h_600) dX11_byteAt_9 (by decide) ?_
    refine g_iconst C (v := (-1)) dX11_byteAt_21 (by decide) ?_
    exact g_zret (ty := .int) (r := (-1)) B K rfl rfl (rfl) dX11_byteAt_22
set_option maxRecDepth 100000 in
set_option maxHeartbeats 4000000 in
theorem t_eaters {l : Launch} {D : va_G} {cy : Nat → ClassId} {L : List Nat} {κ ln : Nat → Nat} {R : Nat → Nat → Option Nat} {I : Nat → Nat → Int32} {J : Nat → Nat → Int64} {ow : Nat → Nat × Nat} (W9 : ∀ a ∈ L, Shp L κ ln R ow a) {x : Nat} (hLx : x ∈ L) (hkx : κ x = 11) (FZ : Fz_ L κ I) : CtI l yX11_eaters cX11_eaters 4 (some .int) { frames := 5, cells := 0, slots := 0, locals := 320 } D cy L κ ln R I J [.ref x] (fun r _ _ => r = -1) := by
  refine CtI.of (by decide +kernel) (Nat.le_of_ble_eq_true rfl) ?_
  intro p e s m below meth c B K
  have C := B.1
  have Z1 := fz_Z FZ 1 (by decide) (by decide) (by decide)
  have Z8 := fz_Z FZ 8 (by decide) (by decide) (by decide)
  refine g_lo (is := [0]) (lo2 := [(0, .ref x)]) rfl ?_
  refine g_aload_n C 0 dX11_eaters_0 rfl rfl ?_
  obtain ⟨b_601, hb_601, hb_601L, hb_601k⟩ := shp_o (W9 x hLx) hkx 0 10 rfl (by decide)
  refine g_getR C K hLx hkx f_11_10 hb_601 dX11_eaters_1 ?_
  refine g_getI C K hb_601L hb_601k f_11_102 (v := 0) ((by rw [FZ b_601 hb_601L 5, hb_601k]; rfl)) dX11_eaters_4 ?_
  refine g_iconst C (v := 2) dX11_eaters_7 (by decide) ?_
  refine t_icmp_ne C (tgt := 15) (by decide) dX11_eaters_8 (by decide) ?_
  refine g_iconst C (v := 0) dX11_eaters_15 (by decide) ?_
  refine g_istore_n C dX11_eaters_16 rfl (by decide) (lo2 := [(1, .int 0), (0, .ref x)]) rfl ?_
  refine g_aload_n C 1 dX11_eaters_17 rfl rfl ?_
  refine g_getR C K hLx hkx f_11_10 hb_601 dX11_eaters_18 ?_
  refine g_iconst C (v := 0) dX11_eaters_21 (by decide) ?_
  refine g_callVI C K (c_Tape_byteOf0_0 hb_601L hb_601k ((by rw [FZ b_601 hb_601L 5, hb_601k]; rfl))) hb_601L hb_601k (by decide) rfl v_11_275 rfl ⟨rfl, rfl⟩ ⟨Nat.le_of_ble_eq_true rfl, Nat.le_of_ble_eq_true rfl⟩ (Nat.le_of_ble_eq_true rfl) ⟨Nat.le_of_ble_eq_true rfl, Nat.le_of_ble_eq_true rfl⟩ dX11_eaters_22 rfl (st := []) (fun r_605 I_602 J_603 h_604 => ?_)
  obtain ⟨rfl, rfl, er_605⟩ := h_604
  have h0r_605 := er_605
  subst er_605
  refine g_istore_n C dX11_eaters_25 rfl (by decide) (lo2 := [(2, .int (-1)), (1, .int 0), (0, .ref x)]) rfl ?_
  refine g_aload_n C 2 dX11_eaters_26 rfl rfl ?_
  refine g_getR C K hLx hkx f_11_10 hb_601 dX11_eaters_27 ?_
  refine g_iconst C (v := 1) dX11_eaters_30 (by decide) ?_
  refine g_callVI C K (c_Tape_byteOf0_1 hb_601L hb_601k ((by rw [FZ b_601 hb_601L 5, hb_601k]; rfl))) hb_601L hb_601k (by decide) rfl v_11_275 rfl ⟨rfl, rfl⟩ ⟨Nat.le_of_ble_eq_true rfl, Nat.le_of_ble_eq_true rfl⟩ (Nat.le_of_ble_eq_true rfl) ⟨Nat.le_of_ble_eq_true rfl, Nat.le_of_ble_eq_true rfl⟩ dX11_eaters_31 rfl (st := []) (fun r_609 I_606 J_607 h_608 => ?_)
  obtain ⟨rfl, rfl, er_609⟩ := h_608
  have h0r_609 := er_609
  subst er_609
  refine g_istore_n C dX11_eaters_34 rfl (by decide) (lo2 := [(3, .int (-1)), (2, .int (-1)), (1, .int 0), (0, .ref x)]) rfl ?_
  refine g_aload_n C 3 dX11_eaters_35 rfl rfl ?_
  refine g_getR C K hLx hkx f_11_10 hb_601 dX11_eaters_36 ?_
  refine g_iconst C (v := 0) dX11_eaters_39 (by decide) ?_
  refine h_putI C K hb_601L hb_601k f_11_102 p_10_5 dX11_eaters_40 (fun I_610 hI_610 => ?_)
  refine g_iload_n C 2 dX11_eaters_43 rfl rfl ?_
  refine t_if_eq C (tgt := 74) (by decide) dX11_eaters_44 (by decide) ?_
  refine g_iconst C (v := (-1)) dX11_eaters_74 (by decide) ?_
  exact g_zret (ty := .int) (r := (-1)) B K rfl rfl (rfl) dX11_eaters_75
set_option maxRecDepth 100000 in
set_option maxHeartbeats 4000000 in
theorem t_surely {l : Launch} {D : va_G} {cy : Nat → ClassId} {L : List Nat} {κ ln : Nat → Nat} {R : Nat → Nat → Option Nat} {I : Nat → Nat → Int32} {J : Nat → Nat → Int64} {ow : Nat → Nat × Nat} (W9 : ∀ a ∈ L, Shp L κ ln R ow a) {x : Nat} (hLx : x ∈ L) (hkx : κ x = 11) (FZ : Fz_ L κ I) : CtI l yX11_surely cX11_surely 1 (some .int) { frames := 5, cells := 0, slots := 0, locals := 320 } D cy L κ ln R I J [.ref x] (fun r _ _ => r = -1) := by
  refine CtI.of (by decide +kernel) (Nat.le_of_ble_eq_true rfl) ?_
  intro p e s m below meth c B K
  have C := B.1
  have Z1 := fz_Z FZ 1 (by decide) (by decide) (by decide)
  have Z8 := fz_Z FZ 8 (by decide) (by decide) (by decide)
  refine g_lo (is := [0]) (lo2 := [(0, .ref x)]) rfl ?_
  refine g_aload_n C 0 dX11_surely_0 rfl rfl ?_
  obtain ⟨b_611, hb_611, hb_611L, hb_611k⟩ := shp_o (W9 x hLx) hkx 11 2 rfl (by decide)
  refine g_getR C K hLx hkx f_11_83 hb_611 dX11_surely_1 ?_
  refine g_getI C K hb_611L hb_611k f_11_282 (v := (-1)) ((by rw [FZ b_611 hb_611L 1, hb_611k]; rfl)) dX11_surely_4 ?_
  exact g_zret (ty := .int) (r := (-1)) B K rfl rfl (rfl) dX11_surely_7
set_option maxRecDepth 100000 in
set_option maxHeartbeats 4000000 in
theorem t_ask {l : Launch} {D : va_G} {cy : Nat → ClassId} {L : List Nat} {κ ln : Nat → Nat} {R : Nat → Nat → Option Nat} {I : Nat → Nat → Int32} {J : Nat → Nat → Int64} {ow : Nat → Nat × Nat} (W9 : ∀ a ∈ L, Shp L κ ln R ow a) {x : Nat} (hLx : x ∈ L) (hkx : κ x = 11) (FZ : Fz_ L κ I) : CtI l yX11_ask cX11_ask 1 (some .int) { frames := 5, cells := 0, slots := 0, locals := 320 } D cy L κ ln R I J [.ref x] (fun r _ _ => r = -1) := by
  refine CtI.of (by decide +kernel) (Nat.le_of_ble_eq_true rfl) ?_
  intro p e s m below meth c B K
  have C := B.1
  have Z1 := fz_Z FZ 1 (by decide) (by decide) (by decide)
  have Z8 := fz_Z FZ 8 (by decide) (by decide) (by decide)
  refine g_lo (is := [0]) (lo2 := [(0, .ref x)]) rfl ?_
  refine g_aload_n C 0 dX11_ask_0 rfl rfl ?_
  obtain ⟨b_612, hb_612, hb_612L, hb_612k⟩ := shp_o (W9 x hLx) hkx 11 2 rfl (by decide)
  refine g_getR C K hLx hkx f_11_83 hb_612 dX11_ask_1 ?_
  refine g_getI C K hb_612L hb_612k f_11_285 (v := (-1)) ((by rw [FZ b_612 hb_612L 2, hb_612k]; rfl)) dX11_ask_4 ?_
  exact g_zret (ty := .int) (r := (-1)) B K rfl rfl (rfl) dX11_ask_7
set_option maxRecDepth 100000 in
set_option maxHeartbeats 4000000 in
theorem t_share {l : Launch} {D : va_G} {cy : Nat → ClassId} {L : List Nat} {κ ln : Nat → Nat} {R : Nat → Nat → Option Nat} {I : Nat → Nat → Int32} {J : Nat → Nat → Int64} {ow : Nat → Nat × Nat} (W9 : ∀ a ∈ L, Shp L κ ln R ow a) {x : Nat} (hLx : x ∈ L) (hkx : κ x = 11) (FZ : Fz_ L κ I) (d : Int32) (s1 : Int32) (p1 : Int32) : CtI l yX11_share cX11_share 5 (some .int) { frames := 5, cells := 0, slots := 0, locals := 320 } D cy L κ ln R I J [.ref x, .int d, .int s1, .int p1] (fun r _ _ => r = -1) := by
  refine CtI.of (by decide +kernel) (Nat.le_of_ble_eq_true rfl) ?_
  intro p e s m below meth c B K
  have C := B.1
  have Z1 := fz_Z FZ 1 (by decide) (by decide) (by decide)
  have Z8 := fz_Z FZ 8 (by decide) (by decide) (by decide)
  refine g_lo (is := [0, 1, 2, 3]) (lo2 := [(0, .ref x), (1, .int d), (2, .int s1), (3, .int p1)]) rfl ?_
  refine g_aload_n C 0 dX11_share_0 rfl rfl ?_
  obtain ⟨b_613, hb_613, hb_613L, hb_613k⟩ := shp_o (W9 x hLx) hkx 1 8 rfl (by decide)
  refine g_getR C K hLx hkx f_11_19 hb_613 dX11_share_1 ?_
  refine g_iload_n C 1 dX11_share_4 rfl rfl ?_
  refine g_callVI C K (c_Table_hasDish hb_613L hb_613k d 0 ((by rw [FZ b_613 hb_613L 6, hb_613k]; rfl))) hb_613L hb_613k (by decide) rfl v_11_175 rfl ⟨rfl, rfl⟩ ⟨Nat.le_of_ble_eq_true rfl, Nat.le_of_ble_eq_true rfl⟩ (Nat.le_of_ble_eq_true rfl) ⟨Nat.le_of_ble_eq_true rfl, Nat.le_of_ble_eq_true rfl⟩ dX11_share_5 rfl (st := []) (fun r_617 I_614 J_615 h_616 => ?_)
  obtain ⟨rfl, rfl, er_617⟩ := h_616
  have h0r_617 := er_617
  rw [z_hp] at er_617
  subst er_617
  refine t_if_eq C (tgt := 40) (by decide) dX11_share_8 (by decide) ?_
  refine g_iconst C (v := 0) dX11_share_40 (by decide) ?_
  refine g_istore C dX11_share_41 (by decide) (lo2 := [(4, .int 0), (0, .ref x), (1, .int d), (2, .int s1), (3, .int p1)]) rfl ?_
  refine g_iload C 0 dX11_share_43 rfl ?_
  refine t_if_eq C (tgt := 56) (by decide) dX11_share_45 (by decide) ?_
  refine g_iconst C (v := (-1)) dX11_share_56 (by decide) ?_
  exact g_zret (ty := .int) (r := (-1)) B K rfl rfl (rfl) dX11_share_57
set_option maxRecDepth 100000 in
set_option maxHeartbeats 4000000 in
theorem t_last {l : Launch} {D : va_G} {cy : Nat → ClassId} {L : List Nat} {κ ln : Nat → Nat} {R : Nat → Nat → Option Nat} {I : Nat → Nat → Int32} {J : Nat → Nat → Int64} {ow : Nat → Nat × Nat} (W9 : ∀ a ∈ L, Shp L κ ln R ow a) {x : Nat} (hLx : x ∈ L) (hkx : κ x = 11) (FZ : Fz_ L κ I) (d : Int32) : CtI l yX11_last cX11_last 2 (some .int) { frames := 5, cells := 0, slots := 0, locals := 320 } D cy L κ ln R I J [.ref x, .int d] (fun r _ _ => r = -1) := by
  refine CtI.of (by decide +kernel) (Nat.le_of_ble_eq_true rfl) ?_
  intro p e s m below meth c B K
  have C := B.1
  have Z1 := fz_Z FZ 1 (by decide) (by decide) (by decide)
  have Z8 := fz_Z FZ 8 (by decide) (by decide) (by decide)
  refine g_lo (is := [0, 1]) (lo2 := [(0, .ref x), (1, .int d)]) rfl ?_
  refine g_aload_n C 0 dX11_last_0 rfl rfl ?_
  obtain ⟨b_618, hb_618, hb_618L, hb_618k⟩ := shp_o (W9 x hLx) hkx 1 8 rfl (by decide)
  refine g_getR C K hLx hkx f_11_19 hb_618 dX11_last_1 ?_
  refine g_iload_n C 1 dX11_last_4 rfl rfl ?_
  refine g_callVI C K (c_Table_hasDish hb_618L hb_618k d 0 ((by rw [FZ b_618 hb_618L 6, hb_618k]; rfl))) hb_618L hb_618k (by decide) rfl v_11_175 rfl ⟨rfl, rfl⟩ ⟨Nat.le_of_ble_eq_true rfl, Nat.le_of_ble_eq_true rfl⟩ (Nat.le_of_ble_eq_true rfl) ⟨Nat.le_of_ble_eq_true rfl, Nat.le_of_ble_eq_true rfl⟩ dX11_last_5 rfl (st := []) (fun r_622 I_619 J_620 h_621 => ?_)
  obtain ⟨rfl, rfl, er_622⟩ := h_621
  have h0r_622 := er_622
  rw [z_hp] at er_622
  subst er_622
  refine n_if_ne C (tgt := 13) (by decide) dX11_last_8 (by decide) ?_
  refine g_iconst C (v := (-1)) dX11_last_11 (by decide) ?_
  exact g_zret (ty := .int) (r := (-1)) B K rfl rfl (rfl) dX11_last_12
set_option maxRecDepth 100000 in
set_option maxHeartbeats 4000000 in
theorem t_seats {l : Launch} {D : va_G} {cy : Nat → ClassId} {L : List Nat} {κ ln : Nat → Nat} {R : Nat → Nat → Option Nat} {I : Nat → Nat → Int32} {J : Nat → Nat → Int64} {ow : Nat → Nat × Nat} (W9 : ∀ a ∈ L, Shp L κ ln R ow a) {x : Nat} (hLx : x ∈ L) (hkx : κ x = 11) (FZ : Fz_ L κ I) : CtI l yX11_seats cX11_seats 1 (some .int) { frames := 5, cells := 0, slots := 0, locals := 320 } D cy L κ ln R I J [.ref x] (fun r _ _ => r = 0) := by
  refine CtI.of (by decide +kernel) (Nat.le_of_ble_eq_true rfl) ?_
  intro p e s m below meth c B K
  have C := B.1
  have Z1 := fz_Z FZ 1 (by decide) (by decide) (by decide)
  have Z8 := fz_Z FZ 8 (by decide) (by decide) (by decide)
  refine g_lo (is := [0]) (lo2 := [(0, .ref x)]) rfl ?_
  refine g_aload_n C 0 dX11_seats_0 rfl rfl ?_
  obtain ⟨b_623, hb_623, hb_623L, hb_623k⟩ := shp_o (W9 x hLx) hkx 10 6 rfl (by decide)
  refine g_getR C K hLx hkx f_11_76 hb_623 dX11_seats_1 ?_
  refine g_aload_n C 0 dX11_seats_4 rfl rfl ?_
  obtain ⟨b_624, hb_624, hb_624L, hb_624k⟩ := shp_o (W9 x hLx) hkx 2 1 rfl (by decide)
  refine g_getR C K hLx hkx f_11_28 hb_624 dX11_seats_5 ?_
  refine g_callVI C K (c_Seat_seat0 W9 hb_623L hb_623k hb_624L hb_624k Z1 Z8) hb_623L hb_623k (by decide) rfl v_11_291 rfl ⟨rfl, rfl⟩ ⟨Nat.le_of_ble_eq_true rfl, Nat.le_of_ble_eq_true rfl⟩ (Nat.le_of_ble_eq_true rfl) ⟨Nat.le_of_ble_eq_true rfl, Nat.le_of_ble_eq_true rfl⟩ dX11_seats_8 rfl (st := []) (fun r_628 I_625 J_626 h_627 => ?_)
  obtain ⟨rfl, f_629, rfl⟩ := h_627
  exact g_zret (ty := .int) (r := 0) B K rfl rfl (rfl) dX11_seats_11
set_option maxRecDepth 100000 in
set_option maxHeartbeats 4000000 in
theorem t_left {l : Launch} {D : va_G} {cy : Nat → ClassId} {L : List Nat} {κ ln : Nat → Nat} {R : Nat → Nat → Option Nat} {I : Nat → Nat → Int32} {J : Nat → Nat → Int64} {ow : Nat → Nat × Nat} (W9 : ∀ a ∈ L, Shp L κ ln R ow a) {x : Nat} (hLx : x ∈ L) (hkx : κ x = 11) (FZ : Fz_ L κ I) (p1 : Int32) : CtI l yX11_left cX11_left 5 (some .int) { frames := 5, cells := 0, slots := 0, locals := 320 } D cy L κ ln R I J [.ref x, .int p1] (fun r _ _ => r = -1) := by
  refine CtI.of (by decide +kernel) (Nat.le_of_ble_eq_true rfl) ?_
  intro p e s m below meth c B K
  have C := B.1
  have Z1 := fz_Z FZ 1 (by decide) (by decide) (by decide)
  have Z8 := fz_Z FZ 8 (by decide) (by decide) (by decide)
  refine g_lo (is := [0, 1]) (lo2 := [(0, .ref x), (1, .int p1)]) rfl ?_
  refine g_aload_n C 0 dX11_left_0 rfl rfl ?_
  obtain ⟨b_631, hb_631, hb_631L, hb_631k⟩ := shp_o (W9 x hLx) hkx 1 8 rfl (by decide)
  refine g_getR C K hLx hkx f_11_19 hb_631 dX11_left_1 ?_
  refine g_iload_n C 1 dX11_left_4 rfl rfl ?_
  refine g_callVI C K (c_Table_hasPerson hb_631L hb_631k p1 0 ((by rw [FZ b_631 hb_631L 5, hb_631k]; rfl))) hb_631L hb_631k (by decide) rfl v_11_133 rfl ⟨rfl, rfl⟩ ⟨Nat.le_of_ble_eq_true rfl, Nat.le_of_ble_eq_true rfl⟩ (Nat.le_of_ble_eq_true rfl) ⟨Nat.le_of_ble_eq_true rfl, Nat.le_of_ble_eq_true rfl⟩ dX11_left_5 rfl (st := []) (fun r_635 I_632 J_633 h_634 => ?_)
  obtain ⟨rfl, rfl, er_635⟩ := h_634
  have h0r_635 := er_635
  rw [z_hp] at er_635
  subst er_635
  refine t_if_eq C (tgt := 38) (by decide) dX11_left_8 (by decide) ?_
  refine g_iconst C (v := 0) dX11_left_38 (by decide) ?_
  refine g_istore_n C dX11_left_39 rfl (by decide) (lo2 := [(2, .int 0), (0, .ref x), (1, .int p1)]) rfl ?_
  refine g_aload_n C 1 dX11_left_40 rfl rfl ?_
  obtain ⟨b_636, hb_636, hb_636L, hb_636k⟩ := shp_o (W9 x hLx) hkx 3 1 rfl (by decide)
  refine g_getR C K hLx hkx f_11_32 hb_636 dX11_left_41 ?_
  refine g_aload_n C 1 dX11_left_44 rfl rfl ?_
  obtain ⟨b_637, hb_637, hb_637L, hb_637k⟩ := shp_o (W9 x hLx) hkx 2 1 rfl (by decide)
  refine g_getR C K hLx hkx f_11_28 hb_637 dX11_left_45 ?_
  refine g_callVV C K (c_Course_become W9 hb_636L hb_636k hb_637L hb_637k (Z1)) hb_636L hb_636k (by decide) rfl v_11_126 rfl ⟨rfl, rfl⟩ ⟨Nat.le_of_ble_eq_true rfl, Nat.le_of_ble_eq_true rfl⟩ (Nat.le_of_ble_eq_true rfl) ⟨Nat.le_of_ble_eq_true rfl, Nat.le_of_ble_eq_true rfl⟩ dX11_left_48 rfl (st := []) (fun I_638 J_639 h_640 => ?_)
  obtain ⟨rfl, f_642, z_644⟩ := h_640
  refine g_iconst C (v := 0) dX11_left_51 (by decide) ?_
  refine g_istore_n C dX11_left_52 rfl (by decide) (lo2 := [(3, .int 0), (2, .int 0), (0, .ref x), (1, .int p1)]) rfl ?_
  refine g_iload_n C 0 dX11_left_53 rfl rfl ?_
  refine g_aload_n C 2 dX11_left_54 rfl rfl ?_
  obtain ⟨b_645, hb_645, hb_645L, hb_645k⟩ := shp_o (W9 x hLx) hkx 0 10 rfl (by decide)
  refine g_getR C K hLx hkx f_11_10 hb_645 dX11_left_55 ?_
  refine g_getI C K hb_645L hb_645k f_11_102 (v := 0) (by rw [f_642 b_645 5 (by rw [hb_645k]; decide)]; exact (by rw [FZ b_645 hb_645L 5, hb_645k]; rfl)) dX11_left_58 ?_
  refine t_icmp_ge C (tgt := 108) (by decide) dX11_left_61 (by decide) ?_
  refine g_aload_n C 2 dX11_left_108 rfl rfl ?_
  refine g_getR C K hLx hkx f_11_10 hb_645 dX11_left_109 ?_
  refine g_iconst C (v := 0) dX11_left_112 (by decide) ?_
  refine h_putI C K hb_645L hb_645k f_11_102 p_10_5 dX11_left_113 (fun I_646 hI_646 => ?_)
  refine g_iload_n C 1 dX11_left_116 rfl rfl ?_
  refine t_if_eq C (tgt := 132) (by decide) dX11_left_117 (by decide) ?_
  refine g_iconst C (v := (-1)) dX11_left_132 (by decide) ?_
  exact g_zret (ty := .int) (r := (-1)) B K rfl rfl (rfl) dX11_left_133
set_option maxRecDepth 100000 in
set_option maxHeartbeats 4000000 in
theorem t_kin {l : Launch} {D : va_G} {cy : Nat → ClassId} {L : List Nat} {κ ln : Nat → Nat} {R : Nat → Nat → Option Nat} {I : Nat → Nat → Int32} {J : Nat → Nat → Int64} {ow : Nat → Nat × Nat} (W9 : ∀ a ∈ L, Shp L κ ln R ow a) {x : Nat} (hLx : x ∈ L) (hkx : κ x = 11) (FZ : Fz_ L κ I) (p1 : Int32) (q : Int32) : CtI l yX11_kin cX11_kin 3 (some .int) { frames := 5, cells := 0, slots := 0, locals := 320 } D cy L κ ln R I J [.ref x, .int p1, .int q] (fun r _ _ => r = -1) := by
  refine CtI.of (by decide +kernel) (Nat.le_of_ble_eq_true rfl) ?_
  intro p e s m below meth c B K
  have C := B.1
  have Z1 := fz_Z FZ 1 (by decide) (by decide) (by decide)
  have Z8 := fz_Z FZ 8 (by decide) (by decide) (by decide)
  refine g_lo (is := [0, 1, 2]) (lo2 := [(0, .ref x), (1, .int p1), (2, .int q)]) rfl ?_
  refine g_aload_n C 0 dX11_kin_0 rfl rfl ?_
  obtain ⟨b_647, hb_647, hb_647L, hb_647k⟩ := shp_o (W9 x hLx) hkx 1 8 rfl (by decide)
  refine g_getR C K hLx hkx f_11_19 hb_647 dX11_kin_1 ?_
  refine g_iload_n C 1 dX11_kin_4 rfl rfl ?_
  refine g_callVI C K (c_Table_hasPerson hb_647L hb_647k p1 0 ((by rw [FZ b_647 hb_647L 5, hb_647k]; rfl))) hb_647L hb_647k (by decide) rfl v_11_133 rfl ⟨rfl, rfl⟩ ⟨Nat.le_of_ble_eq_true rfl, Nat.le_of_ble_eq_true rfl⟩ (Nat.le_of_ble_eq_true rfl) ⟨Nat.le_of_ble_eq_true rfl, Nat.le_of_ble_eq_true rfl⟩ dX11_kin_5 rfl (st := []) (fun r_651 I_648 J_649 h_650 => ?_)
  obtain ⟨rfl, rfl, er_651⟩ := h_650
  have h0r_651 := er_651
  rw [z_hp] at er_651
  subst er_651
  refine t_if_eq C (tgt := 34) (by decide) dX11_kin_8 (by decide) ?_
  refine g_iconst C (v := (-1)) dX11_kin_34 (by decide) ?_
  exact g_zret (ty := .int) (r := (-1)) B K rfl rfl (rfl) dX11_kin_35
set_option maxRecDepth 100000 in
set_option maxHeartbeats 4000000 in
theorem t_hungriest {l : Launch} {D : va_G} {cy : Nat → ClassId} {L : List Nat} {κ ln : Nat → Nat} {R : Nat → Nat → Option Nat} {I : Nat → Nat → Int32} {J : Nat → Nat → Int64} {ow : Nat → Nat × Nat} (W9 : ∀ a ∈ L, Shp L κ ln R ow a) {x : Nat} (hLx : x ∈ L) (hkx : κ x = 11) (FZ : Fz_ L κ I) : CtI l yX11_hungriest cX11_hungriest 3 (some .int) { frames := 5, cells := 0, slots := 0, locals := 320 } D cy L κ ln R I J [.ref x] (fun r _ _ => r = -1) := by
  refine CtI.of (by decide +kernel) (Nat.le_of_ble_eq_true rfl) ?_
  intro p e s m below meth c B K
  have C := B.1
  have Z1 := fz_Z FZ 1 (by decide) (by decide) (by decide)
  have Z8 := fz_Z FZ 8 (by decide) (by decide) (by decide)
  refine g_lo (is := [0]) (lo2 := [(0, .ref x)]) rfl ?_
  refine g_iconst C (v := (-1)) dX11_hungriest_0 (by decide) ?_
  refine g_istore_n C dX11_hungriest_1 rfl (by decide) (lo2 := [(1, .int (-1)), (0, .ref x)]) rfl ?_
  refine g_iconst C (v := 0) dX11_hungriest_2 (by decide) ?_
  refine g_istore_n C dX11_hungriest_3 rfl (by decide) (lo2 := [(2, .int 0), (1, .int (-1)), (0, .ref x)]) rfl ?_
  refine g_iload_n C 0 dX11_hungriest_4 rfl rfl ?_
  refine g_aload_n C 2 dX11_hungriest_5 rfl rfl ?_
  obtain ⟨b_652, hb_652, hb_652L, hb_652k⟩ := shp_o (W9 x hLx) hkx 1 8 rfl (by decide)
  refine g_getR C K hLx hkx f_11_19 hb_652 dX11_hungriest_6 ?_
  refine g_getI C K hb_652L hb_652k f_11_213 (v := 0) ((by rw [FZ b_652 hb_652L 5, hb_652k]; rfl)) dX11_hungriest_9 ?_
  refine t_icmp_ge C (tgt := 60) (by decide) dX11_hungriest_12 (by decide) ?_
  refine g_iload_n C 1 dX11_hungriest_60 rfl rfl ?_
  exact g_zret (ty := .int) (r := (-1)) B K rfl rfl (rfl) dX11_hungriest_61
set_option maxRecDepth 100000 in
set_option maxHeartbeats 4000000 in
theorem t_odds {l : Launch} {D : va_G} {cy : Nat → ClassId} {L : List Nat} {κ ln : Nat → Nat} {R : Nat → Nat → Option Nat} {I : Nat → Nat → Int32} {J : Nat → Nat → Int64} {ow : Nat → Nat × Nat} (W9 : ∀ a ∈ L, Shp L κ ln R ow a) {x : Nat} (hLx : x ∈ L) (hkx : κ x = 11) (FZ : Fz_ L κ I) (p1 : Int32) (n : Int32) (s1 : Int32) : CtI l yX11_odds cX11_odds 6 (some .int) { frames := 5, cells := 0, slots := 0, locals := 320 } D cy L κ ln R I J [.ref x, .int p1, .int n, .int s1] (fun r _ _ => r = -1) := by
  refine CtI.of (by decide +kernel) (Nat.le_of_ble_eq_true rfl) ?_
  intro p e s m below meth c B K
  have C := B.1
  have Z1 := fz_Z FZ 1 (by decide) (by decide) (by decide)
  have Z8 := fz_Z FZ 8 (by decide) (by decide) (by decide)
  refine g_lo (is := [0, 1, 2, 3]) (lo2 := [(0, .ref x), (1, .int p1), (2, .int n), (3, .int s1)]) rfl ?_
  refine g_aload_n C 0 dX11_odds_0 rfl rfl ?_
  obtain ⟨b_653, hb_653, hb_653L, hb_653k⟩ := shp_o (W9 x hLx) hkx 1 8 rfl (by decide)
  refine g_getR C K hLx hkx f_11_19 hb_653 dX11_odds_1 ?_
  refine g_iload_n C 1 dX11_odds_4 rfl rfl ?_
  refine g_callVI C K (c_Table_hasPerson hb_653L hb_653k p1 0 ((by rw [FZ b_653 hb_653L 5, hb_653k]; rfl))) hb_653L hb_653k (by decide) rfl v_11_133 rfl ⟨rfl, rfl⟩ ⟨Nat.le_of_ble_eq_true rfl, Nat.le_of_ble_eq_true rfl⟩ (Nat.le_of_ble_eq_true rfl) ⟨Nat.le_of_ble_eq_true rfl, Nat.le_of_ble_eq_true rfl⟩ dX11_odds_5 rfl (st := []) (fun r_657 I_654 J_655 h_656 => ?_)
  obtain ⟨rfl, rfl, er_657⟩ := h_656
  have h0r_657 := er_657
  rw [z_hp] at er_657
  subst er_657
  refine t_if_eq C (tgt := 22) (by decide) dX11_odds_8 (by decide) ?_
  refine g_iconst C (v := (-1)) dX11_odds_22 (by decide) ?_
  exact g_zret (ty := .int) (r := (-1)) B K rfl rfl (rfl) dX11_odds_23
set_option maxRecDepth 100000 in
set_option maxHeartbeats 4000000 in
theorem t_drawn {l : Launch} {D : va_G} {cy : Nat → ClassId} {L : List Nat} {κ ln : Nat → Nat} {R : Nat → Nat → Option Nat} {I : Nat → Nat → Int32} {J : Nat → Nat → Int64} {ow : Nat → Nat × Nat} (W9 : ∀ a ∈ L, Shp L κ ln R ow a) {x : Nat} (hLx : x ∈ L) (hkx : κ x = 11) (FZ : Fz_ L κ I) (n : Int32) (s1 : Int32) : CtI l yX11_drawn cX11_drawn 3 (some .int) { frames := 5, cells := 0, slots := 0, locals := 320 } D cy L κ ln R I J [.ref x, .int n, .int s1] (fun r _ _ => r = -1) := by
  refine CtI.of (by decide +kernel) (Nat.le_of_ble_eq_true rfl) ?_
  intro p e s m below meth c B K
  have C := B.1
  have Z1 := fz_Z FZ 1 (by decide) (by decide) (by decide)
  have Z8 := fz_Z FZ 8 (by decide) (by decide) (by decide)
  refine g_lo (is := [0, 1, 2]) (lo2 := [(0, .ref x), (1, .int n), (2, .int s1)]) rfl ?_
  refine g_iload_n C 1 dX11_drawn_0 rfl rfl ?_
  refine g_iconst C (v := 1) dX11_drawn_1 (by decide) ?_
  refine g_icmp_lt C (tgt := 21) dX11_drawn_2 (by decide) (fun h_658 => ?_) (fun h_658 => ?_)
  · skip
    refine g_iconst C (v := (-1)) dX11_drawn_21 (by decide) ?_
    exact g_zret (ty := .int) (r := (-1)) B K rfl rfl (rfl) dX11_drawn_22
  · skip
    refine g_iload_n C 1 dX11_drawn_5 rfl rfl ?_
    refine g_bipush C (v := 60) dX11_drawn_6 (by decide) ?_
    refine g_icmp_gt C (tgt := 21) dX11_drawn_8 (by decide) (fun h_659 => ?_) (fun h_659 => ?_)
    · skip
      refine g_iconst C (v := (-1)) dX11_drawn_21 (by decide) ?_
      exact g_zret (ty := .int) (r := (-1)) B K rfl rfl (rfl) dX11_drawn_22
    · skip
      refine g_aload_n C 0 dX11_drawn_11 rfl rfl ?_
      obtain ⟨b_660, hb_660, hb_660L, hb_660k⟩ := shp_o (W9 x hLx) hkx 1 8 rfl (by decide)
      refine g_getR C K hLx hkx f_11_19 hb_660 dX11_drawn_12 ?_
      refine g_getI C K hb_660L hb_660k f_11_213 (v := 0) ((by rw [FZ b_660 hb_660L 5, hb_660k]; rfl)) dX11_drawn_15 ?_
      refine n_if_ne C (tgt := 23) (by decide) dX11_drawn_18 (by decide) ?_
      refine g_iconst C (v := (-1)) dX11_drawn_21 (by decide) ?_
      exact g_zret (ty := .int) (r := (-1)) B K rfl rfl (rfl) dX11_drawn_22
set_option maxRecDepth 100000 in
set_option maxHeartbeats 4000000 in
theorem t_told {l : Launch} {D : va_G} {cy : Nat → ClassId} {L : List Nat} {κ ln : Nat → Nat} {R : Nat → Nat → Option Nat} {I : Nat → Nat → Int32} {J : Nat → Nat → Int64} {ow : Nat → Nat × Nat} (W9 : ∀ a ∈ L, Shp L κ ln R ow a) {x : Nat} (hLx : x ∈ L) (hkx : κ x = 11) (FZ : Fz_ L κ I) (w : Int32) : CtI l yX11_told cX11_told 2 (some .int) { frames := 5, cells := 0, slots := 0, locals := 320 } D cy L κ ln R I J [.ref x, .int w] (fun r _ _ => r = -1) := by
  refine CtI.of (by decide +kernel) (Nat.le_of_ble_eq_true rfl) ?_
  intro p e s m below meth c B K
  have C := B.1
  have Z1 := fz_Z FZ 1 (by decide) (by decide) (by decide)
  have Z8 := fz_Z FZ 8 (by decide) (by decide) (by decide)
  refine g_lo (is := [0, 1]) (lo2 := [(0, .ref x), (1, .int w)]) rfl ?_
  refine g_aload_n C 0 dX11_told_0 rfl rfl ?_
  obtain ⟨b_661, hb_661, hb_661L, hb_661k⟩ := shp_o (W9 x hLx) hkx 6 0 rfl (by decide)
  refine g_getR C K hLx hkx f_11_52 hb_661 dX11_told_1 ?_
  refine g_getI C K hb_661L hb_661k f_11_352 (v := 0) ((by rw [FZ b_661 hb_661L 5, hb_661k]; rfl)) dX11_told_4 ?_
  refine n_if_ne C (tgt := 12) (by decide) dX11_told_7 (by decide) ?_
  refine g_iconst C (v := (-1)) dX11_told_10 (by decide) ?_
  exact g_zret (ty := .int) (r := (-1)) B K rfl rfl (rfl) dX11_told_11
set_option maxRecDepth 100000 in
set_option maxHeartbeats 4000000 in
theorem t_said {l : Launch} {D : va_G} {cy : Nat → ClassId} {L : List Nat} {κ ln : Nat → Nat} {R : Nat → Nat → Option Nat} {I : Nat → Nat → Int32} {J : Nat → Nat → Int64} {ow : Nat → Nat × Nat} (W9 : ∀ a ∈ L, Shp L κ ln R ow a) {x : Nat} (hLx : x ∈ L) (hkx : κ x = 11) (FZ : Fz_ L κ I) (k : Int32) : CtI l yX11_said cX11_said 5 (some .int) { frames := 5, cells := 0, slots := 0, locals := 320 } D cy L κ ln R I J [.ref x, .int k] (fun r _ _ => r = -1) := by
  refine CtI.of (by decide +kernel) (Nat.le_of_ble_eq_true rfl) ?_
  intro p e s m below meth c B K
  have C := B.1
  have Z1 := fz_Z FZ 1 (by decide) (by decide) (by decide)
  have Z8 := fz_Z FZ 8 (by decide) (by decide) (by decide)
  refine g_lo (is := [0, 1]) (lo2 := [(0, .ref x), (1, .int k)]) rfl ?_
  refine g_aload_n C 0 dX11_said_0 rfl rfl ?_
  obtain ⟨b_662, hb_662, hb_662L, hb_662k⟩ := shp_o (W9 x hLx) hkx 7 7 rfl (by decide)
  refine g_getR C K hLx hkx f_11_59 hb_662 dX11_said_1 ?_
  refine g_getI C K hb_662L hb_662k f_11_368 (v := 0) ((by rw [FZ b_662 hb_662L 5, hb_662k]; rfl)) dX11_said_4 ?_
  refine n_if_ne C (tgt := 12) (by decide) dX11_said_7 (by decide) ?_
  refine g_iconst C (v := (-1)) dX11_said_10 (by decide) ?_
  exact g_zret (ty := .int) (r := (-1)) B K rfl rfl (rfl) dX11_said_11
set_option maxRecDepth 100000 in
set_option maxHeartbeats 4000000 in
theorem t_count {l : Launch} {D : va_G} {cy : Nat → ClassId} {L : List Nat} {κ ln : Nat → Nat} {R : Nat → Nat → Option Nat} {I : Nat → Nat → Int32} {J : Nat → Nat → Int64} {ow : Nat → Nat × Nat} (W9 : ∀ a ∈ L, Shp L κ ln R ow a) {x : Nat} (hLx : x ∈ L) (hkx : κ x = 11) (FZ : Fz_ L κ I) (w : Int32) : CtI l yX11_count cX11_count 2 (some .int) { frames := 5, cells := 0, slots := 0, locals := 320 } D cy L κ ln R I J [.ref x, .int w] (fun r _ _ => r = if 0 ≤ w ∧ w ≤ 4 then 0 else -1) := by
  refine CtI.of (by decide +kernel) (Nat.le_of_ble_eq_true rfl) ?_
  intro p e s m below meth c B K
  have C := B.1
  have Z1 := fz_Z FZ 1 (by decide) (by decide) (by decide)
  have Z8 := fz_Z FZ 8 (by decide) (by decide) (by decide)
  refine g_lo (is := [0, 1]) (lo2 := [(0, .ref x), (1, .int w)]) rfl ?_
  refine g_iload_n C 1 dX11_count_0 rfl rfl ?_
  rcases pk_ix w (n := 5) (by decide) with hsw | hsw | ⟨i_663, hi_664, rfl⟩
  · skip
    refine g_tableOut C (tgt := 76) dX11_count_1 (Or.inl (sw_lt hsw)) (by decide) ?_
    refine g_iconst C (v := (-1)) dX11_count_76 (by decide) ?_
    exact g_zret (ty := .int) (r := (-1)) B K rfl rfl (p_lo hsw) dX11_count_77
  · skip
    refine g_tableOut C (tgt := 76) dX11_count_1 (Or.inr (sw_ge hsw (by decide))) (by decide) ?_
    refine g_iconst C (v := (-1)) dX11_count_76 (by decide) ?_
    exact g_zret (ty := .int) (r := (-1)) B K rfl rfl (p_hi' hsw (by decide)) dX11_count_77
  · rcases (show i_663 = 0 ∨ i_663 = 1 ∨ i_663 = 2 ∨ i_663 = 3 ∨ i_663 = 4 by omega) with rfl | rfl | rfl | rfl | rfl
    · skip
      refine g_tableIn C (tgt := 36) dX11_count_1 (by decide) (by decide) (off := 35) (by decide) (by decide) ?_
      refine g_aload_n C 0 dX11_count_36 rfl rfl ?_
      obtain ⟨b_665, hb_665, hb_665L, hb_665k⟩ := shp_o (W9 x hLx) hkx 1 8 rfl (by decide)
      refine g_getR C K hLx hkx f_11_19 hb_665 dX11_count_37 ?_
      refine g_getI C K hb_665L hb_665k f_11_213 (v := 0) ((by rw [FZ b_665 hb_665L 5, hb_665k]; rfl)) dX11_count_40 ?_
      exact g_zret (ty := .int) (r := 0) B K rfl rfl (by decide) dX11_count_43
    · skip
      refine g_tableIn C (tgt := 44) dX11_count_1 (by decide) (by decide) (off := 43) (by decide) (by decide) ?_
      refine g_aload_n C 0 dX11_count_44 rfl rfl ?_
      obtain ⟨b_666, hb_666, hb_666L, hb_666k⟩ := shp_o (W9 x hLx) hkx 1 8 rfl (by decide)
      refine g_getR C K hLx hkx f_11_19 hb_666 dX11_count_45 ?_
      refine g_getI C K hb_666L hb_666k f_11_216 (v := 0) ((by rw [FZ b_666 hb_666L 6, hb_666k]; rfl)) dX11_count_48 ?_
      exact g_zret (ty := .int) (r := 0) B K rfl rfl (by decide) dX11_count_51
    · skip
      refine g_tableIn C (tgt := 52) dX11_count_1 (by decide) (by decide) (off := 51) (by decide) (by decide) ?_
      refine g_aload_n C 0 dX11_count_52 rfl rfl ?_
      obtain ⟨b_667, hb_667, hb_667L, hb_667k⟩ := shp_o (W9 x hLx) hkx 1 8 rfl (by decide)
      refine g_getR C K hLx hkx f_11_19 hb_667 dX11_count_53 ?_
      refine g_getI C K hb_667L hb_667k f_11_219 (v := 0) ((by rw [FZ b_667 hb_667L 7, hb_667k]; rfl)) dX11_count_56 ?_
      exact g_zret (ty := .int) (r := 0) B K rfl rfl (by decide) dX11_count_59
    · skip
      refine g_tableIn C (tgt := 60) dX11_count_1 (by decide) (by decide) (off := 59) (by decide) (by decide) ?_
      refine g_aload_n C 0 dX11_count_60 rfl rfl ?_
      obtain ⟨b_668, hb_668, hb_668L, hb_668k⟩ := shp_o (W9 x hLx) hkx 1 8 rfl (by decide)
      refine g_getR C K hLx hkx f_11_19 hb_668 dX11_count_61 ?_
      refine g_getI C K hb_668L hb_668k f_11_222 (v := 0) ((by rw [FZ b_668 hb_668L 8, hb_668k]; rfl)) dX11_count_64 ?_
      exact g_zret (ty := .int) (r := 0) B K rfl rfl (by decide) dX11_count_67
    · skip
      refine g_tableIn C (tgt := 68) dX11_count_1 (by decide) (by decide) (off := 67) (by decide) (by decide) ?_
      refine g_aload_n C 0 dX11_count_68 rfl rfl ?_
      obtain ⟨b_669, hb_669, hb_669L, hb_669k⟩ := shp_o (W9 x hLx) hkx 0 10 rfl (by decide)
      refine g_getR C K hLx hkx f_11_10 hb_669 dX11_count_69 ?_
      refine g_getI C K hb_669L hb_669k f_11_102 (v := 0) ((by rw [FZ b_669 hb_669L 5, hb_669k]; rfl)) dX11_count_72 ?_
      exact g_zret (ty := .int) (r := 0) B K rfl rfl (by decide) dX11_count_75
