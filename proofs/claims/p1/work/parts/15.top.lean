theorem dX11_accept_0 : decode cX11_accept 0 = .ok (.aload_n 0, 1) := by decide +kernel
theorem dX11_accept_1 : decode cX11_accept 1 = .ok (.getfield 19, 3) := by decide +kernel
theorem dX11_accept_4 : decode cX11_accept 4 = .ok (.iload_n 1, 1) := by decide +kernel
theorem dX11_accept_5 : decode cX11_accept 5 = .ok (.invokevirtual 133, 3) := by decide +kernel
theorem dX11_accept_8 : decode cX11_accept 8 = .ok (.ifCond .ne 5, 3) := by decide +kernel
theorem dX11_accept_11 : decode cX11_accept 11 = .ok (.iconst (-1), 1) := by decide +kernel
theorem dX11_accept_12 : decode cX11_accept 12 = .ok (.ireturn, 1) := by decide +kernel
theorem dX11_ask_0 : decode cX11_ask 0 = .ok (.aload_n 0, 1) := by decide +kernel
theorem dX11_ask_1 : decode cX11_ask 1 = .ok (.getfield 83, 3) := by decide +kernel
theorem dX11_ask_4 : decode cX11_ask 4 = .ok (.getfield 285, 3) := by decide +kernel
theorem dX11_ask_7 : decode cX11_ask 7 = .ok (.ireturn, 1) := by decide +kernel
theorem dX11_byteAt_0 : decode cX11_byteAt 0 = .ok (.iload_n 1, 1) := by decide +kernel
theorem dX11_byteAt_1 : decode cX11_byteAt 1 = .ok (.ifCond .lt 20, 3) := by decide +kernel
theorem dX11_byteAt_4 : decode cX11_byteAt 4 = .ok (.iload_n 1, 1) := by decide +kernel
theorem dX11_byteAt_5 : decode cX11_byteAt 5 = .ok (.aload_n 0, 1) := by decide +kernel
theorem dX11_byteAt_6 : decode cX11_byteAt 6 = .ok (.getfield 97, 3) := by decide +kernel
theorem dX11_byteAt_9 : decode cX11_byteAt 9 = .ok (.if_icmp .ge 12, 3) := by decide +kernel
theorem dX11_byteAt_21 : decode cX11_byteAt 21 = .ok (.iconst (-1), 1) := by decide +kernel
theorem dX11_byteAt_22 : decode cX11_byteAt 22 = .ok (.ireturn, 1) := by decide +kernel
theorem dX11_count_0 : decode cX11_count 0 = .ok (.iload_n 1, 1) := by decide +kernel
theorem dX11_count_1 : decode cX11_count 1 = .ok (.tableswitch 75 0 4 #[35, 43, 51, 59, 67], 35) := by decide +kernel
theorem dX11_count_36 : decode cX11_count 36 = .ok (.aload_n 0, 1) := by decide +kernel
theorem dX11_count_37 : decode cX11_count 37 = .ok (.getfield 19, 3) := by decide +kernel
theorem dX11_count_40 : decode cX11_count 40 = .ok (.getfield 213, 3) := by decide +kernel
theorem dX11_count_43 : decode cX11_count 43 = .ok (.ireturn, 1) := by decide +kernel
theorem dX11_count_44 : decode cX11_count 44 = .ok (.aload_n 0, 1) := by decide +kernel
theorem dX11_count_45 : decode cX11_count 45 = .ok (.getfield 19, 3) := by decide +kernel
theorem dX11_count_48 : decode cX11_count 48 = .ok (.getfield 216, 3) := by decide +kernel
theorem dX11_count_51 : decode cX11_count 51 = .ok (.ireturn, 1) := by decide +kernel
theorem dX11_count_52 : decode cX11_count 52 = .ok (.aload_n 0, 1) := by decide +kernel
theorem dX11_count_53 : decode cX11_count 53 = .ok (.getfield 19, 3) := by decide +kernel
theorem dX11_count_56 : decode cX11_count 56 = .ok (.getfield 219, 3) := by decide +kernel
theorem dX11_count_59 : decode cX11_count 59 = .ok (.ireturn, 1) := by decide +kernel
theorem dX11_count_60 : decode cX11_count 60 = .ok (.aload_n 0, 1) := by decide +kernel
theorem dX11_count_61 : decode cX11_count 61 = .ok (.getfield 19, 3) := by decide +kernel
theorem dX11_count_64 : decode cX11_count 64 = .ok (.getfield 222, 3) := by decide +kernel
theorem dX11_count_67 : decode cX11_count 67 = .ok (.ireturn, 1) := by decide +kernel
theorem dX11_count_68 : decode cX11_count 68 = .ok (.aload_n 0, 1) := by decide +kernel
theorem dX11_count_69 : decode cX11_count 69 = .ok (.getfield 10, 3) := by decide +kernel
theorem dX11_count_72 : decode cX11_count 72 = .ok (.getfield 102, 3) := by decide +kernel
theorem dX11_count_75 : decode cX11_count 75 = .ok (.ireturn, 1) := by decide +kernel
theorem dX11_count_76 : decode cX11_count 76 = .ok (.iconst (-1), 1) := by decide +kernel
theorem dX11_count_77 : decode cX11_count 77 = .ok (.ireturn, 1) := by decide +kernel
theorem dX11_die_0 : decode cX11_die 0 = .ok (.aload_n 0, 1) := by decide +kernel
theorem dX11_die_1 : decode cX11_die 1 = .ok (.getfield 19, 3) := by decide +kernel
theorem dX11_die_4 : decode cX11_die 4 = .ok (.iload_n 1, 1) := by decide +kernel
theorem dX11_die_5 : decode cX11_die 5 = .ok (.invokevirtual 133, 3) := by decide +kernel
theorem dX11_die_8 : decode cX11_die 8 = .ok (.ifCond .ne 5, 3) := by decide +kernel
theorem dX11_die_11 : decode cX11_die 11 = .ok (.iconst (-1), 1) := by decide +kernel
theorem dX11_die_12 : decode cX11_die 12 = .ok (.ireturn, 1) := by decide +kernel
theorem dX11_dish_0 : decode cX11_dish 0 = .ok (.aload_n 0, 1) := by decide +kernel
theorem dX11_dish_1 : decode cX11_dish 1 = .ok (.getfield 19, 3) := by decide +kernel
theorem dX11_dish_4 : decode cX11_dish 4 = .ok (.iload_n 1, 1) := by decide +kernel
theorem dX11_dish_5 : decode cX11_dish 5 = .ok (.invokevirtual 175, 3) := by decide +kernel
theorem dX11_dish_8 : decode cX11_dish 8 = .ok (.ifCond .ne 5, 3) := by decide +kernel
theorem dX11_dish_11 : decode cX11_dish 11 = .ok (.iconst (-1), 1) := by decide +kernel
theorem dX11_dish_12 : decode cX11_dish 12 = .ok (.ireturn, 1) := by decide +kernel
theorem dX11_drawn_0 : decode cX11_drawn 0 = .ok (.iload_n 1, 1) := by decide +kernel
theorem dX11_drawn_1 : decode cX11_drawn 1 = .ok (.iconst 1, 1) := by decide +kernel
theorem dX11_drawn_2 : decode cX11_drawn 2 = .ok (.if_icmp .lt 19, 3) := by decide +kernel
theorem dX11_drawn_5 : decode cX11_drawn 5 = .ok (.iload_n 1, 1) := by decide +kernel
theorem dX11_drawn_6 : decode cX11_drawn 6 = .ok (.bipush 60, 2) := by decide +kernel
theorem dX11_drawn_8 : decode cX11_drawn 8 = .ok (.if_icmp .gt 13, 3) := by decide +kernel
theorem dX11_drawn_11 : decode cX11_drawn 11 = .ok (.aload_n 0, 1) := by decide +kernel
theorem dX11_drawn_12 : decode cX11_drawn 12 = .ok (.getfield 19, 3) := by decide +kernel
theorem dX11_drawn_15 : decode cX11_drawn 15 = .ok (.getfield 213, 3) := by decide +kernel
theorem dX11_drawn_18 : decode cX11_drawn 18 = .ok (.ifCond .ne 5, 3) := by decide +kernel
theorem dX11_drawn_21 : decode cX11_drawn 21 = .ok (.iconst (-1), 1) := by decide +kernel
theorem dX11_drawn_22 : decode cX11_drawn 22 = .ok (.ireturn, 1) := by decide +kernel
theorem dX11_eat_0 : decode cX11_eat 0 = .ok (.aload_n 0, 1) := by decide +kernel
theorem dX11_eat_1 : decode cX11_eat 1 = .ok (.getfield 19, 3) := by decide +kernel
theorem dX11_eat_4 : decode cX11_eat 4 = .ok (.iload_n 1, 1) := by decide +kernel
theorem dX11_eat_5 : decode cX11_eat 5 = .ok (.invokevirtual 133, 3) := by decide +kernel
theorem dX11_eat_8 : decode cX11_eat 8 = .ok (.ifCond .eq 25, 3) := by decide +kernel
theorem dX11_eat_33 : decode cX11_eat 33 = .ok (.iconst (-1), 1) := by decide +kernel
theorem dX11_eat_34 : decode cX11_eat 34 = .ok (.ireturn, 1) := by decide +kernel
theorem dX11_eaters_0 : decode cX11_eaters 0 = .ok (.aload_n 0, 1) := by decide +kernel
theorem dX11_eaters_1 : decode cX11_eaters 1 = .ok (.getfield 10, 3) := by decide +kernel
theorem dX11_eaters_4 : decode cX11_eaters 4 = .ok (.getfield 102, 3) := by decide +kernel
theorem dX11_eaters_7 : decode cX11_eaters 7 = .ok (.iconst 2, 1) := by decide +kernel
theorem dX11_eaters_8 : decode cX11_eaters 8 = .ok (.if_icmp .ne 7, 3) := by decide +kernel
theorem dX11_eaters_15 : decode cX11_eaters 15 = .ok (.iconst 0, 1) := by decide +kernel
theorem dX11_eaters_16 : decode cX11_eaters 16 = .ok (.istore_n 1, 1) := by decide +kernel
theorem dX11_eaters_17 : decode cX11_eaters 17 = .ok (.aload_n 0, 1) := by decide +kernel
theorem dX11_eaters_18 : decode cX11_eaters 18 = .ok (.getfield 10, 3) := by decide +kernel
theorem dX11_eaters_21 : decode cX11_eaters 21 = .ok (.iconst 0, 1) := by decide +kernel
theorem dX11_eaters_22 : decode cX11_eaters 22 = .ok (.invokevirtual 275, 3) := by decide +kernel
theorem dX11_eaters_25 : decode cX11_eaters 25 = .ok (.istore_n 2, 1) := by decide +kernel
theorem dX11_eaters_26 : decode cX11_eaters 26 = .ok (.aload_n 0, 1) := by decide +kernel
theorem dX11_eaters_27 : decode cX11_eaters 27 = .ok (.getfield 10, 3) := by decide +kernel
theorem dX11_eaters_30 : decode cX11_eaters 30 = .ok (.iconst 1, 1) := by decide +kernel
theorem dX11_eaters_31 : decode cX11_eaters 31 = .ok (.invokevirtual 275, 3) := by decide +kernel
theorem dX11_eaters_34 : decode cX11_eaters 34 = .ok (.istore_n 3, 1) := by decide +kernel
theorem dX11_eaters_35 : decode cX11_eaters 35 = .ok (.aload_n 0, 1) := by decide +kernel
theorem dX11_eaters_36 : decode cX11_eaters 36 = .ok (.getfield 10, 3) := by decide +kernel
theorem dX11_eaters_39 : decode cX11_eaters 39 = .ok (.iconst 0, 1) := by decide +kernel
theorem dX11_eaters_40 : decode cX11_eaters 40 = .ok (.putfield 102, 3) := by decide +kernel
theorem dX11_eaters_43 : decode cX11_eaters 43 = .ok (.iload_n 1, 1) := by decide +kernel
theorem dX11_eaters_44 : decode cX11_eaters 44 = .ok (.ifCond .eq 30, 3) := by decide +kernel
theorem dX11_eaters_74 : decode cX11_eaters 74 = .ok (.iconst (-1), 1) := by decide +kernel
theorem dX11_eaters_75 : decode cX11_eaters 75 = .ok (.ireturn, 1) := by decide +kernel
theorem dX11_end_0 : decode cX11_end 0 = .ok (.iload_n 1, 1) := by decide +kernel
theorem dX11_end_1 : decode cX11_end 1 = .ok (.ifCond .lt 14, 3) := by decide +kernel
theorem dX11_end_4 : decode cX11_end 4 = .ok (.iload_n 1, 1) := by decide +kernel
theorem dX11_end_5 : decode cX11_end 5 = .ok (.aload_n 0, 1) := by decide +kernel
theorem dX11_end_6 : decode cX11_end 6 = .ok (.getfield 10, 3) := by decide +kernel
theorem dX11_end_9 : decode cX11_end 9 = .ok (.getfield 102, 3) := by decide +kernel
theorem dX11_end_12 : decode cX11_end 12 = .ok (.if_icmp .le 5, 3) := by decide +kernel
theorem dX11_end_15 : decode cX11_end 15 = .ok (.iconst 0, 1) := by decide +kernel
theorem dX11_end_16 : decode cX11_end 16 = .ok (.ireturn, 1) := by decide +kernel
theorem dX11_end_17 : decode cX11_end 17 = .ok (.aload_n 0, 1) := by decide +kernel
theorem dX11_end_18 : decode cX11_end 18 = .ok (.getfield 10, 3) := by decide +kernel
theorem dX11_end_21 : decode cX11_end 21 = .ok (.iload_n 1, 1) := by decide +kernel
theorem dX11_end_22 : decode cX11_end 22 = .ok (.putfield 102, 3) := by decide +kernel
theorem dX11_end_25 : decode cX11_end 25 = .ok (.iconst 1, 1) := by decide +kernel
theorem dX11_end_26 : decode cX11_end 26 = .ok (.ireturn, 1) := by decide +kernel
theorem dX11_fault_0 : decode cX11_fault 0 = .ok (.aload_n 0, 1) := by decide +kernel
theorem dX11_fault_1 : decode cX11_fault 1 = .ok (.getfield 10, 3) := by decide +kernel
theorem dX11_fault_4 : decode cX11_fault 4 = .ok (.getfield 113, 3) := by decide +kernel
theorem dX11_fault_7 : decode cX11_fault 7 = .ok (.ireturn, 1) := by decide +kernel
theorem dX11_feed_0 : decode cX11_feed 0 = .ok (.aload_n 0, 1) := by decide +kernel
theorem dX11_feed_1 : decode cX11_feed 1 = .ok (.getfield 10, 3) := by decide +kernel
theorem dX11_feed_4 : decode cX11_feed 4 = .ok (.getfield 102, 3) := by decide +kernel
theorem dX11_feed_7 : decode cX11_feed 7 = .ok (.sipush 920, 3) := by decide +kernel
theorem dX11_feed_10 : decode cX11_feed 10 = .ok (.if_icmp .le 5, 3) := by decide +kernel
theorem dX11_feed_15 : decode cX11_feed 15 = .ok (.aload_n 0, 1) := by decide +kernel
theorem dX11_feed_16 : decode cX11_feed 16 = .ok (.getfield 10, 3) := by decide +kernel
theorem dX11_feed_19 : decode cX11_feed 19 = .ok (.iload_n 1, 1) := by decide +kernel
theorem dX11_feed_20 : decode cX11_feed 20 = .ok (.invokevirtual 105, 3) := by decide +kernel
theorem dX11_feed_23 : decode cX11_feed 23 = .ok (.aload_n 0, 1) := by decide +kernel
theorem dX11_feed_24 : decode cX11_feed 24 = .ok (.getfield 10, 3) := by decide +kernel
theorem dX11_feed_27 : decode cX11_feed 27 = .ok (.iload_n 2, 1) := by decide +kernel
theorem dX11_feed_28 : decode cX11_feed 28 = .ok (.invokevirtual 105, 3) := by decide +kernel
theorem dX11_feed_31 : decode cX11_feed 31 = .ok (.aload_n 0, 1) := by decide +kernel
theorem dX11_feed_32 : decode cX11_feed 32 = .ok (.getfield 10, 3) := by decide +kernel
theorem dX11_feed_35 : decode cX11_feed 35 = .ok (.iload_n 3, 1) := by decide +kernel
theorem dX11_feed_36 : decode cX11_feed 36 = .ok (.invokevirtual 105, 3) := by decide +kernel
theorem dX11_feed_39 : decode cX11_feed 39 = .ok (.aload_n 0, 1) := by decide +kernel
theorem dX11_feed_40 : decode cX11_feed 40 = .ok (.getfield 10, 3) := by decide +kernel
theorem dX11_feed_43 : decode cX11_feed 43 = .ok (.iload 4, 2) := by decide +kernel
theorem dX11_feed_45 : decode cX11_feed 45 = .ok (.invokevirtual 105, 3) := by decide +kernel
theorem dX11_feed_48 : decode cX11_feed 48 = .ok (.aload_n 0, 1) := by decide +kernel
theorem dX11_feed_49 : decode cX11_feed 49 = .ok (.getfield 10, 3) := by decide +kernel
theorem dX11_feed_52 : decode cX11_feed 52 = .ok (.iload 5, 2) := by decide +kernel
theorem dX11_feed_54 : decode cX11_feed 54 = .ok (.invokevirtual 105, 3) := by decide +kernel
theorem dX11_feed_57 : decode cX11_feed 57 = .ok (.aload_n 0, 1) := by decide +kernel
theorem dX11_feed_58 : decode cX11_feed 58 = .ok (.getfield 10, 3) := by decide +kernel
theorem dX11_feed_61 : decode cX11_feed 61 = .ok (.getfield 102, 3) := by decide +kernel
theorem dX11_feed_64 : decode cX11_feed 64 = .ok (.ireturn, 1) := by decide +kernel
theorem dX11_heir_0 : decode cX11_heir 0 = .ok (.aload_n 0, 1) := by decide +kernel
theorem dX11_heir_1 : decode cX11_heir 1 = .ok (.getfield 19, 3) := by decide +kernel
theorem dX11_heir_4 : decode cX11_heir 4 = .ok (.iload_n 1, 1) := by decide +kernel
theorem dX11_heir_5 : decode cX11_heir 5 = .ok (.invokevirtual 133, 3) := by decide +kernel
theorem dX11_heir_8 : decode cX11_heir 8 = .ok (.ifCond .eq 21, 3) := by decide +kernel
theorem dX11_heir_29 : decode cX11_heir 29 = .ok (.iconst (-1), 1) := by decide +kernel
theorem dX11_heir_30 : decode cX11_heir 30 = .ok (.ireturn, 1) := by decide +kernel
theorem dX11_hungriest_0 : decode cX11_hungriest 0 = .ok (.iconst (-1), 1) := by decide +kernel
theorem dX11_hungriest_1 : decode cX11_hungriest 1 = .ok (.istore_n 1, 1) := by decide +kernel
theorem dX11_hungriest_2 : decode cX11_hungriest 2 = .ok (.iconst 0, 1) := by decide +kernel
theorem dX11_hungriest_3 : decode cX11_hungriest 3 = .ok (.istore_n 2, 1) := by decide +kernel
theorem dX11_hungriest_4 : decode cX11_hungriest 4 = .ok (.iload_n 2, 1) := by decide +kernel
theorem dX11_hungriest_5 : decode cX11_hungriest 5 = .ok (.aload_n 0, 1) := by decide +kernel
theorem dX11_hungriest_6 : decode cX11_hungriest 6 = .ok (.getfield 19, 3) := by decide +kernel
theorem dX11_hungriest_9 : decode cX11_hungriest 9 = .ok (.getfield 213, 3) := by decide +kernel
theorem dX11_hungriest_12 : decode cX11_hungriest 12 = .ok (.if_icmp .ge 48, 3) := by decide +kernel
theorem dX11_hungriest_60 : decode cX11_hungriest 60 = .ok (.iload_n 1, 1) := by decide +kernel
theorem dX11_hungriest_61 : decode cX11_hungriest 61 = .ok (.ireturn, 1) := by decide +kernel
theorem dX11_kin_0 : decode cX11_kin 0 = .ok (.aload_n 0, 1) := by decide +kernel
theorem dX11_kin_1 : decode cX11_kin 1 = .ok (.getfield 19, 3) := by decide +kernel
theorem dX11_kin_4 : decode cX11_kin 4 = .ok (.iload_n 1, 1) := by decide +kernel
theorem dX11_kin_5 : decode cX11_kin 5 = .ok (.invokevirtual 133, 3) := by decide +kernel
theorem dX11_kin_8 : decode cX11_kin 8 = .ok (.ifCond .eq 26, 3) := by decide +kernel
theorem dX11_kin_34 : decode cX11_kin 34 = .ok (.iconst (-1), 1) := by decide +kernel
theorem dX11_kin_35 : decode cX11_kin 35 = .ok (.ireturn, 1) := by decide +kernel
theorem dX11_last_0 : decode cX11_last 0 = .ok (.aload_n 0, 1) := by decide +kernel
theorem dX11_last_1 : decode cX11_last 1 = .ok (.getfield 19, 3) := by decide +kernel
theorem dX11_last_4 : decode cX11_last 4 = .ok (.iload_n 1, 1) := by decide +kernel
theorem dX11_last_5 : decode cX11_last 5 = .ok (.invokevirtual 175, 3) := by decide +kernel
theorem dX11_last_8 : decode cX11_last 8 = .ok (.ifCond .ne 5, 3) := by decide +kernel
theorem dX11_last_11 : decode cX11_last 11 = .ok (.iconst (-1), 1) := by decide +kernel
theorem dX11_last_12 : decode cX11_last 12 = .ok (.ireturn, 1) := by decide +kernel
theorem dX11_left_0 : decode cX11_left 0 = .ok (.aload_n 0, 1) := by decide +kernel
theorem dX11_left_1 : decode cX11_left 1 = .ok (.getfield 19, 3) := by decide +kernel
theorem dX11_left_4 : decode cX11_left 4 = .ok (.iload_n 1, 1) := by decide +kernel
theorem dX11_left_5 : decode cX11_left 5 = .ok (.invokevirtual 133, 3) := by decide +kernel
theorem dX11_left_8 : decode cX11_left 8 = .ok (.ifCond .eq 30, 3) := by decide +kernel
theorem dX11_left_38 : decode cX11_left 38 = .ok (.iconst 0, 1) := by decide +kernel
theorem dX11_left_39 : decode cX11_left 39 = .ok (.istore_n 2, 1) := by decide +kernel
theorem dX11_left_40 : decode cX11_left 40 = .ok (.aload_n 0, 1) := by decide +kernel
theorem dX11_left_41 : decode cX11_left 41 = .ok (.getfield 32, 3) := by decide +kernel
theorem dX11_left_44 : decode cX11_left 44 = .ok (.aload_n 0, 1) := by decide +kernel
theorem dX11_left_45 : decode cX11_left 45 = .ok (.getfield 28, 3) := by decide +kernel
theorem dX11_left_48 : decode cX11_left 48 = .ok (.invokevirtual 126, 3) := by decide +kernel
theorem dX11_left_51 : decode cX11_left 51 = .ok (.iconst 0, 1) := by decide +kernel
theorem dX11_left_52 : decode cX11_left 52 = .ok (.istore_n 3, 1) := by decide +kernel
theorem dX11_left_53 : decode cX11_left 53 = .ok (.iload_n 3, 1) := by decide +kernel
theorem dX11_left_54 : decode cX11_left 54 = .ok (.aload_n 0, 1) := by decide +kernel
theorem dX11_left_55 : decode cX11_left 55 = .ok (.getfield 10, 3) := by decide +kernel
theorem dX11_left_58 : decode cX11_left 58 = .ok (.getfield 102, 3) := by decide +kernel
theorem dX11_left_61 : decode cX11_left 61 = .ok (.if_icmp .ge 47, 3) := by decide +kernel
theorem dX11_left_108 : decode cX11_left 108 = .ok (.aload_n 0, 1) := by decide +kernel
theorem dX11_left_109 : decode cX11_left 109 = .ok (.getfield 10, 3) := by decide +kernel
theorem dX11_left_112 : decode cX11_left 112 = .ok (.iconst 0, 1) := by decide +kernel
theorem dX11_left_113 : decode cX11_left 113 = .ok (.putfield 102, 3) := by decide +kernel
theorem dX11_left_116 : decode cX11_left 116 = .ok (.iload_n 2, 1) := by decide +kernel
theorem dX11_left_117 : decode cX11_left 117 = .ok (.ifCond .eq 15, 3) := by decide +kernel
theorem dX11_left_132 : decode cX11_left 132 = .ok (.iconst (-1), 1) := by decide +kernel
theorem dX11_left_133 : decode cX11_left 133 = .ok (.ireturn, 1) := by decide +kernel
theorem dX11_line_0 : decode cX11_line 0 = .ok (.aload_n 0, 1) := by decide +kernel
theorem dX11_line_1 : decode cX11_line 1 = .ok (.getfield 19, 3) := by decide +kernel
theorem dX11_line_4 : decode cX11_line 4 = .ok (.iload_n 1, 1) := by decide +kernel
theorem dX11_line_5 : decode cX11_line 5 = .ok (.invokevirtual 133, 3) := by decide +kernel
theorem dX11_line_8 : decode cX11_line 8 = .ok (.ifCond .eq 13, 3) := by decide +kernel
theorem dX11_line_21 : decode cX11_line 21 = .ok (.iconst (-1), 1) := by decide +kernel
theorem dX11_line_22 : decode cX11_line 22 = .ok (.ireturn, 1) := by decide +kernel
theorem dX11_now_0 : decode cX11_now 0 = .ok (.iload_n 1, 1) := by decide +kernel
theorem dX11_now_1 : decode cX11_now 1 = .ok (.tableswitch 111 0 7 #[47, 55, 63, 71, 79, 87, 95, 103], 47) := by decide +kernel
theorem dX11_now_48 : decode cX11_now 48 = .ok (.aload_n 0, 1) := by decide +kernel
theorem dX11_now_49 : decode cX11_now 49 = .ok (.getfield 28, 3) := by decide +kernel
theorem dX11_now_52 : decode cX11_now 52 = .ok (.getfield 195, 3) := by decide +kernel
theorem dX11_now_55 : decode cX11_now 55 = .ok (.ireturn, 1) := by decide +kernel
theorem dX11_now_56 : decode cX11_now 56 = .ok (.aload_n 0, 1) := by decide +kernel
theorem dX11_now_57 : decode cX11_now 57 = .ok (.getfield 28, 3) := by decide +kernel
theorem dX11_now_60 : decode cX11_now 60 = .ok (.getfield 151, 3) := by decide +kernel
theorem dX11_now_63 : decode cX11_now 63 = .ok (.ireturn, 1) := by decide +kernel
theorem dX11_now_64 : decode cX11_now 64 = .ok (.aload_n 0, 1) := by decide +kernel
theorem dX11_now_65 : decode cX11_now 65 = .ok (.getfield 28, 3) := by decide +kernel
theorem dX11_now_68 : decode cX11_now 68 = .ok (.getfield 154, 3) := by decide +kernel
theorem dX11_now_71 : decode cX11_now 71 = .ok (.ireturn, 1) := by decide +kernel
theorem dX11_now_72 : decode cX11_now 72 = .ok (.aload_n 0, 1) := by decide +kernel
theorem dX11_now_73 : decode cX11_now 73 = .ok (.getfield 28, 3) := by decide +kernel
theorem dX11_now_76 : decode cX11_now 76 = .ok (.getfield 198, 3) := by decide +kernel
theorem dX11_now_79 : decode cX11_now 79 = .ok (.ireturn, 1) := by decide +kernel
theorem dX11_now_80 : decode cX11_now 80 = .ok (.aload_n 0, 1) := by decide +kernel
theorem dX11_now_81 : decode cX11_now 81 = .ok (.getfield 28, 3) := by decide +kernel
theorem dX11_now_84 : decode cX11_now 84 = .ok (.getfield 201, 3) := by decide +kernel
theorem dX11_now_87 : decode cX11_now 87 = .ok (.ireturn, 1) := by decide +kernel
theorem dX11_now_88 : decode cX11_now 88 = .ok (.aload_n 0, 1) := by decide +kernel
theorem dX11_now_89 : decode cX11_now 89 = .ok (.getfield 28, 3) := by decide +kernel
theorem dX11_now_92 : decode cX11_now 92 = .ok (.invokevirtual 204, 3) := by decide +kernel
theorem dX11_now_95 : decode cX11_now 95 = .ok (.ireturn, 1) := by decide +kernel
theorem dX11_now_96 : decode cX11_now 96 = .ok (.aload_n 0, 1) := by decide +kernel
theorem dX11_now_97 : decode cX11_now 97 = .ok (.getfield 28, 3) := by decide +kernel
theorem dX11_now_100 : decode cX11_now 100 = .ok (.invokevirtual 207, 3) := by decide +kernel
theorem dX11_now_103 : decode cX11_now 103 = .ok (.ireturn, 1) := by decide +kernel
theorem dX11_now_104 : decode cX11_now 104 = .ok (.aload_n 0, 1) := by decide +kernel
theorem dX11_now_105 : decode cX11_now 105 = .ok (.getfield 28, 3) := by decide +kernel
theorem dX11_now_108 : decode cX11_now 108 = .ok (.getfield 210, 3) := by decide +kernel
theorem dX11_now_111 : decode cX11_now 111 = .ok (.ireturn, 1) := by decide +kernel
theorem dX11_now_112 : decode cX11_now 112 = .ok (.iconst (-1), 1) := by decide +kernel
theorem dX11_now_113 : decode cX11_now 113 = .ok (.ireturn, 1) := by decide +kernel
theorem dX11_odds_0 : decode cX11_odds 0 = .ok (.aload_n 0, 1) := by decide +kernel
theorem dX11_odds_1 : decode cX11_odds 1 = .ok (.getfield 19, 3) := by decide +kernel
theorem dX11_odds_4 : decode cX11_odds 4 = .ok (.iload_n 1, 1) := by decide +kernel
theorem dX11_odds_5 : decode cX11_odds 5 = .ok (.invokevirtual 133, 3) := by decide +kernel
theorem dX11_odds_8 : decode cX11_odds 8 = .ok (.ifCond .eq 14, 3) := by decide +kernel
theorem dX11_odds_22 : decode cX11_odds 22 = .ok (.iconst (-1), 1) := by decide +kernel
theorem dX11_odds_23 : decode cX11_odds 23 = .ok (.ireturn, 1) := by decide +kernel
theorem dX11_order_0 : decode cX11_order 0 = .ok (.aload_n 0, 1) := by decide +kernel
theorem dX11_order_1 : decode cX11_order 1 = .ok (.getfield 69, 3) := by decide +kernel
theorem dX11_order_4 : decode cX11_order 4 = .ok (.aload_n 0, 1) := by decide +kernel
theorem dX11_order_5 : decode cX11_order 5 = .ok (.getfield 28, 3) := by decide +kernel
theorem dX11_order_8 : decode cX11_order 8 = .ok (.invokevirtual 266, 3) := by decide +kernel
theorem dX11_order_11 : decode cX11_order 11 = .ok (.ireturn, 1) := by decide +kernel
theorem dX11_orderAt_0 : decode cX11_orderAt 0 = .ok (.iload_n 1, 1) := by decide +kernel
theorem dX11_orderAt_1 : decode cX11_orderAt 1 = .ok (.ifCond .lt 26, 3) := by decide +kernel
theorem dX11_orderAt_4 : decode cX11_orderAt 4 = .ok (.iload_n 1, 1) := by decide +kernel
theorem dX11_orderAt_5 : decode cX11_orderAt 5 = .ok (.aload_n 0, 1) := by decide +kernel
theorem dX11_orderAt_6 : decode cX11_orderAt 6 = .ok (.getfield 69, 3) := by decide +kernel
theorem dX11_orderAt_9 : decode cX11_orderAt 9 = .ok (.getfield 269, 3) := by decide +kernel
theorem dX11_orderAt_12 : decode cX11_orderAt 12 = .ok (.if_icmp .ge 15, 3) := by decide +kernel
theorem dX11_orderAt_27 : decode cX11_orderAt 27 = .ok (.iconst (-1), 1) := by decide +kernel
theorem dX11_orderAt_28 : decode cX11_orderAt 28 = .ok (.ireturn, 1) := by decide +kernel
theorem dX11_plate_0 : decode cX11_plate 0 = .ok (.aload_n 0, 1) := by decide +kernel
theorem dX11_plate_1 : decode cX11_plate 1 = .ok (.getfield 19, 3) := by decide +kernel
theorem dX11_plate_4 : decode cX11_plate 4 = .ok (.iload_n 1, 1) := by decide +kernel
theorem dX11_plate_5 : decode cX11_plate 5 = .ok (.invokevirtual 133, 3) := by decide +kernel
theorem dX11_plate_8 : decode cX11_plate 8 = .ok (.ifCond .eq 14, 3) := by decide +kernel
theorem dX11_plate_22 : decode cX11_plate 22 = .ok (.iconst (-1), 1) := by decide +kernel
theorem dX11_plate_23 : decode cX11_plate 23 = .ok (.ireturn, 1) := by decide +kernel
theorem dX11_refuse_0 : decode cX11_refuse 0 = .ok (.aload_n 0, 1) := by decide +kernel
theorem dX11_refuse_1 : decode cX11_refuse 1 = .ok (.getfield 19, 3) := by decide +kernel
theorem dX11_refuse_4 : decode cX11_refuse 4 = .ok (.iload_n 1, 1) := by decide +kernel
theorem dX11_refuse_5 : decode cX11_refuse 5 = .ok (.invokevirtual 133, 3) := by decide +kernel
theorem dX11_refuse_8 : decode cX11_refuse 8 = .ok (.ifCond .ne 5, 3) := by decide +kernel
theorem dX11_refuse_11 : decode cX11_refuse 11 = .ok (.iconst (-1), 1) := by decide +kernel
theorem dX11_refuse_12 : decode cX11_refuse 12 = .ok (.ireturn, 1) := by decide +kernel
theorem dX11_rise_0 : decode cX11_rise 0 = .ok (.aload_n 0, 1) := by decide +kernel
theorem dX11_rise_1 : decode cX11_rise 1 = .ok (.getfield 19, 3) := by decide +kernel
theorem dX11_rise_4 : decode cX11_rise 4 = .ok (.iload_n 1, 1) := by decide +kernel
theorem dX11_rise_5 : decode cX11_rise 5 = .ok (.invokevirtual 133, 3) := by decide +kernel
theorem dX11_rise_8 : decode cX11_rise 8 = .ok (.ifCond .ne 5, 3) := by decide +kernel
theorem dX11_rise_11 : decode cX11_rise 11 = .ok (.iconst (-1), 1) := by decide +kernel
theorem dX11_rise_12 : decode cX11_rise 12 = .ok (.ireturn, 1) := by decide +kernel
theorem dX11_said_0 : decode cX11_said 0 = .ok (.aload_n 0, 1) := by decide +kernel
theorem dX11_said_1 : decode cX11_said 1 = .ok (.getfield 59, 3) := by decide +kernel
theorem dX11_said_4 : decode cX11_said 4 = .ok (.getfield 368, 3) := by decide +kernel
theorem dX11_said_7 : decode cX11_said 7 = .ok (.ifCond .ne 5, 3) := by decide +kernel
theorem dX11_said_10 : decode cX11_said 10 = .ok (.iconst (-1), 1) := by decide +kernel
theorem dX11_said_11 : decode cX11_said 11 = .ok (.ireturn, 1) := by decide +kernel
theorem dX11_seatAt_0 : decode cX11_seatAt 0 = .ok (.iload_n 1, 1) := by decide +kernel
theorem dX11_seatAt_1 : decode cX11_seatAt 1 = .ok (.ifCond .lt 26, 3) := by decide +kernel
theorem dX11_seatAt_4 : decode cX11_seatAt 4 = .ok (.iload_n 1, 1) := by decide +kernel
theorem dX11_seatAt_5 : decode cX11_seatAt 5 = .ok (.aload_n 0, 1) := by decide +kernel
theorem dX11_seatAt_6 : decode cX11_seatAt 6 = .ok (.getfield 76, 3) := by decide +kernel
theorem dX11_seatAt_9 : decode cX11_seatAt 9 = .ok (.getfield 294, 3) := by decide +kernel
theorem dX11_seatAt_12 : decode cX11_seatAt 12 = .ok (.if_icmp .ge 15, 3) := by decide +kernel
theorem dX11_seatAt_27 : decode cX11_seatAt 27 = .ok (.iconst (-1), 1) := by decide +kernel
theorem dX11_seatAt_28 : decode cX11_seatAt 28 = .ok (.ireturn, 1) := by decide +kernel
theorem dX11_seats_0 : decode cX11_seats 0 = .ok (.aload_n 0, 1) := by decide +kernel
theorem dX11_seats_1 : decode cX11_seats 1 = .ok (.getfield 76, 3) := by decide +kernel
theorem dX11_seats_4 : decode cX11_seats 4 = .ok (.aload_n 0, 1) := by decide +kernel
theorem dX11_seats_5 : decode cX11_seats 5 = .ok (.getfield 28, 3) := by decide +kernel
theorem dX11_seats_8 : decode cX11_seats 8 = .ok (.invokevirtual 291, 3) := by decide +kernel
theorem dX11_seats_11 : decode cX11_seats 11 = .ok (.ireturn, 1) := by decide +kernel
theorem dX11_serve_0 : decode cX11_serve 0 = .ok (.aload_n 0, 1) := by decide +kernel
theorem dX11_serve_1 : decode cX11_serve 1 = .ok (.getfield 19, 3) := by decide +kernel
theorem dX11_serve_4 : decode cX11_serve 4 = .ok (.iload_n 1, 1) := by decide +kernel
theorem dX11_serve_5 : decode cX11_serve 5 = .ok (.invokevirtual 133, 3) := by decide +kernel
theorem dX11_serve_8 : decode cX11_serve 8 = .ok (.ifCond .eq 25, 3) := by decide +kernel
theorem dX11_serve_33 : decode cX11_serve 33 = .ok (.iconst (-1), 1) := by decide +kernel
theorem dX11_serve_34 : decode cX11_serve 34 = .ok (.ireturn, 1) := by decide +kernel
theorem dX11_share_0 : decode cX11_share 0 = .ok (.aload_n 0, 1) := by decide +kernel
theorem dX11_share_1 : decode cX11_share 1 = .ok (.getfield 19, 3) := by decide +kernel
theorem dX11_share_4 : decode cX11_share 4 = .ok (.iload_n 1, 1) := by decide +kernel
theorem dX11_share_5 : decode cX11_share 5 = .ok (.invokevirtual 175, 3) := by decide +kernel
theorem dX11_share_8 : decode cX11_share 8 = .ok (.ifCond .eq 32, 3) := by decide +kernel
theorem dX11_share_40 : decode cX11_share 40 = .ok (.iconst 0, 1) := by decide +kernel
theorem dX11_share_41 : decode cX11_share 41 = .ok (.istore 4, 2) := by decide +kernel
theorem dX11_share_43 : decode cX11_share 43 = .ok (.iload 4, 2) := by decide +kernel
theorem dX11_share_45 : decode cX11_share 45 = .ok (.ifCond .eq 11, 3) := by decide +kernel
theorem dX11_share_56 : decode cX11_share 56 = .ok (.iconst (-1), 1) := by decide +kernel
theorem dX11_share_57 : decode cX11_share 57 = .ok (.ireturn, 1) := by decide +kernel
theorem dX11_surely_0 : decode cX11_surely 0 = .ok (.aload_n 0, 1) := by decide +kernel
theorem dX11_surely_1 : decode cX11_surely 1 = .ok (.getfield 83, 3) := by decide +kernel
theorem dX11_surely_4 : decode cX11_surely 4 = .ok (.getfield 282, 3) := by decide +kernel
theorem dX11_surely_7 : decode cX11_surely 7 = .ok (.ireturn, 1) := by decide +kernel
theorem dX11_table_0 : decode cX11_table 0 = .ok (.aload_n 0, 1) := by decide +kernel
theorem dX11_table_1 : decode cX11_table 1 = .ok (.getfield 45, 3) := by decide +kernel
theorem dX11_table_4 : decode cX11_table 4 = .ok (.aload_n 0, 1) := by decide +kernel
theorem dX11_table_5 : decode cX11_table 5 = .ok (.getfield 10, 3) := by decide +kernel
theorem dX11_table_8 : decode cX11_table 8 = .ok (.invokevirtual 109, 3) := by decide +kernel
theorem dX11_table_11 : decode cX11_table 11 = .ok (.istore_n 1, 1) := by decide +kernel
theorem dX11_table_12 : decode cX11_table 12 = .ok (.aload_n 0, 1) := by decide +kernel
theorem dX11_table_13 : decode cX11_table 13 = .ok (.getfield 10, 3) := by decide +kernel
theorem dX11_table_16 : decode cX11_table 16 = .ok (.iconst 0, 1) := by decide +kernel
theorem dX11_table_17 : decode cX11_table 17 = .ok (.putfield 102, 3) := by decide +kernel
theorem dX11_table_20 : decode cX11_table 20 = .ok (.aload_n 0, 1) := by decide +kernel
theorem dX11_table_21 : decode cX11_table 21 = .ok (.getfield 10, 3) := by decide +kernel
theorem dX11_table_24 : decode cX11_table 24 = .ok (.getfield 113, 3) := by decide +kernel
theorem dX11_table_27 : decode cX11_table 27 = .ok (.ifCond .eq 13, 3) := by decide +kernel
theorem dX11_table_40 : decode cX11_table 40 = .ok (.aload_n 0, 1) := by decide +kernel
theorem dX11_table_41 : decode cX11_table 41 = .ok (.getfield 19, 3) := by decide +kernel
theorem dX11_table_44 : decode cX11_table 44 = .ok (.aload_n 0, 1) := by decide +kernel
theorem dX11_table_45 : decode cX11_table 45 = .ok (.getfield 45, 3) := by decide +kernel
theorem dX11_table_48 : decode cX11_table 48 = .ok (.getfield 119, 3) := by decide +kernel
theorem dX11_table_51 : decode cX11_table 51 = .ok (.invokevirtual 120, 3) := by decide +kernel
theorem dX11_table_54 : decode cX11_table 54 = .ok (.aload_n 0, 1) := by decide +kernel
theorem dX11_table_55 : decode cX11_table 55 = .ok (.getfield 28, 3) := by decide +kernel
theorem dX11_table_58 : decode cX11_table 58 = .ok (.aload_n 0, 1) := by decide +kernel
theorem dX11_table_59 : decode cX11_table 59 = .ok (.getfield 45, 3) := by decide +kernel
theorem dX11_table_62 : decode cX11_table 62 = .ok (.getfield 123, 3) := by decide +kernel
theorem dX11_table_65 : decode cX11_table 65 = .ok (.invokevirtual 126, 3) := by decide +kernel
theorem dX11_table_68 : decode cX11_table 68 = .ok (.aload_n 0, 1) := by decide +kernel
theorem dX11_table_69 : decode cX11_table 69 = .ok (.getfield 59, 3) := by decide +kernel
theorem dX11_table_72 : decode cX11_table 72 = .ok (.invokevirtual 129, 3) := by decide +kernel
theorem dX11_table_75 : decode cX11_table 75 = .ok (.aload_n 0, 1) := by decide +kernel
theorem dX11_table_76 : decode cX11_table 76 = .ok (.getfield 38, 3) := by decide +kernel
theorem dX11_table_79 : decode cX11_table 79 = .ok (.invokevirtual 132, 3) := by decide +kernel
theorem dX11_table_82 : decode cX11_table 82 = .ok (.iload_n 1, 1) := by decide +kernel
theorem dX11_table_83 : decode cX11_table 83 = .ok (.ireturn, 1) := by decide +kernel
theorem dX11_told_0 : decode cX11_told 0 = .ok (.aload_n 0, 1) := by decide +kernel
theorem dX11_told_1 : decode cX11_told 1 = .ok (.getfield 52, 3) := by decide +kernel
theorem dX11_told_4 : decode cX11_told 4 = .ok (.getfield 352, 3) := by decide +kernel
theorem dX11_told_7 : decode cX11_told 7 = .ok (.ifCond .ne 5, 3) := by decide +kernel
theorem dX11_told_10 : decode cX11_told 10 = .ok (.iconst (-1), 1) := by decide +kernel
theorem dX11_told_11 : decode cX11_told 11 = .ok (.ireturn, 1) := by decide +kernel
theorem dX11_undo_0 : decode cX11_undo 0 = .ok (.aload_n 0, 1) := by decide +kernel
theorem dX11_undo_1 : decode cX11_undo 1 = .ok (.getfield 38, 3) := by decide +kernel
theorem dX11_undo_4 : decode cX11_undo 4 = .ok (.aload_n 0, 1) := by decide +kernel
theorem dX11_undo_5 : decode cX11_undo 5 = .ok (.getfield 28, 3) := by decide +kernel
theorem dX11_undo_8 : decode cX11_undo 8 = .ok (.invokevirtual 256, 3) := by decide +kernel
theorem dX11_undo_11 : decode cX11_undo 11 = .ok (.ireturn, 1) := by decide +kernel
theorem dX11_will_0 : decode cX11_will 0 = .ok (.aload_n 0, 1) := by decide +kernel
theorem dX11_will_1 : decode cX11_will 1 = .ok (.getfield 19, 3) := by decide +kernel
theorem dX11_will_4 : decode cX11_will 4 = .ok (.iload_n 1, 1) := by decide +kernel
theorem dX11_will_5 : decode cX11_will 5 = .ok (.invokevirtual 133, 3) := by decide +kernel
theorem dX11_will_8 : decode cX11_will 8 = .ok (.ifCond .ne 5, 3) := by decide +kernel
theorem dX11_will_11 : decode cX11_will 11 = .ok (.iconst (-1), 1) := by decide +kernel
theorem dX11_will_12 : decode cX11_will 12 = .ok (.ireturn, 1) := by decide +kernel
def fv_ (kd j : Nat) : Int32 := if kd = 10 ∧ j = 8 then 102 else if kd = 2 ∧ (j = 1 ∨ j = 2) then -1 else if kd = 12 ∧ (j = 32 ∨ j = 33) then -1 else 0
/-- all ints of the pool are as a new object has them -/
def Fz_ (L : List Nat) (κ : Nat → Nat) (I : Nat → Nat → Int32) : Prop := ∀ a ∈ L, ∀ j, I a j = fv_ (κ a) j
theorem fz_Z {L : List Nat} {κ : Nat → Nat} {I : Nat → Nat → Int32} (h : Fz_ L κ I) (kd : Nat) (h1 : kd ≠ 10) (h2 : kd ≠ 2) (h3 : kd ≠ 12) : Zk L κ kd I := fun b hb hk j => by rw [h b hb j, hk]; simp [fv_, h1, h2, h3]
theorem z_hp {x : Int32} : (if 0 ≤ x ∧ x < 0 then (1 : Int32) else 0) = 0 := if_neg (fun q => Int32.lt_irrefl (Int32.lt_of_le_of_lt q.1 q.2))
theorem sw_lt {x : Int32} (h : x < 0) : x.toInt < 0 := Int32.lt_iff_toInt_lt.mp h
theorem sw_ge {x : Int32} {n : Nat} (h : nI n ≤ x) (hn : n < 2147483648) {k : Int} (hk : k < (n : Int) := by decide) : k < x.toInt := by
  have h1 := Int32.le_iff_toInt_le.mp h
  rw [nI_toInt hn] at h1
  omega
theorem mk_N {n : Int32} (h1 : ¬ n < 1) (h2 : ¬ 60 < n) : ∃ N : Nat, (1 ≤ N ∧ N ≤ 60) ∧ nI N = n := by
  have a1 := Int32.le_iff_toInt_le.mp (Int32.not_lt.mp h1)
  have a2 := Int32.le_iff_toInt_le.mp (Int32.not_lt.mp h2)
  have e1 : (1 : Int32).toInt = 1 := rfl
  have e2 : (60 : Int32).toInt = 60 := rfl
  refine ⟨n.toInt.toNat, by omega, ?_⟩
  apply Int32.toInt_inj.mp
  rw [nI_toInt (by omega)]
  omega
theorem mk_i {k : Int32} (h1 : ¬ k < 0) (h2 : ¬ 2 ≤ k) : ∃ i : Nat, i < 2 ∧ nI i = k := by
  have a1 := Int32.le_iff_toInt_le.mp (Int32.not_lt.mp h1)
  have a2 := Int32.lt_iff_toInt_lt.mp (Int32.not_le.mp h2)
  have e1 : (0 : Int32).toInt = 0 := rfl
  have e2 : (2 : Int32).toInt = 2 := rfl
  refine ⟨k.toInt.toNat, by omega, ?_⟩
  apply Int32.toInt_inj.mp
  rw [nI_toInt (by omega)]
  omega
theorem p_lo {x a b c d : Int32} (h : x < a) : d = (if a ≤ x ∧ x ≤ b then c else d) := by rw [if_neg (fun q => Int32.lt_irrefl (Int32.lt_of_lt_of_le h q.1))]
theorem p_hi {x a b c d : Int32} (h : b < x) : d = (if a ≤ x ∧ x ≤ b then c else d) := by rw [if_neg (fun q => Int32.lt_irrefl (Int32.lt_of_lt_of_le h q.2))]
theorem p_hi' {x a b e c d : Int32} (h : e ≤ x) (he : b < e) : d = (if a ≤ x ∧ x ≤ b then c else d) := p_hi (Int32.lt_of_lt_of_le he h)
theorem p_in {x a b c d : Int32} (h : a ≤ x ∧ x ≤ b) : c = (if a ≤ x ∧ x ≤ b then c else d) := by rw [if_pos h]
set_option maxRecDepth 100000 in
set_option maxHeartbeats 4000000 in
theorem t_feed {l : Launch} {D : va_G} {cy : Nat → ClassId} {L : List Nat} {κ ln : Nat → Nat} {R : Nat → Nat → Option Nat} {I : Nat → Nat → Int32} {J : Nat → Nat → Int64} {ow : Nat → Nat × Nat} (W9 : ∀ a ∈ L, Shp L κ ln R ow a) {x : Nat} (hLx : x ∈ L) (hkx : κ x = 11) (FZ : Fz_ L κ I) (a : Int32) (b : Int32) (c1 : Int32) (d : Int32) (e1 : Int32) : CtI l yX11_feed cX11_feed 6 (some .int) { frames := 5, cells := 0, slots := 0, locals := 320 } D cy L κ ln R I J [.ref x, .int a, .int b, .int c1, .int d, .int e1] (fun r _ _ => r = 20) := by
  refine CtI.of (by decide +kernel) (Nat.le_of_ble_eq_true rfl) ?_
  intro p e s m below meth c B K
  have C := B.1
  have Z1 := fz_Z FZ 1 (by decide) (by decide) (by decide)
  have Z8 := fz_Z FZ 8 (by decide) (by decide) (by decide)
  refine g_lo (is := [0, 1, 2, 3, 4, 5]) (lo2 := [(0, .ref x), (1, .int a), (2, .int b), (3, .int c1), (4, .int d), (5, .int e1)]) rfl ?_
  refine g_aload_n C 0 dX11_feed_0 rfl rfl ?_
  obtain ⟨b_430, hb_430, hb_430L, hb_430k⟩ := shp_o (W9 x hLx) hkx 0 10 rfl (by decide)
  refine g_getR C K hLx hkx f_11_10 hb_430 dX11_feed_1 ?_
  refine g_getI C K hb_430L hb_430k f_11_102 (v := 0) ((by rw [FZ b_430 hb_430L 5, hb_430k]; rfl)) dX11_feed_4 ?_
  refine g_sipush C (v := 920) dX11_feed_7 (by decide) ?_
  refine t_icmp_le C (tgt := 15) (by decide) dX11_feed_10 (by decide) ?_
  refine g_aload_n C 0 dX11_feed_15 rfl rfl ?_
  refine g_getR C K hLx hkx f_11_10 hb_430 dX11_feed_16 ?_
  refine g_iload_n C 1 dX11_feed_19 rfl rfl ?_
  refine g_callVV C K (c_Tape_add W9 hb_430L hb_430k (0) (by omega) ((by rw [FZ b_430 hb_430L 5, hb_430k]; rfl)) a) hb_430L hb_430k (by decide) rfl v_11_105 rfl ⟨rfl, rfl⟩ ⟨Nat.le_of_ble_eq_true rfl, Nat.le_of_ble_eq_true rfl⟩ (Nat.le_of_ble_eq_true rfl) ⟨Nat.le_of_ble_eq_true rfl, Nat.le_of_ble_eq_true rfl⟩ dX11_feed_20 rfl (st := []) (fun I_431 J_432 h_433 => ?_)
  obtain ⟨rfl, v_435⟩ := h_433
  refine g_aload_n C 0 dX11_feed_23 rfl rfl ?_
  refine g_getR C K hLx hkx f_11_10 hb_430 dX11_feed_24 ?_
  refine g_iload_n C 2 dX11_feed_27 rfl rfl ?_
  refine g_callVV C K (c_Tape_add W9 hb_430L hb_430k (0 + 4) (by omega) (v_435) b) hb_430L hb_430k (by decide) rfl v_11_105 rfl ⟨rfl, rfl⟩ ⟨Nat.le_of_ble_eq_true rfl, Nat.le_of_ble_eq_true rfl⟩ (Nat.le_of_ble_eq_true rfl) ⟨Nat.le_of_ble_eq_true rfl, Nat.le_of_ble_eq_true rfl⟩ dX11_feed_28 rfl (st := []) (fun I_436 J_437 h_438 => ?_)
  obtain ⟨rfl, v_440⟩ := h_438
  refine g_aload_n C 0 dX11_feed_31 rfl rfl ?_
  refine g_getR C K hLx hkx f_11_10 hb_430 dX11_feed_32 ?_
  refine g_iload_n C 3 dX11_feed_35 rfl rfl ?_
  refine g_callVV C K (c_Tape_add W9 hb_430L hb_430k (0 + 4 + 4) (by omega) (v_440) c1) hb_430L hb_430k (by decide) rfl v_11_105 rfl ⟨rfl, rfl⟩ ⟨Nat.le_of_ble_eq_true rfl, Nat.le_of_ble_eq_true rfl⟩ (Nat.le_of_ble_eq_true rfl) ⟨Nat.le_of_ble_eq_true rfl, Nat.le_of_ble_eq_true rfl⟩ dX11_feed_36 rfl (st := []) (fun I_441 J_442 h_443 => ?_)
  obtain ⟨rfl, v_445⟩ := h_443
  refine g_aload_n C 0 dX11_feed_39 rfl rfl ?_
  refine g_getR C K hLx hkx f_11_10 hb_430 dX11_feed_40 ?_
  refine g_iload C 4 dX11_feed_43 rfl ?_
  refine g_callVV C K (c_Tape_add W9 hb_430L hb_430k (0 + 4 + 4 + 4) (by omega) (v_445) d) hb_430L hb_430k (by decide) rfl v_11_105 rfl ⟨rfl, rfl⟩ ⟨Nat.le_of_ble_eq_true rfl, Nat.le_of_ble_eq_true rfl⟩ (Nat.le_of_ble_eq_true rfl) ⟨Nat.le_of_ble_eq_true rfl, Nat.le_of_ble_eq_true rfl⟩ dX11_feed_45 rfl (st := []) (fun I_446 J_447 h_448 => ?_)
  obtain ⟨rfl, v_450⟩ := h_448
  refine g_aload_n C 0 dX11_feed_48 rfl rfl ?_
  refine g_getR C K hLx hkx f_11_10 hb_430 dX11_feed_49 ?_
  refine g_iload C 5 dX11_feed_52 rfl ?_
  refine g_callVV C K (c_Tape_add W9 hb_430L hb_430k (0 + 4 + 4 + 4 + 4) (by omega) (v_450) e1) hb_430L hb_430k (by decide) rfl v_11_105 rfl ⟨rfl, rfl⟩ ⟨Nat.le_of_ble_eq_true rfl, Nat.le_of_ble_eq_true rfl⟩ (Nat.le_of_ble_eq_true rfl) ⟨Nat.le_of_ble_eq_true rfl, Nat.le_of_ble_eq_true rfl⟩ dX11_feed_54 rfl (st := []) (fun I_451 J_452 h_453 => ?_)
  obtain ⟨rfl, v_455⟩ := h_453
  refine g_aload_n C 0 dX11_feed_57 rfl rfl ?_
  refine g_getR C K hLx hkx f_11_10 hb_430 dX11_feed_58 ?_
  refine g_getI C K hb_430L hb_430k f_11_102 (v := nI (0 + 4 + 4 + 4 + 4 + 4)) (v_455) dX11_feed_61 ?_
  exact g_zret (ty := .int) (r := nI (0 + 4 + 4 + 4 + 4 + 4)) B K rfl rfl (rfl) dX11_feed_64
set_option maxRecDepth 100000 in
set_option maxHeartbeats 4000000 in
theorem t_end {l : Launch} {D : va_G} {cy : Nat → ClassId} {L : List Nat} {κ ln : Nat → Nat} {R : Nat → Nat → Option Nat} {I : Nat → Nat → Int32} {J : Nat → Nat → Int64} {ow : Nat → Nat × Nat} (W9 : ∀ a ∈ L, Shp L κ ln R ow a) {x : Nat} (hLx : x ∈ L) (hkx : κ x = 11) (FZ : Fz_ L κ I) (n : Int32) : CtI l yX11_end cX11_end 2 (some .boolean) { frames := 5, cells := 0, slots := 0, locals := 320 } D cy L κ ln R I J [.ref x, .int n] (fun r _ _ => r = if 0 ≤ n ∧ n ≤ 0 then 1 else 0) := by
  refine CtI.of (by decide +kernel) (Nat.le_of_ble_eq_true rfl) ?_
  intro p e s m below meth c B K
  have C := B.1
  have Z1 := fz_Z FZ 1 (by decide) (by decide) (by decide)
  have Z8 := fz_Z FZ 8 (by decide) (by decide) (by decide)
  refine g_lo (is := [0, 1]) (lo2 := [(0, .ref x), (1, .int n)]) rfl ?_
  refine g_iload_n C 1 dX11_end_0 rfl rfl ?_
  refine g_if_lt C (tgt := 15) dX11_end_1 (by decide) (fun h_456 => ?_) (fun h_456 => ?_)
  · skip
    refine g_iconst C (v := 0) dX11_end_15 (by decide) ?_
    exact g_zret (ty := .boolean) (r := 0) B K rfl (by decide) (by first | exact p_in ⟨i32_lt_le (by assumption), by assumption⟩ | exact p_hi (Int32.not_le.mp (by assumption)) | exact p_lo (by assumption)) dX11_end_16
  · skip
    refine g_iload_n C 1 dX11_end_4 rfl rfl ?_
    refine g_aload_n C 0 dX11_end_5 rfl rfl ?_
    obtain ⟨b_457, hb_457, hb_457L, hb_457k⟩ := shp_o (W9 x hLx) hkx 0 10 rfl (by decide)
    refine g_getR C K hLx hkx f_11_10 hb_457 dX11_end_6 ?_
    refine g_getI C K hb_457L hb_457k f_11_102 (v := 0) ((by rw [FZ b_457 hb_457L 5, hb_457k]; rfl)) dX11_end_9 ?_
    refine g_icmp_le C (tgt := 17) dX11_end_12 (by decide) (fun h_458 => ?_) (fun h_458 => ?_)
    · skip
      refine g_aload_n C 0 dX11_end_17 rfl rfl ?_
      refine g_getR C K hLx hkx f_11_10 hb_457 dX11_end_18 ?_
      refine g_iload_n C 1 dX11_end_21 rfl rfl ?_
      refine h_putI C K hb_457L hb_457k f_11_102 p_10_5 dX11_end_22 (fun I_459 hI_459 => ?_)
      refine g_iconst C (v := 1) dX11_end_25 (by decide) ?_
      exact g_zret (ty := .boolean) (r := 1) B K rfl (by decide) (by first | exact p_in ⟨i32_lt_le (by assumption), by assumption⟩ | exact p_hi (Int32.not_le.mp (by assumption)) | exact p_lo (by assumption)) dX11_end_26
    · skip
      refine g_iconst C (v := 0) dX11_end_15 (by decide) ?_
      exact g_zret (ty := .boolean) (r := 0) B K rfl (by decide) (by first | exact p_in ⟨i32_lt_le (by assumption), by assumption⟩ | exact p_hi (Int32.not_le.mp (by assumption)) | exact p_lo (by assumption)) dX11_end_16
set_option maxRecDepth 100000 in
set_option maxHeartbeats 4000000 in
theorem t_table {l : Launch} {D : va_G} {cy : Nat → ClassId} {L : List Nat} {κ ln : Nat → Nat} {R : Nat → Nat → Option Nat} {I : Nat → Nat → Int32} {J : Nat → Nat → Int64} {ow : Nat → Nat × Nat} (W9 : ∀ a ∈ L, Shp L κ ln R ow a) {x : Nat} (hLx : x ∈ L) (hkx : κ x = 11) (FZ : Fz_ L κ I) : CtI l yX11_table cX11_table 2 (some .int) { frames := 5, cells := 0, slots := 0, locals := 320 } D cy L κ ln R I J [.ref x] (fun r _ _ => r = 0) := by
  refine CtI.of (by decide +kernel) (Nat.le_of_ble_eq_true rfl) ?_
  intro p e s m below meth c B K
  have C := B.1
  have Z1 := fz_Z FZ 1 (by decide) (by decide) (by decide)
  have Z8 := fz_Z FZ 8 (by decide) (by decide) (by decide)
  refine g_lo (is := [0]) (lo2 := [(0, .ref x)]) rfl ?_
  refine g_aload_n C 0 dX11_table_0 rfl rfl ?_
  obtain ⟨b_460, hb_460, hb_460L, hb_460k⟩ := shp_o (W9 x hLx) hkx 5 9 rfl (by decide)
  refine g_getR C K hLx hkx f_11_45 hb_460 dX11_table_1 ?_
  refine g_aload_n C 0 dX11_table_4 rfl rfl ?_
  obtain ⟨b_461, hb_461, hb_461L, hb_461k⟩ := shp_o (W9 x hLx) hkx 0 10 rfl (by decide)
  refine g_getR C K hLx hkx f_11_10 hb_461 dX11_table_5 ?_
  refine g_callVI C K (c_TR_readFrom0 W9 hb_460L hb_460k hb_461L hb_461k (Z1) (Z8) ((by rw [FZ b_461 hb_461L 5, hb_461k]; rfl))) hb_460L hb_460k (by decide) rfl v_11_109 rfl ⟨rfl, rfl⟩ ⟨Nat.le_of_ble_eq_true rfl, Nat.le_of_ble_eq_true rfl⟩ (Nat.le_of_ble_eq_true rfl) ⟨Nat.le_of_ble_eq_true rfl, Nat.le_of_ble_eq_true rfl⟩ dX11_table_8 rfl (st := []) (fun r_465 I_462 J_463 h_464 => ?_)
  obtain ⟨g_467, f_466, z_468, z_469, v_470, rfl⟩ := h_464
  refine g_istore_n C dX11_table_11 rfl (by decide) (lo2 := [(1, .int 0), (0, .ref x)]) rfl ?_
  refine g_aload_n C 1 dX11_table_12 rfl rfl ?_
  refine g_getR C K hLx hkx f_11_10 hb_461 dX11_table_13 ?_
  refine g_iconst C (v := 0) dX11_table_16 (by decide) ?_
  refine h_putI C K hb_461L hb_461k f_11_102 p_10_5 dX11_table_17 (fun I_471 hI_471 => ?_)
  refine g_aload_n C 1 dX11_table_20 rfl rfl ?_
  refine g_getR C K hLx hkx f_11_10 hb_461 dX11_table_21 ?_
  refine g_getI C K hb_461L hb_461k f_11_113 (v := 0) (by rw [hI_471, u2_j (by decide)]; exact v_470) dX11_table_24 ?_
  refine t_if_eq C (tgt := 40) (by decide) dX11_table_27 (by decide) ?_
  refine g_aload_n C 1 dX11_table_40 rfl rfl ?_
  obtain ⟨b_472, hb_472, hb_472L, hb_472k⟩ := shp_o (W9 x hLx) hkx 1 8 rfl (by decide)
  refine g_getR C K hLx hkx f_11_19 hb_472 dX11_table_41 ?_
  refine g_aload_n C 1 dX11_table_44 rfl rfl ?_
  refine g_getR C K hLx hkx f_11_45 hb_460 dX11_table_45 ?_
  obtain ⟨b_473, hb_473, hb_473L, hb_473k⟩ := shp_o (W9 b_460 hb_460L) hb_460k 0 8 rfl (by decide)
  refine g_getR C K hb_460L hb_460k f_11_119 hb_473 dX11_table_48 ?_
  refine g_callVV C K (c_Table_become W9 hb_472L hb_472k hb_473L hb_473k ((z_469).u2 hI_471 rfl)) hb_472L hb_472k (by decide) rfl v_11_120 rfl ⟨rfl, rfl⟩ ⟨Nat.le_of_ble_eq_true rfl, Nat.le_of_ble_eq_true rfl⟩ (Nat.le_of_ble_eq_true rfl) ⟨Nat.le_of_ble_eq_true rfl, Nat.le_of_ble_eq_true rfl⟩ dX11_table_51 rfl (st := []) (fun I_474 J_475 h_476 => ?_)
  obtain ⟨g_479, f_478, z_480⟩ := h_476
  refine g_aload_n C 1 dX11_table_54 rfl rfl ?_
  obtain ⟨b_481, hb_481, hb_481L, hb_481k⟩ := shp_o (W9 x hLx) hkx 2 1 rfl (by decide)
  refine g_getR C K hLx hkx f_11_28 hb_481 dX11_table_55 ?_
  refine g_aload_n C 1 dX11_table_58 rfl rfl ?_
  refine g_getR C K hLx hkx f_11_45 hb_460 dX11_table_59 ?_
  obtain ⟨b_482, hb_482, hb_482L, hb_482k⟩ := shp_o (W9 b_460 hb_460L) hb_460k 1 1 rfl (by decide)
  refine g_getR C K hb_460L hb_460k f_11_123 hb_482 dX11_table_62 ?_
  refine g_callVV C K (c_Course_become W9 hb_481L hb_481k hb_482L hb_482k (((z_468).u2 hI_471 rfl).fk f_478 (by decide))) hb_481L hb_481k (by decide) rfl v_11_126 rfl ⟨rfl, rfl⟩ ⟨Nat.le_of_ble_eq_true rfl, Nat.le_of_ble_eq_true rfl⟩ (Nat.le_of_ble_eq_true rfl) ⟨Nat.le_of_ble_eq_true rfl, Nat.le_of_ble_eq_true rfl⟩ dX11_table_65 rfl (st := []) (fun I_483 J_484 h_485 => ?_)
  obtain ⟨rfl, f_487, z_489⟩ := h_485
  refine g_aload_n C 1 dX11_table_68 rfl rfl ?_
  obtain ⟨b_490, hb_490, hb_490L, hb_490k⟩ := shp_o (W9 x hLx) hkx 7 7 rfl (by decide)
  refine g_getR C K hLx hkx f_11_59 hb_490 dX11_table_69 ?_
  refine g_callVV C K (c_Sen_forget hb_490L hb_490k) hb_490L hb_490k (by decide) rfl v_11_129 rfl ⟨rfl, rfl⟩ ⟨Nat.le_of_ble_eq_true rfl, Nat.le_of_ble_eq_true rfl⟩ (Nat.le_of_ble_eq_true rfl) ⟨Nat.le_of_ble_eq_true rfl, Nat.le_of_ble_eq_true rfl⟩ dX11_table_72 rfl (st := []) (fun I_491 J_492 h_493 => ?_)
  obtain ⟨rfl, f_495⟩ := h_493
  refine g_aload_n C 1 dX11_table_75 rfl rfl ?_
  obtain ⟨b_497, hb_497, hb_497L, hb_497k⟩ := shp_o (W9 x hLx) hkx 4 5 rfl (by decide)
  refine g_getR C K hLx hkx f_11_38 hb_497 dX11_table_76 ?_
  refine g_callVV C K (c_Past_forget hb_497L hb_497k) hb_497L hb_497k (by decide) rfl v_11_132 rfl ⟨rfl, rfl⟩ ⟨Nat.le_of_ble_eq_true rfl, Nat.le_of_ble_eq_true rfl⟩ (Nat.le_of_ble_eq_true rfl) ⟨Nat.le_of_ble_eq_true rfl, Nat.le_of_ble_eq_true rfl⟩ dX11_table_79 rfl (st := []) (fun I_498 J_499 h_500 => ?_)
  obtain ⟨rfl, f_502⟩ := h_500
  refine g_iload_n C 0 dX11_table_82 rfl rfl ?_
  exact g_zret (ty := .int) (r := 0) B K rfl rfl (rfl) dX11_table_83
set_option maxRecDepth 100000 in
set_option maxHeartbeats 4000000 in
theorem t_fault {l : Launch} {D : va_G} {cy : Nat → ClassId} {L : List Nat} {κ ln : Nat → Nat} {R : Nat → Nat → Option Nat} {I : Nat → Nat → Int32} {J : Nat → Nat → Int64} {ow : Nat → Nat × Nat} (W9 : ∀ a ∈ L, Shp L κ ln R ow a) {x : Nat} (hLx : x ∈ L) (hkx : κ x = 11) (FZ : Fz_ L κ I) : CtI l yX11_fault cX11_fault 1 (some .int) { frames := 5, cells := 0, slots := 0, locals := 320 } D cy L κ ln R I J [.ref x] (fun r _ _ => r = 0) := by
  refine CtI.of (by decide +kernel) (Nat.le_of_ble_eq_true rfl) ?_
  intro p e s m below meth c B K
  have C := B.1
  have Z1 := fz_Z FZ 1 (by decide) (by decide) (by decide)
  have Z8 := fz_Z FZ 8 (by decide) (by decide) (by decide)
  refine g_lo (is := [0]) (lo2 := [(0, .ref x)]) rfl ?_
  refine g_aload_n C 0 dX11_fault_0 rfl rfl ?_
  obtain ⟨b_504, hb_504, hb_504L, hb_504k⟩ := shp_o (W9 x hLx) hkx 0 10 rfl (by decide)
  refine g_getR C K hLx hkx f_11_10 hb_504 dX11_fault_1 ?_
  refine g_getI C K hb_504L hb_504k f_11_113 (v := 0) ((by rw [FZ b_504 hb_504L 11, hb_504k]; rfl)) dX11_fault_4 ?_
  exact g_zret (ty := .int) (r := 0) B K rfl rfl (rfl) dX11_fault_7
set_option maxRecDepth 100000 in
set_option maxHeartbeats 4000000 in
theorem t_plate {l : Launch} {D : va_G} {cy : Nat → ClassId} {L : List Nat} {κ ln : Nat → Nat} {R : Nat → Nat → Option Nat} {I : Nat → Nat → Int32} {J : Nat → Nat → Int64} {ow : Nat → Nat × Nat} (W9 : ∀ a ∈ L, Shp L κ ln R ow a) {x : Nat} (hLx : x ∈ L) (hkx : κ x = 11) (FZ : Fz_ L κ I) (p1 : Int32) (d : Int32) : CtI l yX11_plate cX11_plate 3 (some .int) { frames := 5, cells := 0, slots := 0, locals := 320 } D cy L κ ln R I J [.ref x, .int p1, .int d] (fun r _ _ => r = -1) := by
  refine CtI.of (by decide +kernel) (Nat.le_of_ble_eq_true rfl) ?_
  intro p e s m below meth c B K
  have C := B.1
  have Z1 := fz_Z FZ 1 (by decide) (by decide) (by decide)
  have Z8 := fz_Z FZ 8 (by decide) (by decide) (by decide)
  refine g_lo (is := [0, 1, 2]) (lo2 := [(0, .ref x), (1, .int p1), (2, .int d)]) rfl ?_
  refine g_aload_n C 0 dX11_plate_0 rfl rfl ?_
  obtain ⟨b_505, hb_505, hb_505L, hb_505k⟩ := shp_o (W9 x hLx) hkx 1 8 rfl (by decide)
  refine g_getR C K hLx hkx f_11_19 hb_505 dX11_plate_1 ?_
  refine g_iload_n C 1 dX11_plate_4 rfl rfl ?_
  refine g_callVI C K (c_Table_hasPerson hb_505L hb_505k p1 0 ((by rw [FZ b_505 hb_505L 5, hb_505k]; rfl))) hb_505L hb_505k (by decide) rfl v_11_133 rfl ⟨rfl, rfl⟩ ⟨Nat.le_of_ble_eq_true rfl, Nat.le_of_ble_eq_true rfl⟩ (Nat.le_of_ble_eq_true rfl) ⟨Nat.le_of_ble_eq_true rfl, Nat.le_of_ble_eq_true rfl⟩ dX11_plate_5 rfl (st := []) (fun r_509 I_506 J_507 h_508 => ?_)
  obtain ⟨rfl, rfl, er_509⟩ := h_508
  have h0r_509 := er_509
  rw [z_hp] at er_509
  subst er_509
  refine t_if_eq C (tgt := 22) (by decide) dX11_plate_8 (by decide) ?_
  refine g_iconst C (v := (-1)) dX11_plate_22 (by decide) ?_
  exact g_zret (ty := .int) (r := (-1)) B K rfl rfl (rfl) dX11_plate_23
set_option maxRecDepth 100000 in
set_option maxHeartbeats 4000000 in
theorem t_dish {l : Launch} {D : va_G} {cy : Nat → ClassId} {L : List Nat} {κ ln : Nat → Nat} {R : Nat → Nat → Option Nat} {I : Nat → Nat → Int32} {J : Nat → Nat → Int64} {ow : Nat → Nat × Nat} (W9 : ∀ a ∈ L, Shp L κ ln R ow a) {x : Nat} (hLx : x ∈ L) (hkx : κ x = 11) (FZ : Fz_ L κ I) (d : Int32) (w : Int32) : CtI l yX11_dish cX11_dish 3 (some .int) { frames := 5, cells := 0, slots := 0, locals := 320 } D cy L κ ln R I J [.ref x, .int d, .int w] (fun r _ _ => r = -1) := by
  refine CtI.of (by decide +kernel) (Nat.le_of_ble_eq_true rfl) ?_
  intro p e s m below meth c B K
  have C := B.1
  have Z1 := fz_Z FZ 1 (by decide) (by decide) (by decide)
  have Z8 := fz_Z FZ 8 (by decide) (by decide) (by decide)
  refine g_lo (is := [0, 1, 2]) (lo2 := [(0, .ref x), (1, .int d), (2, .int w)]) rfl ?_
  refine g_aload_n C 0 dX11_dish_0 rfl rfl ?_
  obtain ⟨b_510, hb_510, hb_510L, hb_510k⟩ := shp_o (W9 x hLx) hkx 1 8 rfl (by decide)
  refine g_getR C K hLx hkx f_11_19 hb_510 dX11_dish_1 ?_
  refine g_iload_n C 1 dX11_dish_4 rfl rfl ?_
  refine g_callVI C K (c_Table_hasDish hb_510L hb_510k d 0 ((by rw [FZ b_510 hb_510L 6, hb_510k]; rfl))) hb_510L hb_510k (by decide) rfl v_11_175 rfl ⟨rfl, rfl⟩ ⟨Nat.le_of_ble_eq_true rfl, Nat.le_of_ble_eq_true rfl⟩ (Nat.le_of_ble_eq_true rfl) ⟨Nat.le_of_ble_eq_true rfl, Nat.le_of_ble_eq_true rfl⟩ dX11_dish_5 rfl (st := []) (fun r_514 I_511 J_512 h_513 => ?_)
  obtain ⟨rfl, rfl, er_514⟩ := h_513
  have h0r_514 := er_514
  rw [z_hp] at er_514
  subst er_514
  refine n_if_ne C (tgt := 13) (by decide) dX11_dish_8 (by decide) ?_
  refine g_iconst C (v := (-1)) dX11_dish_11 (by decide) ?_
  exact g_zret (ty := .int) (r := (-1)) B K rfl rfl (rfl) dX11_dish_12
set_option maxRecDepth 100000 in
set_option maxHeartbeats 4000000 in
theorem t_now {l : Launch} {D : va_G} {cy : Nat → ClassId} {L : List Nat} {κ ln : Nat → Nat} {R : Nat → Nat → Option Nat} {I : Nat → Nat → Int32} {J : Nat → Nat → Int64} {ow : Nat → Nat × Nat} (W9 : ∀ a ∈ L, Shp L κ ln R ow a) {x : Nat} (hLx : x ∈ L) (hkx : κ x = 11) (FZ : Fz_ L κ I) (w : Int32) : CtI l yX11_now cX11_now 2 (some .int) { frames := 5, cells := 0, slots := 0, locals := 320 } D cy L κ ln R I J [.ref x, .int w] (fun r _ _ => r = if 0 ≤ w ∧ w ≤ 7 then 0 else -1) := by
  refine CtI.of (by decide +kernel) (Nat.le_of_ble_eq_true rfl) ?_
  intro p e s m below meth c B K
  have C := B.1
  have Z1 := fz_Z FZ 1 (by decide) (by decide) (by decide)
  have Z8 := fz_Z FZ 8 (by decide) (by decide) (by decide)
  refine g_lo (is := [0, 1]) (lo2 := [(0, .ref x), (1, .int w)]) rfl ?_
  refine g_iload_n C 1 dX11_now_0 rfl rfl ?_
  rcases pk_ix w (n := 8) (by decide) with hsw | hsw | ⟨i_515, hi_516, rfl⟩
  · skip
    refine g_tableOut C (tgt := 112) dX11_now_1 (Or.inl (sw_lt hsw)) (by decide) ?_
    refine g_iconst C (v := (-1)) dX11_now_112 (by decide) ?_
    exact g_zret (ty := .int) (r := (-1)) B K rfl rfl (p_lo hsw) dX11_now_113
  · skip
    refine g_tableOut C (tgt := 112) dX11_now_1 (Or.inr (sw_ge hsw (by decide))) (by decide) ?_
    refine g_iconst C (v := (-1)) dX11_now_112 (by decide) ?_
    exact g_zret (ty := .int) (r := (-1)) B K rfl rfl (p_hi' hsw (by decide)) dX11_now_113
  · rcases (show i_515 = 0 ∨ i_515 = 1 ∨ i_515 = 2 ∨ i_515 = 3 ∨ i_515 = 4 ∨ i_515 = 5 ∨ i_515 = 6 ∨ i_515 = 7 by omega) with rfl | rfl | rfl | rfl | rfl | rfl | rfl | rfl
    · skip
      refine g_tableIn C (tgt := 48) dX11_now_1 (by decide) (by decide) (off := 47) (by decide) (by decide) ?_
      refine g_aload_n C 0 dX11_now_48 rfl rfl ?_
      obtain ⟨b_517, hb_517, hb_517L, hb_517k⟩ := shp_o (W9 x hLx) hkx 2 1 rfl (by decide)
      refine g_getR C K hLx hkx f_11_28 hb_517 dX11_now_49 ?_
      refine g_getI C K hb_517L hb_517k f_11_195 (v := 0) ((by rw [FZ b_517 hb_517L 9, hb_517k]; rfl)) dX11_now_52 ?_
      exact g_zret (ty := .int) (r := 0) B K rfl rfl (by decide) dX11_now_55
    · skip
      refine g_tableIn C (tgt := 56) dX11_now_1 (by decide) (by decide) (off := 55) (by decide) (by decide) ?_
      refine g_aload_n C 0 dX11_now_56 rfl rfl ?_
      obtain ⟨b_518, hb_518, hb_518L, hb_518k⟩ := shp_o (W9 x hLx) hkx 2 1 rfl (by decide)
      refine g_getR C K hLx hkx f_11_28 hb_518 dX11_now_57 ?_
      refine g_getI C K hb_518L hb_518k f_11_151 (v := 0) ((by rw [FZ b_518 hb_518L 7, hb_518k]; rfl)) dX11_now_60 ?_
      exact g_zret (ty := .int) (r := 0) B K rfl rfl (by decide) dX11_now_63
    · skip
      refine g_tableIn C (tgt := 64) dX11_now_1 (by decide) (by decide) (off := 63) (by decide) (by decide) ?_
      refine g_aload_n C 0 dX11_now_64 rfl rfl ?_
      obtain ⟨b_519, hb_519, hb_519L, hb_519k⟩ := shp_o (W9 x hLx) hkx 2 1 rfl (by decide)
      refine g_getR C K hLx hkx f_11_28 hb_519 dX11_now_65 ?_
      refine g_getI C K hb_519L hb_519k f_11_154 (v := 0) ((by rw [FZ b_519 hb_519L 8, hb_519k]; rfl)) dX11_now_68 ?_
      exact g_zret (ty := .int) (r := 0) B K rfl rfl (by decide) dX11_now_71
    · skip
      refine g_tableIn C (tgt := 72) dX11_now_1 (by decide) (by decide) (off := 71) (by decide) (by decide) ?_
      refine g_aload_n C 0 dX11_now_72 rfl rfl ?_
      obtain ⟨b_520, hb_520, hb_520L, hb_520k⟩ := shp_o (W9 x hLx) hkx 2 1 rfl (by decide)
      refine g_getR C K hLx hkx f_11_28 hb_520 dX11_now_73 ?_
      refine g_getI C K hb_520L hb_520k f_11_198 (v := 0) ((by rw [FZ b_520 hb_520L 10, hb_520k]; rfl)) dX11_now_76 ?_
      exact g_zret (ty := .int) (r := 0) B K rfl rfl (by decide) dX11_now_79
    · skip
      refine g_tableIn C (tgt := 80) dX11_now_1 (by decide) (by decide) (off := 79) (by decide) (by decide) ?_
      refine g_aload_n C 0 dX11_now_80 rfl rfl ?_
      obtain ⟨b_521, hb_521, hb_521L, hb_521k⟩ := shp_o (W9 x hLx) hkx 2 1 rfl (by decide)
      refine g_getR C K hLx hkx f_11_28 hb_521 dX11_now_81 ?_
      refine g_getI C K hb_521L hb_521k f_11_201 (v := 0) ((by rw [FZ b_521 hb_521L 11, hb_521k]; rfl)) dX11_now_84 ?_
      exact g_zret (ty := .int) (r := 0) B K rfl rfl (by decide) dX11_now_87
    · skip
      refine g_tableIn C (tgt := 88) dX11_now_1 (by decide) (by decide) (off := 87) (by decide) (by decide) ?_
      refine g_aload_n C 0 dX11_now_88 rfl rfl ?_
      obtain ⟨b_522, hb_522, hb_522L, hb_522k⟩ := shp_o (W9 x hLx) hkx 2 1 rfl (by decide)
      refine g_getR C K hLx hkx f_11_28 hb_522 dX11_now_89 ?_
      refine g_callVI C K (c_Course_allEaten0 W9 hb_522L hb_522k (Z8)) hb_522L hb_522k (by decide) rfl v_11_204 rfl ⟨rfl, rfl⟩ ⟨Nat.le_of_ble_eq_true rfl, Nat.le_of_ble_eq_true rfl⟩ (Nat.le_of_ble_eq_true rfl) ⟨Nat.le_of_ble_eq_true rfl, Nat.le_of_ble_eq_true rfl⟩ dX11_now_92 rfl (st := []) (fun r_526 I_523 J_524 h_525 => ?_)
      obtain ⟨rfl, rfl, er_526⟩ := h_525
      have h0r_526 := er_526
      subst er_526
      exact g_zret (ty := .int) (r := 0) B K rfl rfl (by decide) dX11_now_95
    · skip
      refine g_tableIn C (tgt := 96) dX11_now_1 (by decide) (by decide) (off := 95) (by decide) (by decide) ?_
      refine g_aload_n C 0 dX11_now_96 rfl rfl ?_
      obtain ⟨b_527, hb_527, hb_527L, hb_527k⟩ := shp_o (W9 x hLx) hkx 2 1 rfl (by decide)
      refine g_getR C K hLx hkx f_11_28 hb_527 dX11_now_97 ?_
      refine g_callVI C K (c_Course_allHunger0 W9 hb_527L hb_527k (Z8)) hb_527L hb_527k (by decide) rfl v_11_207 rfl ⟨rfl, rfl⟩ ⟨Nat.le_of_ble_eq_true rfl, Nat.le_of_ble_eq_true rfl⟩ (Nat.le_of_ble_eq_true rfl) ⟨Nat.le_of_ble_eq_true rfl, Nat.le_of_ble_eq_true rfl⟩ dX11_now_100 rfl (st := []) (fun r_531 I_528 J_529 h_530 => ?_)
      obtain ⟨rfl, rfl, er_531⟩ := h_530
      have h0r_531 := er_531
      subst er_531
      exact g_zret (ty := .int) (r := 0) B K rfl rfl (by decide) dX11_now_103
    · skip
      refine g_tableIn C (tgt := 104) dX11_now_1 (by decide) (by decide) (off := 103) (by decide) (by decide) ?_
      refine g_aload_n C 0 dX11_now_104 rfl rfl ?_
      obtain ⟨b_532, hb_532, hb_532L, hb_532k⟩ := shp_o (W9 x hLx) hkx 2 1 rfl (by decide)
      refine g_getR C K hLx hkx f_11_28 hb_532 dX11_now_105 ?_
      refine g_getI C K hb_532L hb_532k f_11_210 (v := 0) ((by rw [FZ b_532 hb_532L 12, hb_532k]; rfl)) dX11_now_108 ?_
      exact g_zret (ty := .int) (r := 0) B K rfl rfl (by decide) dX11_now_111
set_option maxRecDepth 100000 in
set_option maxHeartbeats 4000000 in
theorem t_eat {l : Launch} {D : va_G} {cy : Nat → ClassId} {L : List Nat} {κ ln : Nat → Nat} {R : Nat → Nat → Option Nat} {I : Nat → Nat → Int32} {J : Nat → Nat → Int64} {ow : Nat → Nat × Nat} (W9 : ∀ a ∈ L, Shp L κ ln R ow a) {x : Nat} (hLx : x ∈ L) (hkx : κ x = 11) (FZ : Fz_ L κ I) (p1 : Int32) (d : Int32) (n : Int32) : CtI l yX11_eat cX11_eat 4 (some .int) { frames := 5, cells := 0, slots := 0, locals := 320 } D cy L κ ln R I J [.ref x, .int p1, .int d, .int n] (fun r _ _ => r = -1) := by
  refine CtI.of (by decide +kernel) (Nat.le_of_ble_eq_true rfl) ?_
  intro p e s m below meth c B K
  have C := B.1
  have Z1 := fz_Z FZ 1 (by decide) (by decide) (by decide)
  have Z8 := fz_Z FZ 8 (by decide) (by decide) (by decide)
  refine g_lo (is := [0, 1, 2, 3]) (lo2 := [(0, .ref x), (1, .int p1), (2, .int d), (3, .int n)]) rfl ?_
  refine g_aload_n C 0 dX11_eat_0 rfl rfl ?_
  obtain ⟨b_533, hb_533, hb_533L, hb_533k⟩ := shp_o (W9 x hLx) hkx 1 8 rfl (by decide)
  refine g_getR C K hLx hkx f_11_19 hb_533 dX11_eat_1 ?_
  refine g_iload_n C 1 dX11_eat_4 rfl rfl ?_
  refine g_callVI C K (c_Table_hasPerson hb_533L hb_533k p1 0 ((by rw [FZ b_533 hb_533L 5, hb_533k]; rfl))) hb_533L hb_533k (by decide) rfl v_11_133 rfl ⟨rfl, rfl⟩ ⟨Nat.le_of_ble_eq_true rfl, Nat.le_of_ble_eq_true rfl⟩ (Nat.le_of_ble_eq_true rfl) ⟨Nat.le_of_ble_eq_true rfl, Nat.le_of_ble_eq_true rfl⟩ dX11_eat_5 rfl (st := []) (fun r_537 I_534 J_535 h_536 => ?_)
  obtain ⟨rfl, rfl, er_537⟩ := h_536
  have h0r_537 := er_537
  rw [z_hp] at er_537
  subst er_537
  refine t_if_eq C (tgt := 33) (by decide) dX11_eat_8 (by decide) ?_
  refine g_iconst C (v := (-1)) dX11_eat_33 (by decide) ?_
  exact g_zret (ty := .int) (r := (-1)) B K rfl rfl (rfl) dX11_eat_34
set_option maxRecDepth 100000 in
set_option maxHeartbeats 4000000 in
theorem t_serve {l : Launch} {D : va_G} {cy : Nat → ClassId} {L : List Nat} {κ ln : Nat → Nat} {R : Nat → Nat → Option Nat} {I : Nat → Nat → Int32} {J : Nat → Nat → Int64} {ow : Nat → Nat × Nat} (W9 : ∀ a ∈ L, Shp L κ ln R ow a) {x : Nat} (hLx : x ∈ L) (hkx : κ x = 11) (FZ : Fz_ L κ I) (p1 : Int32) (d : Int32) (n : Int32) : CtI l yX11_serve cX11_serve 4 (some .int) { frames := 5, cells := 0, slots := 0, locals := 320 } D cy L κ ln R I J [.ref x, .int p1, .int d, .int n] (fun r _ _ => r = -1) := by
  refine CtI.of (by decide +kernel) (Nat.le_of_ble_eq_true rfl) ?_
  intro p e s m below meth c B K
  have C := B.1
  have Z1 := fz_Z FZ 1 (by decide) (by decide) (by decide)
  have Z8 := fz_Z FZ 8 (by decide) (by decide) (by decide)
  refine g_lo (is := [0, 1, 2, 3]) (lo2 := [(0, .ref x), (1, .int p1), (2, .int d), (3, .int n)]) rfl ?_
  refine g_aload_n C 0 dX11_serve_0 rfl rfl ?_
  obtain ⟨b_538, hb_538, hb_538L, hb_538k⟩ := shp_o (W9 x hLx) hkx 1 8 rfl (by decide)
  refine g_getR C K hLx hkx f_11_19 hb_538 dX11_serve_1 ?_
  refine g_iload_n C 1 dX11_serve_4 rfl rfl ?_
  refine g_callVI C K (c_Table_hasPerson hb_538L hb_538k p1 0 ((by rw [FZ b_538 hb_538L 5, hb_538k]; rfl))) hb_538L hb_538k (by decide) rfl v_11_133 rfl ⟨rfl, rfl⟩ ⟨Nat.le_of_ble_eq_true rfl, Nat.le_of_ble_eq_true rfl⟩ (Nat.le_of_ble_eq_true rfl) ⟨Nat.le_of_ble_eq_true rfl, Nat.le_of_ble_eq_true rfl⟩ dX11_serve_5 rfl (st := []) (fun r_542 I_539 J_540 h_541 => ?_)
  obtain ⟨rfl, rfl, er_542⟩ := h_541
  have h0r_542 := er_542
  rw [z_hp] at er_542
  subst er_542
  refine t_if_eq C (tgt := 33) (by decide) dX11_serve_8 (by decide) ?_
  refine g_iconst C (v := (-1)) dX11_serve_33 (by decide) ?_
  exact g_zret (ty := .int) (r := (-1)) B K rfl rfl (rfl) dX11_serve_34
set_option maxRecDepth 100000 in
set_option maxHeartbeats 4000000 in
theorem t_rise {l : Launch} {D : va_G} {cy : Nat → ClassId} {L : List Nat} {κ ln : Nat → Nat} {R : Nat → Nat → Option Nat} {I : Nat → Nat → Int32} {J : Nat → Nat → Int64} {ow : Nat → Nat × Nat} (W9 : ∀ a ∈ L, Shp L κ ln R ow a) {x : Nat} (hLx : x ∈ L) (hkx : κ x = 11) (FZ : Fz_ L κ I) (p1 : Int32) : CtI l yX11_rise cX11_rise 2 (some .int) { frames := 5, cells := 0, slots := 0, locals := 320 } D cy L κ ln R I J [.ref x, .int p1] (fun r _ _ => r = -1) := by
  refine CtI.of (by decide +kernel) (Nat.le_of_ble_eq_true rfl) ?_
  intro p e s m below meth c B K
  have C := B.1
  have Z1 := fz_Z FZ 1 (by decide) (by decide) (by decide)
  have Z8 := fz_Z FZ 8 (by decide) (by decide) (by decide)
  refine g_lo (is := [0, 1]) (lo2 := [(0, .ref x), (1, .int p1)]) rfl ?_
  refine g_aload_n C 0 dX11_rise_0 rfl rfl ?_
  obtain ⟨b_543, hb_543, hb_543L, hb_543k⟩ := shp_o (W9 x hLx) hkx 1 8 rfl (by decide)
  refine g_getR C K hLx hkx f_11_19 hb_543 dX11_rise_1 ?_
  refine g_iload_n C 1 dX11_rise_4 rfl rfl ?_
  refine g_callVI C K (c_Table_hasPerson hb_543L hb_543k p1 0 ((by rw [FZ b_543 hb_543L 5, hb_543k]; rfl))) hb_543L hb_543k (by decide) rfl v_11_133 rfl ⟨rfl, rfl⟩ ⟨Nat.le_of_ble_eq_true rfl, Nat.le_of_ble_eq_true rfl⟩ (Nat.le_of_ble_eq_true rfl) ⟨Nat.le_of_ble_eq_true rfl, Nat.le_of_ble_eq_true rfl⟩ dX11_rise_5 rfl (st := []) (fun r_547 I_544 J_545 h_546 => ?_)
  obtain ⟨rfl, rfl, er_547⟩ := h_546
  have h0r_547 := er_547
  rw [z_hp] at er_547
  subst er_547
  refine n_if_ne C (tgt := 13) (by decide) dX11_rise_8 (by decide) ?_
  refine g_iconst C (v := (-1)) dX11_rise_11 (by decide) ?_
  exact g_zret (ty := .int) (r := (-1)) B K rfl rfl (rfl) dX11_rise_12
set_option maxRecDepth 100000 in
set_option maxHeartbeats 4000000 in
theorem t_refuse {l : Launch} {D : va_G} {cy : Nat → ClassId} {L : List Nat} {κ ln : Nat → Nat} {R : Nat → Nat → Option Nat} {I : Nat → Nat → Int32} {J : Nat → Nat → Int64} {ow : Nat → Nat × Nat} (W9 : ∀ a ∈ L, Shp L κ ln R ow a) {x : Nat} (hLx : x ∈ L) (hkx : κ x = 11) (FZ : Fz_ L κ I) (p1 : Int32) : CtI l yX11_refuse cX11_refuse 2 (some .int) { frames := 5, cells := 0, slots := 0, locals := 320 } D cy L κ ln R I J [.ref x, .int p1] (fun r _ _ => r = -1) := by
  refine CtI.of (by decide +kernel) (Nat.le_of_ble_eq_true rfl) ?_
  intro p e s m below meth c B K
  have C := B.1
  have Z1 := fz_Z FZ 1 (by decide) (by decide) (by decide)
  have Z8 := fz_Z FZ 8 (by decide) (by decide) (by decide)
  refine g_lo (is := [0, 1]) (lo2 := [(0, .ref x), (1, .int p1)]) rfl ?_
  refine g_aload_n C 0 dX11_refuse_0 rfl rfl ?_
  obtain ⟨b_548, hb_548, hb_548L, hb_548k⟩ := shp_o (W9 x hLx) hkx 1 8 rfl (by decide)
  refine g_getR C K hLx hkx f_11_19 hb_548 dX11_refuse_1 ?_
  refine g_iload_n C 1 dX11_refuse_4 rfl rfl ?_
  refine g_callVI C K (c_Table_hasPerson hb_548L hb_548k p1 0 ((by rw [FZ b_548 hb_548L 5, hb_548k]; rfl))) hb_548L hb_548k (by decide) rfl v_11_133 rfl ⟨rfl, rfl⟩ ⟨Nat.le_of_ble_eq_true rfl, Nat.le_of_ble_eq_true rfl⟩ (Nat.le_of_ble_eq_true rfl) ⟨Nat.le_of_ble_eq_true rfl, Nat.le_of_ble_eq_true rfl⟩ dX11_refuse_5 rfl (st := []) (fun r_552 I_549 J_550 h_551 => ?_)
  obtain ⟨rfl, rfl, er_552⟩ := h_551
  have h0r_552 := er_552
  rw [z_hp] at er_552
  subst er_552
  refine n_if_ne C (tgt := 13) (by decide) dX11_refuse_8 (by decide) ?_
  refine g_iconst C (v := (-1)) dX11_refuse_11 (by decide) ?_
  exact g_zret (ty := .int) (r := (-1)) B K rfl rfl (rfl) dX11_refuse_12
set_option maxRecDepth 100000 in
set_option maxHeartbeats 4000000 in
theorem t_accept {l : Launch} {D : va_G} {cy : Nat → ClassId} {L : List Nat} {κ ln : Nat → Nat} {R : Nat → Nat → Option Nat} {I : Nat → Nat → Int32} {J : Nat → Nat → Int64} {ow : Nat → Nat × Nat} (W9 : ∀ a ∈ L, Shp L κ ln R ow a) {x : Nat} (hLx : x ∈ L) (hkx : κ x = 11) (FZ : Fz_ L κ I) (p1 : Int32) : CtI l yX11_accept cX11_accept 2 (some .int) { frames := 5, cells := 0, slots := 0, locals := 320 } D cy L κ ln R I J [.ref x, .int p1] (fun r _ _ => r = -1) := by
  refine CtI.of (by decide +kernel) (Nat.le_of_ble_eq_true rfl) ?_
  intro p e s m below meth c B K
  have C := B.1
  have Z1 := fz_Z FZ 1 (by decide) (by decide) (by decide)
  have Z8 := fz_Z FZ 8 (by decide) (by decide) (by decide)
  refine g_lo (is := [0, 1]) (lo2 := [(0, .ref x), (1, .int p1)]) rfl ?_
  refine g_aload_n C 0 dX11_accept_0 rfl rfl ?_
  obtain ⟨b_553, hb_553, hb_553L, hb_553k⟩ := shp_o (W9 x hLx) hkx 1 8 rfl (by decide)
  refine g_getR C K hLx hkx f_11_19 hb_553 dX11_accept_1 ?_
  refine g_iload_n C 1 dX11_accept_4 rfl rfl ?_
  refine g_callVI C K (c_Table_hasPerson hb_553L hb_553k p1 0 ((by rw [FZ b_553 hb_553L 5, hb_553k]; rfl))) hb_553L hb_553k (by decide) rfl v_11_133 rfl ⟨rfl, rfl⟩ ⟨Nat.le_of_ble_eq_true rfl, Nat.le_of_ble_eq_true rfl⟩ (Nat.le_of_ble_eq_true rfl) ⟨Nat.le_of_ble_eq_true rfl, Nat.le_of_ble_eq_true rfl⟩ dX11_accept_5 rfl (st := []) (fun r_557 I_554 J_555 h_556 => ?_)
  obtain ⟨rfl, rfl, er_557⟩ := h_556
  have h0r_557 := er_557
  rw [z_hp] at er_557
  subst er_557
  refine n_if_ne C (tgt := 13) (by decide) dX11_accept_8 (by decide) ?_
  refine g_iconst C (v := (-1)) dX11_accept_11 (by decide) ?_
  exact g_zret (ty := .int) (r := (-1)) B K rfl rfl (rfl) dX11_accept_12
set_option maxRecDepth 100000 in
set_option maxHeartbeats 4000000 in
theorem t_die {l : Launch} {D : va_G} {cy : Nat → ClassId} {L : List Nat} {κ ln : Nat → Nat} {R : Nat → Nat → Option Nat} {I : Nat → Nat → Int32} {J : Nat → Nat → Int64} {ow : Nat → Nat × Nat} (W9 : ∀ a ∈ L, Shp L κ ln R ow a) {x : Nat} (hLx : x ∈ L) (hkx : κ x = 11) (FZ : Fz_ L κ I) (p1 : Int32) : CtI l yX11_die cX11_die 2 (some .int) { frames := 5, cells := 0, slots := 0, locals := 320 } D cy L κ ln R I J [.ref x, .int p1] (fun r _ _ => r = -1) := by
  refine CtI.of (by decide +kernel) (Nat.le_of_ble_eq_true rfl) ?_
  intro p e s m below meth c B K
  have C := B.1
  have Z1 := fz_Z FZ 1 (by decide) (by decide) (by decide)
  have Z8 := fz_Z FZ 8 (by decide) (by decide) (by decide)
  refine g_lo (is := [0, 1]) (lo2 := [(0, .ref x), (1, .int p1)]) rfl ?_
  refine g_aload_n C 0 dX11_die_0 rfl rfl ?_
  obtain ⟨b_558, hb_558, hb_558L, hb_558k⟩ := shp_o (W9 x hLx) hkx 1 8 rfl (by decide)
  refine g_getR C K hLx hkx f_11_19 hb_558 dX11_die_1 ?_
  refine g_iload_n C 1 dX11_die_4 rfl rfl ?_
  refine g_callVI C K (c_Table_hasPerson hb_558L hb_558k p1 0 ((by rw [FZ b_558 hb_558L 5, hb_558k]; rfl))) hb_558L hb_558k (by decide) rfl v_11_133 rfl ⟨rfl, rfl⟩ ⟨Nat.le_of_ble_eq_true rfl, Nat.le_of_ble_eq_true rfl⟩ (Nat.le_of_ble_eq_true rfl) ⟨Nat.le_of_ble_eq_true rfl, Nat.le_of_ble_eq_true rfl⟩ dX11_die_5 rfl (st := []) (fun r_562 I_559 J_560 h_561 => ?_)
  obtain ⟨rfl, rfl, er_562⟩ := h_561
  have h0r_562 := er_562
  rw [z_hp] at er_562
  subst er_562
  refine n_if_ne C (tgt := 13) (by decide) dX11_die_8 (by decide) ?_
  refine g_iconst C (v := (-1)) dX11_die_11 (by decide) ?_
  exact g_zret (ty := .int) (r := (-1)) B K rfl rfl (rfl) dX11_die_12
set_option maxRecDepth 100000 in
set_option maxHeartbeats 4000000 in
theorem t_heir {l : Launch} {D : va_G} {cy : Nat → ClassId} {L : List Nat} {κ ln : Nat → Nat} {R : Nat → Nat → Option Nat} {I : Nat → Nat → Int32} {J : Nat → Nat → Int64} {ow : Nat → Nat × Nat} (W9 : ∀ a ∈ L, Shp L κ ln R ow a) {x : Nat} (hLx : x ∈ L) (hkx : κ x = 11) (FZ : Fz_ L κ I) (p1 : Int32) : CtI l yX11_heir cX11_heir 2 (some .int) { frames := 5, cells := 0, slots := 0, locals := 320 } D cy L κ ln R I J [.ref x, .int p1] (fun r _ _ => r = -1) := by
  refine CtI.of (by decide +kernel) (Nat.le_of_ble_eq_true rfl) ?_
  intro p e s m below meth c B K
  have C := B.1
  have Z1 := fz_Z FZ 1 (by decide) (by decide) (by decide)
  have Z8 := fz_Z FZ 8 (by decide) (by decide) (by decide)
  refine g_lo (is := [0, 1]) (lo2 := [(0, .ref x), (1, .int p1)]) rfl ?_
  refine g_aload_n C 0 dX11_heir_0 rfl rfl ?_
  obtain ⟨b_563, hb_563, hb_563L, hb_563k⟩ := shp_o (W9 x hLx) hkx 1 8 rfl (by decide)
  refine g_getR C K hLx hkx f_11_19 hb_563 dX11_heir_1 ?_
  refine g_iload_n C 1 dX11_heir_4 rfl rfl ?_
  refine g_callVI C K (c_Table_hasPerson hb_563L hb_563k p1 0 ((by rw [FZ b_563 hb_563L 5, hb_563k]; rfl))) hb_563L hb_563k (by decide) rfl v_11_133 rfl ⟨rfl, rfl⟩ ⟨Nat.le_of_ble_eq_true rfl, Nat.le_of_ble_eq_true rfl⟩ (Nat.le_of_ble_eq_true rfl) ⟨Nat.le_of_ble_eq_true rfl, Nat.le_of_ble_eq_true rfl⟩ dX11_heir_5 rfl (st := []) (fun r_567 I_564 J_565 h_566 => ?_)
  obtain ⟨rfl, rfl, er_567⟩ := h_566
  have h0r_567 := er_567
  rw [z_hp] at er_567
  subst er_567
  refine t_if_eq C (tgt := 29) (by decide) dX11_heir_8 (by decide) ?_
  refine g_iconst C (v := (-1)) dX11_heir_29 (by decide) ?_
  exact g_zret (ty := .int) (r := (-1)) B K rfl rfl (rfl) dX11_heir_30
set_option maxRecDepth 100000 in
set_option maxHeartbeats 4000000 in
theorem t_will {l : Launch} {D : va_G} {cy : Nat → ClassId} {L : List Nat} {κ ln : Nat → Nat} {R : Nat → Nat → Option Nat} {I : Nat → Nat → Int32} {J : Nat → Nat → Int64} {ow : Nat → Nat × Nat} (W9 : ∀ a ∈ L, Shp L κ ln R ow a) {x : Nat} (hLx : x ∈ L) (hkx : κ x = 11) (FZ : Fz_ L κ I) (p1 : Int32) : CtI l yX11_will cX11_will 4 (some .int) { frames := 5, cells := 0, slots := 0, locals := 320 } D cy L κ ln R I J [.ref x, .int p1] (fun r _ _ => r = -1) := by
  refine CtI.of (by decide +kernel) (Nat.le_of_ble_eq_true rfl) ?_
  intro p e s m below meth c B K
  have C := B.1
  have Z1 := fz_Z FZ 1 (by decide) (by decide) (by decide)
  have Z8 := fz_Z FZ 8 (by decide) (by decide) (by decide)
  refine g_lo (is := [0, 1]) (lo2 := [(0, .ref x), (1, .int p1)]) rfl ?_
  refine g_aload_n C 0 dX11_will_0 rfl rfl ?_
  obtain ⟨b_568, hb_568, hb_568L, hb_568k⟩ := shp_o (W9 x hLx) hkx 1 8 rfl (by decide)
  refine g_getR C K hLx hkx f_11_19 hb_568 dX11_will_1 ?_
  refine g_iload_n C 1 dX11_will_4 rfl rfl ?_
  refine g_callVI C K (c_Table_hasPerson hb_568L hb_568k p1 0 ((by rw [FZ b_568 hb_568L 5, hb_568k]; rfl))) hb_568L hb_568k (by decide) rfl v_11_133 rfl ⟨rfl, rfl⟩ ⟨Nat.le_of_ble_eq_true rfl, Nat.le_of_ble_eq_true rfl⟩ (Nat.le_of_ble_eq_true rfl) ⟨Nat.le_of_ble_eq_true rfl, Nat.le_of_ble_eq_true rfl⟩ dX11_will_5 rfl (st := []) (fun r_572 I_569 J_570 h_571 => ?_)
  obtain ⟨rfl, rfl, er_572⟩ := h_571
  have h0r_572 := er_572
  rw [z_hp] at er_572
  subst er_572
  refine n_if_ne C (tgt := 13) (by decide) dX11_will_8 (by decide) ?_
  refine g_iconst C (v := (-1)) dX11_will_11 (by decide) ?_
  exact g_zret (ty := .int) (r := (-1)) B K rfl rfl (rfl) dX11_will_12
set_option maxRecDepth 100000 in
set_option maxHeartbeats 4000000 in
theorem t_line {l : Launch} {D : va_G} {cy : Nat → ClassId} {L : List Nat} {κ ln : Nat → Nat} {R : Nat → Nat → Option Nat} {I : Nat → Nat → Int32} {J : Nat → Nat → Int64} {ow : Nat → Nat × Nat} (W9 : ∀ a ∈ L, Shp L κ ln R ow a) {x : Nat} (hLx : x ∈ L) (hkx : κ x = 11) (FZ : Fz_ L κ I) (p1 : Int32) (k : Int32) : CtI l yX11_line cX11_line 6 (some .int) { frames := 5, cells := 0, slots := 0, locals := 320 } D cy L κ ln R I J [.ref x, .int p1, .int k] (fun r _ _ => r = -1) := by
  refine CtI.of (by decide +kernel) (Nat.le_of_ble_eq_true rfl) ?_
  intro p e s m below meth c B K
  have C := B.1
  have Z1 := fz_Z FZ 1 (by decide) (by decide) (by decide)
  have Z8 := fz_Z FZ 8 (by decide) (by decide) (by decide)
  refine g_lo (is := [0, 1, 2]) (lo2 := [(0, .ref x), (1, .int p1), (2, .int k)]) rfl ?_
  refine g_aload_n C 0 dX11_line_0 rfl rfl ?_
  obtain ⟨b_573, hb_573, hb_573L, hb_573k⟩ := shp_o (W9 x hLx) hkx 1 8 rfl (by decide)
  refine g_getR C K hLx hkx f_11_19 hb_573 dX11_line_1 ?_
  refine g_iload_n C 1 dX11_line_4 rfl rfl ?_
  refine g_callVI C K (c_Table_hasPerson hb_573L hb_573k p1 0 ((by rw [FZ b_573 hb_573L 5, hb_573k]; rfl))) hb_573L hb_573k (by decide) rfl v_11_133 rfl ⟨rfl, rfl⟩ ⟨Nat.le_of_ble_eq_true rfl, Nat.le_of_ble_eq_true rfl⟩ (Nat.le_of_ble_eq_true rfl) ⟨Nat.le_of_ble_eq_true rfl, Nat.le_of_ble_eq_true rfl⟩ dX11_line_5 rfl (st := []) (fun r_577 I_574 J_575 h_576 => ?_)
  obtain ⟨rfl, rfl, er_577⟩ := h_576
  have h0r_577 := er_577
  rw [z_hp] at er_577
  subst er_577
  refine t_if_eq C (tgt := 21) (by decide) dX11_line_8 (by decide) ?_
  refine g_iconst C (v := (-1)) dX11_line_21 (by decide) ?_
  exact g_zret (ty := .int) (r := (-1)) B K rfl rfl (rfl) dX11_line_22
set_option maxRecDepth 100000 in
set_option maxHeartbeats 4000000 in
theorem t_undo {l : Launch} {D : va_G} {cy : Nat → ClassId} {L : List Nat} {κ ln : Nat → Nat} {R : Nat → Nat → Option Nat} {I : Nat → Nat → Int32} {J : Nat → Nat → Int64} {ow : Nat → Nat × Nat} (W9 : ∀ a ∈ L, Shp L κ ln R ow a) {x : Nat} (hLx : x ∈ L) (hkx : κ x = 11) (FZ : Fz_ L κ I) : CtI l yX11_undo cX11_undo 1 (some .int) { frames := 5, cells := 0, slots := 0, locals := 320 } D cy L κ ln R I J [.ref x] (fun r _ _ => r = -1) := by
  refine CtI.of (by decide +kernel) (Nat.le_of_ble_eq_true rfl) ?_
  intro p e s m below meth c B K
  have C := B.1
  have Z1 := fz_Z FZ 1 (by decide) (by decide) (by decide)
  have Z8 := fz_Z FZ 8 (by decide) (by decide) (by decide)
  refine g_lo (is := [0]) (lo2 := [(0, .ref x)]) rfl ?_
  refine g_aload_n C 0 dX11_undo_0 rfl rfl ?_
  obtain ⟨b_578, hb_578, hb_578L, hb_578k⟩ := shp_o (W9 x hLx) hkx 4 5 rfl (by decide)
  refine g_getR C K hLx hkx f_11_38 hb_578 dX11_undo_1 ?_
  refine g_aload_n C 0 dX11_undo_4 rfl rfl ?_
  obtain ⟨b_579, hb_579, hb_579L, hb_579k⟩ := shp_o (W9 x hLx) hkx 2 1 rfl (by decide)
  refine g_getR C K hLx hkx f_11_28 hb_579 dX11_undo_5 ?_
  refine g_callVI C K (c_Past_takeBack0 hb_578L hb_578k hb_579L hb_579k ((by rw [FZ b_578 hb_578L 1, hb_578k]; rfl))) hb_578L hb_578k (by decide) rfl v_11_256 rfl ⟨rfl, rfl⟩ ⟨Nat.le_of_ble_eq_true rfl, Nat.le_of_ble_eq_true rfl⟩ (Nat.le_of_ble_eq_true rfl) ⟨Nat.le_of_ble_eq_true rfl, Nat.le_of_ble_eq_true rfl⟩ dX11_undo_8 rfl (st := []) (fun r_583 I_580 J_581 h_582 => ?_)
  obtain ⟨rfl, rfl, er_583⟩ := h_582
  have h0r_583 := er_583
  subst er_583
  exact g_zret (ty := .int) (r := (-1)) B K rfl rfl (rfl) dX11_undo_11
set_option maxRecDepth 100000 in
set_option maxHeartbeats 4000000 in
theorem t_order {l : Launch} {D : va_G} {cy : Nat → ClassId} {L : List Nat} {κ ln : Nat → Nat} {R : Nat → Nat → Option Nat} {I : Nat → Nat → Int32} {J : Nat → Nat → Int64} {ow : Nat → Nat × Nat} (W9 : ∀ a ∈ L, Shp L κ ln R ow a) {x : Nat} (hLx : x ∈ L) (hkx : κ x = 11) (FZ : Fz_ L κ I) : CtI l yX11_order cX11_order 1 (some .int) { frames := 5, cells := 0, slots := 0, locals := 320 } D cy L κ ln R I J [.ref x] (fun r _ _ => r = 0) := by
  refine CtI.of (by decide +kernel) (Nat.le_of_ble_eq_true rfl) ?_
  intro p e s m below meth c B K
  have C := B.1
  have Z1 := fz_Z FZ 1 (by decide) (by decide) (by decide)
  have Z8 := fz_Z FZ 8 (by decide) (by decide) (by decide)
  refine g_lo (is := [0]) (lo2 := [(0, .ref x)]) rfl ?_
  refine g_aload_n C 0 dX11_order_0 rfl rfl ?_
  obtain ⟨b_584, hb_584, hb_584L, hb_584k⟩ := shp_o (W9 x hLx) hkx 9 4 rfl (by decide)
  refine g_getR C K hLx hkx f_11_69 hb_584 dX11_order_1 ?_
  refine g_aload_n C 0 dX11_order_4 rfl rfl ?_
  obtain ⟨b_585, hb_585, hb_585L, hb_585k⟩ := shp_o (W9 x hLx) hkx 2 1 rfl (by decide)
  refine g_getR C K hLx hkx f_11_28 hb_585 dX11_order_5 ?_
  refine g_callVI C K (c_Order_findFrom0 W9 hb_584L hb_584k hb_585L hb_585k Z1 Z8) hb_584L hb_584k (by decide) rfl v_11_266 rfl ⟨rfl, rfl⟩ ⟨Nat.le_of_ble_eq_true rfl, Nat.le_of_ble_eq_true rfl⟩ (Nat.le_of_ble_eq_true rfl) ⟨Nat.le_of_ble_eq_true rfl, Nat.le_of_ble_eq_true rfl⟩ dX11_order_8 rfl (st := []) (fun r_589 I_586 J_587 h_588 => ?_)
  obtain ⟨rfl, f_590, rfl⟩ := h_588
  exact g_zret (ty := .int) (r := 0) B K rfl rfl (rfl) dX11_order_11
set_option maxRecDepth 100000 in
set_option maxHeartbeats 4000000 in
theorem t_orderAt {l : Launch} {D : va_G} {cy : Nat → ClassId} {L : List Nat} {κ ln : Nat → Nat} {R : Nat → Nat → Option Nat} {I : Nat → Nat → Int32} {J : Nat → Nat → Int64} {ow : Nat → Nat × Nat} (W9 : ∀ a ∈ L, Shp L κ ln R ow a) {x : Nat} (hLx : x ∈ L) (hkx : κ x = 11) (FZ : Fz_ L κ I) (k : Int32) : CtI l yX11_orderAt cX11_orderAt 2 (some .int) { frames := 5, cells := 0, slots := 0, locals := 320 } D cy L κ ln R I J [.ref x, .int k] (fun r _ _ => r = -1) := by
  refine CtI.of (by decide +kernel) (Nat.le_of_ble_eq_true rfl) ?_
  intro p e s m below meth c B K
  have C := B.1
  have Z1 := fz_Z FZ 1 (by decide) (by decide) (by decide)
  have Z8 := fz_Z FZ 8 (by decide) (by decide) (by decide)
  refine g_lo (is := [0, 1]) (lo2 := [(0, .ref x), (1, .int k)]) rfl ?_
  refine g_iload_n C 1 dX11_orderAt_0 rfl rfl ?_
  refine g_if_lt C (tgt := 27) dX11_orderAt_1 (by decide) (fun h_592 => ?_) (fun h_592 => ?_)
  · skip
    refine g_iconst C (v := (-1)) dX11_orderAt_27 (by decide) ?_
    exact g_zret (ty := .int) (r := (-1)) B K rfl rfl (rfl) dX11_orderAt_28
  · skip
    refine g_iload_n C 1 dX11_orderAt_4 rfl rfl ?_
    refine g_aload_n C 0 dX11_orderAt_5 rfl rfl ?_
    obtain ⟨b_593, hb_593, hb_593L, hb_593k⟩ := shp_o (W9 x hLx) hkx 9 4 rfl (by decide)
    refine g_getR C K hLx hkx f_11_69 hb_593 dX11_orderAt_6 ?_
    refine g_getI C K hb_593L hb_593k f_11_269 (v := 0) ((by rw [FZ b_593 hb_593L 3, hb_593k]; rfl)) dX11_orderAt_9 ?_
    refine t_icmp_ge C (tgt := 27) (i32_lt_le h_592) dX11_orderAt_12 (by decide) ?_
    refine g_iconst C (v := (-1)) dX11_orderAt_27 (by decide) ?_
    exact g_zret (ty := .int) (r := (-1)) B K rfl rfl (rfl) dX11_orderAt_28
set_option maxRecDepth 100000 in
set_option maxHeartbeats 4000000 in
theorem t_seatAt {l : Launch} {D : va_G} {cy : Nat → ClassId} {L : List Nat} {κ ln : Nat → Nat} {R : Nat → Nat → Option Nat} {I : Nat → Nat → Int32} {J : Nat → Nat → Int64} {ow : Nat → Nat × Nat} (W9 : ∀ a ∈ L, Shp L κ ln R ow a) {x : Nat} (hLx : x ∈ L) (hkx : κ x = 11) (FZ : Fz_ L κ I) (k : Int32) : CtI l yX11_seatAt cX11_seatAt 2 (some .int) { frames := 5, cells := 0, slots := 0, locals := 320 } D cy L κ ln R I J [.ref x, .int k] (fun r _ _ => r = -1) := by
  refine CtI.of (by decide +kernel) (Nat.le_of_ble_eq_true rfl) ?_
  intro p e s m below meth c B K
  have C := B.1
  have Z1 := fz_Z FZ 1 (by decide) (by decide) (by decide)
  have Z8 := fz_Z FZ 8 (by decide) (by decide) (by decide)
  refine g_lo (is := [0, 1]) (lo2 := [(0, .ref x), (1, .int k)]) rfl ?_
  refine g_iload_n C 1 dX11_seatAt_0 rfl rfl ?_
  refine g_if_lt C (tgt := 27) dX11_seatAt_1 (by decide) (fun h_594 => ?_) (fun h_594 => ?_)
  · skip
    refine g_iconst C (v := (-1)) dX11_seatAt_27 (by decide) ?_
    exact g_zret (ty := .int) (r := (-1)) B K rfl rfl (rfl) dX11_seatAt_28
  · skip
    refine g_iload_n C 1 dX11_seatAt_4 rfl rfl ?_
    refine g_aload_n C 0 dX11_seatAt_5 rfl rfl ?_
    obtain ⟨b_595, hb_595, hb_595L, hb_595k⟩ := shp_o (W9 x hLx) hkx 10 6 rfl (by decide)
    refine g_getR C K hLx hkx f_11_76 hb_595 dX11_seatAt_6 ?_
    refine g_getI C K hb_595L hb_595k f_11_294 (v := 0) ((by rw [FZ b_595 hb_595L 1, hb_595k]; rfl)) dX11_seatAt_9 ?_
    refine t_icmp_ge C (tgt := 27) (i32_lt_le h_594) dX11_seatAt_12 (by decide) ?_
    refine g_iconst C (v := (-1)) dX11_seatAt_27 (by decide) ?_
    exact g_zret (ty := .int) (r := (-1)) B K rfl rfl (rfl) dX11_seatAt_28
set_option maxRecDepth 100000 in
set_option maxHeartbeats 4000000 in
theorem t_byteAt {l : Launch} {D : va_G} {cy : Nat → ClassId} {L : List Nat} {κ ln : Nat → Nat} {R : Nat → Nat → Option Nat} {I : Nat → Nat → Int32} {J : Nat → Nat → Int64} {ow : Nat → Nat × Nat} (W9 : ∀ a ∈ L, Shp L κ ln R ow a) {x : Nat} (hLx : x ∈ L) (hkx : κ x = 11) (FZ : Fz_ L κ I) (i : Int32) : CtI l yX11_byteAt cX11_byteAt 2 (some .int) { frames := 5, cells := 0, slots := 0, locals := 320 } D cy L κ ln R I J [.ref x, .int i] (fun r _ _ => r = -1) := by
  refine CtI.of (by decide +kernel) (Nat.le_of_ble_eq_true rfl) ?_
  intro p e s m below meth c B K
  have C := B.1
  have Z1 := fz_Z FZ 1 (by decide) (by decide) (by decide)
  have Z8 := fz_Z FZ 8 (by decide) (by decide) (by decide)
  refine g_lo (is := [0, 1]) (lo2 := [(0, .ref x), (1, .int i)]) rfl ?_
  refine g_iload_n C 1 dX11_byteAt_0 rfl rfl ?_
  refine g_if_lt C (tgt := 21) dX11_byteAt_1 (by decide) (fun h_596 => ?_) (fun h_596 => ?_)
  · skip
    refine g_iconst C (v := (-1)) dX11_byteAt_21 (by decide) ?_
    exact g_zret (ty := .int) (r := (-1)) B K rfl rfl (rfl) dX11_byteAt_22
  · skip
    refine g_iload_n C 1 dX11_byteAt_4 rfl rfl ?_
    refine g_aload_n C 0 dX11_byteAt_5 rfl rfl ?_
    refine g_getI C K hLx hkx f_11_97 (v := 0) ((by rw [FZ x hLx 14, hkx]; rfl)) dX11_byteAt_6 ?_
    refine t_icmp_ge C (tgt := 21) (i32_lt_le h_596) dX11_byteAt_9 (by decide) ?_
    refine g_iconst C (v := (-1)) dX11_byteAt_21 (by decide) ?_
    exact g_zret (ty := .int) (r := (-1)) B K rfl rfl (rfl) dX11_byteAt_22
set_option maxRecDepth 100000 in
set_option maxHeartbeats 4000000 in
theorem t_eaters {l : Launch} {D : va_G} {cy : Nat → ClassId} {L : List Nat} {κ ln : Nat → Nat} {R : Nat → Nat → Option Nat} {I : Nat → Nat → Int32} {J : Nat → Nat → Int64} {ow : Nat → Nat × Nat} (W9 : ∀ a ∈ L, Shp L κ ln R ow a) {x : Nat} (hLx : x ∈ L) (hkx : κ x = 11) (FZ : Fz_ L κ I) : CtI l yX11_eaters cX11_eaters 4 (some .int) { frames := 5, cells := 0, slots := 0, locals := 320 } D cy L κ ln R I J [.ref x] (fun r _ _ => r = -1) := by
  refine CtI.of (by decide +kernel) (Nat.le_of_ble_eq_true rfl) ?_
  intro p e s m below meth c B K
  have C := B.1
  have Z1 := fz_Z FZ 1 (by decide) (by decide) (by decide)
  have Z8 := fz_Z FZ 8 (by decide) (by decide) (by decide)
  refine g_lo (is := [0]) (lo2 := [(0, .ref x)]) rfl ?_
  refine g_aload_n C 0 dX11_eaters_0 rfl rfl ?_
  obtain ⟨b_597, hb_597, hb_597L, hb_597k⟩ := shp_o (W9 x hLx) hkx 0 10 rfl (by decide)
  refine g_getR C K hLx hkx f_11_10 hb_597 dX11_eaters_1 ?_
  refine g_getI C K hb_597L hb_597k f_11_102 (v := 0) ((by rw [FZ b_597 hb_597L 5, hb_597k]; rfl)) dX11_eaters_4 ?_
  refine g_iconst C (v := 2) dX11_eaters_7 (by decide) ?_
  refine t_icmp_ne C (tgt := 15) (by decide) dX11_eaters_8 (by decide) ?_
  refine g_iconst C (v := 0) dX11_eaters_15 (by decide) ?_
  refine g_istore_n C dX11_eaters_16 rfl (by decide) (lo2 := [(1, .int 0), (0, .ref x)]) rfl ?_
  refine g_aload_n C 1 dX11_eaters_17 rfl rfl ?_
  refine g_getR C K hLx hkx f_11_10 hb_597 dX11_eaters_18 ?_
  refine g_iconst C (v := 0) dX11_eaters_21 (by decide) ?_
  refine g_callVI C K (c_Tape_byteOf0_0 hb_597L hb_597k ((by rw [FZ b_597 hb_597L 5, hb_597k]; rfl))) hb_597L hb_597k (by decide) rfl v_11_275 rfl ⟨rfl, rfl⟩ ⟨Nat.le_of_ble_eq_true rfl, Nat.le_of_ble_eq_true rfl⟩ (Nat.le_of_ble_eq_true rfl) ⟨Nat.le_of_ble_eq_true rfl, Nat.le_of_ble_eq_true rfl⟩ dX11_eaters_22 rfl (st := []) (fun r_601 I_598 J_599 h_600 => ?_)
  obtain ⟨rfl, rfl, er_601⟩ := h_600
  have h0r_601 := er_601
  subst er_601
  refine g_istore_n C dX11_eaters_25 rfl (by decide) (lo2 := [(2, .int (-1)), (1, .int 0), (0, .ref x)]) rfl ?_
  refine g_aload_n C 2 dX11_eaters_26 rfl rfl ?_
  refine g_getR C K hLx hkx f_11_10 hb_597 dX11_eaters_27 ?_
  refine g_iconst C (v := 1) dX11_eaters_30 (by decide) ?_
  refine g_callVI C K (c_Tape_byteOf0_1 hb_597L hb_597k ((by rw [FZ b_597 hb_597L 5, hb_597k]; rfl))) hb_597L hb_597k (by decide) rfl v_11_275 rfl ⟨rfl, rfl⟩ ⟨Nat.le_of_ble_eq_true rfl, Nat.le_of_ble_eq_true rfl⟩ (Nat.le_of_ble_eq_true rfl) ⟨Nat.le_of_ble_eq_true rfl, Nat.le_of_ble_eq_true rfl⟩ dX11_eaters_31 rfl (st := []) (fun r_605 I_602 J_603 h_604 => ?_)
  obtain ⟨rfl, rfl, er_605⟩ := h_604
  have h0r_605 := er_605
  subst er_605
  refine g_istore_n C dX11_eaters_34 rfl (by decide) (lo2 := [(3, .int (-1)), (2, .int (-1)), (1, .int 0), (0, .ref x)]) rfl ?_
  refine g_aload_n C 3 dX11_eaters_35 rfl rfl ?_
  refine g_getR C K hLx hkx f_11_10 hb_597 dX11_eaters_36 ?_
  refine g_iconst C (v := 0) dX11_eaters_39 (by decide) ?_
  refine h_putI C K hb_597L hb_597k f_11_102 p_10_5 dX11_eaters_40 (fun I_606 hI_606 => ?_)
  refine g_iload_n C 2 dX11_eaters_43 rfl rfl ?_
  refine t_if_eq C (tgt := 74) (by decide) dX11_eaters_44 (by decide) ?_
  refine g_iconst C (v := (-1)) dX11_eaters_74 (by decide) ?_
  exact g_zret (ty := .int) (r := (-1)) B K rfl rfl (rfl) dX11_eaters_75
set_option maxRecDepth 100000 in
set_option maxHeartbeats 4000000 in
theorem t_surely {l : Launch} {D : va_G} {cy : Nat → ClassId} {L : List Nat} {κ ln : Nat → Nat} {R : Nat → Nat → Option Nat} {I : Nat → Nat → Int32} {J : Nat → Nat → Int64} {ow : Nat → Nat × Nat} (W9 : ∀ a ∈ L, Shp L κ ln R ow a) {x : Nat} (hLx : x ∈ L) (hkx : κ x = 11) (FZ : Fz_ L κ I) : CtI l yX11_surely cX11_surely 1 (some .int) { frames := 5, cells := 0, slots := 0, locals := 320 } D cy L κ ln R I J [.ref x] (fun r _ _ => r = -1) := by
  refine CtI.of (by decide +kernel) (Nat.le_of_ble_eq_true rfl) ?_
  intro p e s m below meth c B K
  have C := B.1
  have Z1 := fz_Z FZ 1 (by decide) (by decide) (by decide)
  have Z8 := fz_Z FZ 8 (by decide) (by decide) (by decide)
  refine g_lo (is := [0]) (lo2 := [(0, .ref x)]) rfl ?_
  refine g_aload_n C 0 dX11_surely_0 rfl rfl ?_
  obtain ⟨b_607, hb_607, hb_607L, hb_607k⟩ := shp_o (W9 x hLx) hkx 11 2 rfl (by decide)
  refine g_getR C K hLx hkx f_11_83 hb_607 dX11_surely_1 ?_
  refine g_getI C K hb_607L hb_607k f_11_282 (v := (-1)) ((by rw [FZ b_607 hb_607L 1, hb_607k]; rfl)) dX11_surely_4 ?_
  exact g_zret (ty := .int) (r := (-1)) B K rfl rfl (rfl) dX11_surely_7
set_option maxRecDepth 100000 in
set_option maxHeartbeats 4000000 in
theorem t_ask {l : Launch} {D : va_G} {cy : Nat → ClassId} {L : List Nat} {κ ln : Nat → Nat} {R : Nat → Nat → Option Nat} {I : Nat → Nat → Int32} {J : Nat → Nat → Int64} {ow : Nat → Nat × Nat} (W9 : ∀ a ∈ L, Shp L κ ln R ow a) {x : Nat} (hLx : x ∈ L) (hkx : κ x = 11) (FZ : Fz_ L κ I) : CtI l yX11_ask cX11_ask 1 (some .int) { frames := 5, cells := 0, slots := 0, locals := 320 } D cy L κ ln R I J [.ref x] (fun r _ _ => r = -1) := by
  refine CtI.of (by decide +kernel) (Nat.le_of_ble_eq_true rfl) ?_
  intro p e s m below meth c B K
  have C := B.1
  have Z1 := fz_Z FZ 1 (by decide) (by decide) (by decide)
  have Z8 := fz_Z FZ 8 (by decide) (by decide) (by decide)
  refine g_lo (is := [0]) (lo2 := [(0, .ref x)]) rfl ?_
  refine g_aload_n C 0 dX11_ask_0 rfl rfl ?_
  obtain ⟨b_608, hb_608, hb_608L, hb_608k⟩ := shp_o (W9 x hLx) hkx 11 2 rfl (by decide)
  refine g_getR C K hLx hkx f_11_83 hb_608 dX11_ask_1 ?_
  refine g_getI C K hb_608L hb_608k f_11_285 (v := (-1)) ((by rw [FZ b_608 hb_608L 2, hb_608k]; rfl)) dX11_ask_4 ?_
  exact g_zret (ty := .int) (r := (-1)) B K rfl rfl (rfl) dX11_ask_7
set_option maxRecDepth 100000 in
set_option maxHeartbeats 4000000 in
theorem t_share {l : Launch} {D : va_G} {cy : Nat → ClassId} {L : List Nat} {κ ln : Nat → Nat} {R : Nat → Nat → Option Nat} {I : Nat → Nat → Int32} {J : Nat → Nat → Int64} {ow : Nat → Nat × Nat} (W9 : ∀ a ∈ L, Shp L κ ln R ow a) {x : Nat} (hLx : x ∈ L) (hkx : κ x = 11) (FZ : Fz_ L κ I) (d : Int32) (s1 : Int32) (p1 : Int32) : CtI l yX11_share cX11_share 5 (some .int) { frames := 5, cells := 0, slots := 0, locals := 320 } D cy L κ ln R I J [.ref x, .int d, .int s1, .int p1] (fun r _ _ => r = -1) := by
  refine CtI.of (by decide +kernel) (Nat.le_of_ble_eq_true rfl) ?_
  intro p e s m below meth c B K
  have C := B.1
  have Z1 := fz_Z FZ 1 (by decide) (by decide) (by decide)
  have Z8 := fz_Z FZ 8 (by decide) (by decide) (by decide)
  refine g_lo (is := [0, 1, 2, 3]) (lo2 := [(0, .ref x), (1, .int d), (2, .int s1), (3, .int p1)]) rfl ?_
  refine g_aload_n C 0 dX11_share_0 rfl rfl ?_
  obtain ⟨b_609, hb_609, hb_609L, hb_609k⟩ := shp_o (W9 x hLx) hkx 1 8 rfl (by decide)
  refine g_getR C K hLx hkx f_11_19 hb_609 dX11_share_1 ?_
  refine g_iload_n C 1 dX11_share_4 rfl rfl ?_
  refine g_callVI C K (c_Table_hasDish hb_609L hb_609k d 0 ((by rw [FZ b_609 hb_609L 6, hb_609k]; rfl))) hb_609L hb_609k (by decide) rfl v_11_175 rfl ⟨rfl, rfl⟩ ⟨Nat.le_of_ble_eq_true rfl, Nat.le_of_ble_eq_true rfl⟩ (Nat.le_of_ble_eq_true rfl) ⟨Nat.le_of_ble_eq_true rfl, Nat.le_of_ble_eq_true rfl⟩ dX11_share_5 rfl (st := []) (fun r_613 I_610 J_611 h_612 => ?_)
  obtain ⟨rfl, rfl, er_613⟩ := h_612
  have h0r_613 := er_613
  rw [z_hp] at er_613
  subst er_613
  refine t_if_eq C (tgt := 40) (by decide) dX11_share_8 (by decide) ?_
  refine g_iconst C (v := 0) dX11_share_40 (by decide) ?_
  refine g_istore C dX11_share_41 (by decide) (lo2 := [(4, .int 0), (0, .ref x), (1, .int d), (2, .int s1), (3, .int p1)]) rfl ?_
  refine g_iload C 0 dX11_share_43 rfl ?_
  refine t_if_eq C (tgt := 56) (by decide) dX11_share_45 (by decide) ?_
  refine g_iconst C (v := (-1)) dX11_share_56 (by decide) ?_
  exact g_zret (ty := .int) (r := (-1)) B K rfl rfl (rfl) dX11_share_57
set_option maxRecDepth 100000 in
set_option maxHeartbeats 4000000 in
theorem t_last {l : Launch} {D : va_G} {cy : Nat → ClassId} {L : List Nat} {κ ln : Nat → Nat} {R : Nat → Nat → Option Nat} {I : Nat → Nat → Int32} {J : Nat → Nat → Int64} {ow : Nat → Nat × Nat} (W9 : ∀ a ∈ L, Shp L κ ln R ow a) {x : Nat} (hLx : x ∈ L) (hkx : κ x = 11) (FZ : Fz_ L κ I) (d : Int32) : CtI l yX11_last cX11_last 2 (some .int) { frames := 5, cells := 0, slots := 0, locals := 320 } D cy L κ ln R I J [.ref x, .int d] (fun r _ _ => r = -1) := by
  refine CtI.of (by decide +kernel) (Nat.le_of_ble_eq_true rfl) ?_
  intro p e s m below meth c B K
  have C := B.1
  have Z1 := fz_Z FZ 1 (by decide) (by decide) (by decide)
  have Z8 := fz_Z FZ 8 (by decide) (by decide) (by decide)
  refine g_lo (is := [0, 1]) (lo2 := [(0, .ref x), (1, .int d)]) rfl ?_
  refine g_aload_n C 0 dX11_last_0 rfl rfl ?_
  obtain ⟨b_614, hb_614, hb_614L, hb_614k⟩ := shp_o (W9 x hLx) hkx 1 8 rfl (by decide)
  refine g_getR C K hLx hkx f_11_19 hb_614 dX11_last_1 ?_
  refine g_iload_n C 1 dX11_last_4 rfl rfl ?_
  refine g_callVI C K (c_Table_hasDish hb_614L hb_614k d 0 ((by rw [FZ b_614 hb_614L 6, hb_614k]; rfl))) hb_614L hb_614k (by decide) rfl v_11_175 rfl ⟨rfl, rfl⟩ ⟨Nat.le_of_ble_eq_true rfl, Nat.le_of_ble_eq_true rfl⟩ (Nat.le_of_ble_eq_true rfl) ⟨Nat.le_of_ble_eq_true rfl, Nat.le_of_ble_eq_true rfl⟩ dX11_last_5 rfl (st := []) (fun r_618 I_615 J_616 h_617 => ?_)
  obtain ⟨rfl, rfl, er_618⟩ := h_617
  have h0r_618 := er_618
  rw [z_hp] at er_618
  subst er_618
  refine n_if_ne C (tgt := 13) (by decide) dX11_last_8 (by decide) ?_
  refine g_iconst C (v := (-1)) dX11_last_11 (by decide) ?_
  exact g_zret (ty := .int) (r := (-1)) B K rfl rfl (rfl) dX11_last_12
set_option maxRecDepth 100000 in
set_option maxHeartbeats 4000000 in
theorem t_seats {l : Launch} {D : va_G} {cy : Nat → ClassId} {L : List Nat} {κ ln : Nat → Nat} {R : Nat → Nat → Option Nat} {I : Nat → Nat → Int32} {J : Nat → Nat → Int64} {ow : Nat → Nat × Nat} (W9 : ∀ a ∈ L, Shp L κ ln R ow a) {x : Nat} (hLx : x ∈ L) (hkx : κ x = 11) (FZ : Fz_ L κ I) : CtI l yX11_seats cX11_seats 1 (some .int) { frames := 5, cells := 0, slots := 0, locals := 320 } D cy L κ ln R I J [.ref x] (fun r _ _ => r = 0) := by
  refine CtI.of (by decide +kernel) (Nat.le_of_ble_eq_true rfl) ?_
  intro p e s m below meth c B K
  have C := B.1
  have Z1 := fz_Z FZ 1 (by decide) (by decide) (by decide)
  have Z8 := fz_Z FZ 8 (by decide) (by decide) (by decide)
  refine g_lo (is := [0]) (lo2 := [(0, .ref x)]) rfl ?_
  refine g_aload_n C 0 dX11_seats_0 rfl rfl ?_
  obtain ⟨b_619, hb_619, hb_619L, hb_619k⟩ := shp_o (W9 x hLx) hkx 10 6 rfl (by decide)
  refine g_getR C K hLx hkx f_11_76 hb_619 dX11_seats_1 ?_
  refine g_aload_n C 0 dX11_seats_4 rfl rfl ?_
  obtain ⟨b_620, hb_620, hb_620L, hb_620k⟩ := shp_o (W9 x hLx) hkx 2 1 rfl (by decide)
  refine g_getR C K hLx hkx f_11_28 hb_620 dX11_seats_5 ?_
  refine g_callVI C K (c_Seat_seat0 W9 hb_619L hb_619k hb_620L hb_620k Z1 Z8) hb_619L hb_619k (by decide) rfl v_11_291 rfl ⟨rfl, rfl⟩ ⟨Nat.le_of_ble_eq_true rfl, Nat.le_of_ble_eq_true rfl⟩ (Nat.le_of_ble_eq_true rfl) ⟨Nat.le_of_ble_eq_true rfl, Nat.le_of_ble_eq_true rfl⟩ dX11_seats_8 rfl (st := []) (fun r_624 I_621 J_622 h_623 => ?_)
  obtain ⟨rfl, f_625, rfl⟩ := h_623
  exact g_zret (ty := .int) (r := 0) B K rfl rfl (rfl) dX11_seats_11
set_option maxRecDepth 100000 in
set_option maxHeartbeats 4000000 in
theorem t_left {l : Launch} {D : va_G} {cy : Nat → ClassId} {L : List Nat} {κ ln : Nat → Nat} {R : Nat → Nat → Option Nat} {I : Nat → Nat → Int32} {J : Nat → Nat → Int64} {ow : Nat → Nat × Nat} (W9 : ∀ a ∈ L, Shp L κ ln R ow a) {x : Nat} (hLx : x ∈ L) (hkx : κ x = 11) (FZ : Fz_ L κ I) (p1 : Int32) : CtI l yX11_left cX11_left 5 (some .int) { frames := 5, cells := 0, slots := 0, locals := 320 } D cy L κ ln R I J [.ref x, .int p1] (fun r _ _ => r = -1) := by
  refine CtI.of (by decide +kernel) (Nat.le_of_ble_eq_true rfl) ?_
  intro p e s m below meth c B K
  have C := B.1
  have Z1 := fz_Z FZ 1 (by decide) (by decide) (by decide)
  have Z8 := fz_Z FZ 8 (by decide) (by decide) (by decide)
  refine g_lo (is := [0, 1]) (lo2 := [(0, .ref x), (1, .int p1)]) rfl ?_
  refine g_aload_n C 0 dX11_left_0 rfl rfl ?_
  obtain ⟨b_627, hb_627, hb_627L, hb_627k⟩ := shp_o (W9 x hLx) hkx 1 8 rfl (by decide)
  refine g_getR C K hLx hkx f_11_19 hb_627 dX11_left_1 ?_
  refine g_iload_n C 1 dX11_left_4 rfl rfl ?_
  refine g_callVI C K (c_Table_hasPerson hb_627L hb_627k p1 0 ((by rw [FZ b_627 hb_627L 5, hb_627k]; rfl))) hb_627L hb_627k (by decide) rfl v_11_133 rfl ⟨rfl, rfl⟩ ⟨Nat.le_of_ble_eq_true rfl, Nat.le_of_ble_eq_true rfl⟩ (Nat.le_of_ble_eq_true rfl) ⟨Nat.le_of_ble_eq_true rfl, Nat.le_of_ble_eq_true rfl⟩ dX11_left_5 rfl (st := []) (fun r_631 I_628 J_629 h_630 => ?_)
  obtain ⟨rfl, rfl, er_631⟩ := h_630
  have h0r_631 := er_631
  rw [z_hp] at er_631
  subst er_631
  refine t_if_eq C (tgt := 38) (by decide) dX11_left_8 (by decide) ?_
  refine g_iconst C (v := 0) dX11_left_38 (by decide) ?_
  refine g_istore_n C dX11_left_39 rfl (by decide) (lo2 := [(2, .int 0), (0, .ref x), (1, .int p1)]) rfl ?_
  refine g_aload_n C 1 dX11_left_40 rfl rfl ?_
  obtain ⟨b_632, hb_632, hb_632L, hb_632k⟩ := shp_o (W9 x hLx) hkx 3 1 rfl (by decide)
  refine g_getR C K hLx hkx f_11_32 hb_632 dX11_left_41 ?_
  refine g_aload_n C 1 dX11_left_44 rfl rfl ?_
  obtain ⟨b_633, hb_633, hb_633L, hb_633k⟩ := shp_o (W9 x hLx) hkx 2 1 rfl (by decide)
  refine g_getR C K hLx hkx f_11_28 hb_633 dX11_left_45 ?_
  refine g_callVV C K (c_Course_become W9 hb_632L hb_632k hb_633L hb_633k (Z1)) hb_632L hb_632k (by decide) rfl v_11_126 rfl ⟨rfl, rfl⟩ ⟨Nat.le_of_ble_eq_true rfl, Nat.le_of_ble_eq_true rfl⟩ (Nat.le_of_ble_eq_true rfl) ⟨Nat.le_of_ble_eq_true rfl, Nat.le_of_ble_eq_true rfl⟩ dX11_left_48 rfl (st := []) (fun I_634 J_635 h_636 => ?_)
  obtain ⟨rfl, f_638, z_640⟩ := h_636
  refine g_iconst C (v := 0) dX11_left_51 (by decide) ?_
  refine g_istore_n C dX11_left_52 rfl (by decide) (lo2 := [(3, .int 0), (2, .int 0), (0, .ref x), (1, .int p1)]) rfl ?_
  refine g_iload_n C 0 dX11_left_53 rfl rfl ?_
  refine g_aload_n C 2 dX11_left_54 rfl rfl ?_
  obtain ⟨b_641, hb_641, hb_641L, hb_641k⟩ := shp_o (W9 x hLx) hkx 0 10 rfl (by decide)
  refine g_getR C K hLx hkx f_11_10 hb_641 dX11_left_55 ?_
  refine g_getI C K hb_641L hb_641k f_11_102 (v := 0) (by rw [f_638 b_641 5 (by rw [hb_641k]; decide)]; exact (by rw [FZ b_641 hb_641L 5, hb_641k]; rfl)) dX11_left_58 ?_
  refine t_icmp_ge C (tgt := 108) (by decide) dX11_left_61 (by decide) ?_
  refine g_aload_n C 2 dX11_left_108 rfl rfl ?_
  refine g_getR C K hLx hkx f_11_10 hb_641 dX11_left_109 ?_
  refine g_iconst C (v := 0) dX11_left_112 (by decide) ?_
  refine h_putI C K hb_641L hb_641k f_11_102 p_10_5 dX11_left_113 (fun I_642 hI_642 => ?_)
  refine g_iload_n C 1 dX11_left_116 rfl rfl ?_
  refine t_if_eq C (tgt := 132) (by decide) dX11_left_117 (by decide) ?_
  refine g_iconst C (v := (-1)) dX11_left_132 (by decide) ?_
  exact g_zret (ty := .int) (r := (-1)) B K rfl rfl (rfl) dX11_left_133
set_option maxRecDepth 100000 in
set_option maxHeartbeats 4000000 in
theorem t_kin {l : Launch} {D : va_G} {cy : Nat → ClassId} {L : List Nat} {κ ln : Nat → Nat} {R : Nat → Nat → Option Nat} {I : Nat → Nat → Int32} {J : Nat → Nat → Int64} {ow : Nat → Nat × Nat} (W9 : ∀ a ∈ L, Shp L κ ln R ow a) {x : Nat} (hLx : x ∈ L) (hkx : κ x = 11) (FZ : Fz_ L κ I) (p1 : Int32) (q : Int32) : CtI l yX11_kin cX11_kin 3 (some .int) { frames := 5, cells := 0, slots := 0, locals := 320 } D cy L κ ln R I J [.ref x, .int p1, .int q] (fun r _ _ => r = -1) := by
  refine CtI.of (by decide +kernel) (Nat.le_of_ble_eq_true rfl) ?_
  intro p e s m below meth c B K
  have C := B.1
  have Z1 := fz_Z FZ 1 (by decide) (by decide) (by decide)
  have Z8 := fz_Z FZ 8 (by decide) (by decide) (by decide)
  refine g_lo (is := [0, 1, 2]) (lo2 := [(0, .ref x), (1, .int p1), (2, .int q)]) rfl ?_
  refine g_aload_n C 0 dX11_kin_0 rfl rfl ?_
  obtain ⟨b_643, hb_643, hb_643L, hb_643k⟩ := shp_o (W9 x hLx) hkx 1 8 rfl (by decide)
  refine g_getR C K hLx hkx f_11_19 hb_643 dX11_kin_1 ?_
  refine g_iload_n C 1 dX11_kin_4 rfl rfl ?_
  refine g_callVI C K (c_Table_hasPerson hb_643L hb_643k p1 0 ((by rw [FZ b_643 hb_643L 5, hb_643k]; rfl))) hb_643L hb_643k (by decide) rfl v_11_133 rfl ⟨rfl, rfl⟩ ⟨Nat.le_of_ble_eq_true rfl, Nat.le_of_ble_eq_true rfl⟩ (Nat.le_of_ble_eq_true rfl) ⟨Nat.le_of_ble_eq_true rfl, Nat.le_of_ble_eq_true rfl⟩ dX11_kin_5 rfl (st := []) (fun r_647 I_644 J_645 h_646 => ?_)
  obtain ⟨rfl, rfl, er_647⟩ := h_646
  have h0r_647 := er_647
  rw [z_hp] at er_647
  subst er_647
  refine t_if_eq C (tgt := 34) (by decide) dX11_kin_8 (by decide) ?_
  refine g_iconst C (v := (-1)) dX11_kin_34 (by decide) ?_
  exact g_zret (ty := .int) (r := (-1)) B K rfl rfl (rfl) dX11_kin_35
set_option maxRecDepth 100000 in
set_option maxHeartbeats 4000000 in
theorem t_hungriest {l : Launch} {D : va_G} {cy : Nat → ClassId} {L : List Nat} {κ ln : Nat → Nat} {R : Nat → Nat → Option Nat} {I : Nat → Nat → Int32} {J : Nat → Nat → Int64} {ow : Nat → Nat × Nat} (W9 : ∀ a ∈ L, Shp L κ ln R ow a) {x : Nat} (hLx : x ∈ L) (hkx : κ x = 11) (FZ : Fz_ L κ I) : CtI l yX11_hungriest cX11_hungriest 3 (some .int) { frames := 5, cells := 0, slots := 0, locals := 320 } D cy L κ ln R I J [.ref x] (fun r _ _ => r = -1) := by
  refine CtI.of (by decide +kernel) (Nat.le_of_ble_eq_true rfl) ?_
  intro p e s m below meth c B K
  have C := B.1
  have Z1 := fz_Z FZ 1 (by decide) (by decide) (by decide)
  have Z8 := fz_Z FZ 8 (by decide) (by decide) (by decide)
  refine g_lo (is := [0]) (lo2 := [(0, .ref x)]) rfl ?_
  refine g_iconst C (v := (-1)) dX11_hungriest_0 (by decide) ?_
  refine g_istore_n C dX11_hungriest_1 rfl (by decide) (lo2 := [(1, .int (-1)), (0, .ref x)]) rfl ?_
  refine g_iconst C (v := 0) dX11_hungriest_2 (by decide) ?_
  refine g_istore_n C dX11_hungriest_3 rfl (by decide) (lo2 := [(2, .int 0), (1, .int (-1)), (0, .ref x)]) rfl ?_
  refine g_iload_n C 0 dX11_hungriest_4 rfl rfl ?_
  refine g_aload_n C 2 dX11_hungriest_5 rfl rfl ?_
  obtain ⟨b_648, hb_648, hb_648L, hb_648k⟩ := shp_o (W9 x hLx) hkx 1 8 rfl (by decide)
  refine g_getR C K hLx hkx f_11_19 hb_648 dX11_hungriest_6 ?_
  refine g_getI C K hb_648L hb_648k f_11_213 (v := 0) ((by rw [FZ b_648 hb_648L 5, hb_648k]; rfl)) dX11_hungriest_9 ?_
  refine t_icmp_ge C (tgt := 60) (by decide) dX11_hungriest_12 (by decide) ?_
  refine g_iload_n C 1 dX11_hungriest_60 rfl rfl ?_
  exact g_zret (ty := .int) (r := (-1)) B K rfl rfl (rfl) dX11_hungriest_61
set_option maxRecDepth 100000 in
set_option maxHeartbeats 4000000 in
theorem t_odds {l : Launch} {D : va_G} {cy : Nat → ClassId} {L : List Nat} {κ ln : Nat → Nat} {R : Nat → Nat → Option Nat} {I : Nat → Nat → Int32} {J : Nat → Nat → Int64} {ow : Nat → Nat × Nat} (W9 : ∀ a ∈ L, Shp L κ ln R ow a) {x : Nat} (hLx : x ∈ L) (hkx : κ x = 11) (FZ : Fz_ L κ I) (p1 : Int32) (n : Int32) (s1 : Int32) : CtI l yX11_odds cX11_odds 6 (some .int) { frames := 5, cells := 0, slots := 0, locals := 320 } D cy L κ ln R I J [.ref x, .int p1, .int n, .int s1] (fun r _ _ => r = -1) := by
  refine CtI.of (by decide +kernel) (Nat.le_of_ble_eq_true rfl) ?_
  intro p e s m below meth c B K
  have C := B.1
  have Z1 := fz_Z FZ 1 (by decide) (by decide) (by decide)
  have Z8 := fz_Z FZ 8 (by decide) (by decide) (by decide)
  refine g_lo (is := [0, 1, 2, 3]) (lo2 := [(0, .ref x), (1, .int p1), (2, .int n), (3, .int s1)]) rfl ?_
  refine g_aload_n C 0 dX11_odds_0 rfl rfl ?_
  obtain ⟨b_649, hb_649, hb_649L, hb_649k⟩ := shp_o (W9 x hLx) hkx 1 8 rfl (by decide)
  refine g_getR C K hLx hkx f_11_19 hb_649 dX11_odds_1 ?_
  refine g_iload_n C 1 dX11_odds_4 rfl rfl ?_
  refine g_callVI C K (c_Table_hasPerson hb_649L hb_649k p1 0 ((by rw [FZ b_649 hb_649L 5, hb_649k]; rfl))) hb_649L hb_649k (by decide) rfl v_11_133 rfl ⟨rfl, rfl⟩ ⟨Nat.le_of_ble_eq_true rfl, Nat.le_of_ble_eq_true rfl⟩ (Nat.le_of_ble_eq_true rfl) ⟨Nat.le_of_ble_eq_true rfl, Nat.le_of_ble_eq_true rfl⟩ dX11_odds_5 rfl (st := []) (fun r_653 I_650 J_651 h_652 => ?_)
  obtain ⟨rfl, rfl, er_653⟩ := h_652
  have h0r_653 := er_653
  rw [z_hp] at er_653
  subst er_653
  refine t_if_eq C (tgt := 22) (by decide) dX11_odds_8 (by decide) ?_
  refine g_iconst C (v := (-1)) dX11_odds_22 (by decide) ?_
  exact g_zret (ty := .int) (r := (-1)) B K rfl rfl (rfl) dX11_odds_23
set_option maxRecDepth 100000 in
set_option maxHeartbeats 4000000 in
theorem t_drawn {l : Launch} {D : va_G} {cy : Nat → ClassId} {L : List Nat} {κ ln : Nat → Nat} {R : Nat → Nat → Option Nat} {I : Nat → Nat → Int32} {J : Nat → Nat → Int64} {ow : Nat → Nat × Nat} (W9 : ∀ a ∈ L, Shp L κ ln R ow a) {x : Nat} (hLx : x ∈ L) (hkx : κ x = 11) (FZ : Fz_ L κ I) (n : Int32) (s1 : Int32) : CtI l yX11_drawn cX11_drawn 3 (some .int) { frames := 5, cells := 0, slots := 0, locals := 320 } D cy L κ ln R I J [.ref x, .int n, .int s1] (fun r _ _ => r = -1) := by
  refine CtI.of (by decide +kernel) (Nat.le_of_ble_eq_true rfl) ?_
  intro p e s m below meth c B K
  have C := B.1
  have Z1 := fz_Z FZ 1 (by decide) (by decide) (by decide)
  have Z8 := fz_Z FZ 8 (by decide) (by decide) (by decide)
  refine g_lo (is := [0, 1, 2]) (lo2 := [(0, .ref x), (1, .int n), (2, .int s1)]) rfl ?_
  refine g_iload_n C 1 dX11_drawn_0 rfl rfl ?_
  refine g_iconst C (v := 1) dX11_drawn_1 (by decide) ?_
  refine g_icmp_lt C (tgt := 21) dX11_drawn_2 (by decide) (fun h_654 => ?_) (fun h_654 => ?_)
  · skip
    refine g_iconst C (v := (-1)) dX11_drawn_21 (by decide) ?_
    exact g_zret (ty := .int) (r := (-1)) B K rfl rfl (rfl) dX11_drawn_22
  · skip
    refine g_iload_n C 1 dX11_drawn_5 rfl rfl ?_
    refine g_bipush C (v := 60) dX11_drawn_6 (by decide) ?_
    refine g_icmp_gt C (tgt := 21) dX11_drawn_8 (by decide) (fun h_655 => ?_) (fun h_655 => ?_)
    · skip
      refine g_iconst C (v := (-1)) dX11_drawn_21 (by decide) ?_
      exact g_zret (ty := .int) (r := (-1)) B K rfl rfl (rfl) dX11_drawn_22
    · skip
      refine g_aload_n C 0 dX11_drawn_11 rfl rfl ?_
      obtain ⟨b_656, hb_656, hb_656L, hb_656k⟩ := shp_o (W9 x hLx) hkx 1 8 rfl (by decide)
      refine g_getR C K hLx hkx f_11_19 hb_656 dX11_drawn_12 ?_
      refine g_getI C K hb_656L hb_656k f_11_213 (v := 0) ((by rw [FZ b_656 hb_656L 5, hb_656k]; rfl)) dX11_drawn_15 ?_
      refine n_if_ne C (tgt := 23) (by decide) dX11_drawn_18 (by decide) ?_
      refine g_iconst C (v := (-1)) dX11_drawn_21 (by decide) ?_
      exact g_zret (ty := .int) (r := (-1)) B K rfl rfl (rfl) dX11_drawn_22
set_option maxRecDepth 100000 in
set_option maxHeartbeats 4000000 in
theorem t_told {l : Launch} {D : va_G} {cy : Nat → ClassId} {L : List Nat} {κ ln : Nat → Nat} {R : Nat → Nat → Option Nat} {I : Nat → Nat → Int32} {J : Nat → Nat → Int64} {ow : Nat → Nat × Nat} (W9 : ∀ a ∈ L, Shp L κ ln R ow a) {x : Nat} (hLx : x ∈ L) (hkx : κ x = 11) (FZ : Fz_ L κ I) (w : Int32) : CtI l yX11_told cX11_told 2 (some .int) { frames := 5, cells := 0, slots := 0, locals := 320 } D cy L κ ln R I J [.ref x, .int w] (fun r _ _ => r = -1) := by
  refine CtI.of (by decide +kernel) (Nat.le_of_ble_eq_true rfl) ?_
  intro p e s m below meth c B K
  have C := B.1
  have Z1 := fz_Z FZ 1 (by decide) (by decide) (by decide)
  have Z8 := fz_Z FZ 8 (by decide) (by decide) (by decide)
  refine g_lo (is := [0, 1]) (lo2 := [(0, .ref x), (1, .int w)]) rfl ?_
  refine g_aload_n C 0 dX11_told_0 rfl rfl ?_
  obtain ⟨b_657, hb_657, hb_657L, hb_657k⟩ := shp_o (W9 x hLx) hkx 6 0 rfl (by decide)
  refine g_getR C K hLx hkx f_11_52 hb_657 dX11_told_1 ?_
  refine g_getI C K hb_657L hb_657k f_11_352 (v := 0) ((by rw [FZ b_657 hb_657L 5, hb_657k]; rfl)) dX11_told_4 ?_
  refine n_if_ne C (tgt := 12) (by decide) dX11_told_7 (by decide) ?_
  refine g_iconst C (v := (-1)) dX11_told_10 (by decide) ?_
  exact g_zret (ty := .int) (r := (-1)) B K rfl rfl (rfl) dX11_told_11
set_option maxRecDepth 100000 in
set_option maxHeartbeats 4000000 in
theorem t_said {l : Launch} {D : va_G} {cy : Nat → ClassId} {L : List Nat} {κ ln : Nat → Nat} {R : Nat → Nat → Option Nat} {I : Nat → Nat → Int32} {J : Nat → Nat → Int64} {ow : Nat → Nat × Nat} (W9 : ∀ a ∈ L, Shp L κ ln R ow a) {x : Nat} (hLx : x ∈ L) (hkx : κ x = 11) (FZ : Fz_ L κ I) (k : Int32) : CtI l yX11_said cX11_said 5 (some .int) { frames := 5, cells := 0, slots := 0, locals := 320 } D cy L κ ln R I J [.ref x, .int k] (fun r _ _ => r = -1) := by
  refine CtI.of (by decide +kernel) (Nat.le_of_ble_eq_true rfl) ?_
  intro p e s m below meth c B K
  have C := B.1
  have Z1 := fz_Z FZ 1 (by decide) (by decide) (by decide)
  have Z8 := fz_Z FZ 8 (by decide) (by decide) (by decide)
  refine g_lo (is := [0, 1]) (lo2 := [(0, .ref x), (1, .int k)]) rfl ?_
  refine g_aload_n C 0 dX11_said_0 rfl rfl ?_
  obtain ⟨b_658, hb_658, hb_658L, hb_658k⟩ := shp_o (W9 x hLx) hkx 7 7 rfl (by decide)
  refine g_getR C K hLx hkx f_11_59 hb_658 dX11_said_1 ?_
  refine g_getI C K hb_658L hb_658k f_11_368 (v := 0) ((by rw [FZ b_658 hb_658L 5, hb_658k]; rfl)) dX11_said_4 ?_
  refine n_if_ne C (tgt := 12) (by decide) dX11_said_7 (by decide) ?_
  refine g_iconst C (v := (-1)) dX11_said_10 (by decide) ?_
  exact g_zret (ty := .int) (r := (-1)) B K rfl rfl (rfl) dX11_said_11
set_option maxRecDepth 100000 in
set_option maxHeartbeats 4000000 in
theorem t_count {l : Launch} {D : va_G} {cy : Nat → ClassId} {L : List Nat} {κ ln : Nat → Nat} {R : Nat → Nat → Option Nat} {I : Nat → Nat → Int32} {J : Nat → Nat → Int64} {ow : Nat → Nat × Nat} (W9 : ∀ a ∈ L, Shp L κ ln R ow a) {x : Nat} (hLx : x ∈ L) (hkx : κ x = 11) (FZ : Fz_ L κ I) (w : Int32) : CtI l yX11_count cX11_count 2 (some .int) { frames := 5, cells := 0, slots := 0, locals := 320 } D cy L κ ln R I J [.ref x, .int w] (fun r _ _ => r = if 0 ≤ w ∧ w ≤ 4 then 0 else -1) := by
  refine CtI.of (by decide +kernel) (Nat.le_of_ble_eq_true rfl) ?_
  intro p e s m below meth c B K
  have C := B.1
  have Z1 := fz_Z FZ 1 (by decide) (by decide) (by decide)
  have Z8 := fz_Z FZ 8 (by decide) (by decide) (by decide)
  refine g_lo (is := [0, 1]) (lo2 := [(0, .ref x), (1, .int w)]) rfl ?_
  refine g_iload_n C 1 dX11_count_0 rfl rfl ?_
  rcases pk_ix w (n := 5) (by decide) with hsw | hsw | ⟨i_659, hi_660, rfl⟩
  · skip
    refine g_tableOut C (tgt := 76) dX11_count_1 (Or.inl (sw_lt hsw)) (by decide) ?_
    refine g_iconst C (v := (-1)) dX11_count_76 (by decide) ?_
    exact g_zret (ty := .int) (r := (-1)) B K rfl rfl (p_lo hsw) dX11_count_77
  · skip
    refine g_tableOut C (tgt := 76) dX11_count_1 (Or.inr (sw_ge hsw (by decide))) (by decide) ?_
    refine g_iconst C (v := (-1)) dX11_count_76 (by decide) ?_
    exact g_zret (ty := .int) (r := (-1)) B K rfl rfl (p_hi' hsw (by decide)) dX11_count_77
  · rcases (show i_659 = 0 ∨ i_659 = 1 ∨ i_659 = 2 ∨ i_659 = 3 ∨ i_659 = 4 by omega) with rfl | rfl | rfl | rfl | rfl
    · skip
      refine g_tableIn C (tgt := 36) dX11_count_1 (by decide) (by decide) (off := 35) (by decide) (by decide) ?_
      refine g_aload_n C 0 dX11_count_36 rfl rfl ?_
      obtain ⟨b_661, hb_661, hb_661L, hb_661k⟩ := shp_o (W9 x hLx) hkx 1 8 rfl (by decide)
      refine g_getR C K hLx hkx f_11_19 hb_661 dX11_count_37 ?_
      refine g_getI C K hb_661L hb_661k f_11_213 (v := 0) ((by rw [FZ b_661 hb_661L 5, hb_661k]; rfl)) dX11_count_40 ?_
      exact g_zret (ty := .int) (r := 0) B K rfl rfl (by decide) dX11_count_43
    · skip
      refine g_tableIn C (tgt := 44) dX11_count_1 (by decide) (by decide) (off := 43) (by decide) (by decide) ?_
      refine g_aload_n C 0 dX11_count_44 rfl rfl ?_
      obtain ⟨b_662, hb_662, hb_662L, hb_662k⟩ := shp_o (W9 x hLx) hkx 1 8 rfl (by decide)
      refine g_getR C K hLx hkx f_11_19 hb_662 dX11_count_45 ?_
      refine g_getI C K hb_662L hb_662k f_11_216 (v := 0) ((by rw [FZ b_662 hb_662L 6, hb_662k]; rfl)) dX11_count_48 ?_
      exact g_zret (ty := .int) (r := 0) B K rfl rfl (by decide) dX11_count_51
    · skip
      refine g_tableIn C (tgt := 52) dX11_count_1 (by decide) (by decide) (off := 51) (by decide) (by decide) ?_
      refine g_aload_n C 0 dX11_count_52 rfl rfl ?_
      obtain ⟨b_663, hb_663, hb_663L, hb_663k⟩ := shp_o (W9 x hLx) hkx 1 8 rfl (by decide)
      refine g_getR C K hLx hkx f_11_19 hb_663 dX11_count_53 ?_
      refine g_getI C K hb_663L hb_663k f_11_219 (v := 0) ((by rw [FZ b_663 hb_663L 7, hb_663k]; rfl)) dX11_count_56 ?_
      exact g_zret (ty := .int) (r := 0) B K rfl rfl (by decide) dX11_count_59
    · skip
      refine g_tableIn C (tgt := 60) dX11_count_1 (by decide) (by decide) (off := 59) (by decide) (by decide) ?_
      refine g_aload_n C 0 dX11_count_60 rfl rfl ?_
      obtain ⟨b_664, hb_664, hb_664L, hb_664k⟩ := shp_o (W9 x hLx) hkx 1 8 rfl (by decide)
      refine g_getR C K hLx hkx f_11_19 hb_664 dX11_count_61 ?_
      refine g_getI C K hb_664L hb_664k f_11_222 (v := 0) ((by rw [FZ b_664 hb_664L 8, hb_664k]; rfl)) dX11_count_64 ?_
      exact g_zret (ty := .int) (r := 0) B K rfl rfl (by decide) dX11_count_67
    · skip
      refine g_tableIn C (tgt := 68) dX11_count_1 (by decide) (by decide) (off := 67) (by decide) (by decide) ?_
      refine g_aload_n C 0 dX11_count_68 rfl rfl ?_
      obtain ⟨b_665, hb_665, hb_665L, hb_665k⟩ := shp_o (W9 x hLx) hkx 0 10 rfl (by decide)
      refine g_getR C K hLx hkx f_11_10 hb_665 dX11_count_69 ?_
      refine g_getI C K hb_665L hb_665k f_11_102 (v := 0) ((by rw [FZ b_665 hb_665L 5, hb_665k]; rfl)) dX11_count_72 ?_
      exact g_zret (ty := .int) (r := 0) B K rfl rfl (by decide) dX11_count_75
