theorem dX0_init_0 : decode cX0_init 0 = .ok (.aload_n 0, 1) := by decide +kernel
theorem dX0_init_1 : decode cX0_init 1 = .ok (.invokespecial 5, 3) := by decide +kernel
theorem dX0_init_4 : decode cX0_init 4 = .ok (.aload_n 0, 1) := by decide +kernel
theorem dX0_init_5 : decode cX0_init 5 = .ok (.bipush 98, 2) := by decide +kernel
theorem dX0_init_7 : decode cX0_init 7 = .ok (.newarray .int, 2) := by decide +kernel
theorem dX0_init_9 : decode cX0_init 9 = .ok (.putfield 11, 3) := by decide +kernel
theorem dX0_init_12 : decode cX0_init 12 = .ok (.aload_n 0, 1) := by decide +kernel
theorem dX0_init_13 : decode cX0_init 13 = .ok (.bipush 7, 2) := by decide +kernel
theorem dX0_init_15 : decode cX0_init 15 = .ok (.newarray .int, 2) := by decide +kernel
theorem dX0_init_17 : decode cX0_init 17 = .ok (.putfield 15, 3) := by decide +kernel
theorem dX0_init_20 : decode cX0_init 20 = .ok (.aload_n 0, 1) := by decide +kernel
theorem dX0_init_21 : decode cX0_init 21 = .ok (.bipush 7, 2) := by decide +kernel
theorem dX0_init_23 : decode cX0_init 23 = .ok (.newarray .int, 2) := by decide +kernel
theorem dX0_init_25 : decode cX0_init 25 = .ok (.putfield 18, 3) := by decide +kernel
theorem dX0_init_28 : decode cX0_init 28 = .ok (.aload_n 0, 1) := by decide +kernel
theorem dX0_init_29 : decode cX0_init 29 = .ok (.sipush 128, 3) := by decide +kernel
theorem dX0_init_32 : decode cX0_init 32 = .ok (.newarray .int, 2) := by decide +kernel
theorem dX0_init_34 : decode cX0_init 34 = .ok (.putfield 21, 3) := by decide +kernel
theorem dX0_init_37 : decode cX0_init 37 = .ok (.aload_n 0, 1) := by decide +kernel
theorem dX0_init_38 : decode cX0_init 38 = .ok (.bipush 8, 2) := by decide +kernel
theorem dX0_init_40 : decode cX0_init 40 = .ok (.newarray .int, 2) := by decide +kernel
theorem dX0_init_42 : decode cX0_init 42 = .ok (.putfield 24, 3) := by decide +kernel
theorem dX0_init_45 : decode cX0_init 45 = .ok (.aload_n 0, 1) := by decide +kernel
theorem dX0_init_46 : decode cX0_init 46 = .ok (.iconst 3, 1) := by decide +kernel
theorem dX0_init_47 : decode cX0_init 47 = .ok (.putfield 27, 3) := by decide +kernel
theorem dX0_init_50 : decode cX0_init 50 = .ok (.aload_n 0, 1) := by decide +kernel
theorem dX0_init_51 : decode cX0_init 51 = .ok (.iconst 1, 1) := by decide +kernel
theorem dX0_init_52 : decode cX0_init 52 = .ok (.putfield 31, 3) := by decide +kernel
theorem dX0_init_55 : decode cX0_init 55 = .ok (.return_, 1) := by decide +kernel
theorem dX0_isGuest_0 : decode cX0_isGuest 0 = .ok (.iload_n 1, 1) := by decide +kernel
theorem dX0_isGuest_1 : decode cX0_isGuest 1 = .ok (.ifCond .lt 15, 3) := by decide +kernel
theorem dX0_isGuest_4 : decode cX0_isGuest 4 = .ok (.iload_n 1, 1) := by decide +kernel
theorem dX0_isGuest_5 : decode cX0_isGuest 5 = .ok (.aload_n 0, 1) := by decide +kernel
theorem dX0_isGuest_6 : decode cX0_isGuest 6 = .ok (.getfield 27, 3) := by decide +kernel
theorem dX0_isGuest_9 : decode cX0_isGuest 9 = .ok (.if_icmp .ge 7, 3) := by decide +kernel
theorem dX0_isGuest_12 : decode cX0_isGuest 12 = .ok (.iconst 1, 1) := by decide +kernel
theorem dX0_isGuest_13 : decode cX0_isGuest 13 = .ok (.goto 4, 3) := by decide +kernel
theorem dX0_isGuest_16 : decode cX0_isGuest 16 = .ok (.iconst 0, 1) := by decide +kernel
theorem dX0_isGuest_17 : decode cX0_isGuest 17 = .ok (.ireturn, 1) := by decide +kernel
theorem dX0_guests_0 : decode cX0_guests 0 = .ok (.aload_n 0, 1) := by decide +kernel
theorem dX0_guests_1 : decode cX0_guests 1 = .ok (.getfield 27, 3) := by decide +kernel
theorem dX0_guests_4 : decode cX0_guests 4 = .ok (.ireturn, 1) := by decide +kernel
theorem dX0_count_0 : decode cX0_count 0 = .ok (.aload_n 0, 1) := by decide +kernel
theorem dX0_count_1 : decode cX0_count 1 = .ok (.getfield 35, 3) := by decide +kernel
theorem dX0_count_4 : decode cX0_count 4 = .ok (.ireturn, 1) := by decide +kernel
theorem dX0_bestFor_0 : decode cX0_bestFor 0 = .ok (.iload_n 1, 1) := by decide +kernel
theorem dX0_bestFor_1 : decode cX0_bestFor 1 = .ok (.ifCond .ne 10, 3) := by decide +kernel
theorem dX0_bestFor_4 : decode cX0_bestFor 4 = .ok (.aload_n 0, 1) := by decide +kernel
theorem dX0_bestFor_5 : decode cX0_bestFor 5 = .ok (.getfield 38, 3) := by decide +kernel
theorem dX0_bestFor_8 : decode cX0_bestFor 8 = .ok (.goto 7, 3) := by decide +kernel
theorem dX0_bestFor_11 : decode cX0_bestFor 11 = .ok (.aload_n 0, 1) := by decide +kernel
theorem dX0_bestFor_12 : decode cX0_bestFor 12 = .ok (.getfield 41, 3) := by decide +kernel
theorem dX0_bestFor_15 : decode cX0_bestFor 15 = .ok (.ireturn, 1) := by decide +kernel
theorem dX0_greatest_0 : decode cX0_greatest 0 = .ok (.aload_n 0, 1) := by decide +kernel
theorem dX0_greatest_1 : decode cX0_greatest 1 = .ok (.getfield 21, 3) := by decide +kernel
theorem dX0_greatest_4 : decode cX0_greatest 4 = .ok (.iconst 0, 1) := by decide +kernel
theorem dX0_greatest_5 : decode cX0_greatest 5 = .ok (.iaload, 1) := by decide +kernel
theorem dX0_greatest_6 : decode cX0_greatest 6 = .ok (.ireturn, 1) := by decide +kernel
theorem dX0_greatestThatHolds_0 : decode cX0_greatestThatHolds 0 = .ok (.aload_n 0, 1) := by decide +kernel
theorem dX0_greatestThatHolds_1 : decode cX0_greatestThatHolds 1 = .ok (.getfield 44, 3) := by decide +kernel
theorem dX0_greatestThatHolds_4 : decode cX0_greatestThatHolds 4 = .ok (.ireturn, 1) := by decide +kernel
theorem dX0_mostOf_0 : decode cX0_mostOf 0 = .ok (.aload_n 0, 1) := by decide +kernel
theorem dX0_mostOf_1 : decode cX0_mostOf 1 = .ok (.iload_n 1, 1) := by decide +kernel
theorem dX0_mostOf_2 : decode cX0_mostOf 2 = .ok (.invokevirtual 47, 3) := by decide +kernel
theorem dX0_mostOf_5 : decode cX0_mostOf 5 = .ok (.ifCond .eq 12, 3) := by decide +kernel
theorem dX0_mostOf_8 : decode cX0_mostOf 8 = .ok (.aload_n 0, 1) := by decide +kernel
theorem dX0_mostOf_9 : decode cX0_mostOf 9 = .ok (.getfield 18, 3) := by decide +kernel
theorem dX0_mostOf_12 : decode cX0_mostOf 12 = .ok (.iload_n 1, 1) := by decide +kernel
theorem dX0_mostOf_13 : decode cX0_mostOf 13 = .ok (.iaload, 1) := by decide +kernel
theorem dX0_mostOf_14 : decode cX0_mostOf 14 = .ok (.goto 4, 3) := by decide +kernel
theorem dX0_mostOf_17 : decode cX0_mostOf 17 = .ok (.iconst (-1), 1) := by decide +kernel
theorem dX0_mostOf_18 : decode cX0_mostOf 18 = .ok (.ireturn, 1) := by decide +kernel
theorem dX0_womanOf_0 : decode cX0_womanOf 0 = .ok (.iload_n 1, 1) := by decide +kernel
theorem dX0_womanOf_1 : decode cX0_womanOf 1 = .ok (.ifCond .lt 19, 3) := by decide +kernel
theorem dX0_womanOf_4 : decode cX0_womanOf 4 = .ok (.iload_n 1, 1) := by decide +kernel
theorem dX0_womanOf_5 : decode cX0_womanOf 5 = .ok (.aload_n 0, 1) := by decide +kernel
theorem dX0_womanOf_6 : decode cX0_womanOf 6 = .ok (.getfield 35, 3) := by decide +kernel
theorem dX0_womanOf_9 : decode cX0_womanOf 9 = .ok (.if_icmp .ge 11, 3) := by decide +kernel
theorem dX0_womanOf_12 : decode cX0_womanOf 12 = .ok (.aload_n 0, 1) := by decide +kernel
theorem dX0_womanOf_13 : decode cX0_womanOf 13 = .ok (.iload_n 2, 1) := by decide +kernel
theorem dX0_womanOf_14 : decode cX0_womanOf 14 = .ok (.invokevirtual 47, 3) := by decide +kernel
theorem dX0_womanOf_17 : decode cX0_womanOf 17 = .ok (.ifCond .ne 5, 3) := by decide +kernel
theorem dX0_womanOf_20 : decode cX0_womanOf 20 = .ok (.iconst (-1), 1) := by decide +kernel
theorem dX0_womanOf_21 : decode cX0_womanOf 21 = .ok (.ireturn, 1) := by decide +kernel
theorem dX0_womanOf_22 : decode cX0_womanOf 22 = .ok (.aload_n 0, 1) := by decide +kernel
theorem dX0_womanOf_23 : decode cX0_womanOf 23 = .ok (.getfield 24, 3) := by decide +kernel
theorem dX0_womanOf_26 : decode cX0_womanOf 26 = .ok (.iload_n 1, 1) := by decide +kernel
theorem dX0_womanOf_27 : decode cX0_womanOf 27 = .ok (.iaload, 1) := by decide +kernel
theorem dX0_womanOf_28 : decode cX0_womanOf 28 = .ok (.iconst 3, 1) := by decide +kernel
theorem dX0_womanOf_29 : decode cX0_womanOf 29 = .ok (.iload_n 2, 1) := by decide +kernel
theorem dX0_womanOf_30 : decode cX0_womanOf 30 = .ok (.imul, 1) := by decide +kernel
theorem dX0_womanOf_31 : decode cX0_womanOf 31 = .ok (.iushr, 1) := by decide +kernel
theorem dX0_womanOf_32 : decode cX0_womanOf 32 = .ok (.bipush 7, 2) := by decide +kernel
theorem dX0_womanOf_34 : decode cX0_womanOf 34 = .ok (.iand, 1) := by decide +kernel
theorem dX0_womanOf_35 : decode cX0_womanOf 35 = .ok (.ireturn, 1) := by decide +kernel
theorem dX0_invite_0 : decode cX0_invite 0 = .ok (.aload_n 0, 1) := by decide +kernel
theorem dX0_invite_1 : decode cX0_invite 1 = .ok (.iload_n 1, 1) := by decide +kernel
theorem dX0_invite_2 : decode cX0_invite 2 = .ok (.putfield 27, 3) := by decide +kernel
theorem dX0_invite_5 : decode cX0_invite 5 = .ok (.aload_n 0, 1) := by decide +kernel
theorem dX0_invite_6 : decode cX0_invite 6 = .ok (.getfield 11, 3) := by decide +kernel
theorem dX0_invite_9 : decode cX0_invite 9 = .ok (.iconst 0, 1) := by decide +kernel
theorem dX0_invite_10 : decode cX0_invite 10 = .ok (.invokestatic 51, 3) := by decide +kernel
theorem dX0_invite_13 : decode cX0_invite 13 = .ok (.aload_n 0, 1) := by decide +kernel
theorem dX0_invite_14 : decode cX0_invite 14 = .ok (.iconst 1, 1) := by decide +kernel
theorem dX0_invite_15 : decode cX0_invite 15 = .ok (.putfield 31, 3) := by decide +kernel
theorem dX0_invite_18 : decode cX0_invite 18 = .ok (.return_, 1) := by decide +kernel
theorem dX0_tell_0 : decode cX0_tell 0 = .ok (.iload_n 1, 1) := by decide +kernel
theorem dX0_tell_1 : decode cX0_tell 1 = .ok (.ifCond .eq 8, 3) := by decide +kernel
theorem dX0_tell_4 : decode cX0_tell 4 = .ok (.iload_n 1, 1) := by decide +kernel
theorem dX0_tell_5 : decode cX0_tell 5 = .ok (.iconst 1, 1) := by decide +kernel
theorem dX0_tell_6 : decode cX0_tell 6 = .ok (.if_icmp .ne 42, 3) := by decide +kernel
theorem dX0_tell_9 : decode cX0_tell 9 = .ok (.aload_n 0, 1) := by decide +kernel
theorem dX0_tell_10 : decode cX0_tell 10 = .ok (.iload_n 2, 1) := by decide +kernel
theorem dX0_tell_11 : decode cX0_tell 11 = .ok (.invokevirtual 47, 3) := by decide +kernel
theorem dX0_tell_14 : decode cX0_tell 14 = .ok (.ifCond .eq 34, 3) := by decide +kernel
theorem dX0_tell_17 : decode cX0_tell 17 = .ok (.aload_n 0, 1) := by decide +kernel
theorem dX0_tell_18 : decode cX0_tell 18 = .ok (.iload_n 3, 1) := by decide +kernel
theorem dX0_tell_19 : decode cX0_tell 19 = .ok (.invokevirtual 47, 3) := by decide +kernel
theorem dX0_tell_22 : decode cX0_tell 22 = .ok (.ifCond .eq 26, 3) := by decide +kernel
theorem dX0_tell_25 : decode cX0_tell 25 = .ok (.aload_n 0, 1) := by decide +kernel
theorem dX0_tell_26 : decode cX0_tell 26 = .ok (.getfield 11, 3) := by decide +kernel
theorem dX0_tell_29 : decode cX0_tell 29 = .ok (.iload_n 1, 1) := by decide +kernel
theorem dX0_tell_30 : decode cX0_tell 30 = .ok (.bipush 49, 2) := by decide +kernel
theorem dX0_tell_32 : decode cX0_tell 32 = .ok (.imul, 1) := by decide +kernel
theorem dX0_tell_33 : decode cX0_tell 33 = .ok (.iload_n 2, 1) := by decide +kernel
theorem dX0_tell_34 : decode cX0_tell 34 = .ok (.bipush 7, 2) := by decide +kernel
theorem dX0_tell_36 : decode cX0_tell 36 = .ok (.imul, 1) := by decide +kernel
theorem dX0_tell_37 : decode cX0_tell 37 = .ok (.iadd, 1) := by decide +kernel
theorem dX0_tell_38 : decode cX0_tell 38 = .ok (.iload_n 3, 1) := by decide +kernel
theorem dX0_tell_39 : decode cX0_tell 39 = .ok (.iadd, 1) := by decide +kernel
theorem dX0_tell_40 : decode cX0_tell 40 = .ok (.iload 4, 2) := by decide +kernel
theorem dX0_tell_42 : decode cX0_tell 42 = .ok (.iastore, 1) := by decide +kernel
theorem dX0_tell_43 : decode cX0_tell 43 = .ok (.aload_n 0, 1) := by decide +kernel
theorem dX0_tell_44 : decode cX0_tell 44 = .ok (.iconst 1, 1) := by decide +kernel
theorem dX0_tell_45 : decode cX0_tell 45 = .ok (.putfield 31, 3) := by decide +kernel
theorem dX0_tell_48 : decode cX0_tell 48 = .ok (.return_, 1) := by decide +kernel
theorem dX0_liked_0 : decode cX0_liked 0 = .ok (.iload_n 1, 1) := by decide +kernel
theorem dX0_liked_1 : decode cX0_liked 1 = .ok (.ifCond .lt 24, 3) := by decide +kernel
theorem dX0_liked_4 : decode cX0_liked 4 = .ok (.iload_n 1, 1) := by decide +kernel
theorem dX0_liked_5 : decode cX0_liked 5 = .ok (.iconst 1, 1) := by decide +kernel
theorem dX0_liked_6 : decode cX0_liked 6 = .ok (.if_icmp .gt 19, 3) := by decide +kernel
theorem dX0_liked_9 : decode cX0_liked 9 = .ok (.aload_n 0, 1) := by decide +kernel
theorem dX0_liked_10 : decode cX0_liked 10 = .ok (.iload_n 2, 1) := by decide +kernel
theorem dX0_liked_11 : decode cX0_liked 11 = .ok (.invokevirtual 47, 3) := by decide +kernel
theorem dX0_liked_14 : decode cX0_liked 14 = .ok (.ifCond .eq 11, 3) := by decide +kernel
theorem dX0_liked_17 : decode cX0_liked 17 = .ok (.aload_n 0, 1) := by decide +kernel
theorem dX0_liked_18 : decode cX0_liked 18 = .ok (.iload_n 3, 1) := by decide +kernel
theorem dX0_liked_19 : decode cX0_liked 19 = .ok (.invokevirtual 47, 3) := by decide +kernel
theorem dX0_liked_22 : decode cX0_liked 22 = .ok (.ifCond .ne 5, 3) := by decide +kernel
theorem dX0_liked_25 : decode cX0_liked 25 = .ok (.iconst 0, 1) := by decide +kernel
theorem dX0_liked_26 : decode cX0_liked 26 = .ok (.ireturn, 1) := by decide +kernel
theorem dX0_liked_27 : decode cX0_liked 27 = .ok (.aload_n 0, 1) := by decide +kernel
theorem dX0_liked_28 : decode cX0_liked 28 = .ok (.getfield 11, 3) := by decide +kernel
theorem dX0_liked_31 : decode cX0_liked 31 = .ok (.iload_n 1, 1) := by decide +kernel
theorem dX0_liked_32 : decode cX0_liked 32 = .ok (.bipush 49, 2) := by decide +kernel
theorem dX0_liked_34 : decode cX0_liked 34 = .ok (.imul, 1) := by decide +kernel
theorem dX0_liked_35 : decode cX0_liked 35 = .ok (.iload_n 2, 1) := by decide +kernel
theorem dX0_liked_36 : decode cX0_liked 36 = .ok (.bipush 7, 2) := by decide +kernel
theorem dX0_liked_38 : decode cX0_liked 38 = .ok (.imul, 1) := by decide +kernel
theorem dX0_liked_39 : decode cX0_liked 39 = .ok (.iadd, 1) := by decide +kernel
theorem dX0_liked_40 : decode cX0_liked 40 = .ok (.iload_n 3, 1) := by decide +kernel
theorem dX0_liked_41 : decode cX0_liked 41 = .ok (.iadd, 1) := by decide +kernel
theorem dX0_liked_42 : decode cX0_liked 42 = .ok (.iaload, 1) := by decide +kernel
theorem dX0_liked_43 : decode cX0_liked 43 = .ok (.ireturn, 1) := by decide +kernel
theorem dX0_sum_0 : decode cX0_sum 0 = .ok (.aload_n 0, 1) := by decide +kernel
theorem dX0_sum_1 : decode cX0_sum 1 = .ok (.iconst 0, 1) := by decide +kernel
theorem dX0_sum_2 : decode cX0_sum 2 = .ok (.iload_n 1, 1) := by decide +kernel
theorem dX0_sum_3 : decode cX0_sum 3 = .ok (.iload_n 2, 1) := by decide +kernel
theorem dX0_sum_4 : decode cX0_sum 4 = .ok (.invokevirtual 57, 3) := by decide +kernel
theorem dX0_sum_7 : decode cX0_sum 7 = .ok (.aload_n 0, 1) := by decide +kernel
theorem dX0_sum_8 : decode cX0_sum 8 = .ok (.iconst 1, 1) := by decide +kernel
theorem dX0_sum_9 : decode cX0_sum 9 = .ok (.iload_n 2, 1) := by decide +kernel
theorem dX0_sum_10 : decode cX0_sum 10 = .ok (.iload_n 1, 1) := by decide +kernel
theorem dX0_sum_11 : decode cX0_sum 11 = .ok (.invokevirtual 57, 3) := by decide +kernel
theorem dX0_sum_14 : decode cX0_sum 14 = .ok (.iadd, 1) := by decide +kernel
theorem dX0_sum_15 : decode cX0_sum 15 = .ok (.ireturn, 1) := by decide +kernel
theorem dX0_total_0 : decode cX0_total 0 = .ok (.iconst 0, 1) := by decide +kernel
theorem dX0_total_1 : decode cX0_total 1 = .ok (.istore_n 2, 1) := by decide +kernel
theorem dX0_total_2 : decode cX0_total 2 = .ok (.iconst 0, 1) := by decide +kernel
theorem dX0_total_3 : decode cX0_total 3 = .ok (.istore_n 3, 1) := by decide +kernel
theorem dX0_total_4 : decode cX0_total 4 = .ok (.iload_n 3, 1) := by decide +kernel
theorem dX0_total_5 : decode cX0_total 5 = .ok (.aload_n 0, 1) := by decide +kernel
theorem dX0_total_6 : decode cX0_total 6 = .ok (.getfield 27, 3) := by decide +kernel
theorem dX0_total_9 : decode cX0_total 9 = .ok (.if_icmp .ge 23, 3) := by decide +kernel
theorem dX0_total_12 : decode cX0_total 12 = .ok (.iload_n 2, 1) := by decide +kernel
theorem dX0_total_13 : decode cX0_total 13 = .ok (.aload_n 0, 1) := by decide +kernel
theorem dX0_total_14 : decode cX0_total 14 = .ok (.iload_n 3, 1) := by decide +kernel
theorem dX0_total_15 : decode cX0_total 15 = .ok (.aload_n 0, 1) := by decide +kernel
theorem dX0_total_16 : decode cX0_total 16 = .ok (.iload_n 1, 1) := by decide +kernel
theorem dX0_total_17 : decode cX0_total 17 = .ok (.iload_n 3, 1) := by decide +kernel
theorem dX0_total_18 : decode cX0_total 18 = .ok (.invokevirtual 61, 3) := by decide +kernel
theorem dX0_total_21 : decode cX0_total 21 = .ok (.invokevirtual 65, 3) := by decide +kernel
theorem dX0_total_24 : decode cX0_total 24 = .ok (.iadd, 1) := by decide +kernel
theorem dX0_total_25 : decode cX0_total 25 = .ok (.istore_n 2, 1) := by decide +kernel
theorem dX0_total_26 : decode cX0_total 26 = .ok (.iinc 3 1, 3) := by decide +kernel
theorem dX0_total_29 : decode cX0_total 29 = .ok (.goto (-25), 3) := by decide +kernel
theorem dX0_total_32 : decode cX0_total 32 = .ok (.iload_n 2, 1) := by decide +kernel
theorem dX0_total_33 : decode cX0_total 33 = .ok (.ireturn, 1) := by decide +kernel
theorem dX0_refresh_0 : decode cX0_refresh 0 = .ok (.aload_n 0, 1) := by decide +kernel
theorem dX0_refresh_1 : decode cX0_refresh 1 = .ok (.getfield 31, 3) := by decide +kernel
theorem dX0_refresh_4 : decode cX0_refresh 4 = .ok (.ifCond .ne 4, 3) := by decide +kernel
theorem dX0_refresh_7 : decode cX0_refresh 7 = .ok (.return_, 1) := by decide +kernel
theorem dX0_refresh_8 : decode cX0_refresh 8 = .ok (.aload_n 0, 1) := by decide +kernel
theorem dX0_refresh_9 : decode cX0_refresh 9 = .ok (.iconst 0, 1) := by decide +kernel
theorem dX0_refresh_10 : decode cX0_refresh 10 = .ok (.putfield 31, 3) := by decide +kernel
theorem dX0_refresh_13 : decode cX0_refresh 13 = .ok (.aload_n 0, 1) := by decide +kernel
theorem dX0_refresh_14 : decode cX0_refresh 14 = .ok (.iconst 0, 1) := by decide +kernel
theorem dX0_refresh_15 : decode cX0_refresh 15 = .ok (.putfield 35, 3) := by decide +kernel
theorem dX0_refresh_18 : decode cX0_refresh 18 = .ok (.aload_n 0, 1) := by decide +kernel
theorem dX0_refresh_19 : decode cX0_refresh 19 = .ok (.iconst 0, 1) := by decide +kernel
theorem dX0_refresh_20 : decode cX0_refresh 20 = .ok (.iconst 0, 1) := by decide +kernel
theorem dX0_refresh_21 : decode cX0_refresh 21 = .ok (.invokevirtual 68, 3) := by decide +kernel
theorem dX0_refresh_24 : decode cX0_refresh 24 = .ok (.aload_n 0, 1) := by decide +kernel
theorem dX0_refresh_25 : decode cX0_refresh 25 = .ok (.invokevirtual 72, 3) := by decide +kernel
theorem dX0_refresh_28 : decode cX0_refresh 28 = .ok (.aload_n 0, 1) := by decide +kernel
theorem dX0_refresh_29 : decode cX0_refresh 29 = .ok (.invokevirtual 75, 3) := by decide +kernel
theorem dX0_refresh_32 : decode cX0_refresh 32 = .ok (.return_, 1) := by decide +kernel
theorem dX0_likesMore_0 : decode cX0_likesMore 0 = .ok (.aload_n 0, 1) := by decide +kernel
theorem dX0_likesMore_1 : decode cX0_likesMore 1 = .ok (.iload_n 1, 1) := by decide +kernel
theorem dX0_likesMore_2 : decode cX0_likesMore 2 = .ok (.iload_n 2, 1) := by decide +kernel
theorem dX0_likesMore_3 : decode cX0_likesMore 3 = .ok (.iload_n 3, 1) := by decide +kernel
theorem dX0_likesMore_4 : decode cX0_likesMore 4 = .ok (.invokevirtual 57, 3) := by decide +kernel
theorem dX0_likesMore_7 : decode cX0_likesMore 7 = .ok (.istore 5, 2) := by decide +kernel
theorem dX0_likesMore_9 : decode cX0_likesMore 9 = .ok (.aload_n 0, 1) := by decide +kernel
theorem dX0_likesMore_10 : decode cX0_likesMore 10 = .ok (.iload_n 1, 1) := by decide +kernel
theorem dX0_likesMore_11 : decode cX0_likesMore 11 = .ok (.iload_n 2, 1) := by decide +kernel
theorem dX0_likesMore_12 : decode cX0_likesMore 12 = .ok (.iload 4, 2) := by decide +kernel
theorem dX0_likesMore_14 : decode cX0_likesMore 14 = .ok (.invokevirtual 57, 3) := by decide +kernel
theorem dX0_likesMore_17 : decode cX0_likesMore 17 = .ok (.istore 6, 2) := by decide +kernel
theorem dX0_likesMore_19 : decode cX0_likesMore 19 = .ok (.iload 5, 2) := by decide +kernel
theorem dX0_likesMore_21 : decode cX0_likesMore 21 = .ok (.iload 6, 2) := by decide +kernel
theorem dX0_likesMore_23 : decode cX0_likesMore 23 = .ok (.if_icmp .gt 16, 3) := by decide +kernel
theorem dX0_likesMore_26 : decode cX0_likesMore 26 = .ok (.iload 5, 2) := by decide +kernel
theorem dX0_likesMore_28 : decode cX0_likesMore 28 = .ok (.iload 6, 2) := by decide +kernel
theorem dX0_likesMore_30 : decode cX0_likesMore 30 = .ok (.if_icmp .ne 13, 3) := by decide +kernel
theorem dX0_likesMore_33 : decode cX0_likesMore 33 = .ok (.iload_n 3, 1) := by decide +kernel
theorem dX0_likesMore_34 : decode cX0_likesMore 34 = .ok (.iload 4, 2) := by decide +kernel
theorem dX0_likesMore_36 : decode cX0_likesMore 36 = .ok (.if_icmp .ge 7, 3) := by decide +kernel
theorem dX0_likesMore_39 : decode cX0_likesMore 39 = .ok (.iconst 1, 1) := by decide +kernel
theorem dX0_likesMore_40 : decode cX0_likesMore 40 = .ok (.goto 4, 3) := by decide +kernel
theorem dX0_likesMore_43 : decode cX0_likesMore 43 = .ok (.iconst 0, 1) := by decide +kernel
theorem dX0_likesMore_44 : decode cX0_likesMore 44 = .ok (.ireturn, 1) := by decide +kernel
theorem dX0_seat_0 : decode cX0_seat 0 = .ok (.iload_n 1, 1) := by decide +kernel
theorem dX0_seat_1 : decode cX0_seat 1 = .ok (.aload_n 0, 1) := by decide +kernel
theorem dX0_seat_2 : decode cX0_seat 2 = .ok (.getfield 27, 3) := by decide +kernel
theorem dX0_seat_5 : decode cX0_seat 5 = .ok (.if_icmp .ge 9, 3) := by decide +kernel
theorem dX0_seat_8 : decode cX0_seat 8 = .ok (.iload_n 1, 1) := by decide +kernel
theorem dX0_seat_9 : decode cX0_seat 9 = .ok (.bipush 7, 2) := by decide +kernel
theorem dX0_seat_11 : decode cX0_seat 11 = .ok (.if_icmp .lt 8, 3) := by decide +kernel
theorem dX0_seat_14 : decode cX0_seat 14 = .ok (.aload_n 0, 1) := by decide +kernel
theorem dX0_seat_15 : decode cX0_seat 15 = .ok (.invokevirtual 78, 3) := by decide +kernel
theorem dX0_seat_18 : decode cX0_seat 18 = .ok (.return_, 1) := by decide +kernel
theorem dX0_seat_19 : decode cX0_seat 19 = .ok (.iconst 0, 1) := by decide +kernel
theorem dX0_seat_20 : decode cX0_seat 20 = .ok (.istore_n 3, 1) := by decide +kernel
theorem dX0_seat_21 : decode cX0_seat 21 = .ok (.iload_n 3, 1) := by decide +kernel
theorem dX0_seat_22 : decode cX0_seat 22 = .ok (.aload_n 0, 1) := by decide +kernel
theorem dX0_seat_23 : decode cX0_seat 23 = .ok (.getfield 27, 3) := by decide +kernel
theorem dX0_seat_26 : decode cX0_seat 26 = .ok (.if_icmp .ge 45, 3) := by decide +kernel
theorem dX0_seat_29 : decode cX0_seat 29 = .ok (.iload_n 2, 1) := by decide +kernel
theorem dX0_seat_30 : decode cX0_seat 30 = .ok (.iload_n 3, 1) := by decide +kernel
theorem dX0_seat_31 : decode cX0_seat 31 = .ok (.iushr, 1) := by decide +kernel
theorem dX0_seat_32 : decode cX0_seat 32 = .ok (.iconst 1, 1) := by decide +kernel
theorem dX0_seat_33 : decode cX0_seat 33 = .ok (.iand, 1) := by decide +kernel
theorem dX0_seat_34 : decode cX0_seat 34 = .ok (.ifCond .ne 31, 3) := by decide +kernel
theorem dX0_seat_37 : decode cX0_seat 37 = .ok (.aload_n 0, 1) := by decide +kernel
theorem dX0_seat_38 : decode cX0_seat 38 = .ok (.iload_n 1, 1) := by decide +kernel
theorem dX0_seat_39 : decode cX0_seat 39 = .ok (.iload_n 3, 1) := by decide +kernel
theorem dX0_seat_40 : decode cX0_seat 40 = .ok (.invokevirtual 81, 3) := by decide +kernel
theorem dX0_seat_43 : decode cX0_seat 43 = .ok (.ifCond .eq 22, 3) := by decide +kernel
theorem dX0_seat_46 : decode cX0_seat 46 = .ok (.aload_n 0, 1) := by decide +kernel
theorem dX0_seat_47 : decode cX0_seat 47 = .ok (.getfield 15, 3) := by decide +kernel
theorem dX0_seat_50 : decode cX0_seat 50 = .ok (.iload_n 1, 1) := by decide +kernel
theorem dX0_seat_51 : decode cX0_seat 51 = .ok (.iload_n 3, 1) := by decide +kernel
theorem dX0_seat_52 : decode cX0_seat 52 = .ok (.iastore, 1) := by decide +kernel
theorem dX0_seat_53 : decode cX0_seat 53 = .ok (.aload_n 0, 1) := by decide +kernel
theorem dX0_seat_54 : decode cX0_seat 54 = .ok (.iload_n 1, 1) := by decide +kernel
theorem dX0_seat_55 : decode cX0_seat 55 = .ok (.iconst 1, 1) := by decide +kernel
theorem dX0_seat_56 : decode cX0_seat 56 = .ok (.iadd, 1) := by decide +kernel
theorem dX0_seat_57 : decode cX0_seat 57 = .ok (.iload_n 2, 1) := by decide +kernel
theorem dX0_seat_58 : decode cX0_seat 58 = .ok (.iconst 1, 1) := by decide +kernel
theorem dX0_seat_59 : decode cX0_seat 59 = .ok (.iload_n 3, 1) := by decide +kernel
theorem dX0_seat_60 : decode cX0_seat 60 = .ok (.ishl, 1) := by decide +kernel
theorem dX0_seat_61 : decode cX0_seat 61 = .ok (.ior, 1) := by decide +kernel
theorem dX0_seat_62 : decode cX0_seat 62 = .ok (.invokevirtual 68, 3) := by decide +kernel
theorem dX0_seat_65 : decode cX0_seat 65 = .ok (.iinc 3 1, 3) := by decide +kernel
theorem dX0_seat_68 : decode cX0_seat 68 = .ok (.goto (-47), 3) := by decide +kernel
theorem dX0_seat_71 : decode cX0_seat 71 = .ok (.return_, 1) := by decide +kernel
theorem dX0_isQuiet_0 : decode cX0_isQuiet 0 = .ok (.iconst 0, 1) := by decide +kernel
theorem dX0_isQuiet_1 : decode cX0_isQuiet 1 = .ok (.istore_n 3, 1) := by decide +kernel
theorem dX0_isQuiet_2 : decode cX0_isQuiet 2 = .ok (.iload_n 3, 1) := by decide +kernel
theorem dX0_isQuiet_3 : decode cX0_isQuiet 3 = .ok (.iload_n 1, 1) := by decide +kernel
theorem dX0_isQuiet_4 : decode cX0_isQuiet 4 = .ok (.if_icmp .ge 74, 3) := by decide +kernel
theorem dX0_isQuiet_7 : decode cX0_isQuiet 7 = .ok (.iload_n 3, 1) := by decide +kernel
theorem dX0_isQuiet_8 : decode cX0_isQuiet 8 = .ok (.bipush 7, 2) := by decide +kernel
theorem dX0_isQuiet_10 : decode cX0_isQuiet 10 = .ok (.if_icmp .ge 68, 3) := by decide +kernel
theorem dX0_isQuiet_13 : decode cX0_isQuiet 13 = .ok (.aload_n 0, 1) := by decide +kernel
theorem dX0_isQuiet_14 : decode cX0_isQuiet 14 = .ok (.getfield 15, 3) := by decide +kernel
theorem dX0_isQuiet_17 : decode cX0_isQuiet 17 = .ok (.iload_n 3, 1) := by decide +kernel
theorem dX0_isQuiet_18 : decode cX0_isQuiet 18 = .ok (.iaload, 1) := by decide +kernel
theorem dX0_isQuiet_19 : decode cX0_isQuiet 19 = .ok (.istore 4, 2) := by decide +kernel
theorem dX0_isQuiet_21 : decode cX0_isQuiet 21 = .ok (.aload_n 0, 1) := by decide +kernel
theorem dX0_isQuiet_22 : decode cX0_isQuiet 22 = .ok (.iconst 0, 1) := by decide +kernel
theorem dX0_isQuiet_23 : decode cX0_isQuiet 23 = .ok (.iload_n 3, 1) := by decide +kernel
theorem dX0_isQuiet_24 : decode cX0_isQuiet 24 = .ok (.iload_n 2, 1) := by decide +kernel
theorem dX0_isQuiet_25 : decode cX0_isQuiet 25 = .ok (.iload 4, 2) := by decide +kernel
theorem dX0_isQuiet_27 : decode cX0_isQuiet 27 = .ok (.invokevirtual 85, 3) := by decide +kernel
theorem dX0_isQuiet_30 : decode cX0_isQuiet 30 = .ok (.ifCond .eq 16, 3) := by decide +kernel
theorem dX0_isQuiet_33 : decode cX0_isQuiet 33 = .ok (.aload_n 0, 1) := by decide +kernel
theorem dX0_isQuiet_34 : decode cX0_isQuiet 34 = .ok (.iconst 1, 1) := by decide +kernel
theorem dX0_isQuiet_35 : decode cX0_isQuiet 35 = .ok (.iload_n 2, 1) := by decide +kernel
theorem dX0_isQuiet_36 : decode cX0_isQuiet 36 = .ok (.iload_n 3, 1) := by decide +kernel
theorem dX0_isQuiet_37 : decode cX0_isQuiet 37 = .ok (.iload_n 1, 1) := by decide +kernel
theorem dX0_isQuiet_38 : decode cX0_isQuiet 38 = .ok (.invokevirtual 85, 3) := by decide +kernel
theorem dX0_isQuiet_41 : decode cX0_isQuiet 41 = .ok (.ifCond .eq 5, 3) := by decide +kernel
theorem dX0_isQuiet_44 : decode cX0_isQuiet 44 = .ok (.iconst 0, 1) := by decide +kernel
theorem dX0_isQuiet_45 : decode cX0_isQuiet 45 = .ok (.ireturn, 1) := by decide +kernel
theorem dX0_isQuiet_46 : decode cX0_isQuiet 46 = .ok (.aload_n 0, 1) := by decide +kernel
theorem dX0_isQuiet_47 : decode cX0_isQuiet 47 = .ok (.iconst 0, 1) := by decide +kernel
theorem dX0_isQuiet_48 : decode cX0_isQuiet 48 = .ok (.iload_n 1, 1) := by decide +kernel
theorem dX0_isQuiet_49 : decode cX0_isQuiet 49 = .ok (.iload 4, 2) := by decide +kernel
theorem dX0_isQuiet_51 : decode cX0_isQuiet 51 = .ok (.iload_n 2, 1) := by decide +kernel
theorem dX0_isQuiet_52 : decode cX0_isQuiet 52 = .ok (.invokevirtual 85, 3) := by decide +kernel
theorem dX0_isQuiet_55 : decode cX0_isQuiet 55 = .ok (.ifCond .eq 17, 3) := by decide +kernel
theorem dX0_isQuiet_58 : decode cX0_isQuiet 58 = .ok (.aload_n 0, 1) := by decide +kernel
theorem dX0_isQuiet_59 : decode cX0_isQuiet 59 = .ok (.iconst 1, 1) := by decide +kernel
theorem dX0_isQuiet_60 : decode cX0_isQuiet 60 = .ok (.iload 4, 2) := by decide +kernel
theorem dX0_isQuiet_62 : decode cX0_isQuiet 62 = .ok (.iload_n 1, 1) := by decide +kernel
theorem dX0_isQuiet_63 : decode cX0_isQuiet 63 = .ok (.iload_n 3, 1) := by decide +kernel
theorem dX0_isQuiet_64 : decode cX0_isQuiet 64 = .ok (.invokevirtual 85, 3) := by decide +kernel
theorem dX0_isQuiet_67 : decode cX0_isQuiet 67 = .ok (.ifCond .eq 5, 3) := by decide +kernel
theorem dX0_isQuiet_70 : decode cX0_isQuiet 70 = .ok (.iconst 0, 1) := by decide +kernel
theorem dX0_isQuiet_71 : decode cX0_isQuiet 71 = .ok (.ireturn, 1) := by decide +kernel
theorem dX0_isQuiet_72 : decode cX0_isQuiet 72 = .ok (.iinc 3 1, 3) := by decide +kernel
theorem dX0_isQuiet_75 : decode cX0_isQuiet 75 = .ok (.goto (-73), 3) := by decide +kernel
theorem dX0_isQuiet_78 : decode cX0_isQuiet 78 = .ok (.iconst 1, 1) := by decide +kernel
theorem dX0_isQuiet_79 : decode cX0_isQuiet 79 = .ok (.ireturn, 1) := by decide +kernel
theorem dX0_keepSeats_0 : decode cX0_keepSeats 0 = .ok (.iconst 0, 1) := by decide +kernel
theorem dX0_keepSeats_1 : decode cX0_keepSeats 1 = .ok (.istore_n 1, 1) := by decide +kernel
theorem dX0_keepSeats_2 : decode cX0_keepSeats 2 = .ok (.iconst 0, 1) := by decide +kernel
theorem dX0_keepSeats_3 : decode cX0_keepSeats 3 = .ok (.istore_n 2, 1) := by decide +kernel
theorem dX0_keepSeats_4 : decode cX0_keepSeats 4 = .ok (.iload_n 2, 1) := by decide +kernel
theorem dX0_keepSeats_5 : decode cX0_keepSeats 5 = .ok (.aload_n 0, 1) := by decide +kernel
theorem dX0_keepSeats_6 : decode cX0_keepSeats 6 = .ok (.getfield 27, 3) := by decide +kernel
theorem dX0_keepSeats_9 : decode cX0_keepSeats 9 = .ok (.if_icmp .ge 28, 3) := by decide +kernel
theorem dX0_keepSeats_12 : decode cX0_keepSeats 12 = .ok (.iload_n 2, 1) := by decide +kernel
theorem dX0_keepSeats_13 : decode cX0_keepSeats 13 = .ok (.bipush 7, 2) := by decide +kernel
theorem dX0_keepSeats_15 : decode cX0_keepSeats 15 = .ok (.if_icmp .ge 22, 3) := by decide +kernel
theorem dX0_keepSeats_18 : decode cX0_keepSeats 18 = .ok (.iload_n 1, 1) := by decide +kernel
theorem dX0_keepSeats_19 : decode cX0_keepSeats 19 = .ok (.aload_n 0, 1) := by decide +kernel
theorem dX0_keepSeats_20 : decode cX0_keepSeats 20 = .ok (.getfield 15, 3) := by decide +kernel
theorem dX0_keepSeats_23 : decode cX0_keepSeats 23 = .ok (.iload_n 2, 1) := by decide +kernel
theorem dX0_keepSeats_24 : decode cX0_keepSeats 24 = .ok (.iaload, 1) := by decide +kernel
theorem dX0_keepSeats_25 : decode cX0_keepSeats 25 = .ok (.iconst 3, 1) := by decide +kernel
theorem dX0_keepSeats_26 : decode cX0_keepSeats 26 = .ok (.iload_n 2, 1) := by decide +kernel
theorem dX0_keepSeats_27 : decode cX0_keepSeats 27 = .ok (.imul, 1) := by decide +kernel
theorem dX0_keepSeats_28 : decode cX0_keepSeats 28 = .ok (.ishl, 1) := by decide +kernel
theorem dX0_keepSeats_29 : decode cX0_keepSeats 29 = .ok (.ior, 1) := by decide +kernel
theorem dX0_keepSeats_30 : decode cX0_keepSeats 30 = .ok (.istore_n 1, 1) := by decide +kernel
theorem dX0_keepSeats_31 : decode cX0_keepSeats 31 = .ok (.iinc 2 1, 3) := by decide +kernel
theorem dX0_keepSeats_34 : decode cX0_keepSeats 34 = .ok (.goto (-30), 3) := by decide +kernel
theorem dX0_keepSeats_37 : decode cX0_keepSeats 37 = .ok (.aload_n 0, 1) := by decide +kernel
theorem dX0_keepSeats_38 : decode cX0_keepSeats 38 = .ok (.getfield 35, 3) := by decide +kernel
theorem dX0_keepSeats_41 : decode cX0_keepSeats 41 = .ok (.aload_n 0, 1) := by decide +kernel
theorem dX0_keepSeats_42 : decode cX0_keepSeats 42 = .ok (.getfield 24, 3) := by decide +kernel
theorem dX0_keepSeats_45 : decode cX0_keepSeats 45 = .ok (.arraylength, 1) := by decide +kernel
theorem dX0_keepSeats_46 : decode cX0_keepSeats 46 = .ok (.if_icmp .lt 21, 3) := by decide +kernel
theorem dX0_keepSeats_49 : decode cX0_keepSeats 49 = .ok (.aload_n 0, 1) := by decide +kernel
theorem dX0_keepSeats_50 : decode cX0_keepSeats 50 = .ok (.aload_n 0, 1) := by decide +kernel
theorem dX0_keepSeats_51 : decode cX0_keepSeats 51 = .ok (.getfield 24, 3) := by decide +kernel
theorem dX0_keepSeats_54 : decode cX0_keepSeats 54 = .ok (.iconst 2, 1) := by decide +kernel
theorem dX0_keepSeats_55 : decode cX0_keepSeats 55 = .ok (.aload_n 0, 1) := by decide +kernel
theorem dX0_keepSeats_56 : decode cX0_keepSeats 56 = .ok (.getfield 24, 3) := by decide +kernel
theorem dX0_keepSeats_59 : decode cX0_keepSeats 59 = .ok (.arraylength, 1) := by decide +kernel
theorem dX0_keepSeats_60 : decode cX0_keepSeats 60 = .ok (.imul, 1) := by decide +kernel
theorem dX0_keepSeats_61 : decode cX0_keepSeats 61 = .ok (.invokestatic 89, 3) := by decide +kernel
theorem dX0_keepSeats_64 : decode cX0_keepSeats 64 = .ok (.putfield 24, 3) := by decide +kernel
theorem dX0_keepSeats_67 : decode cX0_keepSeats 67 = .ok (.aload_n 0, 1) := by decide +kernel
theorem dX0_keepSeats_68 : decode cX0_keepSeats 68 = .ok (.getfield 24, 3) := by decide +kernel
theorem dX0_keepSeats_71 : decode cX0_keepSeats 71 = .ok (.aload_n 0, 1) := by decide +kernel
theorem dX0_keepSeats_72 : decode cX0_keepSeats 72 = .ok (.getfield 35, 3) := by decide +kernel
theorem dX0_keepSeats_75 : decode cX0_keepSeats 75 = .ok (.iload_n 1, 1) := by decide +kernel
theorem dX0_keepSeats_76 : decode cX0_keepSeats 76 = .ok (.iastore, 1) := by decide +kernel
theorem dX0_keepSeats_77 : decode cX0_keepSeats 77 = .ok (.aload_n 0, 1) := by decide +kernel
theorem dX0_keepSeats_78 : decode cX0_keepSeats 78 = .ok (.dup, 1) := by decide +kernel
theorem dX0_keepSeats_79 : decode cX0_keepSeats 79 = .ok (.getfield 35, 3) := by decide +kernel
theorem dX0_keepSeats_82 : decode cX0_keepSeats 82 = .ok (.iconst 1, 1) := by decide +kernel
theorem dX0_keepSeats_83 : decode cX0_keepSeats 83 = .ok (.iadd, 1) := by decide +kernel
theorem dX0_keepSeats_84 : decode cX0_keepSeats 84 = .ok (.putfield 35, 3) := by decide +kernel
theorem dX0_keepSeats_87 : decode cX0_keepSeats 87 = .ok (.return_, 1) := by decide +kernel
theorem dX0_findBests_0 : decode cX0_findBests 0 = .ok (.bipush 49, 2) := by decide +kernel
theorem dX0_findBests_2 : decode cX0_findBests 2 = .ok (.istore_n 1, 1) := by decide +kernel
theorem dX0_findBests_3 : decode cX0_findBests 3 = .ok (.bipush 49, 2) := by decide +kernel
theorem dX0_findBests_5 : decode cX0_findBests 5 = .ok (.istore_n 2, 1) := by decide +kernel
theorem dX0_findBests_6 : decode cX0_findBests 6 = .ok (.aload_n 0, 1) := by decide +kernel
theorem dX0_findBests_7 : decode cX0_findBests 7 = .ok (.iconst 0, 1) := by decide +kernel
theorem dX0_findBests_8 : decode cX0_findBests 8 = .ok (.putfield 44, 3) := by decide +kernel
theorem dX0_findBests_11 : decode cX0_findBests 11 = .ok (.iconst 0, 1) := by decide +kernel
theorem dX0_findBests_12 : decode cX0_findBests 12 = .ok (.istore_n 3, 1) := by decide +kernel
theorem dX0_findBests_13 : decode cX0_findBests 13 = .ok (.iload_n 3, 1) := by decide +kernel
theorem dX0_findBests_14 : decode cX0_findBests 14 = .ok (.aload_n 0, 1) := by decide +kernel
theorem dX0_findBests_15 : decode cX0_findBests 15 = .ok (.getfield 35, 3) := by decide +kernel
theorem dX0_findBests_18 : decode cX0_findBests 18 = .ok (.if_icmp .ge 69, 3) := by decide +kernel
theorem dX0_findBests_21 : decode cX0_findBests 21 = .ok (.aload_n 0, 1) := by decide +kernel
theorem dX0_findBests_22 : decode cX0_findBests 22 = .ok (.iconst 0, 1) := by decide +kernel
theorem dX0_findBests_23 : decode cX0_findBests 23 = .ok (.iload_n 3, 1) := by decide +kernel
theorem dX0_findBests_24 : decode cX0_findBests 24 = .ok (.invokevirtual 93, 3) := by decide +kernel
theorem dX0_findBests_27 : decode cX0_findBests 27 = .ok (.istore 4, 2) := by decide +kernel
theorem dX0_findBests_29 : decode cX0_findBests 29 = .ok (.aload_n 0, 1) := by decide +kernel
theorem dX0_findBests_30 : decode cX0_findBests 30 = .ok (.iconst 1, 1) := by decide +kernel
theorem dX0_findBests_31 : decode cX0_findBests 31 = .ok (.iload_n 3, 1) := by decide +kernel
theorem dX0_findBests_32 : decode cX0_findBests 32 = .ok (.invokevirtual 93, 3) := by decide +kernel
theorem dX0_findBests_35 : decode cX0_findBests 35 = .ok (.istore 5, 2) := by decide +kernel
theorem dX0_findBests_37 : decode cX0_findBests 37 = .ok (.iload 4, 2) := by decide +kernel
theorem dX0_findBests_39 : decode cX0_findBests 39 = .ok (.iload_n 1, 1) := by decide +kernel
theorem dX0_findBests_40 : decode cX0_findBests 40 = .ok (.if_icmp .ge 11, 3) := by decide +kernel
theorem dX0_findBests_43 : decode cX0_findBests 43 = .ok (.iload 4, 2) := by decide +kernel
theorem dX0_findBests_45 : decode cX0_findBests 45 = .ok (.istore_n 1, 1) := by decide +kernel
theorem dX0_findBests_46 : decode cX0_findBests 46 = .ok (.aload_n 0, 1) := by decide +kernel
theorem dX0_findBests_47 : decode cX0_findBests 47 = .ok (.iload_n 3, 1) := by decide +kernel
theorem dX0_findBests_48 : decode cX0_findBests 48 = .ok (.putfield 38, 3) := by decide +kernel
theorem dX0_findBests_51 : decode cX0_findBests 51 = .ok (.iload 5, 2) := by decide +kernel
theorem dX0_findBests_53 : decode cX0_findBests 53 = .ok (.iload_n 2, 1) := by decide +kernel
theorem dX0_findBests_54 : decode cX0_findBests 54 = .ok (.if_icmp .ge 11, 3) := by decide +kernel
theorem dX0_findBests_57 : decode cX0_findBests 57 = .ok (.iload 5, 2) := by decide +kernel
theorem dX0_findBests_59 : decode cX0_findBests 59 = .ok (.istore_n 2, 1) := by decide +kernel
theorem dX0_findBests_60 : decode cX0_findBests 60 = .ok (.aload_n 0, 1) := by decide +kernel
theorem dX0_findBests_61 : decode cX0_findBests 61 = .ok (.iload_n 3, 1) := by decide +kernel
theorem dX0_findBests_62 : decode cX0_findBests 62 = .ok (.putfield 41, 3) := by decide +kernel
theorem dX0_findBests_65 : decode cX0_findBests 65 = .ok (.aload_n 0, 1) := by decide +kernel
theorem dX0_findBests_66 : decode cX0_findBests 66 = .ok (.aload_n 0, 1) := by decide +kernel
theorem dX0_findBests_67 : decode cX0_findBests 67 = .ok (.getfield 44, 3) := by decide +kernel
theorem dX0_findBests_70 : decode cX0_findBests 70 = .ok (.aload_n 0, 1) := by decide +kernel
theorem dX0_findBests_71 : decode cX0_findBests 71 = .ok (.iload_n 3, 1) := by decide +kernel
theorem dX0_findBests_72 : decode cX0_findBests 72 = .ok (.invokevirtual 96, 3) := by decide +kernel
theorem dX0_findBests_75 : decode cX0_findBests 75 = .ok (.invokestatic 100, 3) := by decide +kernel
theorem dX0_findBests_78 : decode cX0_findBests 78 = .ok (.putfield 44, 3) := by decide +kernel
theorem dX0_findBests_81 : decode cX0_findBests 81 = .ok (.iinc 3 1, 3) := by decide +kernel
theorem dX0_findBests_84 : decode cX0_findBests 84 = .ok (.goto (-71), 3) := by decide +kernel
theorem dX0_findBests_87 : decode cX0_findBests 87 = .ok (.return_, 1) := by decide +kernel
theorem dX0_rankSum_0 : decode cX0_rankSum 0 = .ok (.iconst 0, 1) := by decide +kernel
theorem dX0_rankSum_1 : decode cX0_rankSum 1 = .ok (.istore_n 3, 1) := by decide +kernel
theorem dX0_rankSum_2 : decode cX0_rankSum 2 = .ok (.iconst 0, 1) := by decide +kernel
theorem dX0_rankSum_3 : decode cX0_rankSum 3 = .ok (.istore 4, 2) := by decide +kernel
theorem dX0_rankSum_5 : decode cX0_rankSum 5 = .ok (.iload 4, 2) := by decide +kernel
theorem dX0_rankSum_7 : decode cX0_rankSum 7 = .ok (.aload_n 0, 1) := by decide +kernel
theorem dX0_rankSum_8 : decode cX0_rankSum 8 = .ok (.getfield 27, 3) := by decide +kernel
theorem dX0_rankSum_11 : decode cX0_rankSum 11 = .ok (.if_icmp .ge 80, 3) := by decide +kernel
theorem dX0_rankSum_14 : decode cX0_rankSum 14 = .ok (.aload_n 0, 1) := by decide +kernel
theorem dX0_rankSum_15 : decode cX0_rankSum 15 = .ok (.iload_n 2, 1) := by decide +kernel
theorem dX0_rankSum_16 : decode cX0_rankSum 16 = .ok (.iload 4, 2) := by decide +kernel
theorem dX0_rankSum_18 : decode cX0_rankSum 18 = .ok (.invokevirtual 61, 3) := by decide +kernel
theorem dX0_rankSum_21 : decode cX0_rankSum 21 = .ok (.istore 5, 2) := by decide +kernel
theorem dX0_rankSum_23 : decode cX0_rankSum 23 = .ok (.iconst 0, 1) := by decide +kernel
theorem dX0_rankSum_24 : decode cX0_rankSum 24 = .ok (.istore 6, 2) := by decide +kernel
theorem dX0_rankSum_26 : decode cX0_rankSum 26 = .ok (.iload 6, 2) := by decide +kernel
theorem dX0_rankSum_28 : decode cX0_rankSum 28 = .ok (.aload_n 0, 1) := by decide +kernel
theorem dX0_rankSum_29 : decode cX0_rankSum 29 = .ok (.getfield 27, 3) := by decide +kernel
theorem dX0_rankSum_32 : decode cX0_rankSum 32 = .ok (.if_icmp .ge 53, 3) := by decide +kernel
theorem dX0_rankSum_35 : decode cX0_rankSum 35 = .ok (.iload_n 1, 1) := by decide +kernel
theorem dX0_rankSum_36 : decode cX0_rankSum 36 = .ok (.ifCond .ne 17, 3) := by decide +kernel
theorem dX0_rankSum_39 : decode cX0_rankSum 39 = .ok (.aload_n 0, 1) := by decide +kernel
theorem dX0_rankSum_40 : decode cX0_rankSum 40 = .ok (.iconst 0, 1) := by decide +kernel
theorem dX0_rankSum_41 : decode cX0_rankSum 41 = .ok (.iload 4, 2) := by decide +kernel
theorem dX0_rankSum_43 : decode cX0_rankSum 43 = .ok (.iload 6, 2) := by decide +kernel
theorem dX0_rankSum_45 : decode cX0_rankSum 45 = .ok (.iload 5, 2) := by decide +kernel
theorem dX0_rankSum_47 : decode cX0_rankSum 47 = .ok (.invokevirtual 85, 3) := by decide +kernel
theorem dX0_rankSum_50 : decode cX0_rankSum 50 = .ok (.goto 14, 3) := by decide +kernel
theorem dX0_rankSum_53 : decode cX0_rankSum 53 = .ok (.aload_n 0, 1) := by decide +kernel
theorem dX0_rankSum_54 : decode cX0_rankSum 54 = .ok (.iconst 1, 1) := by decide +kernel
theorem dX0_rankSum_55 : decode cX0_rankSum 55 = .ok (.iload 5, 2) := by decide +kernel
theorem dX0_rankSum_57 : decode cX0_rankSum 57 = .ok (.iload 6, 2) := by decide +kernel
theorem dX0_rankSum_59 : decode cX0_rankSum 59 = .ok (.iload 4, 2) := by decide +kernel
theorem dX0_rankSum_61 : decode cX0_rankSum 61 = .ok (.invokevirtual 85, 3) := by decide +kernel
theorem dX0_rankSum_64 : decode cX0_rankSum 64 = .ok (.istore 7, 2) := by decide +kernel
theorem dX0_rankSum_66 : decode cX0_rankSum 66 = .ok (.iload_n 3, 1) := by decide +kernel
theorem dX0_rankSum_67 : decode cX0_rankSum 67 = .ok (.iload 7, 2) := by decide +kernel
theorem dX0_rankSum_69 : decode cX0_rankSum 69 = .ok (.ifCond .eq 7, 3) := by decide +kernel
theorem dX0_rankSum_72 : decode cX0_rankSum 72 = .ok (.iconst 1, 1) := by decide +kernel
theorem dX0_rankSum_73 : decode cX0_rankSum 73 = .ok (.goto 4, 3) := by decide +kernel
theorem dX0_rankSum_76 : decode cX0_rankSum 76 = .ok (.iconst 0, 1) := by decide +kernel
theorem dX0_rankSum_77 : decode cX0_rankSum 77 = .ok (.iadd, 1) := by decide +kernel
theorem dX0_rankSum_78 : decode cX0_rankSum 78 = .ok (.istore_n 3, 1) := by decide +kernel
theorem dX0_rankSum_79 : decode cX0_rankSum 79 = .ok (.iinc 6 1, 3) := by decide +kernel
theorem dX0_rankSum_82 : decode cX0_rankSum 82 = .ok (.goto (-56), 3) := by decide +kernel
theorem dX0_rankSum_85 : decode cX0_rankSum 85 = .ok (.iinc 4 1, 3) := by decide +kernel
theorem dX0_rankSum_88 : decode cX0_rankSum 88 = .ok (.goto (-83), 3) := by decide +kernel
theorem dX0_rankSum_91 : decode cX0_rankSum 91 = .ok (.iload_n 3, 1) := by decide +kernel
theorem dX0_rankSum_92 : decode cX0_rankSum 92 = .ok (.ireturn, 1) := by decide +kernel
theorem dX0_findMost_0 : decode cX0_findMost 0 = .ok (.iconst 1, 1) := by decide +kernel
theorem dX0_findMost_1 : decode cX0_findMost 1 = .ok (.aload_n 0, 1) := by decide +kernel
theorem dX0_findMost_2 : decode cX0_findMost 2 = .ok (.getfield 27, 3) := by decide +kernel
theorem dX0_findMost_5 : decode cX0_findMost 5 = .ok (.ishl, 1) := by decide +kernel
theorem dX0_findMost_6 : decode cX0_findMost 6 = .ok (.iconst 1, 1) := by decide +kernel
theorem dX0_findMost_7 : decode cX0_findMost 7 = .ok (.isub, 1) := by decide +kernel
theorem dX0_findMost_8 : decode cX0_findMost 8 = .ok (.istore_n 1, 1) := by decide +kernel
theorem dX0_findMost_9 : decode cX0_findMost 9 = .ok (.aload_n 0, 1) := by decide +kernel
theorem dX0_findMost_10 : decode cX0_findMost 10 = .ok (.getfield 21, 3) := by decide +kernel
theorem dX0_findMost_13 : decode cX0_findMost 13 = .ok (.iload_n 1, 1) := by decide +kernel
theorem dX0_findMost_14 : decode cX0_findMost 14 = .ok (.iconst 0, 1) := by decide +kernel
theorem dX0_findMost_15 : decode cX0_findMost 15 = .ok (.iastore, 1) := by decide +kernel
theorem dX0_findMost_16 : decode cX0_findMost 16 = .ok (.iload_n 1, 1) := by decide +kernel
theorem dX0_findMost_17 : decode cX0_findMost 17 = .ok (.iconst 1, 1) := by decide +kernel
theorem dX0_findMost_18 : decode cX0_findMost 18 = .ok (.isub, 1) := by decide +kernel
theorem dX0_findMost_19 : decode cX0_findMost 19 = .ok (.istore_n 2, 1) := by decide +kernel
theorem dX0_findMost_20 : decode cX0_findMost 20 = .ok (.iload_n 2, 1) := by decide +kernel
theorem dX0_findMost_21 : decode cX0_findMost 21 = .ok (.ifCond .lt 78, 3) := by decide +kernel
theorem dX0_findMost_24 : decode cX0_findMost 24 = .ok (.iload_n 2, 1) := by decide +kernel
theorem dX0_findMost_25 : decode cX0_findMost 25 = .ok (.invokestatic 105, 3) := by decide +kernel
theorem dX0_findMost_28 : decode cX0_findMost 28 = .ok (.istore_n 3, 1) := by decide +kernel
theorem dX0_findMost_29 : decode cX0_findMost 29 = .ok (.iconst 0, 1) := by decide +kernel
theorem dX0_findMost_30 : decode cX0_findMost 30 = .ok (.istore 4, 2) := by decide +kernel
theorem dX0_findMost_32 : decode cX0_findMost 32 = .ok (.iconst 0, 1) := by decide +kernel
theorem dX0_findMost_33 : decode cX0_findMost 33 = .ok (.istore 5, 2) := by decide +kernel
theorem dX0_findMost_35 : decode cX0_findMost 35 = .ok (.iload 5, 2) := by decide +kernel
theorem dX0_findMost_37 : decode cX0_findMost 37 = .ok (.aload_n 0, 1) := by decide +kernel
theorem dX0_findMost_38 : decode cX0_findMost 38 = .ok (.getfield 27, 3) := by decide +kernel
theorem dX0_findMost_41 : decode cX0_findMost 41 = .ok (.if_icmp .ge 44, 3) := by decide +kernel
theorem dX0_findMost_44 : decode cX0_findMost 44 = .ok (.iload_n 2, 1) := by decide +kernel
theorem dX0_findMost_45 : decode cX0_findMost 45 = .ok (.iload 5, 2) := by decide +kernel
theorem dX0_findMost_47 : decode cX0_findMost 47 = .ok (.iushr, 1) := by decide +kernel
theorem dX0_findMost_48 : decode cX0_findMost 48 = .ok (.iconst 1, 1) := by decide +kernel
theorem dX0_findMost_49 : decode cX0_findMost 49 = .ok (.iand, 1) := by decide +kernel
theorem dX0_findMost_50 : decode cX0_findMost 50 = .ok (.ifCond .ne 29, 3) := by decide +kernel
theorem dX0_findMost_53 : decode cX0_findMost 53 = .ok (.iload 4, 2) := by decide +kernel
theorem dX0_findMost_55 : decode cX0_findMost 55 = .ok (.aload_n 0, 1) := by decide +kernel
theorem dX0_findMost_56 : decode cX0_findMost 56 = .ok (.iload_n 3, 1) := by decide +kernel
theorem dX0_findMost_57 : decode cX0_findMost 57 = .ok (.iload 5, 2) := by decide +kernel
theorem dX0_findMost_59 : decode cX0_findMost 59 = .ok (.invokevirtual 65, 3) := by decide +kernel
theorem dX0_findMost_62 : decode cX0_findMost 62 = .ok (.aload_n 0, 1) := by decide +kernel
theorem dX0_findMost_63 : decode cX0_findMost 63 = .ok (.getfield 21, 3) := by decide +kernel
theorem dX0_findMost_66 : decode cX0_findMost 66 = .ok (.iload_n 2, 1) := by decide +kernel
theorem dX0_findMost_67 : decode cX0_findMost 67 = .ok (.iconst 1, 1) := by decide +kernel
theorem dX0_findMost_68 : decode cX0_findMost 68 = .ok (.iload 5, 2) := by decide +kernel
theorem dX0_findMost_70 : decode cX0_findMost 70 = .ok (.ishl, 1) := by decide +kernel
theorem dX0_findMost_71 : decode cX0_findMost 71 = .ok (.ior, 1) := by decide +kernel
theorem dX0_findMost_72 : decode cX0_findMost 72 = .ok (.iaload, 1) := by decide +kernel
theorem dX0_findMost_73 : decode cX0_findMost 73 = .ok (.iadd, 1) := by decide +kernel
theorem dX0_findMost_74 : decode cX0_findMost 74 = .ok (.invokestatic 100, 3) := by decide +kernel
theorem dX0_findMost_77 : decode cX0_findMost 77 = .ok (.istore 4, 2) := by decide +kernel
theorem dX0_findMost_79 : decode cX0_findMost 79 = .ok (.iinc 5 1, 3) := by decide +kernel
theorem dX0_findMost_82 : decode cX0_findMost 82 = .ok (.goto (-47), 3) := by decide +kernel
theorem dX0_findMost_85 : decode cX0_findMost 85 = .ok (.aload_n 0, 1) := by decide +kernel
theorem dX0_findMost_86 : decode cX0_findMost 86 = .ok (.getfield 21, 3) := by decide +kernel
theorem dX0_findMost_89 : decode cX0_findMost 89 = .ok (.iload_n 2, 1) := by decide +kernel
theorem dX0_findMost_90 : decode cX0_findMost 90 = .ok (.iload 4, 2) := by decide +kernel
theorem dX0_findMost_92 : decode cX0_findMost 92 = .ok (.iastore, 1) := by decide +kernel
theorem dX0_findMost_93 : decode cX0_findMost 93 = .ok (.iinc 2 (-1), 3) := by decide +kernel
theorem dX0_findMost_96 : decode cX0_findMost 96 = .ok (.goto (-76), 3) := by decide +kernel
theorem dX0_findMost_99 : decode cX0_findMost 99 = .ok (.iconst 0, 1) := by decide +kernel
theorem dX0_findMost_100 : decode cX0_findMost 100 = .ok (.istore_n 2, 1) := by decide +kernel
theorem dX0_findMost_101 : decode cX0_findMost 101 = .ok (.iconst 0, 1) := by decide +kernel
theorem dX0_findMost_102 : decode cX0_findMost 102 = .ok (.istore_n 3, 1) := by decide +kernel
theorem dX0_findMost_103 : decode cX0_findMost 103 = .ok (.iload_n 3, 1) := by decide +kernel
theorem dX0_findMost_104 : decode cX0_findMost 104 = .ok (.aload_n 0, 1) := by decide +kernel
theorem dX0_findMost_105 : decode cX0_findMost 105 = .ok (.getfield 27, 3) := by decide +kernel
theorem dX0_findMost_108 : decode cX0_findMost 108 = .ok (.if_icmp .ge 38, 3) := by decide +kernel
theorem dX0_findMost_111 : decode cX0_findMost 111 = .ok (.iload_n 3, 1) := by decide +kernel
theorem dX0_findMost_112 : decode cX0_findMost 112 = .ok (.bipush 7, 2) := by decide +kernel
theorem dX0_findMost_114 : decode cX0_findMost 114 = .ok (.if_icmp .ge 32, 3) := by decide +kernel
theorem dX0_findMost_117 : decode cX0_findMost 117 = .ok (.aload_n 0, 1) := by decide +kernel
theorem dX0_findMost_118 : decode cX0_findMost 118 = .ok (.iload_n 3, 1) := by decide +kernel
theorem dX0_findMost_119 : decode cX0_findMost 119 = .ok (.iload_n 2, 1) := by decide +kernel
theorem dX0_findMost_120 : decode cX0_findMost 120 = .ok (.invokevirtual 110, 3) := by decide +kernel
theorem dX0_findMost_123 : decode cX0_findMost 123 = .ok (.istore 4, 2) := by decide +kernel
theorem dX0_findMost_125 : decode cX0_findMost 125 = .ok (.aload_n 0, 1) := by decide +kernel
theorem dX0_findMost_126 : decode cX0_findMost 126 = .ok (.getfield 18, 3) := by decide +kernel
theorem dX0_findMost_129 : decode cX0_findMost 129 = .ok (.iload_n 3, 1) := by decide +kernel
theorem dX0_findMost_130 : decode cX0_findMost 130 = .ok (.iload 4, 2) := by decide +kernel
theorem dX0_findMost_132 : decode cX0_findMost 132 = .ok (.iastore, 1) := by decide +kernel
theorem dX0_findMost_133 : decode cX0_findMost 133 = .ok (.iload_n 2, 1) := by decide +kernel
theorem dX0_findMost_134 : decode cX0_findMost 134 = .ok (.iconst 1, 1) := by decide +kernel
theorem dX0_findMost_135 : decode cX0_findMost 135 = .ok (.iload 4, 2) := by decide +kernel
theorem dX0_findMost_137 : decode cX0_findMost 137 = .ok (.ishl, 1) := by decide +kernel
theorem dX0_findMost_138 : decode cX0_findMost 138 = .ok (.ior, 1) := by decide +kernel
theorem dX0_findMost_139 : decode cX0_findMost 139 = .ok (.istore_n 2, 1) := by decide +kernel
theorem dX0_findMost_140 : decode cX0_findMost 140 = .ok (.iinc 3 1, 3) := by decide +kernel
theorem dX0_findMost_143 : decode cX0_findMost 143 = .ok (.goto (-40), 3) := by decide +kernel
theorem dX0_findMost_146 : decode cX0_findMost 146 = .ok (.return_, 1) := by decide +kernel
theorem dX0_firstOfMost_0 : decode cX0_firstOfMost 0 = .ok (.iconst 0, 1) := by decide +kernel
theorem dX0_firstOfMost_1 : decode cX0_firstOfMost 1 = .ok (.istore_n 3, 1) := by decide +kernel
theorem dX0_firstOfMost_2 : decode cX0_firstOfMost 2 = .ok (.iload_n 3, 1) := by decide +kernel
theorem dX0_firstOfMost_3 : decode cX0_firstOfMost 3 = .ok (.aload_n 0, 1) := by decide +kernel
theorem dX0_firstOfMost_4 : decode cX0_firstOfMost 4 = .ok (.getfield 27, 3) := by decide +kernel
theorem dX0_firstOfMost_7 : decode cX0_firstOfMost 7 = .ok (.if_icmp .ge 45, 3) := by decide +kernel
theorem dX0_firstOfMost_10 : decode cX0_firstOfMost 10 = .ok (.iload_n 2, 1) := by decide +kernel
theorem dX0_firstOfMost_11 : decode cX0_firstOfMost 11 = .ok (.iload_n 3, 1) := by decide +kernel
theorem dX0_firstOfMost_12 : decode cX0_firstOfMost 12 = .ok (.iushr, 1) := by decide +kernel
theorem dX0_firstOfMost_13 : decode cX0_firstOfMost 13 = .ok (.iconst 1, 1) := by decide +kernel
theorem dX0_firstOfMost_14 : decode cX0_firstOfMost 14 = .ok (.iand, 1) := by decide +kernel
theorem dX0_firstOfMost_15 : decode cX0_firstOfMost 15 = .ok (.ifCond .ne 31, 3) := by decide +kernel
theorem dX0_firstOfMost_18 : decode cX0_firstOfMost 18 = .ok (.aload_n 0, 1) := by decide +kernel
theorem dX0_firstOfMost_19 : decode cX0_firstOfMost 19 = .ok (.iload_n 1, 1) := by decide +kernel
theorem dX0_firstOfMost_20 : decode cX0_firstOfMost 20 = .ok (.iload_n 3, 1) := by decide +kernel
theorem dX0_firstOfMost_21 : decode cX0_firstOfMost 21 = .ok (.invokevirtual 65, 3) := by decide +kernel
theorem dX0_firstOfMost_24 : decode cX0_firstOfMost 24 = .ok (.aload_n 0, 1) := by decide +kernel
theorem dX0_firstOfMost_25 : decode cX0_firstOfMost 25 = .ok (.getfield 21, 3) := by decide +kernel
theorem dX0_firstOfMost_28 : decode cX0_firstOfMost 28 = .ok (.iload_n 2, 1) := by decide +kernel
theorem dX0_firstOfMost_29 : decode cX0_firstOfMost 29 = .ok (.iconst 1, 1) := by decide +kernel
theorem dX0_firstOfMost_30 : decode cX0_firstOfMost 30 = .ok (.iload_n 3, 1) := by decide +kernel
theorem dX0_firstOfMost_31 : decode cX0_firstOfMost 31 = .ok (.ishl, 1) := by decide +kernel
theorem dX0_firstOfMost_32 : decode cX0_firstOfMost 32 = .ok (.ior, 1) := by decide +kernel
theorem dX0_firstOfMost_33 : decode cX0_firstOfMost 33 = .ok (.iaload, 1) := by decide +kernel
theorem dX0_firstOfMost_34 : decode cX0_firstOfMost 34 = .ok (.iadd, 1) := by decide +kernel
theorem dX0_firstOfMost_35 : decode cX0_firstOfMost 35 = .ok (.aload_n 0, 1) := by decide +kernel
theorem dX0_firstOfMost_36 : decode cX0_firstOfMost 36 = .ok (.getfield 21, 3) := by decide +kernel
theorem dX0_firstOfMost_39 : decode cX0_firstOfMost 39 = .ok (.iload_n 2, 1) := by decide +kernel
theorem dX0_firstOfMost_40 : decode cX0_firstOfMost 40 = .ok (.iaload, 1) := by decide +kernel
theorem dX0_firstOfMost_41 : decode cX0_firstOfMost 41 = .ok (.if_icmp .ne 5, 3) := by decide +kernel
theorem dX0_firstOfMost_44 : decode cX0_firstOfMost 44 = .ok (.iload_n 3, 1) := by decide +kernel
theorem dX0_firstOfMost_45 : decode cX0_firstOfMost 45 = .ok (.ireturn, 1) := by decide +kernel
theorem dX0_firstOfMost_46 : decode cX0_firstOfMost 46 = .ok (.iinc 3 1, 3) := by decide +kernel
theorem dX0_firstOfMost_49 : decode cX0_firstOfMost 49 = .ok (.goto (-47), 3) := by decide +kernel
theorem dX0_firstOfMost_52 : decode cX0_firstOfMost 52 = .ok (.iconst 0, 1) := by decide +kernel
theorem dX0_firstOfMost_53 : decode cX0_firstOfMost 53 = .ok (.ireturn, 1) := by decide +kernel
theorem dX1_init_0 : decode cX1_init 0 = .ok (.aload_n 0, 1) := by decide +kernel
theorem dX1_init_1 : decode cX1_init 1 = .ok (.invokespecial 3, 3) := by decide +kernel
theorem dX1_init_4 : decode cX1_init 4 = .ok (.aload_n 0, 1) := by decide +kernel
theorem dX1_init_5 : decode cX1_init 5 = .ok (.new 9, 3) := by decide +kernel
theorem dX1_init_8 : decode cX1_init 8 = .ok (.dup, 1) := by decide +kernel
theorem dX1_init_9 : decode cX1_init 9 = .ok (.invokespecial 11, 3) := by decide +kernel
theorem dX1_init_12 : decode cX1_init 12 = .ok (.putfield 12, 3) := by decide +kernel
theorem dX1_init_15 : decode cX1_init 15 = .ok (.aload_n 0, 1) := by decide +kernel
theorem dX1_init_16 : decode cX1_init 16 = .ok (.new 18, 3) := by decide +kernel
theorem dX1_init_19 : decode cX1_init 19 = .ok (.dup, 1) := by decide +kernel
theorem dX1_init_20 : decode cX1_init 20 = .ok (.invokespecial 20, 3) := by decide +kernel
theorem dX1_init_23 : decode cX1_init 23 = .ok (.putfield 21, 3) := by decide +kernel
theorem dX1_init_26 : decode cX1_init 26 = .ok (.aload_n 0, 1) := by decide +kernel
theorem dX1_init_27 : decode cX1_init 27 = .ok (.new 18, 3) := by decide +kernel
theorem dX1_init_30 : decode cX1_init 30 = .ok (.dup, 1) := by decide +kernel
theorem dX1_init_31 : decode cX1_init 31 = .ok (.invokespecial 20, 3) := by decide +kernel
theorem dX1_init_34 : decode cX1_init 34 = .ok (.putfield 25, 3) := by decide +kernel
theorem dX1_init_37 : decode cX1_init 37 = .ok (.aload_n 0, 1) := by decide +kernel
theorem dX1_init_38 : decode cX1_init 38 = .ok (.iconst 5, 1) := by decide +kernel
theorem dX1_init_39 : decode cX1_init 39 = .ok (.newarray .int, 2) := by decide +kernel
theorem dX1_init_41 : decode cX1_init 41 = .ok (.putfield 28, 3) := by decide +kernel
theorem dX1_init_44 : decode cX1_init 44 = .ok (.aload_n 0, 1) := by decide +kernel
theorem dX1_init_45 : decode cX1_init 45 = .ok (.aload_n 1, 1) := by decide +kernel
theorem dX1_init_46 : decode cX1_init 46 = .ok (.putfield 32, 3) := by decide +kernel
theorem dX1_init_49 : decode cX1_init 49 = .ok (.aload_n 0, 1) := by decide +kernel
theorem dX1_init_50 : decode cX1_init 50 = .ok (.aload_n 2, 1) := by decide +kernel
theorem dX1_init_51 : decode cX1_init 51 = .ok (.putfield 36, 3) := by decide +kernel
theorem dX1_init_54 : decode cX1_init 54 = .ok (.iconst 0, 1) := by decide +kernel
theorem dX1_init_55 : decode cX1_init 55 = .ok (.istore_n 3, 1) := by decide +kernel
theorem dX1_init_56 : decode cX1_init 56 = .ok (.iload_n 3, 1) := by decide +kernel
theorem dX1_init_57 : decode cX1_init 57 = .ok (.bipush 6, 2) := by decide +kernel
theorem dX1_init_59 : decode cX1_init 59 = .ok (.if_icmp .ge 24, 3) := by decide +kernel
theorem dX1_init_62 : decode cX1_init 62 = .ok (.aload_n 0, 1) := by decide +kernel
theorem dX1_init_63 : decode cX1_init 63 = .ok (.getfield 21, 3) := by decide +kernel
theorem dX1_init_66 : decode cX1_init 66 = .ok (.new 40, 3) := by decide +kernel
theorem dX1_init_69 : decode cX1_init 69 = .ok (.dup, 1) := by decide +kernel
theorem dX1_init_70 : decode cX1_init 70 = .ok (.invokespecial 42, 3) := by decide +kernel
theorem dX1_init_73 : decode cX1_init 73 = .ok (.invokevirtual 43, 3) := by decide +kernel
theorem dX1_init_76 : decode cX1_init 76 = .ok (.pop, 1) := by decide +kernel
theorem dX1_init_77 : decode cX1_init 77 = .ok (.iinc 3 1, 3) := by decide +kernel
theorem dX1_init_80 : decode cX1_init 80 = .ok (.goto (-24), 3) := by decide +kernel
theorem dX1_init_83 : decode cX1_init 83 = .ok (.return_, 1) := by decide +kernel
theorem dX1_size_0 : decode cX1_size 0 = .ok (.aload_n 0, 1) := by decide +kernel
theorem dX1_size_1 : decode cX1_size 1 = .ok (.getfield 25, 3) := by decide +kernel
theorem dX1_size_4 : decode cX1_size 4 = .ok (.invokevirtual 47, 3) := by decide +kernel
theorem dX1_size_7 : decode cX1_size 7 = .ok (.ireturn, 1) := by decide +kernel
theorem dX1_tally_0 : decode cX1_tally 0 = .ok (.iload_n 1, 1) := by decide +kernel
theorem dX1_tally_1 : decode cX1_tally 1 = .ok (.ifCond .lt 21, 3) := by decide +kernel
theorem dX1_tally_4 : decode cX1_tally 4 = .ok (.iload_n 1, 1) := by decide +kernel
theorem dX1_tally_5 : decode cX1_tally 5 = .ok (.aload_n 0, 1) := by decide +kernel
theorem dX1_tally_6 : decode cX1_tally 6 = .ok (.getfield 28, 3) := by decide +kernel
theorem dX1_tally_9 : decode cX1_tally 9 = .ok (.arraylength, 1) := by decide +kernel
theorem dX1_tally_10 : decode cX1_tally 10 = .ok (.if_icmp .ge 12, 3) := by decide +kernel
theorem dX1_tally_13 : decode cX1_tally 13 = .ok (.aload_n 0, 1) := by decide +kernel
theorem dX1_tally_14 : decode cX1_tally 14 = .ok (.getfield 28, 3) := by decide +kernel
theorem dX1_tally_17 : decode cX1_tally 17 = .ok (.iload_n 1, 1) := by decide +kernel
theorem dX1_tally_18 : decode cX1_tally 18 = .ok (.iaload, 1) := by decide +kernel
theorem dX1_tally_19 : decode cX1_tally 19 = .ok (.goto 4, 3) := by decide +kernel
theorem dX1_tally_22 : decode cX1_tally 22 = .ok (.iconst 0, 1) := by decide +kernel
theorem dX1_tally_23 : decode cX1_tally 23 = .ok (.ireturn, 1) := by decide +kernel
theorem dX1_stateNow_0 : decode cX1_stateNow 0 = .ok (.aload_n 0, 1) := by decide +kernel
theorem dX1_stateNow_1 : decode cX1_stateNow 1 = .ok (.getfield 51, 3) := by decide +kernel
theorem dX1_stateNow_4 : decode cX1_stateNow 4 = .ok (.ireturn, 1) := by decide +kernel
theorem dX1_restate_0 : decode cX1_restate 0 = .ok (.aload_n 0, 1) := by decide +kernel
theorem dX1_restate_1 : decode cX1_restate 1 = .ok (.getfield 51, 3) := by decide +kernel
theorem dX1_restate_4 : decode cX1_restate 4 = .ok (.istore_n 2, 1) := by decide +kernel
theorem dX1_restate_5 : decode cX1_restate 5 = .ok (.aload_n 0, 1) := by decide +kernel
theorem dX1_restate_6 : decode cX1_restate 6 = .ok (.iload_n 1, 1) := by decide +kernel
theorem dX1_restate_7 : decode cX1_restate 7 = .ok (.putfield 51, 3) := by decide +kernel
theorem dX1_restate_10 : decode cX1_restate 10 = .ok (.iload_n 2, 1) := by decide +kernel
theorem dX1_restate_11 : decode cX1_restate 11 = .ok (.ireturn, 1) := by decide +kernel
theorem dX1_isWay_0 : decode cX1_isWay 0 = .ok (.iload_n 1, 1) := by decide +kernel
theorem dX1_isWay_1 : decode cX1_isWay 1 = .ok (.ifCond .lt 18, 3) := by decide +kernel
theorem dX1_isWay_4 : decode cX1_isWay 4 = .ok (.iload_n 1, 1) := by decide +kernel
theorem dX1_isWay_5 : decode cX1_isWay 5 = .ok (.aload_n 0, 1) := by decide +kernel
theorem dX1_isWay_6 : decode cX1_isWay 6 = .ok (.getfield 21, 3) := by decide +kernel
theorem dX1_isWay_9 : decode cX1_isWay 9 = .ok (.invokevirtual 47, 3) := by decide +kernel
theorem dX1_isWay_12 : decode cX1_isWay 12 = .ok (.if_icmp .ge 7, 3) := by decide +kernel
theorem dX1_isWay_15 : decode cX1_isWay 15 = .ok (.iconst 1, 1) := by decide +kernel
theorem dX1_isWay_16 : decode cX1_isWay 16 = .ok (.goto 4, 3) := by decide +kernel
theorem dX1_isWay_19 : decode cX1_isWay 19 = .ok (.iconst 0, 1) := by decide +kernel
theorem dX1_isWay_20 : decode cX1_isWay 20 = .ok (.ireturn, 1) := by decide +kernel
theorem dX1_teach_0 : decode cX1_teach 0 = .ok (.aload_n 0, 1) := by decide +kernel
theorem dX1_teach_1 : decode cX1_teach 1 = .ok (.iload_n 1, 1) := by decide +kernel
theorem dX1_teach_2 : decode cX1_teach 2 = .ok (.invokevirtual 55, 3) := by decide +kernel
theorem dX1_teach_5 : decode cX1_teach 5 = .ok (.ifCond .ne 5, 3) := by decide +kernel
theorem dX1_teach_8 : decode cX1_teach 8 = .ok (.iconst (-1), 1) := by decide +kernel
theorem dX1_teach_9 : decode cX1_teach 9 = .ok (.ireturn, 1) := by decide +kernel
theorem dX1_teach_10 : decode cX1_teach 10 = .ok (.aload_n 0, 1) := by decide +kernel
theorem dX1_teach_11 : decode cX1_teach 11 = .ok (.getfield 21, 3) := by decide +kernel
theorem dX1_teach_14 : decode cX1_teach 14 = .ok (.iload_n 1, 1) := by decide +kernel
theorem dX1_teach_15 : decode cX1_teach 15 = .ok (.invokevirtual 59, 3) := by decide +kernel
theorem dX1_teach_18 : decode cX1_teach 18 = .ok (.checkcast 40, 3) := by decide +kernel
theorem dX1_teach_21 : decode cX1_teach 21 = .ok (.aload_n 2, 1) := by decide +kernel
theorem dX1_teach_22 : decode cX1_teach 22 = .ok (.invokevirtual 63, 3) := by decide +kernel
theorem dX1_teach_25 : decode cX1_teach 25 = .ok (.aload_n 2, 1) := by decide +kernel
theorem dX1_teach_26 : decode cX1_teach 26 = .ok (.invokevirtual 67, 3) := by decide +kernel
theorem dX1_teach_29 : decode cX1_teach 29 = .ok (.ireturn, 1) := by decide +kernel
theorem dX1_admit_0 : decode cX1_admit 0 = .ok (.aload_n 0, 1) := by decide +kernel
theorem dX1_admit_1 : decode cX1_admit 1 = .ok (.getfield 25, 3) := by decide +kernel
theorem dX1_admit_4 : decode cX1_admit 4 = .ok (.invokevirtual 47, 3) := by decide +kernel
theorem dX1_admit_7 : decode cX1_admit 7 = .ok (.istore 4, 2) := by decide +kernel
theorem dX1_admit_9 : decode cX1_admit 9 = .ok (.iload 4, 2) := by decide +kernel
theorem dX1_admit_11 : decode cX1_admit 11 = .ok (.bipush 40, 2) := by decide +kernel
theorem dX1_admit_13 : decode cX1_admit 13 = .ok (.if_icmp .ge 11, 3) := by decide +kernel
theorem dX1_admit_16 : decode cX1_admit 16 = .ok (.aload_n 0, 1) := by decide +kernel
theorem dX1_admit_17 : decode cX1_admit 17 = .ok (.iload_n 3, 1) := by decide +kernel
theorem dX1_admit_18 : decode cX1_admit 18 = .ok (.invokevirtual 55, 3) := by decide +kernel
theorem dX1_admit_21 : decode cX1_admit 21 = .ok (.ifCond .ne 5, 3) := by decide +kernel
theorem dX1_admit_24 : decode cX1_admit 24 = .ok (.iconst (-1), 1) := by decide +kernel
theorem dX1_admit_25 : decode cX1_admit 25 = .ok (.ireturn, 1) := by decide +kernel
theorem dX1_admit_26 : decode cX1_admit 26 = .ok (.aload_n 0, 1) := by decide +kernel
theorem dX1_admit_27 : decode cX1_admit 27 = .ok (.getfield 25, 3) := by decide +kernel
theorem dX1_admit_30 : decode cX1_admit 30 = .ok (.new 70, 3) := by decide +kernel
theorem dX1_admit_33 : decode cX1_admit 33 = .ok (.dup, 1) := by decide +kernel
theorem dX1_admit_34 : decode cX1_admit 34 = .ok (.iload 4, 2) := by decide +kernel
theorem dX1_admit_36 : decode cX1_admit 36 = .ok (.iload_n 1, 1) := by decide +kernel
theorem dX1_admit_37 : decode cX1_admit 37 = .ok (.iload_n 2, 1) := by decide +kernel
theorem dX1_admit_38 : decode cX1_admit 38 = .ok (.aload_n 0, 1) := by decide +kernel
theorem dX1_admit_39 : decode cX1_admit 39 = .ok (.getfield 21, 3) := by decide +kernel
theorem dX1_admit_42 : decode cX1_admit 42 = .ok (.iload_n 3, 1) := by decide +kernel
theorem dX1_admit_43 : decode cX1_admit 43 = .ok (.invokevirtual 59, 3) := by decide +kernel
theorem dX1_admit_46 : decode cX1_admit 46 = .ok (.checkcast 40, 3) := by decide +kernel
theorem dX1_admit_49 : decode cX1_admit 49 = .ok (.invokespecial 72, 3) := by decide +kernel
theorem dX1_admit_52 : decode cX1_admit 52 = .ok (.invokevirtual 43, 3) := by decide +kernel
theorem dX1_admit_55 : decode cX1_admit 55 = .ok (.pop, 1) := by decide +kernel
theorem dX1_admit_56 : decode cX1_admit 56 = .ok (.iload 4, 2) := by decide +kernel
theorem dX1_admit_58 : decode cX1_admit 58 = .ok (.ireturn, 1) := by decide +kernel
theorem dX1_countPairs_0 : decode cX1_countPairs 0 = .ok (.iconst 0, 1) := by decide +kernel
theorem dX1_countPairs_1 : decode cX1_countPairs 1 = .ok (.istore_n 1, 1) := by decide +kernel
theorem dX1_countPairs_2 : decode cX1_countPairs 2 = .ok (.iconst 0, 1) := by decide +kernel
theorem dX1_countPairs_3 : decode cX1_countPairs 3 = .ok (.istore_n 2, 1) := by decide +kernel
theorem dX1_countPairs_4 : decode cX1_countPairs 4 = .ok (.iload_n 2, 1) := by decide +kernel
theorem dX1_countPairs_5 : decode cX1_countPairs 5 = .ok (.aload_n 0, 1) := by decide +kernel
theorem dX1_countPairs_6 : decode cX1_countPairs 6 = .ok (.getfield 25, 3) := by decide +kernel
theorem dX1_countPairs_9 : decode cX1_countPairs 9 = .ok (.invokevirtual 47, 3) := by decide +kernel
theorem dX1_countPairs_12 : decode cX1_countPairs 12 = .ok (.if_icmp .ge 43, 3) := by decide +kernel
theorem dX1_countPairs_15 : decode cX1_countPairs 15 = .ok (.aload_n 0, 1) := by decide +kernel
theorem dX1_countPairs_16 : decode cX1_countPairs 16 = .ok (.getfield 25, 3) := by decide +kernel
theorem dX1_countPairs_19 : decode cX1_countPairs 19 = .ok (.iload_n 2, 1) := by decide +kernel
theorem dX1_countPairs_20 : decode cX1_countPairs 20 = .ok (.invokevirtual 59, 3) := by decide +kernel
theorem dX1_countPairs_23 : decode cX1_countPairs 23 = .ok (.checkcast 70, 3) := by decide +kernel
theorem dX1_countPairs_26 : decode cX1_countPairs 26 = .ok (.astore_n 3, 1) := by decide +kernel
theorem dX1_countPairs_27 : decode cX1_countPairs 27 = .ok (.iload_n 1, 1) := by decide +kernel
theorem dX1_countPairs_28 : decode cX1_countPairs 28 = .ok (.aload_n 3, 1) := by decide +kernel
theorem dX1_countPairs_29 : decode cX1_countPairs 29 = .ok (.getfield 75, 3) := by decide +kernel
theorem dX1_countPairs_32 : decode cX1_countPairs 32 = .ok (.ifCond .ne 14, 3) := by decide +kernel
theorem dX1_countPairs_35 : decode cX1_countPairs 35 = .ok (.aload_n 3, 1) := by decide +kernel
theorem dX1_countPairs_36 : decode cX1_countPairs 36 = .ok (.invokevirtual 78, 3) := by decide +kernel
theorem dX1_countPairs_39 : decode cX1_countPairs 39 = .ok (.ifCond .ne 7, 3) := by decide +kernel
theorem dX1_countPairs_42 : decode cX1_countPairs 42 = .ok (.iconst 1, 1) := by decide +kernel
theorem dX1_countPairs_43 : decode cX1_countPairs 43 = .ok (.goto 4, 3) := by decide +kernel
theorem dX1_countPairs_46 : decode cX1_countPairs 46 = .ok (.iconst 0, 1) := by decide +kernel
theorem dX1_countPairs_47 : decode cX1_countPairs 47 = .ok (.iadd, 1) := by decide +kernel
theorem dX1_countPairs_48 : decode cX1_countPairs 48 = .ok (.istore_n 1, 1) := by decide +kernel
theorem dX1_countPairs_49 : decode cX1_countPairs 49 = .ok (.iinc 2 1, 3) := by decide +kernel
theorem dX1_countPairs_52 : decode cX1_countPairs 52 = .ok (.goto (-48), 3) := by decide +kernel
theorem dX1_countPairs_55 : decode cX1_countPairs 55 = .ok (.iload_n 1, 1) := by decide +kernel
theorem dX1_countPairs_56 : decode cX1_countPairs 56 = .ok (.ireturn, 1) := by decide +kernel
theorem dX1_together_0 : decode cX1_together 0 = .ok (.iconst 0, 1) := by decide +kernel
theorem dX1_together_1 : decode cX1_together 1 = .ok (.istore 4, 2) := by decide +kernel
theorem dX1_together_3 : decode cX1_together 3 = .ok (.iconst 0, 1) := by decide +kernel
theorem dX1_together_4 : decode cX1_together 4 = .ok (.istore 5, 2) := by decide +kernel
theorem dX1_together_6 : decode cX1_together 6 = .ok (.iconst 0, 1) := by decide +kernel
theorem dX1_together_7 : decode cX1_together 7 = .ok (.istore 6, 2) := by decide +kernel
theorem dX1_together_9 : decode cX1_together 9 = .ok (.iconst 0, 1) := by decide +kernel
theorem dX1_together_10 : decode cX1_together 10 = .ok (.istore 7, 2) := by decide +kernel
theorem dX1_together_12 : decode cX1_together 12 = .ok (.iconst 0, 1) := by decide +kernel
theorem dX1_together_13 : decode cX1_together 13 = .ok (.istore 8, 2) := by decide +kernel
theorem dX1_together_15 : decode cX1_together 15 = .ok (.iload 8, 2) := by decide +kernel
theorem dX1_together_17 : decode cX1_together 17 = .ok (.aload_n 0, 1) := by decide +kernel
theorem dX1_together_18 : decode cX1_together 18 = .ok (.getfield 25, 3) := by decide +kernel
theorem dX1_together_21 : decode cX1_together 21 = .ok (.invokevirtual 47, 3) := by decide +kernel
theorem dX1_together_24 : decode cX1_together 24 = .ok (.if_icmp .ge 89, 3) := by decide +kernel
theorem dX1_together_27 : decode cX1_together 27 = .ok (.aload_n 0, 1) := by decide +kernel
theorem dX1_together_28 : decode cX1_together 28 = .ok (.getfield 25, 3) := by decide +kernel
theorem dX1_together_31 : decode cX1_together 31 = .ok (.iload 8, 2) := by decide +kernel
theorem dX1_together_33 : decode cX1_together 33 = .ok (.invokevirtual 59, 3) := by decide +kernel
theorem dX1_together_36 : decode cX1_together 36 = .ok (.checkcast 70, 3) := by decide +kernel
theorem dX1_together_39 : decode cX1_together 39 = .ok (.astore 9, 2) := by decide +kernel
theorem dX1_together_41 : decode cX1_together 41 = .ok (.aload 9, 2) := by decide +kernel
theorem dX1_together_43 : decode cX1_together 43 = .ok (.getfield 75, 3) := by decide +kernel
theorem dX1_together_46 : decode cX1_together 46 = .ok (.iload_n 1, 1) := by decide +kernel
theorem dX1_together_47 : decode cX1_together 47 = .ok (.if_icmp .ne 60, 3) := by decide +kernel
theorem dX1_together_50 : decode cX1_together 50 = .ok (.iload_n 2, 1) := by decide +kernel
theorem dX1_together_51 : decode cX1_together 51 = .ok (.iconst (-1), 1) := by decide +kernel
theorem dX1_together_52 : decode cX1_together 52 = .ok (.if_icmp .eq 12, 3) := by decide +kernel
theorem dX1_together_55 : decode cX1_together 55 = .ok (.aload 9, 2) := by decide +kernel
theorem dX1_together_57 : decode cX1_together 57 = .ok (.getfield 82, 3) := by decide +kernel
theorem dX1_together_60 : decode cX1_together 60 = .ok (.iload_n 2, 1) := by decide +kernel
theorem dX1_together_61 : decode cX1_together 61 = .ok (.if_icmp .ne 46, 3) := by decide +kernel
theorem dX1_together_64 : decode cX1_together 64 = .ok (.iinc 4 1, 3) := by decide +kernel
theorem dX1_together_67 : decode cX1_together 67 = .ok (.iload 5, 2) := by decide +kernel
theorem dX1_together_69 : decode cX1_together 69 = .ok (.aload 9, 2) := by decide +kernel
theorem dX1_together_71 : decode cX1_together 71 = .ok (.invokevirtual 78, 3) := by decide +kernel
theorem dX1_together_74 : decode cX1_together 74 = .ok (.ifCond .eq 7, 3) := by decide +kernel
theorem dX1_together_77 : decode cX1_together 77 = .ok (.iconst 1, 1) := by decide +kernel
theorem dX1_together_78 : decode cX1_together 78 = .ok (.goto 4, 3) := by decide +kernel
theorem dX1_together_81 : decode cX1_together 81 = .ok (.iconst 0, 1) := by decide +kernel
theorem dX1_together_82 : decode cX1_together 82 = .ok (.iadd, 1) := by decide +kernel
theorem dX1_together_83 : decode cX1_together 83 = .ok (.istore 5, 2) := by decide +kernel
theorem dX1_together_85 : decode cX1_together 85 = .ok (.iload 6, 2) := by decide +kernel
theorem dX1_together_87 : decode cX1_together 87 = .ok (.aload 9, 2) := by decide +kernel
theorem dX1_together_89 : decode cX1_together 89 = .ok (.getfield 85, 3) := by decide +kernel
theorem dX1_together_92 : decode cX1_together 92 = .ok (.iadd, 1) := by decide +kernel
theorem dX1_together_93 : decode cX1_together 93 = .ok (.istore 6, 2) := by decide +kernel
theorem dX1_together_95 : decode cX1_together 95 = .ok (.iload 7, 2) := by decide +kernel
theorem dX1_together_97 : decode cX1_together 97 = .ok (.aload 9, 2) := by decide +kernel
theorem dX1_together_99 : decode cX1_together 99 = .ok (.getfield 85, 3) := by decide +kernel
theorem dX1_together_102 : decode cX1_together 102 = .ok (.invokestatic 88, 3) := by decide +kernel
theorem dX1_together_105 : decode cX1_together 105 = .ok (.istore 7, 2) := by decide +kernel
theorem dX1_together_107 : decode cX1_together 107 = .ok (.iinc 8 1, 3) := by decide +kernel
theorem dX1_together_110 : decode cX1_together 110 = .ok (.goto (-95), 3) := by decide +kernel
theorem dX1_together_113 : decode cX1_together 113 = .ok (.iload_n 3, 1) := by decide +kernel
theorem dX1_together_114 : decode cX1_together 114 = .ok (.iconst 2, 1) := by decide +kernel
theorem dX1_together_115 : decode cX1_together 115 = .ok (.if_icmp .ge 15, 3) := by decide +kernel
theorem dX1_together_118 : decode cX1_together 118 = .ok (.iload_n 3, 1) := by decide +kernel
theorem dX1_together_119 : decode cX1_together 119 = .ok (.ifCond .ne 8, 3) := by decide +kernel
theorem dX1_together_122 : decode cX1_together 122 = .ok (.iload 4, 2) := by decide +kernel
theorem dX1_together_124 : decode cX1_together 124 = .ok (.goto 5, 3) := by decide +kernel
theorem dX1_together_127 : decode cX1_together 127 = .ok (.iload 5, 2) := by decide +kernel
theorem dX1_together_129 : decode cX1_together 129 = .ok (.ireturn, 1) := by decide +kernel
theorem dX1_together_130 : decode cX1_together 130 = .ok (.iload_n 3, 1) := by decide +kernel
theorem dX1_together_131 : decode cX1_together 131 = .ok (.iconst 2, 1) := by decide +kernel
theorem dX1_together_132 : decode cX1_together 132 = .ok (.if_icmp .ne 8, 3) := by decide +kernel
theorem dX1_together_135 : decode cX1_together 135 = .ok (.iload 6, 2) := by decide +kernel
theorem dX1_together_137 : decode cX1_together 137 = .ok (.goto 5, 3) := by decide +kernel
theorem dX1_together_140 : decode cX1_together 140 = .ok (.iload 7, 2) := by decide +kernel
theorem dX1_together_142 : decode cX1_together 142 = .ok (.ireturn, 1) := by decide +kernel
theorem dX1_about_0 : decode cX1_about 0 = .ok (.iload_n 1, 1) := by decide +kernel
theorem dX1_about_1 : decode cX1_about 1 = .ok (.ifCond .lt 14, 3) := by decide +kernel
theorem dX1_about_4 : decode cX1_about 4 = .ok (.iload_n 1, 1) := by decide +kernel
theorem dX1_about_5 : decode cX1_about 5 = .ok (.aload_n 0, 1) := by decide +kernel
theorem dX1_about_6 : decode cX1_about 6 = .ok (.getfield 25, 3) := by decide +kernel
theorem dX1_about_9 : decode cX1_about 9 = .ok (.invokevirtual 47, 3) := by decide +kernel
theorem dX1_about_12 : decode cX1_about 12 = .ok (.if_icmp .lt 6, 3) := by decide +kernel
theorem dX1_about_15 : decode cX1_about 15 = .ok (.ldc 94, 2) := by decide +kernel
theorem dX1_about_17 : decode cX1_about 17 = .ok (.ireturn, 1) := by decide +kernel
theorem dX1_about_18 : decode cX1_about 18 = .ok (.aload_n 0, 1) := by decide +kernel
theorem dX1_about_19 : decode cX1_about 19 = .ok (.getfield 25, 3) := by decide +kernel
theorem dX1_about_22 : decode cX1_about 22 = .ok (.iload_n 1, 1) := by decide +kernel
theorem dX1_about_23 : decode cX1_about 23 = .ok (.invokevirtual 59, 3) := by decide +kernel
theorem dX1_about_26 : decode cX1_about 26 = .ok (.checkcast 70, 3) := by decide +kernel
theorem dX1_about_29 : decode cX1_about 29 = .ok (.astore_n 3, 1) := by decide +kernel
theorem dX1_about_30 : decode cX1_about 30 = .ok (.iload_n 2, 1) := by decide +kernel
theorem dX1_about_31 : decode cX1_about 31 = .ok (.tableswitch 117 0 7 #[45, 64, 69, 74, 80, 86, 107, 112], 45) := by decide +kernel
theorem dX1_about_76 : decode cX1_about 76 = .ok (.aload_n 3, 1) := by decide +kernel
theorem dX1_about_77 : decode cX1_about 77 = .ok (.getfield 95, 3) := by decide +kernel
theorem dX1_about_80 : decode cX1_about 80 = .ok (.ifnonnull 7, 3) := by decide +kernel
theorem dX1_about_83 : decode cX1_about 83 = .ok (.iconst (-1), 1) := by decide +kernel
theorem dX1_about_84 : decode cX1_about 84 = .ok (.goto 10, 3) := by decide +kernel
theorem dX1_about_87 : decode cX1_about 87 = .ok (.aload_n 3, 1) := by decide +kernel
theorem dX1_about_88 : decode cX1_about 88 = .ok (.getfield 95, 3) := by decide +kernel
theorem dX1_about_91 : decode cX1_about 91 = .ok (.getfield 99, 3) := by decide +kernel
theorem dX1_about_94 : decode cX1_about 94 = .ok (.ireturn, 1) := by decide +kernel
theorem dX1_about_95 : decode cX1_about 95 = .ok (.aload_n 3, 1) := by decide +kernel
theorem dX1_about_96 : decode cX1_about 96 = .ok (.getfield 85, 3) := by decide +kernel
theorem dX1_about_99 : decode cX1_about 99 = .ok (.ireturn, 1) := by decide +kernel
theorem dX1_about_100 : decode cX1_about 100 = .ok (.aload_n 3, 1) := by decide +kernel
theorem dX1_about_101 : decode cX1_about 101 = .ok (.getfield 102, 3) := by decide +kernel
theorem dX1_about_104 : decode cX1_about 104 = .ok (.ireturn, 1) := by decide +kernel
theorem dX1_about_105 : decode cX1_about 105 = .ok (.aload_n 0, 1) := by decide +kernel
theorem dX1_about_106 : decode cX1_about 106 = .ok (.aload_n 3, 1) := by decide +kernel
theorem dX1_about_107 : decode cX1_about 107 = .ok (.invokevirtual 105, 3) := by decide +kernel
theorem dX1_about_110 : decode cX1_about 110 = .ok (.ireturn, 1) := by decide +kernel
theorem dX1_about_111 : decode cX1_about 111 = .ok (.aload_n 0, 1) := by decide +kernel
theorem dX1_about_112 : decode cX1_about 112 = .ok (.aload_n 3, 1) := by decide +kernel
theorem dX1_about_113 : decode cX1_about 113 = .ok (.invokevirtual 109, 3) := by decide +kernel
theorem dX1_about_116 : decode cX1_about 116 = .ok (.ireturn, 1) := by decide +kernel
theorem dX1_about_117 : decode cX1_about 117 = .ok (.aload_n 3, 1) := by decide +kernel
theorem dX1_about_118 : decode cX1_about 118 = .ok (.getfield 95, 3) := by decide +kernel
theorem dX1_about_121 : decode cX1_about 121 = .ok (.ifnonnull 7, 3) := by decide +kernel
theorem dX1_about_124 : decode cX1_about 124 = .ok (.iconst 0, 1) := by decide +kernel
theorem dX1_about_125 : decode cX1_about 125 = .ok (.goto 12, 3) := by decide +kernel
theorem dX1_about_128 : decode cX1_about 128 = .ok (.aload_n 0, 1) := by decide +kernel
theorem dX1_about_129 : decode cX1_about 129 = .ok (.aload_n 3, 1) := by decide +kernel
theorem dX1_about_130 : decode cX1_about 130 = .ok (.aload_n 3, 1) := by decide +kernel
theorem dX1_about_131 : decode cX1_about 131 = .ok (.getfield 95, 3) := by decide +kernel
theorem dX1_about_134 : decode cX1_about 134 = .ok (.invokevirtual 112, 3) := by decide +kernel
theorem dX1_about_137 : decode cX1_about 137 = .ok (.ireturn, 1) := by decide +kernel
theorem dX1_about_138 : decode cX1_about 138 = .ok (.aload_n 3, 1) := by decide +kernel
theorem dX1_about_139 : decode cX1_about 139 = .ok (.getfield 116, 3) := by decide +kernel
theorem dX1_about_142 : decode cX1_about 142 = .ok (.ireturn, 1) := by decide +kernel
theorem dX1_about_143 : decode cX1_about 143 = .ok (.aload_n 3, 1) := by decide +kernel
theorem dX1_about_144 : decode cX1_about 144 = .ok (.getfield 119, 3) := by decide +kernel
theorem dX1_about_147 : decode cX1_about 147 = .ok (.ireturn, 1) := by decide +kernel
theorem dX1_about_148 : decode cX1_about 148 = .ok (.ldc 94, 2) := by decide +kernel
theorem dX1_about_150 : decode cX1_about 150 = .ok (.ireturn, 1) := by decide +kernel
theorem dX1_passWeek_0 : decode cX1_passWeek 0 = .ok (.iconst 0, 1) := by decide +kernel
theorem dX1_passWeek_1 : decode cX1_passWeek 1 = .ok (.istore_n 1, 1) := by decide +kernel
theorem dX1_passWeek_2 : decode cX1_passWeek 2 = .ok (.iload_n 1, 1) := by decide +kernel
theorem dX1_passWeek_3 : decode cX1_passWeek 3 = .ok (.aload_n 0, 1) := by decide +kernel
theorem dX1_passWeek_4 : decode cX1_passWeek 4 = .ok (.getfield 25, 3) := by decide +kernel
theorem dX1_passWeek_7 : decode cX1_passWeek 7 = .ok (.invokevirtual 47, 3) := by decide +kernel
theorem dX1_passWeek_10 : decode cX1_passWeek 10 = .ok (.if_icmp .ge 44, 3) := by decide +kernel
theorem dX1_passWeek_13 : decode cX1_passWeek 13 = .ok (.aload_n 0, 1) := by decide +kernel
theorem dX1_passWeek_14 : decode cX1_passWeek 14 = .ok (.getfield 25, 3) := by decide +kernel
theorem dX1_passWeek_17 : decode cX1_passWeek 17 = .ok (.iload_n 1, 1) := by decide +kernel
theorem dX1_passWeek_18 : decode cX1_passWeek 18 = .ok (.invokevirtual 59, 3) := by decide +kernel
theorem dX1_passWeek_21 : decode cX1_passWeek 21 = .ok (.checkcast 70, 3) := by decide +kernel
theorem dX1_passWeek_24 : decode cX1_passWeek 24 = .ok (.astore_n 2, 1) := by decide +kernel
theorem dX1_passWeek_25 : decode cX1_passWeek 25 = .ok (.aload_n 2, 1) := by decide +kernel
theorem dX1_passWeek_26 : decode cX1_passWeek 26 = .ok (.getfield 75, 3) := by decide +kernel
theorem dX1_passWeek_29 : decode cX1_passWeek 29 = .ok (.ifCond .ne 19, 3) := by decide +kernel
theorem dX1_passWeek_32 : decode cX1_passWeek 32 = .ok (.aload_n 2, 1) := by decide +kernel
theorem dX1_passWeek_33 : decode cX1_passWeek 33 = .ok (.getfield 95, 3) := by decide +kernel
theorem dX1_passWeek_36 : decode cX1_passWeek 36 = .ok (.ifnull 12, 3) := by decide +kernel
theorem dX1_passWeek_39 : decode cX1_passWeek 39 = .ok (.aload_n 0, 1) := by decide +kernel
theorem dX1_passWeek_40 : decode cX1_passWeek 40 = .ok (.aload_n 2, 1) := by decide +kernel
theorem dX1_passWeek_41 : decode cX1_passWeek 41 = .ok (.aload_n 2, 1) := by decide +kernel
theorem dX1_passWeek_42 : decode cX1_passWeek 42 = .ok (.getfield 95, 3) := by decide +kernel
theorem dX1_passWeek_45 : decode cX1_passWeek 45 = .ok (.invokevirtual 122, 3) := by decide +kernel
theorem dX1_passWeek_48 : decode cX1_passWeek 48 = .ok (.iinc 1 1, 3) := by decide +kernel
theorem dX1_passWeek_51 : decode cX1_passWeek 51 = .ok (.goto (-49), 3) := by decide +kernel
theorem dX1_passWeek_54 : decode cX1_passWeek 54 = .ok (.iconst 0, 1) := by decide +kernel
theorem dX1_passWeek_55 : decode cX1_passWeek 55 = .ok (.istore_n 1, 1) := by decide +kernel
theorem dX1_passWeek_56 : decode cX1_passWeek 56 = .ok (.iload_n 1, 1) := by decide +kernel
theorem dX1_passWeek_57 : decode cX1_passWeek 57 = .ok (.aload_n 0, 1) := by decide +kernel
theorem dX1_passWeek_58 : decode cX1_passWeek 58 = .ok (.getfield 25, 3) := by decide +kernel
theorem dX1_passWeek_61 : decode cX1_passWeek 61 = .ok (.invokevirtual 47, 3) := by decide +kernel
theorem dX1_passWeek_64 : decode cX1_passWeek 64 = .ok (.if_icmp .ge 40, 3) := by decide +kernel
theorem dX1_passWeek_67 : decode cX1_passWeek 67 = .ok (.aload_n 0, 1) := by decide +kernel
theorem dX1_passWeek_68 : decode cX1_passWeek 68 = .ok (.getfield 25, 3) := by decide +kernel
theorem dX1_passWeek_71 : decode cX1_passWeek 71 = .ok (.iload_n 1, 1) := by decide +kernel
theorem dX1_passWeek_72 : decode cX1_passWeek 72 = .ok (.invokevirtual 59, 3) := by decide +kernel
theorem dX1_passWeek_75 : decode cX1_passWeek 75 = .ok (.checkcast 70, 3) := by decide +kernel
theorem dX1_passWeek_78 : decode cX1_passWeek 78 = .ok (.astore_n 2, 1) := by decide +kernel
theorem dX1_passWeek_79 : decode cX1_passWeek 79 = .ok (.aload_n 2, 1) := by decide +kernel
theorem dX1_passWeek_80 : decode cX1_passWeek 80 = .ok (.getfield 75, 3) := by decide +kernel
theorem dX1_passWeek_83 : decode cX1_passWeek 83 = .ok (.ifCond .ne 15, 3) := by decide +kernel
theorem dX1_passWeek_86 : decode cX1_passWeek 86 = .ok (.aload_n 2, 1) := by decide +kernel
theorem dX1_passWeek_87 : decode cX1_passWeek 87 = .ok (.invokevirtual 78, 3) := by decide +kernel
theorem dX1_passWeek_90 : decode cX1_passWeek 90 = .ok (.ifCond .eq 8, 3) := by decide +kernel
theorem dX1_passWeek_93 : decode cX1_passWeek 93 = .ok (.aload_n 0, 1) := by decide +kernel
theorem dX1_passWeek_94 : decode cX1_passWeek 94 = .ok (.aload_n 2, 1) := by decide +kernel
theorem dX1_passWeek_95 : decode cX1_passWeek 95 = .ok (.invokevirtual 126, 3) := by decide +kernel
theorem dX1_passWeek_98 : decode cX1_passWeek 98 = .ok (.iinc 1 1, 3) := by decide +kernel
theorem dX1_passWeek_101 : decode cX1_passWeek 101 = .ok (.goto (-45), 3) := by decide +kernel
theorem dX1_passWeek_104 : decode cX1_passWeek 104 = .ok (.iconst 0, 1) := by decide +kernel
theorem dX1_passWeek_105 : decode cX1_passWeek 105 = .ok (.istore_n 1, 1) := by decide +kernel
theorem dX1_passWeek_106 : decode cX1_passWeek 106 = .ok (.iload_n 1, 1) := by decide +kernel
theorem dX1_passWeek_107 : decode cX1_passWeek 107 = .ok (.aload_n 0, 1) := by decide +kernel
theorem dX1_passWeek_108 : decode cX1_passWeek 108 = .ok (.getfield 25, 3) := by decide +kernel
theorem dX1_passWeek_111 : decode cX1_passWeek 111 = .ok (.invokevirtual 47, 3) := by decide +kernel
theorem dX1_passWeek_114 : decode cX1_passWeek 114 = .ok (.if_icmp .ge 51, 3) := by decide +kernel
theorem dX1_passWeek_117 : decode cX1_passWeek 117 = .ok (.aload_n 0, 1) := by decide +kernel
theorem dX1_passWeek_118 : decode cX1_passWeek 118 = .ok (.getfield 25, 3) := by decide +kernel
theorem dX1_passWeek_121 : decode cX1_passWeek 121 = .ok (.iload_n 1, 1) := by decide +kernel
theorem dX1_passWeek_122 : decode cX1_passWeek 122 = .ok (.invokevirtual 59, 3) := by decide +kernel
theorem dX1_passWeek_125 : decode cX1_passWeek 125 = .ok (.checkcast 70, 3) := by decide +kernel
theorem dX1_passWeek_128 : decode cX1_passWeek 128 = .ok (.astore_n 2, 1) := by decide +kernel
theorem dX1_passWeek_129 : decode cX1_passWeek 129 = .ok (.aload_n 2, 1) := by decide +kernel
theorem dX1_passWeek_130 : decode cX1_passWeek 130 = .ok (.invokevirtual 78, 3) := by decide +kernel
theorem dX1_passWeek_133 : decode cX1_passWeek 133 = .ok (.ifCond .eq 16, 3) := by decide +kernel
theorem dX1_passWeek_136 : decode cX1_passWeek 136 = .ok (.aload_n 2, 1) := by decide +kernel
theorem dX1_passWeek_137 : decode cX1_passWeek 137 = .ok (.dup, 1) := by decide +kernel
theorem dX1_passWeek_138 : decode cX1_passWeek 138 = .ok (.getfield 85, 3) := by decide +kernel
theorem dX1_passWeek_141 : decode cX1_passWeek 141 = .ok (.iconst 1, 1) := by decide +kernel
theorem dX1_passWeek_142 : decode cX1_passWeek 142 = .ok (.iadd, 1) := by decide +kernel
theorem dX1_passWeek_143 : decode cX1_passWeek 143 = .ok (.putfield 85, 3) := by decide +kernel
theorem dX1_passWeek_146 : decode cX1_passWeek 146 = .ok (.goto 13, 3) := by decide +kernel
theorem dX1_passWeek_149 : decode cX1_passWeek 149 = .ok (.aload_n 2, 1) := by decide +kernel
theorem dX1_passWeek_150 : decode cX1_passWeek 150 = .ok (.dup, 1) := by decide +kernel
theorem dX1_passWeek_151 : decode cX1_passWeek 151 = .ok (.getfield 102, 3) := by decide +kernel
theorem dX1_passWeek_154 : decode cX1_passWeek 154 = .ok (.iconst 1, 1) := by decide +kernel
theorem dX1_passWeek_155 : decode cX1_passWeek 155 = .ok (.iadd, 1) := by decide +kernel
theorem dX1_passWeek_156 : decode cX1_passWeek 156 = .ok (.putfield 102, 3) := by decide +kernel
theorem dX1_passWeek_159 : decode cX1_passWeek 159 = .ok (.iinc 1 1, 3) := by decide +kernel
theorem dX1_passWeek_162 : decode cX1_passWeek 162 = .ok (.goto (-56), 3) := by decide +kernel
theorem dX1_passWeek_165 : decode cX1_passWeek 165 = .ok (.aload_n 0, 1) := by decide +kernel
theorem dX1_passWeek_166 : decode cX1_passWeek 166 = .ok (.getfield 28, 3) := by decide +kernel
theorem dX1_passWeek_169 : decode cX1_passWeek 169 = .ok (.iconst 0, 1) := by decide +kernel
theorem dX1_passWeek_170 : decode cX1_passWeek 170 = .ok (.dup2, 1) := by decide +kernel
theorem dX1_passWeek_171 : decode cX1_passWeek 171 = .ok (.iaload, 1) := by decide +kernel
theorem dX1_passWeek_172 : decode cX1_passWeek 172 = .ok (.iconst 1, 1) := by decide +kernel
theorem dX1_passWeek_173 : decode cX1_passWeek 173 = .ok (.iadd, 1) := by decide +kernel
theorem dX1_passWeek_174 : decode cX1_passWeek 174 = .ok (.iastore, 1) := by decide +kernel
theorem dX1_passWeek_175 : decode cX1_passWeek 175 = .ok (.return_, 1) := by decide +kernel
theorem dX1_lookAgain_0 : decode cX1_lookAgain 0 = .ok (.aload_n 1, 1) := by decide +kernel
theorem dX1_lookAgain_1 : decode cX1_lookAgain 1 = .ok (.getfield 130, 3) := by decide +kernel
theorem dX1_lookAgain_4 : decode cX1_lookAgain 4 = .ok (.ifCond .ne 18, 3) := by decide +kernel
theorem dX1_lookAgain_7 : decode cX1_lookAgain 7 = .ok (.aload_n 1, 1) := by decide +kernel
theorem dX1_lookAgain_8 : decode cX1_lookAgain 8 = .ok (.getfield 102, 3) := by decide +kernel
theorem dX1_lookAgain_11 : decode cX1_lookAgain 11 = .ok (.aload_n 0, 1) := by decide +kernel
theorem dX1_lookAgain_12 : decode cX1_lookAgain 12 = .ok (.getfield 32, 3) := by decide +kernel
theorem dX1_lookAgain_15 : decode cX1_lookAgain 15 = .ok (.iconst 4, 1) := by decide +kernel
theorem dX1_lookAgain_16 : decode cX1_lookAgain 16 = .ok (.invokevirtual 136, 3) := by decide +kernel
theorem dX1_lookAgain_19 : decode cX1_lookAgain 19 = .ok (.if_icmp .ge 4, 3) := by decide +kernel
theorem dX1_lookAgain_22 : decode cX1_lookAgain 22 = .ok (.return_, 1) := by decide +kernel
theorem dX1_lookAgain_23 : decode cX1_lookAgain 23 = .ok (.aload_n 1, 1) := by decide +kernel
theorem dX1_lookAgain_24 : decode cX1_lookAgain 24 = .ok (.iconst 1, 1) := by decide +kernel
theorem dX1_lookAgain_25 : decode cX1_lookAgain 25 = .ok (.putfield 130, 3) := by decide +kernel
theorem dX1_lookAgain_28 : decode cX1_lookAgain 28 = .ok (.aload_n 2, 1) := by decide +kernel
theorem dX1_lookAgain_29 : decode cX1_lookAgain 29 = .ok (.iconst 1, 1) := by decide +kernel
theorem dX1_lookAgain_30 : decode cX1_lookAgain 30 = .ok (.putfield 130, 3) := by decide +kernel
theorem dX1_lookAgain_33 : decode cX1_lookAgain 33 = .ok (.aload_n 0, 1) := by decide +kernel
theorem dX1_lookAgain_34 : decode cX1_lookAgain 34 = .ok (.aload_n 1, 1) := by decide +kernel
theorem dX1_lookAgain_35 : decode cX1_lookAgain 35 = .ok (.aload_n 2, 1) := by decide +kernel
theorem dX1_lookAgain_36 : decode cX1_lookAgain 36 = .ok (.invokevirtual 112, 3) := by decide +kernel
theorem dX1_lookAgain_39 : decode cX1_lookAgain 39 = .ok (.aload_n 1, 1) := by decide +kernel
theorem dX1_lookAgain_40 : decode cX1_lookAgain 40 = .ok (.getfield 140, 3) := by decide +kernel
theorem dX1_lookAgain_43 : decode cX1_lookAgain 43 = .ok (.if_icmp .lt 16, 3) := by decide +kernel
theorem dX1_lookAgain_46 : decode cX1_lookAgain 46 = .ok (.aload_n 0, 1) := by decide +kernel
theorem dX1_lookAgain_47 : decode cX1_lookAgain 47 = .ok (.aload_n 2, 1) := by decide +kernel
theorem dX1_lookAgain_48 : decode cX1_lookAgain 48 = .ok (.aload_n 1, 1) := by decide +kernel
theorem dX1_lookAgain_49 : decode cX1_lookAgain 49 = .ok (.invokevirtual 112, 3) := by decide +kernel
theorem dX1_lookAgain_52 : decode cX1_lookAgain 52 = .ok (.aload_n 2, 1) := by decide +kernel
theorem dX1_lookAgain_53 : decode cX1_lookAgain 53 = .ok (.getfield 140, 3) := by decide +kernel
theorem dX1_lookAgain_56 : decode cX1_lookAgain 56 = .ok (.if_icmp .ge 41, 3) := by decide +kernel
theorem dX1_lookAgain_59 : decode cX1_lookAgain 59 = .ok (.aload_n 1, 1) := by decide +kernel
theorem dX1_lookAgain_60 : decode cX1_lookAgain 60 = .ok (.invokevirtual 143, 3) := by decide +kernel
theorem dX1_lookAgain_63 : decode cX1_lookAgain 63 = .ok (.aload_n 2, 1) := by decide +kernel
theorem dX1_lookAgain_64 : decode cX1_lookAgain 64 = .ok (.invokevirtual 143, 3) := by decide +kernel
theorem dX1_lookAgain_67 : decode cX1_lookAgain 67 = .ok (.aload_n 1, 1) := by decide +kernel
theorem dX1_lookAgain_68 : decode cX1_lookAgain 68 = .ok (.dup, 1) := by decide +kernel
theorem dX1_lookAgain_69 : decode cX1_lookAgain 69 = .ok (.getfield 119, 3) := by decide +kernel
theorem dX1_lookAgain_72 : decode cX1_lookAgain 72 = .ok (.iconst 1, 1) := by decide +kernel
theorem dX1_lookAgain_73 : decode cX1_lookAgain 73 = .ok (.iadd, 1) := by decide +kernel
theorem dX1_lookAgain_74 : decode cX1_lookAgain 74 = .ok (.putfield 119, 3) := by decide +kernel
theorem dX1_lookAgain_77 : decode cX1_lookAgain 77 = .ok (.aload_n 2, 1) := by decide +kernel
theorem dX1_lookAgain_78 : decode cX1_lookAgain 78 = .ok (.dup, 1) := by decide +kernel
theorem dX1_lookAgain_79 : decode cX1_lookAgain 79 = .ok (.getfield 119, 3) := by decide +kernel
theorem dX1_lookAgain_82 : decode cX1_lookAgain 82 = .ok (.iconst 1, 1) := by decide +kernel
theorem dX1_lookAgain_83 : decode cX1_lookAgain 83 = .ok (.iadd, 1) := by decide +kernel
theorem dX1_lookAgain_84 : decode cX1_lookAgain 84 = .ok (.putfield 119, 3) := by decide +kernel
theorem dX1_lookAgain_87 : decode cX1_lookAgain 87 = .ok (.aload_n 0, 1) := by decide +kernel
theorem dX1_lookAgain_88 : decode cX1_lookAgain 88 = .ok (.getfield 28, 3) := by decide +kernel
theorem dX1_lookAgain_91 : decode cX1_lookAgain 91 = .ok (.iconst 4, 1) := by decide +kernel
theorem dX1_lookAgain_92 : decode cX1_lookAgain 92 = .ok (.dup2, 1) := by decide +kernel
theorem dX1_lookAgain_93 : decode cX1_lookAgain 93 = .ok (.iaload, 1) := by decide +kernel
theorem dX1_lookAgain_94 : decode cX1_lookAgain 94 = .ok (.iconst 1, 1) := by decide +kernel
theorem dX1_lookAgain_95 : decode cX1_lookAgain 95 = .ok (.iadd, 1) := by decide +kernel
theorem dX1_lookAgain_96 : decode cX1_lookAgain 96 = .ok (.iastore, 1) := by decide +kernel
theorem dX1_lookAgain_97 : decode cX1_lookAgain 97 = .ok (.return_, 1) := by decide +kernel
theorem dX1_goOut_0 : decode cX1_goOut 0 = .ok (.aload_n 0, 1) := by decide +kernel
theorem dX1_goOut_1 : decode cX1_goOut 1 = .ok (.getfield 32, 3) := by decide +kernel
theorem dX1_goOut_4 : decode cX1_goOut 4 = .ok (.iconst 5, 1) := by decide +kernel
theorem dX1_goOut_5 : decode cX1_goOut 5 = .ok (.invokevirtual 136, 3) := by decide +kernel
theorem dX1_goOut_8 : decode cX1_goOut 8 = .ok (.iconst 1, 1) := by decide +kernel
theorem dX1_goOut_9 : decode cX1_goOut 9 = .ok (.if_icmp .ne 7, 3) := by decide +kernel
theorem dX1_goOut_12 : decode cX1_goOut 12 = .ok (.iconst 1, 1) := by decide +kernel
theorem dX1_goOut_13 : decode cX1_goOut 13 = .ok (.goto 4, 3) := by decide +kernel
theorem dX1_goOut_16 : decode cX1_goOut 16 = .ok (.iconst 0, 1) := by decide +kernel
theorem dX1_goOut_17 : decode cX1_goOut 17 = .ok (.istore_n 2, 1) := by decide +kernel
theorem dX1_goOut_18 : decode cX1_goOut 18 = .ok (.iconst 0, 1) := by decide +kernel
theorem dX1_goOut_19 : decode cX1_goOut 19 = .ok (.istore_n 3, 1) := by decide +kernel
theorem dX1_goOut_20 : decode cX1_goOut 20 = .ok (.iconst 0, 1) := by decide +kernel
theorem dX1_goOut_21 : decode cX1_goOut 21 = .ok (.istore 4, 2) := by decide +kernel
theorem dX1_goOut_23 : decode cX1_goOut 23 = .ok (.iload 4, 2) := by decide +kernel
theorem dX1_goOut_25 : decode cX1_goOut 25 = .ok (.aload_n 0, 1) := by decide +kernel
theorem dX1_goOut_26 : decode cX1_goOut 26 = .ok (.getfield 25, 3) := by decide +kernel
theorem dX1_goOut_29 : decode cX1_goOut 29 = .ok (.invokevirtual 47, 3) := by decide +kernel
theorem dX1_goOut_32 : decode cX1_goOut 32 = .ok (.if_icmp .ge 36, 3) := by decide +kernel
theorem dX1_goOut_35 : decode cX1_goOut 35 = .ok (.iload_n 3, 1) := by decide +kernel
theorem dX1_goOut_36 : decode cX1_goOut 36 = .ok (.aload_n 0, 1) := by decide +kernel
theorem dX1_goOut_37 : decode cX1_goOut 37 = .ok (.getfield 25, 3) := by decide +kernel
theorem dX1_goOut_40 : decode cX1_goOut 40 = .ok (.iload 4, 2) := by decide +kernel
theorem dX1_goOut_42 : decode cX1_goOut 42 = .ok (.invokevirtual 59, 3) := by decide +kernel
theorem dX1_goOut_45 : decode cX1_goOut 45 = .ok (.checkcast 70, 3) := by decide +kernel
theorem dX1_goOut_48 : decode cX1_goOut 48 = .ok (.iload_n 2, 1) := by decide +kernel
theorem dX1_goOut_49 : decode cX1_goOut 49 = .ok (.invokestatic 146, 3) := by decide +kernel
theorem dX1_goOut_52 : decode cX1_goOut 52 = .ok (.ifCond .eq 7, 3) := by decide +kernel
theorem dX1_goOut_55 : decode cX1_goOut 55 = .ok (.iconst 1, 1) := by decide +kernel
theorem dX1_goOut_56 : decode cX1_goOut 56 = .ok (.goto 4, 3) := by decide +kernel
theorem dX1_goOut_59 : decode cX1_goOut 59 = .ok (.iconst 0, 1) := by decide +kernel
theorem dX1_goOut_60 : decode cX1_goOut 60 = .ok (.iadd, 1) := by decide +kernel
theorem dX1_goOut_61 : decode cX1_goOut 61 = .ok (.istore_n 3, 1) := by decide +kernel
theorem dX1_goOut_62 : decode cX1_goOut 62 = .ok (.iinc 4 1, 3) := by decide +kernel
theorem dX1_goOut_65 : decode cX1_goOut 65 = .ok (.goto (-42), 3) := by decide +kernel
theorem dX1_goOut_68 : decode cX1_goOut 68 = .ok (.iload_n 3, 1) := by decide +kernel
theorem dX1_goOut_69 : decode cX1_goOut 69 = .ok (.ifCond .ne 4, 3) := by decide +kernel
theorem dX1_goOut_72 : decode cX1_goOut 72 = .ok (.return_, 1) := by decide +kernel
theorem dX1_goOut_73 : decode cX1_goOut 73 = .ok (.aload_n 0, 1) := by decide +kernel
theorem dX1_goOut_74 : decode cX1_goOut 74 = .ok (.iload_n 3, 1) := by decide +kernel
theorem dX1_goOut_75 : decode cX1_goOut 75 = .ok (.invokevirtual 150, 3) := by decide +kernel
theorem dX1_goOut_78 : decode cX1_goOut 78 = .ok (.istore 4, 2) := by decide +kernel
theorem dX1_goOut_80 : decode cX1_goOut 80 = .ok (.iconst 0, 1) := by decide +kernel
theorem dX1_goOut_81 : decode cX1_goOut 81 = .ok (.istore 5, 2) := by decide +kernel
theorem dX1_goOut_83 : decode cX1_goOut 83 = .ok (.iload 5, 2) := by decide +kernel
theorem dX1_goOut_85 : decode cX1_goOut 85 = .ok (.aload_n 0, 1) := by decide +kernel
theorem dX1_goOut_86 : decode cX1_goOut 86 = .ok (.getfield 25, 3) := by decide +kernel
theorem dX1_goOut_89 : decode cX1_goOut 89 = .ok (.invokevirtual 47, 3) := by decide +kernel
theorem dX1_goOut_92 : decode cX1_goOut 92 = .ok (.if_icmp .ge 48, 3) := by decide +kernel
theorem dX1_goOut_95 : decode cX1_goOut 95 = .ok (.aload_n 0, 1) := by decide +kernel
theorem dX1_goOut_96 : decode cX1_goOut 96 = .ok (.getfield 25, 3) := by decide +kernel
theorem dX1_goOut_99 : decode cX1_goOut 99 = .ok (.iload 5, 2) := by decide +kernel
theorem dX1_goOut_101 : decode cX1_goOut 101 = .ok (.invokevirtual 59, 3) := by decide +kernel
theorem dX1_goOut_104 : decode cX1_goOut 104 = .ok (.checkcast 70, 3) := by decide +kernel
theorem dX1_goOut_107 : decode cX1_goOut 107 = .ok (.astore 6, 2) := by decide +kernel
theorem dX1_goOut_109 : decode cX1_goOut 109 = .ok (.aload 6, 2) := by decide +kernel
theorem dX1_goOut_111 : decode cX1_goOut 111 = .ok (.iload_n 2, 1) := by decide +kernel
theorem dX1_goOut_112 : decode cX1_goOut 112 = .ok (.invokestatic 146, 3) := by decide +kernel
theorem dX1_goOut_115 : decode cX1_goOut 115 = .ok (.ifCond .eq 19, 3) := by decide +kernel
theorem dX1_goOut_118 : decode cX1_goOut 118 = .ok (.iload 4, 2) := by decide +kernel
theorem dX1_goOut_120 : decode cX1_goOut 120 = .ok (.ifCond .ne 11, 3) := by decide +kernel
theorem dX1_goOut_123 : decode cX1_goOut 123 = .ok (.aload_n 0, 1) := by decide +kernel
theorem dX1_goOut_124 : decode cX1_goOut 124 = .ok (.aload_n 1, 1) := by decide +kernel
theorem dX1_goOut_125 : decode cX1_goOut 125 = .ok (.aload 6, 2) := by decide +kernel
theorem dX1_goOut_127 : decode cX1_goOut 127 = .ok (.invokevirtual 153, 3) := by decide +kernel
theorem dX1_goOut_130 : decode cX1_goOut 130 = .ok (.return_, 1) := by decide +kernel
theorem dX1_goOut_131 : decode cX1_goOut 131 = .ok (.iinc 4 (-1), 3) := by decide +kernel
theorem dX1_goOut_134 : decode cX1_goOut 134 = .ok (.iinc 5 1, 3) := by decide +kernel
theorem dX1_goOut_137 : decode cX1_goOut 137 = .ok (.goto (-54), 3) := by decide +kernel
theorem dX1_goOut_140 : decode cX1_goOut 140 = .ok (.return_, 1) := by decide +kernel
theorem dX1_isThere_0 : decode cX1_isThere 0 = .ok (.aload_n 0, 1) := by decide +kernel
theorem dX1_isThere_1 : decode cX1_isThere 1 = .ok (.getfield 75, 3) := by decide +kernel
theorem dX1_isThere_4 : decode cX1_isThere 4 = .ok (.iconst 1, 1) := by decide +kernel
theorem dX1_isThere_5 : decode cX1_isThere 5 = .ok (.if_icmp .ne 18, 3) := by decide +kernel
theorem dX1_isThere_8 : decode cX1_isThere 8 = .ok (.iload_n 1, 1) := by decide +kernel
theorem dX1_isThere_9 : decode cX1_isThere 9 = .ok (.ifCond .ne 10, 3) := by decide +kernel
theorem dX1_isThere_12 : decode cX1_isThere 12 = .ok (.aload_n 0, 1) := by decide +kernel
theorem dX1_isThere_13 : decode cX1_isThere 13 = .ok (.invokevirtual 78, 3) := by decide +kernel
theorem dX1_isThere_16 : decode cX1_isThere 16 = .ok (.ifCond .eq 7, 3) := by decide +kernel
theorem dX1_isThere_19 : decode cX1_isThere 19 = .ok (.iconst 1, 1) := by decide +kernel
theorem dX1_isThere_20 : decode cX1_isThere 20 = .ok (.goto 4, 3) := by decide +kernel
theorem dX1_isThere_23 : decode cX1_isThere 23 = .ok (.iconst 0, 1) := by decide +kernel
theorem dX1_isThere_24 : decode cX1_isThere 24 = .ok (.ireturn, 1) := by decide +kernel
theorem dX1_meet_0 : decode cX1_meet 0 = .ok (.aload_n 0, 1) := by decide +kernel
theorem dX1_meet_1 : decode cX1_meet 1 = .ok (.getfield 28, 3) := by decide +kernel
theorem dX1_meet_4 : decode cX1_meet 4 = .ok (.iconst 1, 1) := by decide +kernel
theorem dX1_meet_5 : decode cX1_meet 5 = .ok (.dup2, 1) := by decide +kernel
theorem dX1_meet_6 : decode cX1_meet 6 = .ok (.iaload, 1) := by decide +kernel
theorem dX1_meet_7 : decode cX1_meet 7 = .ok (.iconst 1, 1) := by decide +kernel
theorem dX1_meet_8 : decode cX1_meet 8 = .ok (.iadd, 1) := by decide +kernel
theorem dX1_meet_9 : decode cX1_meet 9 = .ok (.iastore, 1) := by decide +kernel
theorem dX1_meet_10 : decode cX1_meet 10 = .ok (.aload_n 0, 1) := by decide +kernel
theorem dX1_meet_11 : decode cX1_meet 11 = .ok (.aload_n 1, 1) := by decide +kernel
theorem dX1_meet_12 : decode cX1_meet 12 = .ok (.aload_n 2, 1) := by decide +kernel
theorem dX1_meet_13 : decode cX1_meet 13 = .ok (.invokevirtual 112, 3) := by decide +kernel
theorem dX1_meet_16 : decode cX1_meet 16 = .ok (.aload_n 0, 1) := by decide +kernel
theorem dX1_meet_17 : decode cX1_meet 17 = .ok (.invokevirtual 156, 3) := by decide +kernel
theorem dX1_meet_20 : decode cX1_meet 20 = .ok (.iadd, 1) := by decide +kernel
theorem dX1_meet_21 : decode cX1_meet 21 = .ok (.istore_n 3, 1) := by decide +kernel
theorem dX1_meet_22 : decode cX1_meet 22 = .ok (.aload_n 0, 1) := by decide +kernel
theorem dX1_meet_23 : decode cX1_meet 23 = .ok (.aload_n 2, 1) := by decide +kernel
theorem dX1_meet_24 : decode cX1_meet 24 = .ok (.aload_n 1, 1) := by decide +kernel
theorem dX1_meet_25 : decode cX1_meet 25 = .ok (.invokevirtual 112, 3) := by decide +kernel
theorem dX1_meet_28 : decode cX1_meet 28 = .ok (.aload_n 0, 1) := by decide +kernel
theorem dX1_meet_29 : decode cX1_meet 29 = .ok (.invokevirtual 156, 3) := by decide +kernel
theorem dX1_meet_32 : decode cX1_meet 32 = .ok (.iadd, 1) := by decide +kernel
theorem dX1_meet_33 : decode cX1_meet 33 = .ok (.istore 4, 2) := by decide +kernel
theorem dX1_meet_35 : decode cX1_meet 35 = .ok (.aload_n 0, 1) := by decide +kernel
theorem dX1_meet_36 : decode cX1_meet 36 = .ok (.aload_n 1, 1) := by decide +kernel
theorem dX1_meet_37 : decode cX1_meet 37 = .ok (.invokevirtual 105, 3) := by decide +kernel
theorem dX1_meet_40 : decode cX1_meet 40 = .ok (.istore 5, 2) := by decide +kernel
theorem dX1_meet_42 : decode cX1_meet 42 = .ok (.iload_n 3, 1) := by decide +kernel
theorem dX1_meet_43 : decode cX1_meet 43 = .ok (.iload 5, 2) := by decide +kernel
theorem dX1_meet_45 : decode cX1_meet 45 = .ok (.if_icmp .ge 4, 3) := by decide +kernel
theorem dX1_meet_48 : decode cX1_meet 48 = .ok (.return_, 1) := by decide +kernel
theorem dX1_meet_49 : decode cX1_meet 49 = .ok (.aload_n 0, 1) := by decide +kernel
theorem dX1_meet_50 : decode cX1_meet 50 = .ok (.aload_n 2, 1) := by decide +kernel
theorem dX1_meet_51 : decode cX1_meet 51 = .ok (.invokevirtual 105, 3) := by decide +kernel
theorem dX1_meet_54 : decode cX1_meet 54 = .ok (.istore 6, 2) := by decide +kernel
theorem dX1_meet_56 : decode cX1_meet 56 = .ok (.aload_n 2, 1) := by decide +kernel
theorem dX1_meet_57 : decode cX1_meet 57 = .ok (.getfield 95, 3) := by decide +kernel
theorem dX1_meet_60 : decode cX1_meet 60 = .ok (.astore 7, 2) := by decide +kernel
theorem dX1_meet_62 : decode cX1_meet 62 = .ok (.aload 7, 2) := by decide +kernel
theorem dX1_meet_64 : decode cX1_meet 64 = .ok (.ifnonnull 11, 3) := by decide +kernel
theorem dX1_meet_67 : decode cX1_meet 67 = .ok (.iload 4, 2) := by decide +kernel
theorem dX1_meet_69 : decode cX1_meet 69 = .ok (.iload 6, 2) := by decide +kernel
theorem dX1_meet_71 : decode cX1_meet 71 = .ok (.if_icmp .ge 43, 3) := by decide +kernel
theorem dX1_meet_74 : decode cX1_meet 74 = .ok (.return_, 1) := by decide +kernel
theorem dX1_meet_75 : decode cX1_meet 75 = .ok (.aload_n 0, 1) := by decide +kernel
theorem dX1_meet_76 : decode cX1_meet 76 = .ok (.aload_n 2, 1) := by decide +kernel
theorem dX1_meet_77 : decode cX1_meet 77 = .ok (.aload 7, 2) := by decide +kernel
theorem dX1_meet_79 : decode cX1_meet 79 = .ok (.iload 4, 2) := by decide +kernel
theorem dX1_meet_81 : decode cX1_meet 81 = .ok (.invokevirtual 159, 3) := by decide +kernel
theorem dX1_meet_84 : decode cX1_meet 84 = .ok (.ifCond .ne 4, 3) := by decide +kernel
theorem dX1_meet_87 : decode cX1_meet 87 = .ok (.return_, 1) := by decide +kernel
theorem dX1_meet_88 : decode cX1_meet 88 = .ok (.aload 7, 2) := by decide +kernel
theorem dX1_meet_90 : decode cX1_meet 90 = .ok (.invokevirtual 143, 3) := by decide +kernel
theorem dX1_meet_93 : decode cX1_meet 93 = .ok (.aload 7, 2) := by decide +kernel
theorem dX1_meet_95 : decode cX1_meet 95 = .ok (.dup, 1) := by decide +kernel
theorem dX1_meet_96 : decode cX1_meet 96 = .ok (.getfield 116, 3) := by decide +kernel
theorem dX1_meet_99 : decode cX1_meet 99 = .ok (.iconst 1, 1) := by decide +kernel
theorem dX1_meet_100 : decode cX1_meet 100 = .ok (.iadd, 1) := by decide +kernel
theorem dX1_meet_101 : decode cX1_meet 101 = .ok (.putfield 116, 3) := by decide +kernel
theorem dX1_meet_104 : decode cX1_meet 104 = .ok (.aload_n 0, 1) := by decide +kernel
theorem dX1_meet_105 : decode cX1_meet 105 = .ok (.getfield 28, 3) := by decide +kernel
theorem dX1_meet_108 : decode cX1_meet 108 = .ok (.iconst 3, 1) := by decide +kernel
theorem dX1_meet_109 : decode cX1_meet 109 = .ok (.dup2, 1) := by decide +kernel
theorem dX1_meet_110 : decode cX1_meet 110 = .ok (.iaload, 1) := by decide +kernel
theorem dX1_meet_111 : decode cX1_meet 111 = .ok (.iconst 1, 1) := by decide +kernel
theorem dX1_meet_112 : decode cX1_meet 112 = .ok (.iadd, 1) := by decide +kernel
theorem dX1_meet_113 : decode cX1_meet 113 = .ok (.iastore, 1) := by decide +kernel
theorem dX1_meet_114 : decode cX1_meet 114 = .ok (.aload_n 1, 1) := by decide +kernel
theorem dX1_meet_115 : decode cX1_meet 115 = .ok (.aload_n 2, 1) := by decide +kernel
theorem dX1_meet_116 : decode cX1_meet 116 = .ok (.iload 5, 2) := by decide +kernel
theorem dX1_meet_118 : decode cX1_meet 118 = .ok (.invokevirtual 163, 3) := by decide +kernel
theorem dX1_meet_121 : decode cX1_meet 121 = .ok (.aload_n 2, 1) := by decide +kernel
theorem dX1_meet_122 : decode cX1_meet 122 = .ok (.aload_n 1, 1) := by decide +kernel
theorem dX1_meet_123 : decode cX1_meet 123 = .ok (.iload 6, 2) := by decide +kernel
theorem dX1_meet_125 : decode cX1_meet 125 = .ok (.invokevirtual 163, 3) := by decide +kernel
theorem dX1_meet_128 : decode cX1_meet 128 = .ok (.aload_n 0, 1) := by decide +kernel
theorem dX1_meet_129 : decode cX1_meet 129 = .ok (.getfield 28, 3) := by decide +kernel
theorem dX1_meet_132 : decode cX1_meet 132 = .ok (.iconst 2, 1) := by decide +kernel
theorem dX1_meet_133 : decode cX1_meet 133 = .ok (.dup2, 1) := by decide +kernel
theorem dX1_meet_134 : decode cX1_meet 134 = .ok (.iaload, 1) := by decide +kernel
theorem dX1_meet_135 : decode cX1_meet 135 = .ok (.iconst 1, 1) := by decide +kernel
theorem dX1_meet_136 : decode cX1_meet 136 = .ok (.iadd, 1) := by decide +kernel
theorem dX1_meet_137 : decode cX1_meet 137 = .ok (.iastore, 1) := by decide +kernel
theorem dX1_meet_138 : decode cX1_meet 138 = .ok (.return_, 1) := by decide +kernel
theorem dX1_isTempted_0 : decode cX1_isTempted 0 = .ok (.aload_n 0, 1) := by decide +kernel
theorem dX1_isTempted_1 : decode cX1_isTempted 1 = .ok (.aload_n 1, 1) := by decide +kernel
theorem dX1_isTempted_2 : decode cX1_isTempted 2 = .ok (.invokevirtual 167, 3) := by decide +kernel
theorem dX1_isTempted_5 : decode cX1_isTempted 5 = .ok (.aload_n 0, 1) := by decide +kernel
theorem dX1_isTempted_6 : decode cX1_isTempted 6 = .ok (.getfield 12, 3) := by decide +kernel
theorem dX1_isTempted_9 : decode cX1_isTempted 9 = .ok (.aload_n 1, 1) := by decide +kernel
theorem dX1_isTempted_10 : decode cX1_isTempted 10 = .ok (.getfield 170, 3) := by decide +kernel
theorem dX1_isTempted_13 : decode cX1_isTempted 13 = .ok (.sipush 257, 3) := by decide +kernel
theorem dX1_isTempted_16 : decode cX1_isTempted 16 = .ok (.invokevirtual 176, 3) := by decide +kernel
theorem dX1_isTempted_19 : decode cX1_isTempted 19 = .ok (.istore 4, 2) := by decide +kernel
theorem dX1_isTempted_21 : decode cX1_isTempted 21 = .ok (.iload 4, 2) := by decide +kernel
theorem dX1_isTempted_23 : decode cX1_isTempted 23 = .ok (.iconst (-1), 1) := by decide +kernel
theorem dX1_isTempted_24 : decode cX1_isTempted 24 = .ok (.if_icmp .eq 31, 3) := by decide +kernel
theorem dX1_isTempted_27 : decode cX1_isTempted 27 = .ok (.iload_n 3, 1) := by decide +kernel
theorem dX1_isTempted_28 : decode cX1_isTempted 28 = .ok (.aload_n 0, 1) := by decide +kernel
theorem dX1_isTempted_29 : decode cX1_isTempted 29 = .ok (.aload_n 1, 1) := by decide +kernel
theorem dX1_isTempted_30 : decode cX1_isTempted 30 = .ok (.aload_n 2, 1) := by decide +kernel
theorem dX1_isTempted_31 : decode cX1_isTempted 31 = .ok (.invokevirtual 112, 3) := by decide +kernel
theorem dX1_isTempted_34 : decode cX1_isTempted 34 = .ok (.aload_n 0, 1) := by decide +kernel
theorem dX1_isTempted_35 : decode cX1_isTempted 35 = .ok (.getfield 12, 3) := by decide +kernel
theorem dX1_isTempted_38 : decode cX1_isTempted 38 = .ok (.aload_n 1, 1) := by decide +kernel
theorem dX1_isTempted_39 : decode cX1_isTempted 39 = .ok (.getfield 170, 3) := by decide +kernel
theorem dX1_isTempted_42 : decode cX1_isTempted 42 = .ok (.iload 4, 2) := by decide +kernel
theorem dX1_isTempted_44 : decode cX1_isTempted 44 = .ok (.invokevirtual 180, 3) := by decide +kernel
theorem dX1_isTempted_47 : decode cX1_isTempted 47 = .ok (.iadd, 1) := by decide +kernel
theorem dX1_isTempted_48 : decode cX1_isTempted 48 = .ok (.if_icmp .lt 7, 3) := by decide +kernel
theorem dX1_isTempted_51 : decode cX1_isTempted 51 = .ok (.iconst 1, 1) := by decide +kernel
theorem dX1_isTempted_52 : decode cX1_isTempted 52 = .ok (.goto 4, 3) := by decide +kernel
theorem dX1_isTempted_55 : decode cX1_isTempted 55 = .ok (.iconst 0, 1) := by decide +kernel
theorem dX1_isTempted_56 : decode cX1_isTempted 56 = .ok (.ireturn, 1) := by decide +kernel
theorem dX1_takeOf_0 : decode cX1_takeOf 0 = .ok (.aload_n 0, 1) := by decide +kernel
theorem dX1_takeOf_1 : decode cX1_takeOf 1 = .ok (.aload_n 1, 1) := by decide +kernel
theorem dX1_takeOf_2 : decode cX1_takeOf 2 = .ok (.invokevirtual 167, 3) := by decide +kernel
theorem dX1_takeOf_5 : decode cX1_takeOf 5 = .ok (.aload_n 0, 1) := by decide +kernel
theorem dX1_takeOf_6 : decode cX1_takeOf 6 = .ok (.getfield 12, 3) := by decide +kernel
theorem dX1_takeOf_9 : decode cX1_takeOf 9 = .ok (.aload_n 1, 1) := by decide +kernel
theorem dX1_takeOf_10 : decode cX1_takeOf 10 = .ok (.getfield 170, 3) := by decide +kernel
theorem dX1_takeOf_13 : decode cX1_takeOf 13 = .ok (.sipush 256, 3) := by decide +kernel
theorem dX1_takeOf_16 : decode cX1_takeOf 16 = .ok (.invokevirtual 176, 3) := by decide +kernel
theorem dX1_takeOf_19 : decode cX1_takeOf 19 = .ok (.istore_n 2, 1) := by decide +kernel
theorem dX1_takeOf_20 : decode cX1_takeOf 20 = .ok (.iload_n 2, 1) := by decide +kernel
theorem dX1_takeOf_21 : decode cX1_takeOf 21 = .ok (.iconst (-1), 1) := by decide +kernel
theorem dX1_takeOf_22 : decode cX1_takeOf 22 = .ok (.if_icmp .ne 7, 3) := by decide +kernel
theorem dX1_takeOf_25 : decode cX1_takeOf 25 = .ok (.iconst 0, 1) := by decide +kernel
theorem dX1_takeOf_26 : decode cX1_takeOf 26 = .ok (.goto 15, 3) := by decide +kernel
theorem dX1_takeOf_29 : decode cX1_takeOf 29 = .ok (.aload_n 0, 1) := by decide +kernel
theorem dX1_takeOf_30 : decode cX1_takeOf 30 = .ok (.getfield 12, 3) := by decide +kernel
theorem dX1_takeOf_33 : decode cX1_takeOf 33 = .ok (.aload_n 1, 1) := by decide +kernel
theorem dX1_takeOf_34 : decode cX1_takeOf 34 = .ok (.getfield 170, 3) := by decide +kernel
theorem dX1_takeOf_37 : decode cX1_takeOf 37 = .ok (.iload_n 2, 1) := by decide +kernel
theorem dX1_takeOf_38 : decode cX1_takeOf 38 = .ok (.invokevirtual 180, 3) := by decide +kernel
theorem dX1_takeOf_41 : decode cX1_takeOf 41 = .ok (.ireturn, 1) := by decide +kernel
theorem dX1_leaveOf_0 : decode cX1_leaveOf 0 = .ok (.aload_n 0, 1) := by decide +kernel
theorem dX1_leaveOf_1 : decode cX1_leaveOf 1 = .ok (.aload_n 1, 1) := by decide +kernel
theorem dX1_leaveOf_2 : decode cX1_leaveOf 2 = .ok (.invokevirtual 167, 3) := by decide +kernel
theorem dX1_leaveOf_5 : decode cX1_leaveOf 5 = .ok (.aload_n 0, 1) := by decide +kernel
theorem dX1_leaveOf_6 : decode cX1_leaveOf 6 = .ok (.getfield 12, 3) := by decide +kernel
theorem dX1_leaveOf_9 : decode cX1_leaveOf 9 = .ok (.aload_n 1, 1) := by decide +kernel
theorem dX1_leaveOf_10 : decode cX1_leaveOf 10 = .ok (.getfield 170, 3) := by decide +kernel
theorem dX1_leaveOf_13 : decode cX1_leaveOf 13 = .ok (.sipush 257, 3) := by decide +kernel
theorem dX1_leaveOf_16 : decode cX1_leaveOf 16 = .ok (.invokevirtual 176, 3) := by decide +kernel
theorem dX1_leaveOf_19 : decode cX1_leaveOf 19 = .ok (.istore_n 2, 1) := by decide +kernel
theorem dX1_leaveOf_20 : decode cX1_leaveOf 20 = .ok (.iload_n 2, 1) := by decide +kernel
theorem dX1_leaveOf_21 : decode cX1_leaveOf 21 = .ok (.iconst (-1), 1) := by decide +kernel
theorem dX1_leaveOf_22 : decode cX1_leaveOf 22 = .ok (.if_icmp .ne 7, 3) := by decide +kernel
theorem dX1_leaveOf_25 : decode cX1_leaveOf 25 = .ok (.iconst (-1), 1) := by decide +kernel
theorem dX1_leaveOf_26 : decode cX1_leaveOf 26 = .ok (.goto 15, 3) := by decide +kernel
theorem dX1_leaveOf_29 : decode cX1_leaveOf 29 = .ok (.aload_n 0, 1) := by decide +kernel
theorem dX1_leaveOf_30 : decode cX1_leaveOf 30 = .ok (.getfield 12, 3) := by decide +kernel
theorem dX1_leaveOf_33 : decode cX1_leaveOf 33 = .ok (.aload_n 1, 1) := by decide +kernel
theorem dX1_leaveOf_34 : decode cX1_leaveOf 34 = .ok (.getfield 170, 3) := by decide +kernel
theorem dX1_leaveOf_37 : decode cX1_leaveOf 37 = .ok (.iload_n 2, 1) := by decide +kernel
theorem dX1_leaveOf_38 : decode cX1_leaveOf 38 = .ok (.invokevirtual 180, 3) := by decide +kernel
theorem dX1_leaveOf_41 : decode cX1_leaveOf 41 = .ok (.ireturn, 1) := by decide +kernel
theorem dX1_learn_0 : decode cX1_learn 0 = .ok (.aload_n 0, 1) := by decide +kernel
theorem dX1_learn_1 : decode cX1_learn 1 = .ok (.getfield 12, 3) := by decide +kernel
theorem dX1_learn_4 : decode cX1_learn 4 = .ok (.iconst 0, 1) := by decide +kernel
theorem dX1_learn_5 : decode cX1_learn 5 = .ok (.aload_n 0, 1) := by decide +kernel
theorem dX1_learn_6 : decode cX1_learn 6 = .ok (.getfield 28, 3) := by decide +kernel
theorem dX1_learn_9 : decode cX1_learn 9 = .ok (.iconst 0, 1) := by decide +kernel
theorem dX1_learn_10 : decode cX1_learn 10 = .ok (.iaload, 1) := by decide +kernel
theorem dX1_learn_11 : decode cX1_learn 11 = .ok (.invokevirtual 183, 3) := by decide +kernel
theorem dX1_learn_14 : decode cX1_learn 14 = .ok (.aload_n 0, 1) := by decide +kernel
theorem dX1_learn_15 : decode cX1_learn 15 = .ok (.getfield 12, 3) := by decide +kernel
theorem dX1_learn_18 : decode cX1_learn 18 = .ok (.iconst 1, 1) := by decide +kernel
theorem dX1_learn_19 : decode cX1_learn 19 = .ok (.aload_n 1, 1) := by decide +kernel
theorem dX1_learn_20 : decode cX1_learn 20 = .ok (.getfield 85, 3) := by decide +kernel
theorem dX1_learn_23 : decode cX1_learn 23 = .ok (.invokevirtual 183, 3) := by decide +kernel
theorem dX1_learn_26 : decode cX1_learn 26 = .ok (.aload_n 0, 1) := by decide +kernel
theorem dX1_learn_27 : decode cX1_learn 27 = .ok (.getfield 12, 3) := by decide +kernel
theorem dX1_learn_30 : decode cX1_learn 30 = .ok (.iconst 2, 1) := by decide +kernel
theorem dX1_learn_31 : decode cX1_learn 31 = .ok (.aload_n 1, 1) := by decide +kernel
theorem dX1_learn_32 : decode cX1_learn 32 = .ok (.getfield 82, 3) := by decide +kernel
theorem dX1_learn_35 : decode cX1_learn 35 = .ok (.invokevirtual 183, 3) := by decide +kernel
theorem dX1_learn_38 : decode cX1_learn 38 = .ok (.aload_n 0, 1) := by decide +kernel
theorem dX1_learn_39 : decode cX1_learn 39 = .ok (.getfield 12, 3) := by decide +kernel
theorem dX1_learn_42 : decode cX1_learn 42 = .ok (.iconst 3, 1) := by decide +kernel
theorem dX1_learn_43 : decode cX1_learn 43 = .ok (.aload_n 0, 1) := by decide +kernel
theorem dX1_learn_44 : decode cX1_learn 44 = .ok (.getfield 32, 3) := by decide +kernel
theorem dX1_learn_47 : decode cX1_learn 47 = .ok (.aload_n 1, 1) := by decide +kernel
theorem dX1_learn_48 : decode cX1_learn 48 = .ok (.getfield 75, 3) := by decide +kernel
theorem dX1_learn_51 : decode cX1_learn 51 = .ok (.aload_n 1, 1) := by decide +kernel
theorem dX1_learn_52 : decode cX1_learn 52 = .ok (.getfield 82, 3) := by decide +kernel
theorem dX1_learn_55 : decode cX1_learn 55 = .ok (.invokevirtual 187, 3) := by decide +kernel
theorem dX1_learn_58 : decode cX1_learn 58 = .ok (.invokevirtual 183, 3) := by decide +kernel
theorem dX1_learn_61 : decode cX1_learn 61 = .ok (.aload_n 0, 1) := by decide +kernel
theorem dX1_learn_62 : decode cX1_learn 62 = .ok (.getfield 12, 3) := by decide +kernel
theorem dX1_learn_65 : decode cX1_learn 65 = .ok (.iconst 4, 1) := by decide +kernel
theorem dX1_learn_66 : decode cX1_learn 66 = .ok (.aload_n 0, 1) := by decide +kernel
theorem dX1_learn_67 : decode cX1_learn 67 = .ok (.getfield 32, 3) := by decide +kernel
theorem dX1_learn_70 : decode cX1_learn 70 = .ok (.iconst 1, 1) := by decide +kernel
theorem dX1_learn_71 : decode cX1_learn 71 = .ok (.aload_n 1, 1) := by decide +kernel
theorem dX1_learn_72 : decode cX1_learn 72 = .ok (.getfield 75, 3) := by decide +kernel
theorem dX1_learn_75 : decode cX1_learn 75 = .ok (.isub, 1) := by decide +kernel
theorem dX1_learn_76 : decode cX1_learn 76 = .ok (.invokevirtual 190, 3) := by decide +kernel
theorem dX1_learn_79 : decode cX1_learn 79 = .ok (.invokevirtual 183, 3) := by decide +kernel
theorem dX1_learn_82 : decode cX1_learn 82 = .ok (.aload_n 0, 1) := by decide +kernel
theorem dX1_learn_83 : decode cX1_learn 83 = .ok (.getfield 12, 3) := by decide +kernel
theorem dX1_learn_86 : decode cX1_learn 86 = .ok (.iconst 5, 1) := by decide +kernel
theorem dX1_learn_87 : decode cX1_learn 87 = .ok (.aload_n 0, 1) := by decide +kernel
theorem dX1_learn_88 : decode cX1_learn 88 = .ok (.getfield 32, 3) := by decide +kernel
theorem dX1_learn_91 : decode cX1_learn 91 = .ok (.bipush 6, 2) := by decide +kernel
theorem dX1_learn_93 : decode cX1_learn 93 = .ok (.invokevirtual 136, 3) := by decide +kernel
theorem dX1_learn_96 : decode cX1_learn 96 = .ok (.invokevirtual 183, 3) := by decide +kernel
theorem dX1_learn_99 : decode cX1_learn 99 = .ok (.aload_n 0, 1) := by decide +kernel
theorem dX1_learn_100 : decode cX1_learn 100 = .ok (.getfield 12, 3) := by decide +kernel
theorem dX1_learn_103 : decode cX1_learn 103 = .ok (.bipush 6, 2) := by decide +kernel
theorem dX1_learn_105 : decode cX1_learn 105 = .ok (.aload_n 0, 1) := by decide +kernel
theorem dX1_learn_106 : decode cX1_learn 106 = .ok (.getfield 36, 3) := by decide +kernel
theorem dX1_learn_109 : decode cX1_learn 109 = .ok (.aload_n 1, 1) := by decide +kernel
theorem dX1_learn_110 : decode cX1_learn 110 = .ok (.getfield 75, 3) := by decide +kernel
theorem dX1_learn_113 : decode cX1_learn 113 = .ok (.aload_n 1, 1) := by decide +kernel
theorem dX1_learn_114 : decode cX1_learn 114 = .ok (.getfield 82, 3) := by decide +kernel
theorem dX1_learn_117 : decode cX1_learn 117 = .ok (.aload_n 0, 1) := by decide +kernel
theorem dX1_learn_118 : decode cX1_learn 118 = .ok (.getfield 28, 3) := by decide +kernel
theorem dX1_learn_121 : decode cX1_learn 121 = .ok (.iconst 0, 1) := by decide +kernel
theorem dX1_learn_122 : decode cX1_learn 122 = .ok (.iaload, 1) := by decide +kernel
theorem dX1_learn_123 : decode cX1_learn 123 = .ok (.iconst 1, 1) := by decide +kernel
theorem dX1_learn_124 : decode cX1_learn 124 = .ok (.iadd, 1) := by decide +kernel
theorem dX1_learn_125 : decode cX1_learn 125 = .ok (.invokevirtual 193, 3) := by decide +kernel
theorem dX1_learn_128 : decode cX1_learn 128 = .ok (.invokevirtual 183, 3) := by decide +kernel
theorem dX1_learn_131 : decode cX1_learn 131 = .ok (.return_, 1) := by decide +kernel
theorem dX1_worthFor_0 : decode cX1_worthFor 0 = .ok (.aload_n 0, 1) := by decide +kernel
theorem dX1_worthFor_1 : decode cX1_worthFor 1 = .ok (.getfield 32, 3) := by decide +kernel
theorem dX1_worthFor_4 : decode cX1_worthFor 4 = .ok (.aload_n 1, 1) := by decide +kernel
theorem dX1_worthFor_5 : decode cX1_worthFor 5 = .ok (.getfield 75, 3) := by decide +kernel
theorem dX1_worthFor_8 : decode cX1_worthFor 8 = .ok (.aload_n 1, 1) := by decide +kernel
theorem dX1_worthFor_9 : decode cX1_worthFor 9 = .ok (.getfield 82, 3) := by decide +kernel
theorem dX1_worthFor_12 : decode cX1_worthFor 12 = .ok (.aload_n 2, 1) := by decide +kernel
theorem dX1_worthFor_13 : decode cX1_worthFor 13 = .ok (.getfield 82, 3) := by decide +kernel
theorem dX1_worthFor_16 : decode cX1_worthFor 16 = .ok (.invokevirtual 199, 3) := by decide +kernel
theorem dX1_worthFor_19 : decode cX1_worthFor 19 = .ok (.ireturn, 1) := by decide +kernel
theorem dX1_error_0 : decode cX1_error 0 = .ok (.aload_n 0, 1) := by decide +kernel
theorem dX1_error_1 : decode cX1_error 1 = .ok (.getfield 32, 3) := by decide +kernel
theorem dX1_error_4 : decode cX1_error 4 = .ok (.iconst 3, 1) := by decide +kernel
theorem dX1_error_5 : decode cX1_error 5 = .ok (.invokevirtual 136, 3) := by decide +kernel
theorem dX1_error_8 : decode cX1_error 8 = .ok (.istore_n 1, 1) := by decide +kernel
theorem dX1_error_9 : decode cX1_error 9 = .ok (.iload_n 1, 1) := by decide +kernel
theorem dX1_error_10 : decode cX1_error 10 = .ok (.ifCond .ne 7, 3) := by decide +kernel
theorem dX1_error_13 : decode cX1_error 13 = .ok (.iconst 0, 1) := by decide +kernel
theorem dX1_error_14 : decode cX1_error 14 = .ok (.goto 14, 3) := by decide +kernel
theorem dX1_error_17 : decode cX1_error 17 = .ok (.aload_n 0, 1) := by decide +kernel
theorem dX1_error_18 : decode cX1_error 18 = .ok (.iconst 2, 1) := by decide +kernel
theorem dX1_error_19 : decode cX1_error 19 = .ok (.iload_n 1, 1) := by decide +kernel
theorem dX1_error_20 : decode cX1_error 20 = .ok (.imul, 1) := by decide +kernel
theorem dX1_error_21 : decode cX1_error 21 = .ok (.iconst 1, 1) := by decide +kernel
theorem dX1_error_22 : decode cX1_error 22 = .ok (.iadd, 1) := by decide +kernel
theorem dX1_error_23 : decode cX1_error 23 = .ok (.invokevirtual 150, 3) := by decide +kernel
theorem dX1_error_26 : decode cX1_error 26 = .ok (.iload_n 1, 1) := by decide +kernel
theorem dX1_error_27 : decode cX1_error 27 = .ok (.isub, 1) := by decide +kernel
theorem dX1_error_28 : decode cX1_error 28 = .ok (.ireturn, 1) := by decide +kernel
theorem dX1_draw_0 : decode cX1_draw 0 = .ok (.aload_n 0, 1) := by decide +kernel
theorem dX1_draw_1 : decode cX1_draw 1 = .ok (.ldc 202, 2) := by decide +kernel
theorem dX1_draw_3 : decode cX1_draw 3 = .ok (.aload_n 0, 1) := by decide +kernel
theorem dX1_draw_4 : decode cX1_draw 4 = .ok (.getfield 51, 3) := by decide +kernel
theorem dX1_draw_7 : decode cX1_draw 7 = .ok (.imul, 1) := by decide +kernel
theorem dX1_draw_8 : decode cX1_draw 8 = .ok (.ldc 203, 2) := by decide +kernel
theorem dX1_draw_10 : decode cX1_draw 10 = .ok (.iadd, 1) := by decide +kernel
theorem dX1_draw_11 : decode cX1_draw 11 = .ok (.putfield 51, 3) := by decide +kernel
theorem dX1_draw_14 : decode cX1_draw 14 = .ok (.iload_n 1, 1) := by decide +kernel
theorem dX1_draw_15 : decode cX1_draw 15 = .ok (.ifCond .le 15, 3) := by decide +kernel
theorem dX1_draw_18 : decode cX1_draw 18 = .ok (.aload_n 0, 1) := by decide +kernel
theorem dX1_draw_19 : decode cX1_draw 19 = .ok (.getfield 51, 3) := by decide +kernel
theorem dX1_draw_22 : decode cX1_draw 22 = .ok (.bipush 8, 2) := by decide +kernel
theorem dX1_draw_24 : decode cX1_draw 24 = .ok (.iushr, 1) := by decide +kernel
theorem dX1_draw_25 : decode cX1_draw 25 = .ok (.iload_n 1, 1) := by decide +kernel
theorem dX1_draw_26 : decode cX1_draw 26 = .ok (.irem, 1) := by decide +kernel
theorem dX1_draw_27 : decode cX1_draw 27 = .ok (.goto 4, 3) := by decide +kernel
theorem dX1_draw_30 : decode cX1_draw 30 = .ok (.iconst 0, 1) := by decide +kernel
theorem dX1_draw_31 : decode cX1_draw 31 = .ok (.ireturn, 1) := by decide +kernel
theorem dX2_init_0 : decode cX2_init 0 = .ok (.aload_n 0, 1) := by decide +kernel
theorem dX2_init_1 : decode cX2_init 1 = .ok (.invokespecial 3, 3) := by decide +kernel
theorem dX2_init_4 : decode cX2_init 4 = .ok (.aload_n 0, 1) := by decide +kernel
theorem dX2_init_5 : decode cX2_init 5 = .ok (.bipush 7, 2) := by decide +kernel
theorem dX2_init_7 : decode cX2_init 7 = .ok (.newarray .int, 2) := by decide +kernel
theorem dX2_init_9 : decode cX2_init 9 = .ok (.putfield 11, 3) := by decide +kernel
theorem dX2_init_12 : decode cX2_init 12 = .ok (.aload_n 0, 1) := by decide +kernel
theorem dX2_init_13 : decode cX2_init 13 = .ok (.bipush 32, 2) := by decide +kernel
theorem dX2_init_15 : decode cX2_init 15 = .ok (.newarray .int, 2) := by decide +kernel
theorem dX2_init_17 : decode cX2_init 17 = .ok (.putfield 17, 3) := by decide +kernel
theorem dX2_init_20 : decode cX2_init 20 = .ok (.return_, 1) := by decide +kernel
theorem dX2_know_0 : decode cX2_know 0 = .ok (.iload_n 1, 1) := by decide +kernel
theorem dX2_know_1 : decode cX2_know 1 = .ok (.ifCond .lt 19, 3) := by decide +kernel
theorem dX2_know_4 : decode cX2_know 4 = .ok (.iload_n 1, 1) := by decide +kernel
theorem dX2_know_5 : decode cX2_know 5 = .ok (.aload_n 0, 1) := by decide +kernel
theorem dX2_know_6 : decode cX2_know 6 = .ok (.getfield 11, 3) := by decide +kernel
theorem dX2_know_9 : decode cX2_know 9 = .ok (.arraylength, 1) := by decide +kernel
theorem dX2_know_10 : decode cX2_know 10 = .ok (.if_icmp .ge 10, 3) := by decide +kernel
theorem dX2_know_13 : decode cX2_know 13 = .ok (.aload_n 0, 1) := by decide +kernel
theorem dX2_know_14 : decode cX2_know 14 = .ok (.getfield 11, 3) := by decide +kernel
theorem dX2_know_17 : decode cX2_know 17 = .ok (.iload_n 1, 1) := by decide +kernel
theorem dX2_know_18 : decode cX2_know 18 = .ok (.iload_n 2, 1) := by decide +kernel
theorem dX2_know_19 : decode cX2_know 19 = .ok (.iastore, 1) := by decide +kernel
theorem dX2_know_20 : decode cX2_know 20 = .ok (.return_, 1) := by decide +kernel
theorem dX2_line_0 : decode cX2_line 0 = .ok (.iconst 0, 1) := by decide +kernel
theorem dX2_line_1 : decode cX2_line 1 = .ok (.istore_n 3, 1) := by decide +kernel
theorem dX2_line_2 : decode cX2_line 2 = .ok (.iload_n 3, 1) := by decide +kernel
theorem dX2_line_3 : decode cX2_line 3 = .ok (.aload_n 1, 1) := by decide +kernel
theorem dX2_line_4 : decode cX2_line 4 = .ok (.invokevirtual 20, 3) := by decide +kernel
theorem dX2_line_7 : decode cX2_line 7 = .ok (.if_icmp .ge 53, 3) := by decide +kernel
theorem dX2_line_10 : decode cX2_line 10 = .ok (.aload_n 1, 1) := by decide +kernel
theorem dX2_line_11 : decode cX2_line 11 = .ok (.iload_n 3, 1) := by decide +kernel
theorem dX2_line_12 : decode cX2_line 12 = .ok (.iload_n 2, 1) := by decide +kernel
theorem dX2_line_13 : decode cX2_line 13 = .ok (.invokevirtual 24, 3) := by decide +kernel
theorem dX2_line_16 : decode cX2_line 16 = .ok (.ifCond .eq 38, 3) := by decide +kernel
theorem dX2_line_19 : decode cX2_line 19 = .ok (.aload_n 1, 1) := by decide +kernel
theorem dX2_line_20 : decode cX2_line 20 = .ok (.iload_n 3, 1) := by decide +kernel
theorem dX2_line_21 : decode cX2_line 21 = .ok (.invokevirtual 28, 3) := by decide +kernel
theorem dX2_line_24 : decode cX2_line 24 = .ok (.istore 4, 2) := by decide +kernel
theorem dX2_line_26 : decode cX2_line 26 = .ok (.aload_n 1, 1) := by decide +kernel
theorem dX2_line_27 : decode cX2_line 27 = .ok (.iload_n 3, 1) := by decide +kernel
theorem dX2_line_28 : decode cX2_line 28 = .ok (.invokevirtual 32, 3) := by decide +kernel
theorem dX2_line_31 : decode cX2_line 31 = .ok (.istore 5, 2) := by decide +kernel
theorem dX2_line_33 : decode cX2_line 33 = .ok (.iload 4, 2) := by decide +kernel
theorem dX2_line_35 : decode cX2_line 35 = .ok (.iload 5, 2) := by decide +kernel
theorem dX2_line_37 : decode cX2_line 37 = .ok (.if_icmp .eq 15, 3) := by decide +kernel
theorem dX2_line_40 : decode cX2_line 40 = .ok (.aload_n 0, 1) := by decide +kernel
theorem dX2_line_41 : decode cX2_line 41 = .ok (.aload_n 1, 1) := by decide +kernel
theorem dX2_line_42 : decode cX2_line 42 = .ok (.iload 4, 2) := by decide +kernel
theorem dX2_line_44 : decode cX2_line 44 = .ok (.iload 5, 2) := by decide +kernel
theorem dX2_line_46 : decode cX2_line 46 = .ok (.invokevirtual 35, 3) := by decide +kernel
theorem dX2_line_49 : decode cX2_line 49 = .ok (.ifCond .eq 5, 3) := by decide +kernel
theorem dX2_line_52 : decode cX2_line 52 = .ok (.iload_n 3, 1) := by decide +kernel
theorem dX2_line_53 : decode cX2_line 53 = .ok (.ireturn, 1) := by decide +kernel
theorem dX2_line_54 : decode cX2_line 54 = .ok (.iinc 3 1, 3) := by decide +kernel
theorem dX2_line_57 : decode cX2_line 57 = .ok (.goto (-55), 3) := by decide +kernel
theorem dX2_line_60 : decode cX2_line 60 = .ok (.iconst (-1), 1) := by decide +kernel
theorem dX2_line_61 : decode cX2_line 61 = .ok (.ireturn, 1) := by decide +kernel
theorem dX2_value_0 : decode cX2_value 0 = .ok (.aload_n 0, 1) := by decide +kernel
theorem dX2_value_1 : decode cX2_value 1 = .ok (.aload_n 1, 1) := by decide +kernel
theorem dX2_value_2 : decode cX2_value 2 = .ok (.aload_n 1, 1) := by decide +kernel
theorem dX2_value_3 : decode cX2_value 3 = .ok (.iload_n 2, 1) := by decide +kernel
theorem dX2_value_4 : decode cX2_value 4 = .ok (.invokevirtual 39, 3) := by decide +kernel
theorem dX2_value_7 : decode cX2_value 7 = .ok (.aload_n 1, 1) := by decide +kernel
theorem dX2_value_8 : decode cX2_value 8 = .ok (.iload_n 2, 1) := by decide +kernel
theorem dX2_value_9 : decode cX2_value 9 = .ok (.invokevirtual 28, 3) := by decide +kernel
theorem dX2_value_12 : decode cX2_value 12 = .ok (.invokevirtual 35, 3) := by decide +kernel
theorem dX2_value_15 : decode cX2_value 15 = .ok (.ireturn, 1) := by decide +kernel
theorem dX2_run_0 : decode cX2_run 0 = .ok (.iconst 0, 1) := by decide +kernel
theorem dX2_run_1 : decode cX2_run 1 = .ok (.istore 4, 2) := by decide +kernel
theorem dX2_run_3 : decode cX2_run 3 = .ok (.iload_n 2, 1) := by decide +kernel
theorem dX2_run_4 : decode cX2_run 4 = .ok (.istore 5, 2) := by decide +kernel
theorem dX2_run_6 : decode cX2_run 6 = .ok (.iload 5, 2) := by decide +kernel
theorem dX2_run_8 : decode cX2_run 8 = .ok (.iload_n 3, 1) := by decide +kernel
theorem dX2_run_9 : decode cX2_run 9 = .ok (.if_icmp .ge 141, 3) := by decide +kernel
theorem dX2_run_12 : decode cX2_run 12 = .ok (.aload_n 1, 1) := by decide +kernel
theorem dX2_run_13 : decode cX2_run 13 = .ok (.iload 5, 2) := by decide +kernel
theorem dX2_run_15 : decode cX2_run 15 = .ok (.invokevirtual 42, 3) := by decide +kernel
theorem dX2_run_18 : decode cX2_run 18 = .ok (.istore 6, 2) := by decide +kernel
theorem dX2_run_20 : decode cX2_run 20 = .ok (.iload 6, 2) := by decide +kernel
theorem dX2_run_22 : decode cX2_run 22 = .ok (.bipush (-7), 2) := by decide +kernel
theorem dX2_run_24 : decode cX2_run 24 = .ok (.if_icmp .lt 45, 3) := by decide +kernel
theorem dX2_run_27 : decode cX2_run 27 = .ok (.iload 4, 2) := by decide +kernel
theorem dX2_run_29 : decode cX2_run 29 = .ok (.aload_n 0, 1) := by decide +kernel
theorem dX2_run_30 : decode cX2_run 30 = .ok (.getfield 17, 3) := by decide +kernel
theorem dX2_run_33 : decode cX2_run 33 = .ok (.arraylength, 1) := by decide +kernel
theorem dX2_run_34 : decode cX2_run 34 = .ok (.if_icmp .ge 110, 3) := by decide +kernel
theorem dX2_run_37 : decode cX2_run 37 = .ok (.aload_n 0, 1) := by decide +kernel
theorem dX2_run_38 : decode cX2_run 38 = .ok (.getfield 17, 3) := by decide +kernel
theorem dX2_run_41 : decode cX2_run 41 = .ok (.iload 4, 2) := by decide +kernel
theorem dX2_run_43 : decode cX2_run 43 = .ok (.iload 6, 2) := by decide +kernel
theorem dX2_run_45 : decode cX2_run 45 = .ok (.ifCond .lt 8, 3) := by decide +kernel
theorem dX2_run_48 : decode cX2_run 48 = .ok (.iload 6, 2) := by decide +kernel
theorem dX2_run_50 : decode cX2_run 50 = .ok (.goto 12, 3) := by decide +kernel
theorem dX2_run_53 : decode cX2_run 53 = .ok (.aload_n 0, 1) := by decide +kernel
theorem dX2_run_54 : decode cX2_run 54 = .ok (.getfield 11, 3) := by decide +kernel
theorem dX2_run_57 : decode cX2_run 57 = .ok (.iconst (-1), 1) := by decide +kernel
theorem dX2_run_58 : decode cX2_run 58 = .ok (.iload 6, 2) := by decide +kernel
theorem dX2_run_60 : decode cX2_run 60 = .ok (.isub, 1) := by decide +kernel
theorem dX2_run_61 : decode cX2_run 61 = .ok (.iaload, 1) := by decide +kernel
theorem dX2_run_62 : decode cX2_run 62 = .ok (.iastore, 1) := by decide +kernel
theorem dX2_run_63 : decode cX2_run 63 = .ok (.iinc 4 1, 3) := by decide +kernel
theorem dX2_run_66 : decode cX2_run 66 = .ok (.goto 78, 3) := by decide +kernel
theorem dX2_run_69 : decode cX2_run 69 = .ok (.iload 6, 2) := by decide +kernel
theorem dX2_run_71 : decode cX2_run 71 = .ok (.bipush (-17), 2) := by decide +kernel
theorem dX2_run_73 : decode cX2_run 73 = .ok (.if_icmp .ne 32, 3) := by decide +kernel
theorem dX2_run_76 : decode cX2_run 76 = .ok (.iload 4, 2) := by decide +kernel
theorem dX2_run_78 : decode cX2_run 78 = .ok (.iconst 1, 1) := by decide +kernel
theorem dX2_run_79 : decode cX2_run 79 = .ok (.if_icmp .lt 65, 3) := by decide +kernel
theorem dX2_run_82 : decode cX2_run 82 = .ok (.aload_n 0, 1) := by decide +kernel
theorem dX2_run_83 : decode cX2_run 83 = .ok (.getfield 17, 3) := by decide +kernel
theorem dX2_run_86 : decode cX2_run 86 = .ok (.iload 4, 2) := by decide +kernel
theorem dX2_run_88 : decode cX2_run 88 = .ok (.iconst 1, 1) := by decide +kernel
theorem dX2_run_89 : decode cX2_run 89 = .ok (.isub, 1) := by decide +kernel
theorem dX2_run_90 : decode cX2_run 90 = .ok (.iconst 1, 1) := by decide +kernel
theorem dX2_run_91 : decode cX2_run 91 = .ok (.aload_n 0, 1) := by decide +kernel
theorem dX2_run_92 : decode cX2_run 92 = .ok (.getfield 17, 3) := by decide +kernel
theorem dX2_run_95 : decode cX2_run 95 = .ok (.iload 4, 2) := by decide +kernel
theorem dX2_run_97 : decode cX2_run 97 = .ok (.iconst 1, 1) := by decide +kernel
theorem dX2_run_98 : decode cX2_run 98 = .ok (.isub, 1) := by decide +kernel
theorem dX2_run_99 : decode cX2_run 99 = .ok (.iaload, 1) := by decide +kernel
theorem dX2_run_100 : decode cX2_run 100 = .ok (.isub, 1) := by decide +kernel
theorem dX2_run_101 : decode cX2_run 101 = .ok (.iastore, 1) := by decide +kernel
theorem dX2_run_102 : decode cX2_run 102 = .ok (.goto 42, 3) := by decide +kernel
theorem dX2_run_105 : decode cX2_run 105 = .ok (.iload 4, 2) := by decide +kernel
theorem dX2_run_107 : decode cX2_run 107 = .ok (.iconst 2, 1) := by decide +kernel
theorem dX2_run_108 : decode cX2_run 108 = .ok (.if_icmp .lt 36, 3) := by decide +kernel
theorem dX2_run_111 : decode cX2_run 111 = .ok (.iinc 4 (-1), 3) := by decide +kernel
theorem dX2_run_114 : decode cX2_run 114 = .ok (.aload_n 0, 1) := by decide +kernel
theorem dX2_run_115 : decode cX2_run 115 = .ok (.getfield 17, 3) := by decide +kernel
theorem dX2_run_118 : decode cX2_run 118 = .ok (.iload 4, 2) := by decide +kernel
theorem dX2_run_120 : decode cX2_run 120 = .ok (.iconst 1, 1) := by decide +kernel
theorem dX2_run_121 : decode cX2_run 121 = .ok (.isub, 1) := by decide +kernel
theorem dX2_run_122 : decode cX2_run 122 = .ok (.iload 6, 2) := by decide +kernel
theorem dX2_run_124 : decode cX2_run 124 = .ok (.aload_n 0, 1) := by decide +kernel
theorem dX2_run_125 : decode cX2_run 125 = .ok (.getfield 17, 3) := by decide +kernel
theorem dX2_run_128 : decode cX2_run 128 = .ok (.iload 4, 2) := by decide +kernel
theorem dX2_run_130 : decode cX2_run 130 = .ok (.iconst 1, 1) := by decide +kernel
theorem dX2_run_131 : decode cX2_run 131 = .ok (.isub, 1) := by decide +kernel
theorem dX2_run_132 : decode cX2_run 132 = .ok (.iaload, 1) := by decide +kernel
theorem dX2_run_133 : decode cX2_run 133 = .ok (.aload_n 0, 1) := by decide +kernel
theorem dX2_run_134 : decode cX2_run 134 = .ok (.getfield 17, 3) := by decide +kernel
theorem dX2_run_137 : decode cX2_run 137 = .ok (.iload 4, 2) := by decide +kernel
theorem dX2_run_139 : decode cX2_run 139 = .ok (.iaload, 1) := by decide +kernel
theorem dX2_run_140 : decode cX2_run 140 = .ok (.invokestatic 45, 3) := by decide +kernel
theorem dX2_run_143 : decode cX2_run 143 = .ok (.iastore, 1) := by decide +kernel
theorem dX2_run_144 : decode cX2_run 144 = .ok (.iinc 5 1, 3) := by decide +kernel
theorem dX2_run_147 : decode cX2_run 147 = .ok (.goto (-141), 3) := by decide +kernel
theorem dX2_run_150 : decode cX2_run 150 = .ok (.aload_n 0, 1) := by decide +kernel
theorem dX2_run_151 : decode cX2_run 151 = .ok (.getfield 17, 3) := by decide +kernel
theorem dX2_run_154 : decode cX2_run 154 = .ok (.iconst 0, 1) := by decide +kernel
theorem dX2_run_155 : decode cX2_run 155 = .ok (.iaload, 1) := by decide +kernel
theorem dX2_run_156 : decode cX2_run 156 = .ok (.ireturn, 1) := by decide +kernel
theorem dX2_join_0 : decode cX2_join 0 = .ok (.iload_n 0, 1) := by decide +kernel
theorem dX2_join_1 : decode cX2_join 1 = .ok (.tableswitch 108 (-15) (-8) #[104, 93, 82, 71, 59, 55, 51, 47], 47) := by decide +kernel
theorem dX2_join_48 : decode cX2_join 48 = .ok (.iload_n 1, 1) := by decide +kernel
theorem dX2_join_49 : decode cX2_join 49 = .ok (.iload_n 2, 1) := by decide +kernel
theorem dX2_join_50 : decode cX2_join 50 = .ok (.iadd, 1) := by decide +kernel
theorem dX2_join_51 : decode cX2_join 51 = .ok (.ireturn, 1) := by decide +kernel
theorem dX2_join_52 : decode cX2_join 52 = .ok (.iload_n 1, 1) := by decide +kernel
theorem dX2_join_53 : decode cX2_join 53 = .ok (.iload_n 2, 1) := by decide +kernel
theorem dX2_join_54 : decode cX2_join 54 = .ok (.isub, 1) := by decide +kernel
theorem dX2_join_55 : decode cX2_join 55 = .ok (.ireturn, 1) := by decide +kernel
theorem dX2_join_56 : decode cX2_join 56 = .ok (.iload_n 1, 1) := by decide +kernel
theorem dX2_join_57 : decode cX2_join 57 = .ok (.iload_n 2, 1) := by decide +kernel
theorem dX2_join_58 : decode cX2_join 58 = .ok (.imul, 1) := by decide +kernel
theorem dX2_join_59 : decode cX2_join 59 = .ok (.ireturn, 1) := by decide +kernel
theorem dX2_join_60 : decode cX2_join 60 = .ok (.iload_n 2, 1) := by decide +kernel
theorem dX2_join_61 : decode cX2_join 61 = .ok (.ifCond .ne 7, 3) := by decide +kernel
theorem dX2_join_64 : decode cX2_join 64 = .ok (.iconst 0, 1) := by decide +kernel
theorem dX2_join_65 : decode cX2_join 65 = .ok (.goto 6, 3) := by decide +kernel
theorem dX2_join_68 : decode cX2_join 68 = .ok (.iload_n 1, 1) := by decide +kernel
theorem dX2_join_69 : decode cX2_join 69 = .ok (.iload_n 2, 1) := by decide +kernel
theorem dX2_join_70 : decode cX2_join 70 = .ok (.idiv, 1) := by decide +kernel
theorem dX2_join_71 : decode cX2_join 71 = .ok (.ireturn, 1) := by decide +kernel
theorem dX2_join_72 : decode cX2_join 72 = .ok (.iload_n 1, 1) := by decide +kernel
theorem dX2_join_73 : decode cX2_join 73 = .ok (.iload_n 2, 1) := by decide +kernel
theorem dX2_join_74 : decode cX2_join 74 = .ok (.if_icmp .ge 7, 3) := by decide +kernel
theorem dX2_join_77 : decode cX2_join 77 = .ok (.iconst 1, 1) := by decide +kernel
theorem dX2_join_78 : decode cX2_join 78 = .ok (.goto 4, 3) := by decide +kernel
theorem dX2_join_81 : decode cX2_join 81 = .ok (.iconst 0, 1) := by decide +kernel
theorem dX2_join_82 : decode cX2_join 82 = .ok (.ireturn, 1) := by decide +kernel
theorem dX2_join_83 : decode cX2_join 83 = .ok (.iload_n 1, 1) := by decide +kernel
theorem dX2_join_84 : decode cX2_join 84 = .ok (.iload_n 2, 1) := by decide +kernel
theorem dX2_join_85 : decode cX2_join 85 = .ok (.if_icmp .ne 7, 3) := by decide +kernel
theorem dX2_join_88 : decode cX2_join 88 = .ok (.iconst 1, 1) := by decide +kernel
theorem dX2_join_89 : decode cX2_join 89 = .ok (.goto 4, 3) := by decide +kernel
theorem dX2_join_92 : decode cX2_join 92 = .ok (.iconst 0, 1) := by decide +kernel
theorem dX2_join_93 : decode cX2_join 93 = .ok (.ireturn, 1) := by decide +kernel
theorem dX2_join_94 : decode cX2_join 94 = .ok (.iload_n 1, 1) := by decide +kernel
theorem dX2_join_95 : decode cX2_join 95 = .ok (.iload_n 2, 1) := by decide +kernel
theorem dX2_join_96 : decode cX2_join 96 = .ok (.if_icmp .le 7, 3) := by decide +kernel
theorem dX2_join_99 : decode cX2_join 99 = .ok (.iconst 1, 1) := by decide +kernel
theorem dX2_join_100 : decode cX2_join 100 = .ok (.goto 4, 3) := by decide +kernel
theorem dX2_join_103 : decode cX2_join 103 = .ok (.iconst 0, 1) := by decide +kernel
theorem dX2_join_104 : decode cX2_join 104 = .ok (.ireturn, 1) := by decide +kernel
theorem dX2_join_105 : decode cX2_join 105 = .ok (.iload_n 1, 1) := by decide +kernel
theorem dX2_join_106 : decode cX2_join 106 = .ok (.iload_n 2, 1) := by decide +kernel
theorem dX2_join_107 : decode cX2_join 107 = .ok (.iand, 1) := by decide +kernel
theorem dX2_join_108 : decode cX2_join 108 = .ok (.ireturn, 1) := by decide +kernel
theorem dX2_join_109 : decode cX2_join 109 = .ok (.iload_n 1, 1) := by decide +kernel
theorem dX2_join_110 : decode cX2_join 110 = .ok (.iload_n 2, 1) := by decide +kernel
theorem dX2_join_111 : decode cX2_join 111 = .ok (.ior, 1) := by decide +kernel
theorem dX2_join_112 : decode cX2_join 112 = .ok (.ireturn, 1) := by decide +kernel
theorem dX3_init_0 : decode cX3_init 0 = .ok (.aload_n 0, 1) := by decide +kernel
theorem dX3_init_1 : decode cX3_init 1 = .ok (.invokespecial 3, 3) := by decide +kernel
theorem dX3_init_4 : decode cX3_init 4 = .ok (.aload_n 0, 1) := by decide +kernel
theorem dX3_init_5 : decode cX3_init 5 = .ok (.iconst 2, 1) := by decide +kernel
theorem dX3_init_6 : decode cX3_init 6 = .ok (.newarray .int, 2) := by decide +kernel
theorem dX3_init_8 : decode cX3_init 8 = .ok (.dup, 1) := by decide +kernel
theorem dX3_init_9 : decode cX3_init 9 = .ok (.iconst 0, 1) := by decide +kernel
theorem dX3_init_10 : decode cX3_init 10 = .ok (.iconst 3, 1) := by decide +kernel
theorem dX3_init_11 : decode cX3_init 11 = .ok (.iastore, 1) := by decide +kernel
theorem dX3_init_12 : decode cX3_init 12 = .ok (.dup, 1) := by decide +kernel
theorem dX3_init_13 : decode cX3_init 13 = .ok (.iconst 1, 1) := by decide +kernel
theorem dX3_init_14 : decode cX3_init 14 = .ok (.iconst 3, 1) := by decide +kernel
theorem dX3_init_15 : decode cX3_init 15 = .ok (.iastore, 1) := by decide +kernel
theorem dX3_init_16 : decode cX3_init 16 = .ok (.putfield 9, 3) := by decide +kernel
theorem dX3_init_19 : decode cX3_init 19 = .ok (.aload_n 0, 1) := by decide +kernel
theorem dX3_init_20 : decode cX3_init 20 = .ok (.bipush 12, 2) := by decide +kernel
theorem dX3_init_22 : decode cX3_init 22 = .ok (.newarray .int, 2) := by decide +kernel
theorem dX3_init_24 : decode cX3_init 24 = .ok (.putfield 15, 3) := by decide +kernel
theorem dX3_init_27 : decode cX3_init 27 = .ok (.aload_n 0, 1) := by decide +kernel
theorem dX3_init_28 : decode cX3_init 28 = .ok (.bipush 12, 2) := by decide +kernel
theorem dX3_init_30 : decode cX3_init 30 = .ok (.newarray .int, 2) := by decide +kernel
theorem dX3_init_32 : decode cX3_init 32 = .ok (.putfield 18, 3) := by decide +kernel
theorem dX3_init_35 : decode cX3_init 35 = .ok (.aload_n 0, 1) := by decide +kernel
theorem dX3_init_36 : decode cX3_init 36 = .ok (.bipush 72, 2) := by decide +kernel
theorem dX3_init_38 : decode cX3_init 38 = .ok (.newarray .int, 2) := by decide +kernel
theorem dX3_init_40 : decode cX3_init 40 = .ok (.putfield 21, 3) := by decide +kernel
theorem dX3_init_43 : decode cX3_init 43 = .ok (.aload_n 0, 1) := by decide +kernel
theorem dX3_init_44 : decode cX3_init 44 = .ok (.bipush 7, 2) := by decide +kernel
theorem dX3_init_46 : decode cX3_init 46 = .ok (.newarray .int, 2) := by decide +kernel
theorem dX3_init_48 : decode cX3_init 48 = .ok (.dup, 1) := by decide +kernel
theorem dX3_init_49 : decode cX3_init 49 = .ok (.iconst 0, 1) := by decide +kernel
theorem dX3_init_50 : decode cX3_init 50 = .ok (.iconst 1, 1) := by decide +kernel
theorem dX3_init_51 : decode cX3_init 51 = .ok (.iastore, 1) := by decide +kernel
theorem dX3_init_52 : decode cX3_init 52 = .ok (.dup, 1) := by decide +kernel
theorem dX3_init_53 : decode cX3_init 53 = .ok (.iconst 1, 1) := by decide +kernel
theorem dX3_init_54 : decode cX3_init 54 = .ok (.bipush 100, 2) := by decide +kernel
theorem dX3_init_56 : decode cX3_init 56 = .ok (.iastore, 1) := by decide +kernel
theorem dX3_init_57 : decode cX3_init 57 = .ok (.dup, 1) := by decide +kernel
theorem dX3_init_58 : decode cX3_init 58 = .ok (.iconst 2, 1) := by decide +kernel
theorem dX3_init_59 : decode cX3_init 59 = .ok (.bipush 10, 2) := by decide +kernel
theorem dX3_init_61 : decode cX3_init 61 = .ok (.iastore, 1) := by decide +kernel
theorem dX3_init_62 : decode cX3_init 62 = .ok (.dup, 1) := by decide +kernel
theorem dX3_init_63 : decode cX3_init 63 = .ok (.iconst 3, 1) := by decide +kernel
theorem dX3_init_64 : decode cX3_init 64 = .ok (.iconst 0, 1) := by decide +kernel
theorem dX3_init_65 : decode cX3_init 65 = .ok (.iastore, 1) := by decide +kernel
theorem dX3_init_66 : decode cX3_init 66 = .ok (.dup, 1) := by decide +kernel
theorem dX3_init_67 : decode cX3_init 67 = .ok (.iconst 4, 1) := by decide +kernel
theorem dX3_init_68 : decode cX3_init 68 = .ok (.iconst 3, 1) := by decide +kernel
theorem dX3_init_69 : decode cX3_init 69 = .ok (.iastore, 1) := by decide +kernel
theorem dX3_init_70 : decode cX3_init 70 = .ok (.dup, 1) := by decide +kernel
theorem dX3_init_71 : decode cX3_init 71 = .ok (.iconst 5, 1) := by decide +kernel
theorem dX3_init_72 : decode cX3_init 72 = .ok (.iconst 0, 1) := by decide +kernel
theorem dX3_init_73 : decode cX3_init 73 = .ok (.iastore, 1) := by decide +kernel
theorem dX3_init_74 : decode cX3_init 74 = .ok (.dup, 1) := by decide +kernel
theorem dX3_init_75 : decode cX3_init 75 = .ok (.bipush 6, 2) := by decide +kernel
theorem dX3_init_77 : decode cX3_init 77 = .ok (.iconst 0, 1) := by decide +kernel
theorem dX3_init_78 : decode cX3_init 78 = .ok (.iastore, 1) := by decide +kernel
theorem dX3_init_79 : decode cX3_init 79 = .ok (.putfield 24, 3) := by decide +kernel
theorem dX3_init_82 : decode cX3_init 82 = .ok (.aload_n 0, 1) := by decide +kernel
theorem dX3_init_83 : decode cX3_init 83 = .ok (.getfield 21, 3) := by decide +kernel
theorem dX3_init_86 : decode cX3_init 86 = .ok (.iconst (-1), 1) := by decide +kernel
theorem dX3_init_87 : decode cX3_init 87 = .ok (.invokestatic 27, 3) := by decide +kernel
theorem dX3_init_90 : decode cX3_init 90 = .ok (.return_, 1) := by decide +kernel
theorem dX3_version_0 : decode cX3_version 0 = .ok (.aload_n 0, 1) := by decide +kernel
theorem dX3_version_1 : decode cX3_version 1 = .ok (.getfield 33, 3) := by decide +kernel
theorem dX3_version_4 : decode cX3_version 4 = .ok (.ireturn, 1) := by decide +kernel
theorem dX3_isSide_0 : decode cX3_isSide 0 = .ok (.iload_n 1, 1) := by decide +kernel
theorem dX3_isSide_1 : decode cX3_isSide 1 = .ok (.ifCond .eq 8, 3) := by decide +kernel
theorem dX3_isSide_4 : decode cX3_isSide 4 = .ok (.iload_n 1, 1) := by decide +kernel
theorem dX3_isSide_5 : decode cX3_isSide 5 = .ok (.iconst 1, 1) := by decide +kernel
theorem dX3_isSide_6 : decode cX3_isSide 6 = .ok (.if_icmp .ne 7, 3) := by decide +kernel
theorem dX3_isSide_9 : decode cX3_isSide 9 = .ok (.iconst 1, 1) := by decide +kernel
theorem dX3_isSide_10 : decode cX3_isSide 10 = .ok (.goto 4, 3) := by decide +kernel
theorem dX3_isSide_13 : decode cX3_isSide 13 = .ok (.iconst 0, 1) := by decide +kernel
theorem dX3_isSide_14 : decode cX3_isSide 14 = .ok (.ireturn, 1) := by decide +kernel
theorem dX3_isSort_0 : decode cX3_isSort 0 = .ok (.iload_n 1, 1) := by decide +kernel
theorem dX3_isSort_1 : decode cX3_isSort 1 = .ok (.ifCond .eq 8, 3) := by decide +kernel
theorem dX3_isSort_4 : decode cX3_isSort 4 = .ok (.iload_n 1, 1) := by decide +kernel
theorem dX3_isSort_5 : decode cX3_isSort 5 = .ok (.iconst 1, 1) := by decide +kernel
theorem dX3_isSort_6 : decode cX3_isSort 6 = .ok (.if_icmp .ne 21, 3) := by decide +kernel
theorem dX3_isSort_9 : decode cX3_isSort 9 = .ok (.iload_n 2, 1) := by decide +kernel
theorem dX3_isSort_10 : decode cX3_isSort 10 = .ok (.ifCond .lt 17, 3) := by decide +kernel
theorem dX3_isSort_13 : decode cX3_isSort 13 = .ok (.iload_n 2, 1) := by decide +kernel
theorem dX3_isSort_14 : decode cX3_isSort 14 = .ok (.aload_n 0, 1) := by decide +kernel
theorem dX3_isSort_15 : decode cX3_isSort 15 = .ok (.getfield 9, 3) := by decide +kernel
theorem dX3_isSort_18 : decode cX3_isSort 18 = .ok (.iload_n 1, 1) := by decide +kernel
theorem dX3_isSort_19 : decode cX3_isSort 19 = .ok (.iaload, 1) := by decide +kernel
theorem dX3_isSort_20 : decode cX3_isSort 20 = .ok (.if_icmp .ge 7, 3) := by decide +kernel
theorem dX3_isSort_23 : decode cX3_isSort 23 = .ok (.iconst 1, 1) := by decide +kernel
theorem dX3_isSort_24 : decode cX3_isSort 24 = .ok (.goto 4, 3) := by decide +kernel
theorem dX3_isSort_27 : decode cX3_isSort 27 = .ok (.iconst 0, 1) := by decide +kernel
theorem dX3_isSort_28 : decode cX3_isSort 28 = .ok (.ireturn, 1) := by decide +kernel
theorem dX3_count_0 : decode cX3_count 0 = .ok (.aload_n 0, 1) := by decide +kernel
theorem dX3_count_1 : decode cX3_count 1 = .ok (.iload_n 1, 1) := by decide +kernel
theorem dX3_count_2 : decode cX3_count 2 = .ok (.invokevirtual 37, 3) := by decide +kernel
theorem dX3_count_5 : decode cX3_count 5 = .ok (.ifCond .eq 12, 3) := by decide +kernel
theorem dX3_count_8 : decode cX3_count 8 = .ok (.aload_n 0, 1) := by decide +kernel
theorem dX3_count_9 : decode cX3_count 9 = .ok (.getfield 9, 3) := by decide +kernel
theorem dX3_count_12 : decode cX3_count 12 = .ok (.iload_n 1, 1) := by decide +kernel
theorem dX3_count_13 : decode cX3_count 13 = .ok (.iaload, 1) := by decide +kernel
theorem dX3_count_14 : decode cX3_count 14 = .ok (.goto 4, 3) := by decide +kernel
theorem dX3_count_17 : decode cX3_count 17 = .ok (.iconst 0, 1) := by decide +kernel
theorem dX3_count_18 : decode cX3_count 18 = .ok (.ireturn, 1) := by decide +kernel
theorem dX3_resize_0 : decode cX3_resize 0 = .ok (.aload_n 0, 1) := by decide +kernel
theorem dX3_resize_1 : decode cX3_resize 1 = .ok (.iload_n 1, 1) := by decide +kernel
theorem dX3_resize_2 : decode cX3_resize 2 = .ok (.invokevirtual 37, 3) := by decide +kernel
theorem dX3_resize_5 : decode cX3_resize 5 = .ok (.ifCond .ne 4, 3) := by decide +kernel
theorem dX3_resize_8 : decode cX3_resize 8 = .ok (.return_, 1) := by decide +kernel
theorem dX3_resize_9 : decode cX3_resize 9 = .ok (.aload_n 0, 1) := by decide +kernel
theorem dX3_resize_10 : decode cX3_resize 10 = .ok (.getfield 9, 3) := by decide +kernel
theorem dX3_resize_13 : decode cX3_resize 13 = .ok (.iload_n 1, 1) := by decide +kernel
theorem dX3_resize_14 : decode cX3_resize 14 = .ok (.iload_n 2, 1) := by decide +kernel
theorem dX3_resize_15 : decode cX3_resize 15 = .ok (.iastore, 1) := by decide +kernel
theorem dX3_resize_16 : decode cX3_resize 16 = .ok (.iload_n 1, 1) := by decide +kernel
theorem dX3_resize_17 : decode cX3_resize 17 = .ok (.bipush 6, 2) := by decide +kernel
theorem dX3_resize_19 : decode cX3_resize 19 = .ok (.imul, 1) := by decide +kernel
theorem dX3_resize_20 : decode cX3_resize 20 = .ok (.istore_n 3, 1) := by decide +kernel
theorem dX3_resize_21 : decode cX3_resize 21 = .ok (.iconst 0, 1) := by decide +kernel
theorem dX3_resize_22 : decode cX3_resize 22 = .ok (.istore 4, 2) := by decide +kernel
theorem dX3_resize_24 : decode cX3_resize 24 = .ok (.iload 4, 2) := by decide +kernel
theorem dX3_resize_26 : decode cX3_resize 26 = .ok (.bipush 6, 2) := by decide +kernel
theorem dX3_resize_28 : decode cX3_resize 28 = .ok (.if_icmp .ge 29, 3) := by decide +kernel
theorem dX3_resize_31 : decode cX3_resize 31 = .ok (.aload_n 0, 1) := by decide +kernel
theorem dX3_resize_32 : decode cX3_resize 32 = .ok (.getfield 15, 3) := by decide +kernel
theorem dX3_resize_35 : decode cX3_resize 35 = .ok (.iload_n 3, 1) := by decide +kernel
theorem dX3_resize_36 : decode cX3_resize 36 = .ok (.iload 4, 2) := by decide +kernel
theorem dX3_resize_38 : decode cX3_resize 38 = .ok (.iadd, 1) := by decide +kernel
theorem dX3_resize_39 : decode cX3_resize 39 = .ok (.iconst 0, 1) := by decide +kernel
theorem dX3_resize_40 : decode cX3_resize 40 = .ok (.iastore, 1) := by decide +kernel
theorem dX3_resize_41 : decode cX3_resize 41 = .ok (.aload_n 0, 1) := by decide +kernel
theorem dX3_resize_42 : decode cX3_resize 42 = .ok (.getfield 18, 3) := by decide +kernel
theorem dX3_resize_45 : decode cX3_resize 45 = .ok (.iload_n 3, 1) := by decide +kernel
theorem dX3_resize_46 : decode cX3_resize 46 = .ok (.iload 4, 2) := by decide +kernel
theorem dX3_resize_48 : decode cX3_resize 48 = .ok (.iadd, 1) := by decide +kernel
theorem dX3_resize_49 : decode cX3_resize 49 = .ok (.iconst 0, 1) := by decide +kernel
theorem dX3_resize_50 : decode cX3_resize 50 = .ok (.iastore, 1) := by decide +kernel
theorem dX3_resize_51 : decode cX3_resize 51 = .ok (.iinc 4 1, 3) := by decide +kernel
theorem dX3_resize_54 : decode cX3_resize 54 = .ok (.goto (-30), 3) := by decide +kernel
theorem dX3_resize_57 : decode cX3_resize 57 = .ok (.aload_n 0, 1) := by decide +kernel
theorem dX3_resize_58 : decode cX3_resize 58 = .ok (.getfield 21, 3) := by decide +kernel
theorem dX3_resize_61 : decode cX3_resize 61 = .ok (.iconst (-1), 1) := by decide +kernel
theorem dX3_resize_62 : decode cX3_resize 62 = .ok (.invokestatic 27, 3) := by decide +kernel
theorem dX3_resize_65 : decode cX3_resize 65 = .ok (.aload_n 0, 1) := by decide +kernel
theorem dX3_resize_66 : decode cX3_resize 66 = .ok (.dup, 1) := by decide +kernel
theorem dX3_resize_67 : decode cX3_resize 67 = .ok (.getfield 33, 3) := by decide +kernel
theorem dX3_resize_70 : decode cX3_resize 70 = .ok (.iconst 1, 1) := by decide +kernel
theorem dX3_resize_71 : decode cX3_resize 71 = .ok (.iadd, 1) := by decide +kernel
theorem dX3_resize_72 : decode cX3_resize 72 = .ok (.putfield 33, 3) := by decide +kernel
theorem dX3_resize_75 : decode cX3_resize 75 = .ok (.return_, 1) := by decide +kernel
theorem dX3_describe_0 : decode cX3_describe 0 = .ok (.aload_n 0, 1) := by decide +kernel
theorem dX3_describe_1 : decode cX3_describe 1 = .ok (.iload_n 1, 1) := by decide +kernel
theorem dX3_describe_2 : decode cX3_describe 2 = .ok (.iload_n 2, 1) := by decide +kernel
theorem dX3_describe_3 : decode cX3_describe 3 = .ok (.invokevirtual 41, 3) := by decide +kernel
theorem dX3_describe_6 : decode cX3_describe 6 = .ok (.ifCond .ne 5, 3) := by decide +kernel
theorem dX3_describe_9 : decode cX3_describe 9 = .ok (.iconst 0, 1) := by decide +kernel
theorem dX3_describe_10 : decode cX3_describe 10 = .ok (.ireturn, 1) := by decide +kernel
theorem dX3_describe_11 : decode cX3_describe 11 = .ok (.iload_n 1, 1) := by decide +kernel
theorem dX3_describe_12 : decode cX3_describe 12 = .ok (.bipush 6, 2) := by decide +kernel
theorem dX3_describe_14 : decode cX3_describe 14 = .ok (.imul, 1) := by decide +kernel
theorem dX3_describe_15 : decode cX3_describe 15 = .ok (.istore 5, 2) := by decide +kernel
theorem dX3_describe_17 : decode cX3_describe 17 = .ok (.iload 4, 2) := by decide +kernel
theorem dX3_describe_19 : decode cX3_describe 19 = .ok (.istore 6, 2) := by decide +kernel
theorem dX3_describe_21 : decode cX3_describe 21 = .ok (.iconst 0, 1) := by decide +kernel
theorem dX3_describe_22 : decode cX3_describe 22 = .ok (.istore 7, 2) := by decide +kernel
theorem dX3_describe_24 : decode cX3_describe 24 = .ok (.iload 7, 2) := by decide +kernel
theorem dX3_describe_26 : decode cX3_describe 26 = .ok (.bipush 6, 2) := by decide +kernel
theorem dX3_describe_28 : decode cX3_describe 28 = .ok (.if_icmp .ge 34, 3) := by decide +kernel
theorem dX3_describe_31 : decode cX3_describe 31 = .ok (.iload 6, 2) := by decide +kernel
theorem dX3_describe_33 : decode cX3_describe 33 = .ok (.iload 7, 2) := by decide +kernel
theorem dX3_describe_35 : decode cX3_describe 35 = .ok (.iload_n 2, 1) := by decide +kernel
theorem dX3_describe_36 : decode cX3_describe 36 = .ok (.if_icmp .ne 7, 3) := by decide +kernel
theorem dX3_describe_39 : decode cX3_describe 39 = .ok (.iconst 0, 1) := by decide +kernel
theorem dX3_describe_40 : decode cX3_describe 40 = .ok (.goto 13, 3) := by decide +kernel
theorem dX3_describe_43 : decode cX3_describe 43 = .ok (.aload_n 0, 1) := by decide +kernel
theorem dX3_describe_44 : decode cX3_describe 44 = .ok (.getfield 18, 3) := by decide +kernel
theorem dX3_describe_47 : decode cX3_describe 47 = .ok (.iload 5, 2) := by decide +kernel
theorem dX3_describe_49 : decode cX3_describe 49 = .ok (.iload 7, 2) := by decide +kernel
theorem dX3_describe_51 : decode cX3_describe 51 = .ok (.iadd, 1) := by decide +kernel
theorem dX3_describe_52 : decode cX3_describe 52 = .ok (.iaload, 1) := by decide +kernel
theorem dX3_describe_53 : decode cX3_describe 53 = .ok (.iadd, 1) := by decide +kernel
theorem dX3_describe_54 : decode cX3_describe 54 = .ok (.istore 6, 2) := by decide +kernel
theorem dX3_describe_56 : decode cX3_describe 56 = .ok (.iinc 7 1, 3) := by decide +kernel
theorem dX3_describe_59 : decode cX3_describe 59 = .ok (.goto (-35), 3) := by decide +kernel
theorem dX3_describe_62 : decode cX3_describe 62 = .ok (.iload 6, 2) := by decide +kernel
theorem dX3_describe_64 : decode cX3_describe 64 = .ok (.sipush 1000, 3) := by decide +kernel
theorem dX3_describe_67 : decode cX3_describe 67 = .ok (.if_icmp .le 5, 3) := by decide +kernel
theorem dX3_describe_70 : decode cX3_describe 70 = .ok (.iconst 0, 1) := by decide +kernel
theorem dX3_describe_71 : decode cX3_describe 71 = .ok (.ireturn, 1) := by decide +kernel
theorem dX3_describe_72 : decode cX3_describe 72 = .ok (.aload_n 0, 1) := by decide +kernel
theorem dX3_describe_73 : decode cX3_describe 73 = .ok (.getfield 15, 3) := by decide +kernel
