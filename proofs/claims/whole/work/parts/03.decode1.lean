theorem dX7_drop_27 : decode cX7_drop 27 = .ok (.aload_n 0, 1) := by decide +kernel
theorem dX7_drop_28 : decode cX7_drop 28 = .ok (.aload_n 0, 1) := by decide +kernel
theorem dX7_drop_29 : decode cX7_drop 29 = .ok (.getfield 12, 3) := by decide +kernel
theorem dX7_drop_32 : decode cX7_drop 32 = .ok (.iload_n 1, 1) := by decide +kernel
theorem dX7_drop_33 : decode cX7_drop 33 = .ok (.invokevirtual 112, 3) := by decide +kernel
theorem dX7_drop_36 : decode cX7_drop 36 = .ok (.invokevirtual 89, 3) := by decide +kernel
theorem dX7_drop_39 : decode cX7_drop 39 = .ok (.ireturn, 1) := by decide +kernel
theorem dX7_feed_0 : decode cX7_feed 0 = .ok (.iload_n 1, 1) := by decide +kernel
theorem dX7_feed_1 : decode cX7_feed 1 = .ok (.iconst 0, 1) := by decide +kernel
theorem dX7_feed_2 : decode cX7_feed 2 = .ok (.sipush 255, 3) := by decide +kernel
theorem dX7_feed_5 : decode cX7_feed 5 = .ok (.invokestatic 76, 3) := by decide +kernel
theorem dX7_feed_8 : decode cX7_feed 8 = .ok (.ifCond .eq 6, 3) := by decide +kernel
theorem dX7_feed_11 : decode cX7_feed 11 = .ok (.ldc 80, 2) := by decide +kernel
theorem dX7_feed_13 : decode cX7_feed 13 = .ok (.ireturn, 1) := by decide +kernel
theorem dX7_feed_14 : decode cX7_feed 14 = .ok (.aload_n 0, 1) := by decide +kernel
theorem dX7_feed_15 : decode cX7_feed 15 = .ok (.getfield 19, 3) := by decide +kernel
theorem dX7_feed_18 : decode cX7_feed 18 = .ok (.iload_n 1, 1) := by decide +kernel
theorem dX7_feed_19 : decode cX7_feed 19 = .ok (.invokevirtual 115, 3) := by decide +kernel
theorem dX7_feed_22 : decode cX7_feed 22 = .ok (.ifCond .eq 13, 3) := by decide +kernel
theorem dX7_feed_25 : decode cX7_feed 25 = .ok (.aload_n 0, 1) := by decide +kernel
theorem dX7_feed_26 : decode cX7_feed 26 = .ok (.getfield 19, 3) := by decide +kernel
theorem dX7_feed_29 : decode cX7_feed 29 = .ok (.getfield 118, 3) := by decide +kernel
theorem dX7_feed_32 : decode cX7_feed 32 = .ok (.goto 5, 3) := by decide +kernel
theorem dX7_feed_35 : decode cX7_feed 35 = .ok (.ldc 121, 2) := by decide +kernel
theorem dX7_feed_37 : decode cX7_feed 37 = .ok (.ireturn, 1) := by decide +kernel
theorem dX7_land_0 : decode cX7_land 0 = .ok (.aload_n 0, 1) := by decide +kernel
theorem dX7_land_1 : decode cX7_land 1 = .ok (.getfield 19, 3) := by decide +kernel
theorem dX7_land_4 : decode cX7_land 4 = .ok (.invokevirtual 122, 3) := by decide +kernel
theorem dX7_land_7 : decode cX7_land 7 = .ok (.ifCond .ne 14, 3) := by decide +kernel
theorem dX7_land_10 : decode cX7_land 10 = .ok (.ldc 126, 2) := by decide +kernel
theorem dX7_land_12 : decode cX7_land 12 = .ok (.aload_n 0, 1) := by decide +kernel
theorem dX7_land_13 : decode cX7_land 13 = .ok (.getfield 19, 3) := by decide +kernel
theorem dX7_land_16 : decode cX7_land 16 = .ok (.getfield 127, 3) := by decide +kernel
theorem dX7_land_19 : decode cX7_land 19 = .ok (.isub, 1) := by decide +kernel
theorem dX7_land_20 : decode cX7_land 20 = .ok (.ireturn, 1) := by decide +kernel
theorem dX7_land_21 : decode cX7_land 21 = .ok (.aload_n 0, 1) := by decide +kernel
theorem dX7_land_22 : decode cX7_land 22 = .ok (.getfield 26, 3) := by decide +kernel
theorem dX7_land_25 : decode cX7_land 25 = .ok (.aload_n 0, 1) := by decide +kernel
theorem dX7_land_26 : decode cX7_land 26 = .ok (.getfield 19, 3) := by decide +kernel
theorem dX7_land_29 : decode cX7_land 29 = .ok (.getfield 130, 3) := by decide +kernel
theorem dX7_land_32 : decode cX7_land 32 = .ok (.invokevirtual 133, 3) := by decide +kernel
theorem dX7_land_35 : decode cX7_land 35 = .ok (.aload_n 0, 1) := by decide +kernel
theorem dX7_land_36 : decode cX7_land 36 = .ok (.getfield 40, 3) := by decide +kernel
theorem dX7_land_39 : decode cX7_land 39 = .ok (.invokevirtual 137, 3) := by decide +kernel
theorem dX7_land_42 : decode cX7_land 42 = .ok (.aload_n 0, 1) := by decide +kernel
theorem dX7_land_43 : decode cX7_land 43 = .ok (.getfield 26, 3) := by decide +kernel
theorem dX7_land_46 : decode cX7_land 46 = .ok (.getfield 140, 3) := by decide +kernel
theorem dX7_land_49 : decode cX7_land 49 = .ok (.ireturn, 1) := by decide +kernel
theorem dX7_fault_0 : decode cX7_fault 0 = .ok (.aload_n 0, 1) := by decide +kernel
theorem dX7_fault_1 : decode cX7_fault 1 = .ok (.getfield 19, 3) := by decide +kernel
theorem dX7_fault_4 : decode cX7_fault 4 = .ok (.getfield 143, 3) := by decide +kernel
theorem dX7_fault_7 : decode cX7_fault 7 = .ok (.ireturn, 1) := by decide +kernel
theorem dX7_undo_0 : decode cX7_undo 0 = .ok (.aload_n 0, 1) := by decide +kernel
theorem dX7_undo_1 : decode cX7_undo 1 = .ok (.getfield 40, 3) := by decide +kernel
theorem dX7_undo_4 : decode cX7_undo 4 = .ok (.aload_n 0, 1) := by decide +kernel
theorem dX7_undo_5 : decode cX7_undo 5 = .ok (.getfield 26, 3) := by decide +kernel
theorem dX7_undo_8 : decode cX7_undo 8 = .ok (.invokevirtual 146, 3) := by decide +kernel
theorem dX7_undo_11 : decode cX7_undo 11 = .ok (.ifCond .eq 13, 3) := by decide +kernel
theorem dX7_undo_14 : decode cX7_undo 14 = .ok (.aload_n 0, 1) := by decide +kernel
theorem dX7_undo_15 : decode cX7_undo 15 = .ok (.getfield 40, 3) := by decide +kernel
theorem dX7_undo_18 : decode cX7_undo 18 = .ok (.getfield 150, 3) := by decide +kernel
theorem dX7_undo_21 : decode cX7_undo 21 = .ok (.goto 5, 3) := by decide +kernel
theorem dX7_undo_24 : decode cX7_undo 24 = .ok (.ldc 151, 2) := by decide +kernel
theorem dX7_undo_26 : decode cX7_undo 26 = .ok (.ireturn, 1) := by decide +kernel
theorem dX7_days_0 : decode cX7_days 0 = .ok (.aload_n 0, 1) := by decide +kernel
theorem dX7_days_1 : decode cX7_days 1 = .ok (.getfield 26, 3) := by decide +kernel
theorem dX7_days_4 : decode cX7_days 4 = .ok (.invokevirtual 152, 3) := by decide +kernel
theorem dX7_days_7 : decode cX7_days 7 = .ok (.ifCond .ne 6, 3) := by decide +kernel
theorem dX7_days_10 : decode cX7_days 10 = .ok (.ldc 151, 2) := by decide +kernel
theorem dX7_days_12 : decode cX7_days 12 = .ok (.ireturn, 1) := by decide +kernel
theorem dX7_days_13 : decode cX7_days 13 = .ok (.iload_n 1, 1) := by decide +kernel
theorem dX7_days_14 : decode cX7_days 14 = .ok (.iconst 1, 1) := by decide +kernel
theorem dX7_days_15 : decode cX7_days 15 = .ok (.bipush 24, 2) := by decide +kernel
theorem dX7_days_17 : decode cX7_days 17 = .ok (.invokestatic 76, 3) := by decide +kernel
theorem dX7_days_20 : decode cX7_days 20 = .ok (.ifCond .eq 6, 3) := by decide +kernel
theorem dX7_days_23 : decode cX7_days 23 = .ok (.ldc 80, 2) := by decide +kernel
theorem dX7_days_25 : decode cX7_days 25 = .ok (.ireturn, 1) := by decide +kernel
theorem dX7_days_26 : decode cX7_days 26 = .ok (.aload_n 0, 1) := by decide +kernel
theorem dX7_days_27 : decode cX7_days 27 = .ok (.getfield 26, 3) := by decide +kernel
theorem dX7_days_30 : decode cX7_days 30 = .ok (.getfield 155, 3) := by decide +kernel
theorem dX7_days_33 : decode cX7_days 33 = .ok (.iload_n 1, 1) := by decide +kernel
theorem dX7_days_34 : decode cX7_days 34 = .ok (.iadd, 1) := by decide +kernel
theorem dX7_days_35 : decode cX7_days 35 = .ok (.sipush 999, 3) := by decide +kernel
theorem dX7_days_38 : decode cX7_days 38 = .ok (.if_icmp .le 6, 3) := by decide +kernel
theorem dX7_days_41 : decode cX7_days 41 = .ok (.ldc 121, 2) := by decide +kernel
theorem dX7_days_43 : decode cX7_days 43 = .ok (.ireturn, 1) := by decide +kernel
theorem dX7_days_44 : decode cX7_days 44 = .ok (.iconst 0, 1) := by decide +kernel
theorem dX7_days_45 : decode cX7_days 45 = .ok (.istore_n 2, 1) := by decide +kernel
theorem dX7_days_46 : decode cX7_days 46 = .ok (.iconst 0, 1) := by decide +kernel
theorem dX7_days_47 : decode cX7_days 47 = .ok (.istore_n 3, 1) := by decide +kernel
theorem dX7_days_48 : decode cX7_days 48 = .ok (.iload_n 3, 1) := by decide +kernel
theorem dX7_days_49 : decode cX7_days 49 = .ok (.iload_n 1, 1) := by decide +kernel
theorem dX7_days_50 : decode cX7_days 50 = .ok (.if_icmp .ge 34, 3) := by decide +kernel
theorem dX7_days_53 : decode cX7_days 53 = .ok (.aload_n 0, 1) := by decide +kernel
theorem dX7_days_54 : decode cX7_days 54 = .ok (.getfield 40, 3) := by decide +kernel
theorem dX7_days_57 : decode cX7_days 57 = .ok (.aload_n 0, 1) := by decide +kernel
theorem dX7_days_58 : decode cX7_days 58 = .ok (.getfield 26, 3) := by decide +kernel
theorem dX7_days_61 : decode cX7_days 61 = .ok (.invokevirtual 158, 3) := by decide +kernel
theorem dX7_days_64 : decode cX7_days 64 = .ok (.iload_n 2, 1) := by decide +kernel
theorem dX7_days_65 : decode cX7_days 65 = .ok (.aload_n 0, 1) := by decide +kernel
theorem dX7_days_66 : decode cX7_days 66 = .ok (.getfield 26, 3) := by decide +kernel
theorem dX7_days_69 : decode cX7_days 69 = .ok (.aload_n 0, 1) := by decide +kernel
theorem dX7_days_70 : decode cX7_days 70 = .ok (.getfield 47, 3) := by decide +kernel
theorem dX7_days_73 : decode cX7_days 73 = .ok (.invokevirtual 161, 3) := by decide +kernel
theorem dX7_days_76 : decode cX7_days 76 = .ok (.iadd, 1) := by decide +kernel
theorem dX7_days_77 : decode cX7_days 77 = .ok (.istore_n 2, 1) := by decide +kernel
theorem dX7_days_78 : decode cX7_days 78 = .ok (.iinc 3 1, 3) := by decide +kernel
theorem dX7_days_81 : decode cX7_days 81 = .ok (.goto (-33), 3) := by decide +kernel
theorem dX7_days_84 : decode cX7_days 84 = .ok (.iload_n 2, 1) := by decide +kernel
theorem dX7_days_85 : decode cX7_days 85 = .ok (.ireturn, 1) := by decide +kernel
theorem dX7_carry_0 : decode cX7_carry 0 = .ok (.aload_n 0, 1) := by decide +kernel
theorem dX7_carry_1 : decode cX7_carry 1 = .ok (.iload_n 1, 1) := by decide +kernel
theorem dX7_carry_2 : decode cX7_carry 2 = .ok (.invokevirtual 165, 3) := by decide +kernel
theorem dX7_carry_5 : decode cX7_carry 5 = .ok (.ifCond .eq 11, 3) := by decide +kernel
theorem dX7_carry_8 : decode cX7_carry 8 = .ok (.aload_n 0, 1) := by decide +kernel
theorem dX7_carry_9 : decode cX7_carry 9 = .ok (.iload_n 2, 1) := by decide +kernel
theorem dX7_carry_10 : decode cX7_carry 10 = .ok (.invokevirtual 168, 3) := by decide +kernel
theorem dX7_carry_13 : decode cX7_carry 13 = .ok (.ifCond .ne 6, 3) := by decide +kernel
theorem dX7_carry_16 : decode cX7_carry 16 = .ok (.ldc 80, 2) := by decide +kernel
theorem dX7_carry_18 : decode cX7_carry 18 = .ok (.ireturn, 1) := by decide +kernel
theorem dX7_carry_19 : decode cX7_carry 19 = .ok (.aload_n 0, 1) := by decide +kernel
theorem dX7_carry_20 : decode cX7_carry 20 = .ok (.getfield 40, 3) := by decide +kernel
theorem dX7_carry_23 : decode cX7_carry 23 = .ok (.aload_n 0, 1) := by decide +kernel
theorem dX7_carry_24 : decode cX7_carry 24 = .ok (.getfield 26, 3) := by decide +kernel
theorem dX7_carry_27 : decode cX7_carry 27 = .ok (.invokevirtual 158, 3) := by decide +kernel
theorem dX7_carry_30 : decode cX7_carry 30 = .ok (.aload_n 0, 1) := by decide +kernel
theorem dX7_carry_31 : decode cX7_carry 31 = .ok (.getfield 26, 3) := by decide +kernel
theorem dX7_carry_34 : decode cX7_carry 34 = .ok (.getfield 171, 3) := by decide +kernel
theorem dX7_carry_37 : decode cX7_carry 37 = .ok (.iload_n 1, 1) := by decide +kernel
theorem dX7_carry_38 : decode cX7_carry 38 = .ok (.iaload, 1) := by decide +kernel
theorem dX7_carry_39 : decode cX7_carry 39 = .ok (.istore_n 3, 1) := by decide +kernel
theorem dX7_carry_40 : decode cX7_carry 40 = .ok (.aload_n 0, 1) := by decide +kernel
theorem dX7_carry_41 : decode cX7_carry 41 = .ok (.getfield 26, 3) := by decide +kernel
theorem dX7_carry_44 : decode cX7_carry 44 = .ok (.getfield 171, 3) := by decide +kernel
theorem dX7_carry_47 : decode cX7_carry 47 = .ok (.iload_n 1, 1) := by decide +kernel
theorem dX7_carry_48 : decode cX7_carry 48 = .ok (.iload_n 2, 1) := by decide +kernel
theorem dX7_carry_49 : decode cX7_carry 49 = .ok (.iastore, 1) := by decide +kernel
theorem dX7_carry_50 : decode cX7_carry 50 = .ok (.iload_n 3, 1) := by decide +kernel
theorem dX7_carry_51 : decode cX7_carry 51 = .ok (.ireturn, 1) := by decide +kernel
theorem dX7_nail_0 : decode cX7_nail 0 = .ok (.aload_n 0, 1) := by decide +kernel
theorem dX7_nail_1 : decode cX7_nail 1 = .ok (.iload_n 1, 1) := by decide +kernel
theorem dX7_nail_2 : decode cX7_nail 2 = .ok (.invokevirtual 165, 3) := by decide +kernel
theorem dX7_nail_5 : decode cX7_nail 5 = .ok (.ifCond .eq 12, 3) := by decide +kernel
theorem dX7_nail_8 : decode cX7_nail 8 = .ok (.iload_n 2, 1) := by decide +kernel
theorem dX7_nail_9 : decode cX7_nail 9 = .ok (.iconst 0, 1) := by decide +kernel
theorem dX7_nail_10 : decode cX7_nail 10 = .ok (.iconst 1, 1) := by decide +kernel
theorem dX7_nail_11 : decode cX7_nail 11 = .ok (.invokestatic 76, 3) := by decide +kernel
theorem dX7_nail_14 : decode cX7_nail 14 = .ok (.ifCond .eq 6, 3) := by decide +kernel
theorem dX7_nail_17 : decode cX7_nail 17 = .ok (.ldc 80, 2) := by decide +kernel
theorem dX7_nail_19 : decode cX7_nail 19 = .ok (.ireturn, 1) := by decide +kernel
theorem dX7_nail_20 : decode cX7_nail 20 = .ok (.aload_n 0, 1) := by decide +kernel
theorem dX7_nail_21 : decode cX7_nail 21 = .ok (.getfield 26, 3) := by decide +kernel
theorem dX7_nail_24 : decode cX7_nail 24 = .ok (.iload_n 1, 1) := by decide +kernel
theorem dX7_nail_25 : decode cX7_nail 25 = .ok (.invokevirtual 175, 3) := by decide +kernel
theorem dX7_nail_28 : decode cX7_nail 28 = .ok (.iload_n 2, 1) := by decide +kernel
theorem dX7_nail_29 : decode cX7_nail 29 = .ok (.iconst 1, 1) := by decide +kernel
theorem dX7_nail_30 : decode cX7_nail 30 = .ok (.if_icmp .ne 7, 3) := by decide +kernel
theorem dX7_nail_33 : decode cX7_nail 33 = .ok (.iconst 1, 1) := by decide +kernel
theorem dX7_nail_34 : decode cX7_nail 34 = .ok (.goto 4, 3) := by decide +kernel
theorem dX7_nail_37 : decode cX7_nail 37 = .ok (.iconst 0, 1) := by decide +kernel
theorem dX7_nail_38 : decode cX7_nail 38 = .ok (.if_icmp .ne 6, 3) := by decide +kernel
theorem dX7_nail_41 : decode cX7_nail 41 = .ok (.ldc 151, 2) := by decide +kernel
theorem dX7_nail_43 : decode cX7_nail 43 = .ok (.ireturn, 1) := by decide +kernel
theorem dX7_nail_44 : decode cX7_nail 44 = .ok (.aload_n 0, 1) := by decide +kernel
theorem dX7_nail_45 : decode cX7_nail 45 = .ok (.getfield 40, 3) := by decide +kernel
theorem dX7_nail_48 : decode cX7_nail 48 = .ok (.aload_n 0, 1) := by decide +kernel
theorem dX7_nail_49 : decode cX7_nail 49 = .ok (.getfield 26, 3) := by decide +kernel
theorem dX7_nail_52 : decode cX7_nail 52 = .ok (.invokevirtual 158, 3) := by decide +kernel
theorem dX7_nail_55 : decode cX7_nail 55 = .ok (.aload_n 0, 1) := by decide +kernel
theorem dX7_nail_56 : decode cX7_nail 56 = .ok (.getfield 26, 3) := by decide +kernel
theorem dX7_nail_59 : decode cX7_nail 59 = .ok (.dup, 1) := by decide +kernel
theorem dX7_nail_60 : decode cX7_nail 60 = .ok (.getfield 178, 3) := by decide +kernel
theorem dX7_nail_63 : decode cX7_nail 63 = .ok (.iconst 1, 1) := by decide +kernel
theorem dX7_nail_64 : decode cX7_nail 64 = .ok (.iload_n 1, 1) := by decide +kernel
theorem dX7_nail_65 : decode cX7_nail 65 = .ok (.ishl, 1) := by decide +kernel
theorem dX7_nail_66 : decode cX7_nail 66 = .ok (.ixor, 1) := by decide +kernel
theorem dX7_nail_67 : decode cX7_nail 67 = .ok (.putfield 178, 3) := by decide +kernel
theorem dX7_nail_70 : decode cX7_nail 70 = .ok (.aload_n 0, 1) := by decide +kernel
theorem dX7_nail_71 : decode cX7_nail 71 = .ok (.getfield 26, 3) := by decide +kernel
theorem dX7_nail_74 : decode cX7_nail 74 = .ok (.getfield 178, 3) := by decide +kernel
theorem dX7_nail_77 : decode cX7_nail 77 = .ok (.ireturn, 1) := by decide +kernel
theorem dX7_keepIn_0 : decode cX7_keepIn 0 = .ok (.aload_n 0, 1) := by decide +kernel
theorem dX7_keepIn_1 : decode cX7_keepIn 1 = .ok (.iload_n 1, 1) := by decide +kernel
theorem dX7_keepIn_2 : decode cX7_keepIn 2 = .ok (.invokevirtual 181, 3) := by decide +kernel
theorem dX7_keepIn_5 : decode cX7_keepIn 5 = .ok (.ifCond .eq 13, 3) := by decide +kernel
theorem dX7_keepIn_8 : decode cX7_keepIn 8 = .ok (.iload_n 2, 1) := by decide +kernel
theorem dX7_keepIn_9 : decode cX7_keepIn 9 = .ok (.iconst 0, 1) := by decide +kernel
theorem dX7_keepIn_10 : decode cX7_keepIn 10 = .ok (.bipush 60, 2) := by decide +kernel
theorem dX7_keepIn_12 : decode cX7_keepIn 12 = .ok (.invokestatic 76, 3) := by decide +kernel
theorem dX7_keepIn_15 : decode cX7_keepIn 15 = .ok (.ifCond .eq 6, 3) := by decide +kernel
theorem dX7_keepIn_18 : decode cX7_keepIn 18 = .ok (.ldc 80, 2) := by decide +kernel
theorem dX7_keepIn_20 : decode cX7_keepIn 20 = .ok (.ireturn, 1) := by decide +kernel
theorem dX7_keepIn_21 : decode cX7_keepIn 21 = .ok (.aload_n 0, 1) := by decide +kernel
theorem dX7_keepIn_22 : decode cX7_keepIn 22 = .ok (.getfield 26, 3) := by decide +kernel
theorem dX7_keepIn_25 : decode cX7_keepIn 25 = .ok (.iload_n 1, 1) := by decide +kernel
theorem dX7_keepIn_26 : decode cX7_keepIn 26 = .ok (.invokevirtual 184, 3) := by decide +kernel
theorem dX7_keepIn_29 : decode cX7_keepIn 29 = .ok (.ifCond .ne 6, 3) := by decide +kernel
theorem dX7_keepIn_32 : decode cX7_keepIn 32 = .ok (.ldc 151, 2) := by decide +kernel
theorem dX7_keepIn_34 : decode cX7_keepIn 34 = .ok (.ireturn, 1) := by decide +kernel
theorem dX7_keepIn_35 : decode cX7_keepIn 35 = .ok (.aload_n 0, 1) := by decide +kernel
theorem dX7_keepIn_36 : decode cX7_keepIn 36 = .ok (.getfield 40, 3) := by decide +kernel
theorem dX7_keepIn_39 : decode cX7_keepIn 39 = .ok (.aload_n 0, 1) := by decide +kernel
theorem dX7_keepIn_40 : decode cX7_keepIn 40 = .ok (.getfield 26, 3) := by decide +kernel
theorem dX7_keepIn_43 : decode cX7_keepIn 43 = .ok (.invokevirtual 158, 3) := by decide +kernel
theorem dX7_keepIn_46 : decode cX7_keepIn 46 = .ok (.aload_n 0, 1) := by decide +kernel
theorem dX7_keepIn_47 : decode cX7_keepIn 47 = .ok (.getfield 26, 3) := by decide +kernel
theorem dX7_keepIn_50 : decode cX7_keepIn 50 = .ok (.getfield 187, 3) := by decide +kernel
theorem dX7_keepIn_53 : decode cX7_keepIn 53 = .ok (.iload_n 1, 1) := by decide +kernel
theorem dX7_keepIn_54 : decode cX7_keepIn 54 = .ok (.iaload, 1) := by decide +kernel
theorem dX7_keepIn_55 : decode cX7_keepIn 55 = .ok (.istore_n 3, 1) := by decide +kernel
theorem dX7_keepIn_56 : decode cX7_keepIn 56 = .ok (.aload_n 0, 1) := by decide +kernel
theorem dX7_keepIn_57 : decode cX7_keepIn 57 = .ok (.getfield 26, 3) := by decide +kernel
theorem dX7_keepIn_60 : decode cX7_keepIn 60 = .ok (.getfield 187, 3) := by decide +kernel
theorem dX7_keepIn_63 : decode cX7_keepIn 63 = .ok (.iload_n 1, 1) := by decide +kernel
theorem dX7_keepIn_64 : decode cX7_keepIn 64 = .ok (.iload_n 2, 1) := by decide +kernel
theorem dX7_keepIn_65 : decode cX7_keepIn 65 = .ok (.iastore, 1) := by decide +kernel
theorem dX7_keepIn_66 : decode cX7_keepIn 66 = .ok (.iload_n 3, 1) := by decide +kernel
theorem dX7_keepIn_67 : decode cX7_keepIn 67 = .ok (.ireturn, 1) := by decide +kernel
theorem dX7_call_0 : decode cX7_call 0 = .ok (.aload_n 0, 1) := by decide +kernel
theorem dX7_call_1 : decode cX7_call 1 = .ok (.iload_n 1, 1) := by decide +kernel
theorem dX7_call_2 : decode cX7_call 2 = .ok (.invokevirtual 181, 3) := by decide +kernel
theorem dX7_call_5 : decode cX7_call 5 = .ok (.ifCond .eq 11, 3) := by decide +kernel
theorem dX7_call_8 : decode cX7_call 8 = .ok (.aload_n 0, 1) := by decide +kernel
theorem dX7_call_9 : decode cX7_call 9 = .ok (.iload_n 2, 1) := by decide +kernel
theorem dX7_call_10 : decode cX7_call 10 = .ok (.invokevirtual 165, 3) := by decide +kernel
theorem dX7_call_13 : decode cX7_call 13 = .ok (.ifCond .ne 6, 3) := by decide +kernel
theorem dX7_call_16 : decode cX7_call 16 = .ok (.ldc 80, 2) := by decide +kernel
theorem dX7_call_18 : decode cX7_call 18 = .ok (.ireturn, 1) := by decide +kernel
theorem dX7_call_19 : decode cX7_call 19 = .ok (.aload_n 0, 1) := by decide +kernel
theorem dX7_call_20 : decode cX7_call 20 = .ok (.getfield 26, 3) := by decide +kernel
theorem dX7_call_23 : decode cX7_call 23 = .ok (.iload_n 1, 1) := by decide +kernel
theorem dX7_call_24 : decode cX7_call 24 = .ok (.invokevirtual 184, 3) := by decide +kernel
theorem dX7_call_27 : decode cX7_call 27 = .ok (.ifCond .ne 6, 3) := by decide +kernel
theorem dX7_call_30 : decode cX7_call 30 = .ok (.ldc 151, 2) := by decide +kernel
theorem dX7_call_32 : decode cX7_call 32 = .ok (.ireturn, 1) := by decide +kernel
theorem dX7_call_33 : decode cX7_call 33 = .ok (.aload_n 0, 1) := by decide +kernel
theorem dX7_call_34 : decode cX7_call 34 = .ok (.getfield 40, 3) := by decide +kernel
theorem dX7_call_37 : decode cX7_call 37 = .ok (.aload_n 0, 1) := by decide +kernel
theorem dX7_call_38 : decode cX7_call 38 = .ok (.getfield 26, 3) := by decide +kernel
theorem dX7_call_41 : decode cX7_call 41 = .ok (.invokevirtual 158, 3) := by decide +kernel
theorem dX7_call_44 : decode cX7_call 44 = .ok (.aload_n 0, 1) := by decide +kernel
theorem dX7_call_45 : decode cX7_call 45 = .ok (.getfield 26, 3) := by decide +kernel
theorem dX7_call_48 : decode cX7_call 48 = .ok (.getfield 190, 3) := by decide +kernel
theorem dX7_call_51 : decode cX7_call 51 = .ok (.iload_n 1, 1) := by decide +kernel
theorem dX7_call_52 : decode cX7_call 52 = .ok (.iaload, 1) := by decide +kernel
theorem dX7_call_53 : decode cX7_call 53 = .ok (.istore_n 3, 1) := by decide +kernel
theorem dX7_call_54 : decode cX7_call 54 = .ok (.aload_n 0, 1) := by decide +kernel
theorem dX7_call_55 : decode cX7_call 55 = .ok (.getfield 26, 3) := by decide +kernel
theorem dX7_call_58 : decode cX7_call 58 = .ok (.getfield 190, 3) := by decide +kernel
theorem dX7_call_61 : decode cX7_call 61 = .ok (.iload_n 1, 1) := by decide +kernel
theorem dX7_call_62 : decode cX7_call 62 = .ok (.iload_n 2, 1) := by decide +kernel
theorem dX7_call_63 : decode cX7_call 63 = .ok (.iastore, 1) := by decide +kernel
theorem dX7_call_64 : decode cX7_call 64 = .ok (.iload_n 3, 1) := by decide +kernel
theorem dX7_call_65 : decode cX7_call 65 = .ok (.ireturn, 1) := by decide +kernel
theorem dX7_move_0 : decode cX7_move 0 = .ok (.aload_n 0, 1) := by decide +kernel
theorem dX7_move_1 : decode cX7_move 1 = .ok (.iload_n 1, 1) := by decide +kernel
theorem dX7_move_2 : decode cX7_move 2 = .ok (.invokevirtual 181, 3) := by decide +kernel
theorem dX7_move_5 : decode cX7_move 5 = .ok (.ifCond .eq 11, 3) := by decide +kernel
theorem dX7_move_8 : decode cX7_move 8 = .ok (.aload_n 0, 1) := by decide +kernel
theorem dX7_move_9 : decode cX7_move 9 = .ok (.iload_n 2, 1) := by decide +kernel
theorem dX7_move_10 : decode cX7_move 10 = .ok (.invokevirtual 168, 3) := by decide +kernel
theorem dX7_move_13 : decode cX7_move 13 = .ok (.ifCond .ne 6, 3) := by decide +kernel
theorem dX7_move_16 : decode cX7_move 16 = .ok (.ldc 80, 2) := by decide +kernel
theorem dX7_move_18 : decode cX7_move 18 = .ok (.ireturn, 1) := by decide +kernel
theorem dX7_move_19 : decode cX7_move 19 = .ok (.aload_n 0, 1) := by decide +kernel
theorem dX7_move_20 : decode cX7_move 20 = .ok (.getfield 26, 3) := by decide +kernel
theorem dX7_move_23 : decode cX7_move 23 = .ok (.iload_n 1, 1) := by decide +kernel
theorem dX7_move_24 : decode cX7_move 24 = .ok (.invokevirtual 184, 3) := by decide +kernel
theorem dX7_move_27 : decode cX7_move 27 = .ok (.ifCond .ne 6, 3) := by decide +kernel
theorem dX7_move_30 : decode cX7_move 30 = .ok (.ldc 151, 2) := by decide +kernel
theorem dX7_move_32 : decode cX7_move 32 = .ok (.ireturn, 1) := by decide +kernel
theorem dX7_move_33 : decode cX7_move 33 = .ok (.aload_n 0, 1) := by decide +kernel
theorem dX7_move_34 : decode cX7_move 34 = .ok (.getfield 40, 3) := by decide +kernel
theorem dX7_move_37 : decode cX7_move 37 = .ok (.aload_n 0, 1) := by decide +kernel
theorem dX7_move_38 : decode cX7_move 38 = .ok (.getfield 26, 3) := by decide +kernel
theorem dX7_move_41 : decode cX7_move 41 = .ok (.invokevirtual 158, 3) := by decide +kernel
theorem dX7_move_44 : decode cX7_move 44 = .ok (.aload_n 0, 1) := by decide +kernel
theorem dX7_move_45 : decode cX7_move 45 = .ok (.getfield 26, 3) := by decide +kernel
theorem dX7_move_48 : decode cX7_move 48 = .ok (.getfield 193, 3) := by decide +kernel
theorem dX7_move_51 : decode cX7_move 51 = .ok (.iload_n 1, 1) := by decide +kernel
theorem dX7_move_52 : decode cX7_move 52 = .ok (.iaload, 1) := by decide +kernel
theorem dX7_move_53 : decode cX7_move 53 = .ok (.istore_n 3, 1) := by decide +kernel
theorem dX7_move_54 : decode cX7_move 54 = .ok (.aload_n 0, 1) := by decide +kernel
theorem dX7_move_55 : decode cX7_move 55 = .ok (.getfield 26, 3) := by decide +kernel
theorem dX7_move_58 : decode cX7_move 58 = .ok (.getfield 193, 3) := by decide +kernel
theorem dX7_move_61 : decode cX7_move 61 = .ok (.iload_n 1, 1) := by decide +kernel
theorem dX7_move_62 : decode cX7_move 62 = .ok (.iload_n 2, 1) := by decide +kernel
theorem dX7_move_63 : decode cX7_move 63 = .ok (.iastore, 1) := by decide +kernel
theorem dX7_move_64 : decode cX7_move 64 = .ok (.iload_n 3, 1) := by decide +kernel
theorem dX7_move_65 : decode cX7_move 65 = .ok (.ireturn, 1) := by decide +kernel
theorem dX7_person_0 : decode cX7_person 0 = .ok (.aload_n 0, 1) := by decide +kernel
theorem dX7_person_1 : decode cX7_person 1 = .ok (.iload_n 1, 1) := by decide +kernel
theorem dX7_person_2 : decode cX7_person 2 = .ok (.invokevirtual 181, 3) := by decide +kernel
theorem dX7_person_5 : decode cX7_person 5 = .ok (.ifCond .ne 6, 3) := by decide +kernel
theorem dX7_person_8 : decode cX7_person 8 = .ok (.ldc 80, 2) := by decide +kernel
theorem dX7_person_10 : decode cX7_person 10 = .ok (.ireturn, 1) := by decide +kernel
theorem dX7_person_11 : decode cX7_person 11 = .ok (.iload_n 2, 1) := by decide +kernel
theorem dX7_person_12 : decode cX7_person 12 = .ok (.tableswitch 107 0 5 #[40, 50, 60, 70, 87, 97], 40) := by decide +kernel
theorem dX7_person_52 : decode cX7_person 52 = .ok (.aload_n 0, 1) := by decide +kernel
theorem dX7_person_53 : decode cX7_person 53 = .ok (.getfield 26, 3) := by decide +kernel
theorem dX7_person_56 : decode cX7_person 56 = .ok (.getfield 190, 3) := by decide +kernel
theorem dX7_person_59 : decode cX7_person 59 = .ok (.iload_n 1, 1) := by decide +kernel
theorem dX7_person_60 : decode cX7_person 60 = .ok (.iaload, 1) := by decide +kernel
theorem dX7_person_61 : decode cX7_person 61 = .ok (.ireturn, 1) := by decide +kernel
theorem dX7_person_62 : decode cX7_person 62 = .ok (.aload_n 0, 1) := by decide +kernel
theorem dX7_person_63 : decode cX7_person 63 = .ok (.getfield 26, 3) := by decide +kernel
theorem dX7_person_66 : decode cX7_person 66 = .ok (.getfield 193, 3) := by decide +kernel
theorem dX7_person_69 : decode cX7_person 69 = .ok (.iload_n 1, 1) := by decide +kernel
theorem dX7_person_70 : decode cX7_person 70 = .ok (.iaload, 1) := by decide +kernel
theorem dX7_person_71 : decode cX7_person 71 = .ok (.ireturn, 1) := by decide +kernel
theorem dX7_person_72 : decode cX7_person 72 = .ok (.aload_n 0, 1) := by decide +kernel
theorem dX7_person_73 : decode cX7_person 73 = .ok (.getfield 26, 3) := by decide +kernel
theorem dX7_person_76 : decode cX7_person 76 = .ok (.getfield 196, 3) := by decide +kernel
theorem dX7_person_79 : decode cX7_person 79 = .ok (.iload_n 1, 1) := by decide +kernel
theorem dX7_person_80 : decode cX7_person 80 = .ok (.iaload, 1) := by decide +kernel
theorem dX7_person_81 : decode cX7_person 81 = .ok (.ireturn, 1) := by decide +kernel
theorem dX7_person_82 : decode cX7_person 82 = .ok (.aload_n 0, 1) := by decide +kernel
theorem dX7_person_83 : decode cX7_person 83 = .ok (.getfield 26, 3) := by decide +kernel
theorem dX7_person_86 : decode cX7_person 86 = .ok (.iload_n 1, 1) := by decide +kernel
theorem dX7_person_87 : decode cX7_person 87 = .ok (.invokevirtual 184, 3) := by decide +kernel
theorem dX7_person_90 : decode cX7_person 90 = .ok (.ifCond .eq 7, 3) := by decide +kernel
theorem dX7_person_93 : decode cX7_person 93 = .ok (.iconst 1, 1) := by decide +kernel
theorem dX7_person_94 : decode cX7_person 94 = .ok (.goto 4, 3) := by decide +kernel
theorem dX7_person_97 : decode cX7_person 97 = .ok (.iconst 0, 1) := by decide +kernel
theorem dX7_person_98 : decode cX7_person 98 = .ok (.ireturn, 1) := by decide +kernel
theorem dX7_person_99 : decode cX7_person 99 = .ok (.aload_n 0, 1) := by decide +kernel
theorem dX7_person_100 : decode cX7_person 100 = .ok (.getfield 26, 3) := by decide +kernel
theorem dX7_person_103 : decode cX7_person 103 = .ok (.getfield 187, 3) := by decide +kernel
theorem dX7_person_106 : decode cX7_person 106 = .ok (.iload_n 1, 1) := by decide +kernel
theorem dX7_person_107 : decode cX7_person 107 = .ok (.iaload, 1) := by decide +kernel
theorem dX7_person_108 : decode cX7_person 108 = .ok (.ireturn, 1) := by decide +kernel
theorem dX7_person_109 : decode cX7_person 109 = .ok (.aload_n 0, 1) := by decide +kernel
theorem dX7_person_110 : decode cX7_person 110 = .ok (.getfield 26, 3) := by decide +kernel
theorem dX7_person_113 : decode cX7_person 113 = .ok (.getfield 199, 3) := by decide +kernel
theorem dX7_person_116 : decode cX7_person 116 = .ok (.iload_n 1, 1) := by decide +kernel
theorem dX7_person_117 : decode cX7_person 117 = .ok (.iaload, 1) := by decide +kernel
theorem dX7_person_118 : decode cX7_person 118 = .ok (.ireturn, 1) := by decide +kernel
theorem dX7_person_119 : decode cX7_person 119 = .ok (.ldc 80, 2) := by decide +kernel
theorem dX7_person_121 : decode cX7_person 121 = .ok (.ireturn, 1) := by decide +kernel
theorem dX7_thing_0 : decode cX7_thing 0 = .ok (.aload_n 0, 1) := by decide +kernel
theorem dX7_thing_1 : decode cX7_thing 1 = .ok (.iload_n 1, 1) := by decide +kernel
theorem dX7_thing_2 : decode cX7_thing 2 = .ok (.invokevirtual 165, 3) := by decide +kernel
theorem dX7_thing_5 : decode cX7_thing 5 = .ok (.ifCond .ne 6, 3) := by decide +kernel
theorem dX7_thing_8 : decode cX7_thing 8 = .ok (.ldc 80, 2) := by decide +kernel
theorem dX7_thing_10 : decode cX7_thing 10 = .ok (.ireturn, 1) := by decide +kernel
theorem dX7_thing_11 : decode cX7_thing 11 = .ok (.iload_n 2, 1) := by decide +kernel
theorem dX7_thing_12 : decode cX7_thing 12 = .ok (.tableswitch 78 0 3 #[32, 42, 52, 69], 32) := by decide +kernel
theorem dX7_thing_44 : decode cX7_thing 44 = .ok (.aload_n 0, 1) := by decide +kernel
theorem dX7_thing_45 : decode cX7_thing 45 = .ok (.getfield 26, 3) := by decide +kernel
theorem dX7_thing_48 : decode cX7_thing 48 = .ok (.getfield 171, 3) := by decide +kernel
theorem dX7_thing_51 : decode cX7_thing 51 = .ok (.iload_n 1, 1) := by decide +kernel
theorem dX7_thing_52 : decode cX7_thing 52 = .ok (.iaload, 1) := by decide +kernel
theorem dX7_thing_53 : decode cX7_thing 53 = .ok (.ireturn, 1) := by decide +kernel
theorem dX7_thing_54 : decode cX7_thing 54 = .ok (.aload_n 0, 1) := by decide +kernel
theorem dX7_thing_55 : decode cX7_thing 55 = .ok (.getfield 26, 3) := by decide +kernel
theorem dX7_thing_58 : decode cX7_thing 58 = .ok (.getfield 202, 3) := by decide +kernel
theorem dX7_thing_61 : decode cX7_thing 61 = .ok (.iload_n 1, 1) := by decide +kernel
theorem dX7_thing_62 : decode cX7_thing 62 = .ok (.iaload, 1) := by decide +kernel
theorem dX7_thing_63 : decode cX7_thing 63 = .ok (.ireturn, 1) := by decide +kernel
theorem dX7_thing_64 : decode cX7_thing 64 = .ok (.aload_n 0, 1) := by decide +kernel
theorem dX7_thing_65 : decode cX7_thing 65 = .ok (.getfield 26, 3) := by decide +kernel
theorem dX7_thing_68 : decode cX7_thing 68 = .ok (.iload_n 1, 1) := by decide +kernel
theorem dX7_thing_69 : decode cX7_thing 69 = .ok (.invokevirtual 175, 3) := by decide +kernel
theorem dX7_thing_72 : decode cX7_thing 72 = .ok (.ifCond .eq 7, 3) := by decide +kernel
theorem dX7_thing_75 : decode cX7_thing 75 = .ok (.iconst 1, 1) := by decide +kernel
theorem dX7_thing_76 : decode cX7_thing 76 = .ok (.goto 4, 3) := by decide +kernel
theorem dX7_thing_79 : decode cX7_thing 79 = .ok (.iconst 0, 1) := by decide +kernel
theorem dX7_thing_80 : decode cX7_thing 80 = .ok (.ireturn, 1) := by decide +kernel
theorem dX7_thing_81 : decode cX7_thing 81 = .ok (.aload_n 0, 1) := by decide +kernel
theorem dX7_thing_82 : decode cX7_thing 82 = .ok (.getfield 26, 3) := by decide +kernel
theorem dX7_thing_85 : decode cX7_thing 85 = .ok (.iload_n 1, 1) := by decide +kernel
theorem dX7_thing_86 : decode cX7_thing 86 = .ok (.invokevirtual 205, 3) := by decide +kernel
theorem dX7_thing_89 : decode cX7_thing 89 = .ok (.ireturn, 1) := by decide +kernel
theorem dX7_thing_90 : decode cX7_thing 90 = .ok (.ldc 80, 2) := by decide +kernel
theorem dX7_thing_92 : decode cX7_thing 92 = .ok (.ireturn, 1) := by decide +kernel
theorem dX7_ahead_0 : decode cX7_ahead 0 = .ok (.aload_n 0, 1) := by decide +kernel
theorem dX7_ahead_1 : decode cX7_ahead 1 = .ok (.iload_n 1, 1) := by decide +kernel
theorem dX7_ahead_2 : decode cX7_ahead 2 = .ok (.invokevirtual 181, 3) := by decide +kernel
theorem dX7_ahead_5 : decode cX7_ahead 5 = .ok (.ifCond .eq 13, 3) := by decide +kernel
theorem dX7_ahead_8 : decode cX7_ahead 8 = .ok (.iload_n 2, 1) := by decide +kernel
theorem dX7_ahead_9 : decode cX7_ahead 9 = .ok (.iconst 0, 1) := by decide +kernel
theorem dX7_ahead_10 : decode cX7_ahead 10 = .ok (.bipush 60, 2) := by decide +kernel
theorem dX7_ahead_12 : decode cX7_ahead 12 = .ok (.invokestatic 76, 3) := by decide +kernel
theorem dX7_ahead_15 : decode cX7_ahead 15 = .ok (.ifCond .eq 6, 3) := by decide +kernel
theorem dX7_ahead_18 : decode cX7_ahead 18 = .ok (.ldc 80, 2) := by decide +kernel
theorem dX7_ahead_20 : decode cX7_ahead 20 = .ok (.ireturn, 1) := by decide +kernel
theorem dX7_ahead_21 : decode cX7_ahead 21 = .ok (.aload_n 0, 1) := by decide +kernel
theorem dX7_ahead_22 : decode cX7_ahead 22 = .ok (.getfield 47, 3) := by decide +kernel
theorem dX7_ahead_25 : decode cX7_ahead 25 = .ok (.aload_n 0, 1) := by decide +kernel
theorem dX7_ahead_26 : decode cX7_ahead 26 = .ok (.getfield 26, 3) := by decide +kernel
theorem dX7_ahead_29 : decode cX7_ahead 29 = .ok (.iload_n 1, 1) := by decide +kernel
theorem dX7_ahead_30 : decode cX7_ahead 30 = .ok (.invokevirtual 208, 3) := by decide +kernel
theorem dX7_ahead_33 : decode cX7_ahead 33 = .ok (.aload_n 0, 1) := by decide +kernel
theorem dX7_ahead_34 : decode cX7_ahead 34 = .ok (.getfield 47, 3) := by decide +kernel
theorem dX7_ahead_37 : decode cX7_ahead 37 = .ok (.iload_n 2, 1) := by decide +kernel
theorem dX7_ahead_38 : decode cX7_ahead 38 = .ok (.invokevirtual 212, 3) := by decide +kernel
theorem dX7_ahead_41 : decode cX7_ahead 41 = .ok (.ifCond .eq 13, 3) := by decide +kernel
theorem dX7_ahead_44 : decode cX7_ahead 44 = .ok (.aload_n 0, 1) := by decide +kernel
theorem dX7_ahead_45 : decode cX7_ahead 45 = .ok (.getfield 47, 3) := by decide +kernel
theorem dX7_ahead_48 : decode cX7_ahead 48 = .ok (.getfield 215, 3) := by decide +kernel
theorem dX7_ahead_51 : decode cX7_ahead 51 = .ok (.goto 5, 3) := by decide +kernel
theorem dX7_ahead_54 : decode cX7_ahead 54 = .ok (.ldc 217, 2) := by decide +kernel
theorem dX7_ahead_56 : decode cX7_ahead 56 = .ok (.ireturn, 1) := by decide +kernel
theorem dX7_liveAhead_0 : decode cX7_liveAhead 0 = .ok (.aload_n 0, 1) := by decide +kernel
theorem dX7_liveAhead_1 : decode cX7_liveAhead 1 = .ok (.getfield 26, 3) := by decide +kernel
theorem dX7_liveAhead_4 : decode cX7_liveAhead 4 = .ok (.invokevirtual 152, 3) := by decide +kernel
theorem dX7_liveAhead_7 : decode cX7_liveAhead 7 = .ok (.ifCond .ne 6, 3) := by decide +kernel
theorem dX7_liveAhead_10 : decode cX7_liveAhead 10 = .ok (.ldc 151, 2) := by decide +kernel
theorem dX7_liveAhead_12 : decode cX7_liveAhead 12 = .ok (.ireturn, 1) := by decide +kernel
theorem dX7_liveAhead_13 : decode cX7_liveAhead 13 = .ok (.iload_n 1, 1) := by decide +kernel
theorem dX7_liveAhead_14 : decode cX7_liveAhead 14 = .ok (.iconst 0, 1) := by decide +kernel
theorem dX7_liveAhead_15 : decode cX7_liveAhead 15 = .ok (.bipush 60, 2) := by decide +kernel
theorem dX7_liveAhead_17 : decode cX7_liveAhead 17 = .ok (.invokestatic 76, 3) := by decide +kernel
theorem dX7_liveAhead_20 : decode cX7_liveAhead 20 = .ok (.ifCond .eq 6, 3) := by decide +kernel
theorem dX7_liveAhead_23 : decode cX7_liveAhead 23 = .ok (.ldc 80, 2) := by decide +kernel
theorem dX7_liveAhead_25 : decode cX7_liveAhead 25 = .ok (.ireturn, 1) := by decide +kernel
theorem dX7_liveAhead_26 : decode cX7_liveAhead 26 = .ok (.iconst 0, 1) := by decide +kernel
theorem dX7_liveAhead_27 : decode cX7_liveAhead 27 = .ok (.istore_n 2, 1) := by decide +kernel
theorem dX7_liveAhead_28 : decode cX7_liveAhead 28 = .ok (.iconst 0, 1) := by decide +kernel
theorem dX7_liveAhead_29 : decode cX7_liveAhead 29 = .ok (.istore_n 3, 1) := by decide +kernel
theorem dX7_liveAhead_30 : decode cX7_liveAhead 30 = .ok (.iload_n 3, 1) := by decide +kernel
theorem dX7_liveAhead_31 : decode cX7_liveAhead 31 = .ok (.aload_n 0, 1) := by decide +kernel
theorem dX7_liveAhead_32 : decode cX7_liveAhead 32 = .ok (.getfield 26, 3) := by decide +kernel
theorem dX7_liveAhead_35 : decode cX7_liveAhead 35 = .ok (.getfield 140, 3) := by decide +kernel
theorem dX7_liveAhead_38 : decode cX7_liveAhead 38 = .ok (.if_icmp .ge 42, 3) := by decide +kernel
theorem dX7_liveAhead_41 : decode cX7_liveAhead 41 = .ok (.aload_n 0, 1) := by decide +kernel
theorem dX7_liveAhead_42 : decode cX7_liveAhead 42 = .ok (.getfield 47, 3) := by decide +kernel
theorem dX7_liveAhead_45 : decode cX7_liveAhead 45 = .ok (.aload_n 0, 1) := by decide +kernel
theorem dX7_liveAhead_46 : decode cX7_liveAhead 46 = .ok (.getfield 26, 3) := by decide +kernel
theorem dX7_liveAhead_49 : decode cX7_liveAhead 49 = .ok (.iload_n 3, 1) := by decide +kernel
theorem dX7_liveAhead_50 : decode cX7_liveAhead 50 = .ok (.invokevirtual 208, 3) := by decide +kernel
theorem dX7_liveAhead_53 : decode cX7_liveAhead 53 = .ok (.iload_n 2, 1) := by decide +kernel
theorem dX7_liveAhead_54 : decode cX7_liveAhead 54 = .ok (.aload_n 0, 1) := by decide +kernel
theorem dX7_liveAhead_55 : decode cX7_liveAhead 55 = .ok (.getfield 47, 3) := by decide +kernel
theorem dX7_liveAhead_58 : decode cX7_liveAhead 58 = .ok (.iload_n 1, 1) := by decide +kernel
theorem dX7_liveAhead_59 : decode cX7_liveAhead 59 = .ok (.invokevirtual 212, 3) := by decide +kernel
theorem dX7_liveAhead_62 : decode cX7_liveAhead 62 = .ok (.ifCond .eq 9, 3) := by decide +kernel
theorem dX7_liveAhead_65 : decode cX7_liveAhead 65 = .ok (.iconst 1, 1) := by decide +kernel
theorem dX7_liveAhead_66 : decode cX7_liveAhead 66 = .ok (.iload_n 3, 1) := by decide +kernel
theorem dX7_liveAhead_67 : decode cX7_liveAhead 67 = .ok (.ishl, 1) := by decide +kernel
theorem dX7_liveAhead_68 : decode cX7_liveAhead 68 = .ok (.goto 4, 3) := by decide +kernel
theorem dX7_liveAhead_71 : decode cX7_liveAhead 71 = .ok (.iconst 0, 1) := by decide +kernel
theorem dX7_liveAhead_72 : decode cX7_liveAhead 72 = .ok (.ior, 1) := by decide +kernel
theorem dX7_liveAhead_73 : decode cX7_liveAhead 73 = .ok (.istore_n 2, 1) := by decide +kernel
theorem dX7_liveAhead_74 : decode cX7_liveAhead 74 = .ok (.iinc 3 1, 3) := by decide +kernel
theorem dX7_liveAhead_77 : decode cX7_liveAhead 77 = .ok (.goto (-47), 3) := by decide +kernel
theorem dX7_liveAhead_80 : decode cX7_liveAhead 80 = .ok (.iload_n 2, 1) := by decide +kernel
theorem dX7_liveAhead_81 : decode cX7_liveAhead 81 = .ok (.ireturn, 1) := by decide +kernel
theorem dX7_dies_0 : decode cX7_dies 0 = .ok (.aload_n 0, 1) := by decide +kernel
theorem dX7_dies_1 : decode cX7_dies 1 = .ok (.iload_n 1, 1) := by decide +kernel
theorem dX7_dies_2 : decode cX7_dies 2 = .ok (.invokevirtual 181, 3) := by decide +kernel
theorem dX7_dies_5 : decode cX7_dies 5 = .ok (.ifCond .ne 6, 3) := by decide +kernel
theorem dX7_dies_8 : decode cX7_dies 8 = .ok (.ldc 80, 2) := by decide +kernel
theorem dX7_dies_10 : decode cX7_dies 10 = .ok (.ireturn, 1) := by decide +kernel
theorem dX7_dies_11 : decode cX7_dies 11 = .ok (.aload_n 0, 1) := by decide +kernel
theorem dX7_dies_12 : decode cX7_dies 12 = .ok (.getfield 47, 3) := by decide +kernel
theorem dX7_dies_15 : decode cX7_dies 15 = .ok (.aload_n 0, 1) := by decide +kernel
theorem dX7_dies_16 : decode cX7_dies 16 = .ok (.getfield 26, 3) := by decide +kernel
theorem dX7_dies_19 : decode cX7_dies 19 = .ok (.iload_n 1, 1) := by decide +kernel
theorem dX7_dies_20 : decode cX7_dies 20 = .ok (.invokevirtual 208, 3) := by decide +kernel
theorem dX7_dies_23 : decode cX7_dies 23 = .ok (.aload_n 0, 1) := by decide +kernel
theorem dX7_dies_24 : decode cX7_dies 24 = .ok (.getfield 47, 3) := by decide +kernel
theorem dX7_dies_27 : decode cX7_dies 27 = .ok (.bipush 60, 2) := by decide +kernel
theorem dX7_dies_29 : decode cX7_dies 29 = .ok (.invokevirtual 218, 3) := by decide +kernel
theorem dX7_dies_32 : decode cX7_dies 32 = .ok (.invokestatic 221, 3) := by decide +kernel
theorem dX7_dies_35 : decode cX7_dies 35 = .ok (.ireturn, 1) := by decide +kernel
theorem dX7_keepDays_0 : decode cX7_keepDays 0 = .ok (.aload_n 0, 1) := by decide +kernel
theorem dX7_keepDays_1 : decode cX7_keepDays 1 = .ok (.iload_n 1, 1) := by decide +kernel
theorem dX7_keepDays_2 : decode cX7_keepDays 2 = .ok (.invokevirtual 181, 3) := by decide +kernel
theorem dX7_keepDays_5 : decode cX7_keepDays 5 = .ok (.ifCond .eq 33, 3) := by decide +kernel
theorem dX7_keepDays_8 : decode cX7_keepDays 8 = .ok (.iload_n 2, 1) := by decide +kernel
theorem dX7_keepDays_9 : decode cX7_keepDays 9 = .ok (.iconst 1, 1) := by decide +kernel
theorem dX7_keepDays_10 : decode cX7_keepDays 10 = .ok (.bipush 12, 2) := by decide +kernel
theorem dX7_keepDays_12 : decode cX7_keepDays 12 = .ok (.invokestatic 76, 3) := by decide +kernel
theorem dX7_keepDays_15 : decode cX7_keepDays 15 = .ok (.ifCond .ne 23, 3) := by decide +kernel
theorem dX7_keepDays_18 : decode cX7_keepDays 18 = .ok (.iload_n 3, 1) := by decide +kernel
theorem dX7_keepDays_19 : decode cX7_keepDays 19 = .ok (.iconst 0, 1) := by decide +kernel
theorem dX7_keepDays_20 : decode cX7_keepDays 20 = .ok (.bipush 12, 2) := by decide +kernel
theorem dX7_keepDays_22 : decode cX7_keepDays 22 = .ok (.invokestatic 76, 3) := by decide +kernel
theorem dX7_keepDays_25 : decode cX7_keepDays 25 = .ok (.ifCond .ne 13, 3) := by decide +kernel
theorem dX7_keepDays_28 : decode cX7_keepDays 28 = .ok (.iload 4, 2) := by decide +kernel
theorem dX7_keepDays_30 : decode cX7_keepDays 30 = .ok (.iconst 0, 1) := by decide +kernel
theorem dX7_keepDays_31 : decode cX7_keepDays 31 = .ok (.iconst 1, 1) := by decide +kernel
theorem dX7_keepDays_32 : decode cX7_keepDays 32 = .ok (.invokestatic 76, 3) := by decide +kernel
theorem dX7_keepDays_35 : decode cX7_keepDays 35 = .ok (.ifCond .eq 6, 3) := by decide +kernel
theorem dX7_keepDays_38 : decode cX7_keepDays 38 = .ok (.ldc 80, 2) := by decide +kernel
theorem dX7_keepDays_40 : decode cX7_keepDays 40 = .ok (.ireturn, 1) := by decide +kernel
theorem dX7_keepDays_41 : decode cX7_keepDays 41 = .ok (.aload_n 0, 1) := by decide +kernel
theorem dX7_keepDays_42 : decode cX7_keepDays 42 = .ok (.getfield 26, 3) := by decide +kernel
theorem dX7_keepDays_45 : decode cX7_keepDays 45 = .ok (.iload_n 1, 1) := by decide +kernel
theorem dX7_keepDays_46 : decode cX7_keepDays 46 = .ok (.invokevirtual 184, 3) := by decide +kernel
theorem dX7_keepDays_49 : decode cX7_keepDays 49 = .ok (.ifCond .ne 6, 3) := by decide +kernel
theorem dX7_keepDays_52 : decode cX7_keepDays 52 = .ok (.ldc 151, 2) := by decide +kernel
theorem dX7_keepDays_54 : decode cX7_keepDays 54 = .ok (.ireturn, 1) := by decide +kernel
theorem dX7_keepDays_55 : decode cX7_keepDays 55 = .ok (.aload_n 0, 1) := by decide +kernel
theorem dX7_keepDays_56 : decode cX7_keepDays 56 = .ok (.getfield 57, 3) := by decide +kernel
theorem dX7_keepDays_59 : decode cX7_keepDays 59 = .ok (.aload_n 0, 1) := by decide +kernel
theorem dX7_keepDays_60 : decode cX7_keepDays 60 = .ok (.getfield 26, 3) := by decide +kernel
theorem dX7_keepDays_63 : decode cX7_keepDays 63 = .ok (.iload_n 1, 1) := by decide +kernel
theorem dX7_keepDays_64 : decode cX7_keepDays 64 = .ok (.iload_n 2, 1) := by decide +kernel
theorem dX7_keepDays_65 : decode cX7_keepDays 65 = .ok (.iload_n 3, 1) := by decide +kernel
theorem dX7_keepDays_66 : decode cX7_keepDays 66 = .ok (.invokevirtual 224, 3) := by decide +kernel
theorem dX7_keepDays_69 : decode cX7_keepDays 69 = .ok (.iload 4, 2) := by decide +kernel
theorem dX7_keepDays_71 : decode cX7_keepDays 71 = .ok (.ifCond .ne 16, 3) := by decide +kernel
theorem dX7_keepDays_74 : decode cX7_keepDays 74 = .ok (.aload_n 0, 1) := by decide +kernel
theorem dX7_keepDays_75 : decode cX7_keepDays 75 = .ok (.getfield 57, 3) := by decide +kernel
theorem dX7_keepDays_78 : decode cX7_keepDays 78 = .ok (.getfield 228, 3) := by decide +kernel
theorem dX7_keepDays_81 : decode cX7_keepDays 81 = .ok (.invokestatic 221, 3) := by decide +kernel
theorem dX7_keepDays_84 : decode cX7_keepDays 84 = .ok (.goto 10, 3) := by decide +kernel
theorem dX7_keepDays_87 : decode cX7_keepDays 87 = .ok (.aload_n 0, 1) := by decide +kernel
theorem dX7_keepDays_88 : decode cX7_keepDays 88 = .ok (.getfield 57, 3) := by decide +kernel
theorem dX7_keepDays_91 : decode cX7_keepDays 91 = .ok (.getfield 230, 3) := by decide +kernel
theorem dX7_keepDays_94 : decode cX7_keepDays 94 = .ok (.ireturn, 1) := by decide +kernel
theorem dX7_nails_0 : decode cX7_nails 0 = .ok (.aload_n 0, 1) := by decide +kernel
theorem dX7_nails_1 : decode cX7_nails 1 = .ok (.iload_n 1, 1) := by decide +kernel
theorem dX7_nails_2 : decode cX7_nails 2 = .ok (.invokevirtual 181, 3) := by decide +kernel
theorem dX7_nails_5 : decode cX7_nails 5 = .ok (.ifCond .eq 22, 3) := by decide +kernel
theorem dX7_nails_8 : decode cX7_nails 8 = .ok (.iload_n 2, 1) := by decide +kernel
theorem dX7_nails_9 : decode cX7_nails 9 = .ok (.iconst 1, 1) := by decide +kernel
theorem dX7_nails_10 : decode cX7_nails 10 = .ok (.bipush 60, 2) := by decide +kernel
theorem dX7_nails_12 : decode cX7_nails 12 = .ok (.invokestatic 76, 3) := by decide +kernel
theorem dX7_nails_15 : decode cX7_nails 15 = .ok (.ifCond .ne 12, 3) := by decide +kernel
theorem dX7_nails_18 : decode cX7_nails 18 = .ok (.iload_n 3, 1) := by decide +kernel
theorem dX7_nails_19 : decode cX7_nails 19 = .ok (.iconst 0, 1) := by decide +kernel
theorem dX7_nails_20 : decode cX7_nails 20 = .ok (.iconst 1, 1) := by decide +kernel
theorem dX7_nails_21 : decode cX7_nails 21 = .ok (.invokestatic 76, 3) := by decide +kernel
theorem dX7_nails_24 : decode cX7_nails 24 = .ok (.ifCond .eq 6, 3) := by decide +kernel
theorem dX7_nails_27 : decode cX7_nails 27 = .ok (.ldc 80, 2) := by decide +kernel
theorem dX7_nails_29 : decode cX7_nails 29 = .ok (.ireturn, 1) := by decide +kernel
theorem dX7_nails_30 : decode cX7_nails 30 = .ok (.aload_n 0, 1) := by decide +kernel
theorem dX7_nails_31 : decode cX7_nails 31 = .ok (.getfield 26, 3) := by decide +kernel
theorem dX7_nails_34 : decode cX7_nails 34 = .ok (.iload_n 1, 1) := by decide +kernel
theorem dX7_nails_35 : decode cX7_nails 35 = .ok (.invokevirtual 184, 3) := by decide +kernel
theorem dX7_nails_38 : decode cX7_nails 38 = .ok (.ifCond .ne 6, 3) := by decide +kernel
theorem dX7_nails_41 : decode cX7_nails 41 = .ok (.ldc 151, 2) := by decide +kernel
theorem dX7_nails_43 : decode cX7_nails 43 = .ok (.ireturn, 1) := by decide +kernel
theorem dX7_nails_44 : decode cX7_nails 44 = .ok (.aload_n 0, 1) := by decide +kernel
theorem dX7_nails_45 : decode cX7_nails 45 = .ok (.getfield 47, 3) := by decide +kernel
theorem dX7_nails_48 : decode cX7_nails 48 = .ok (.aload_n 0, 1) := by decide +kernel
theorem dX7_nails_49 : decode cX7_nails 49 = .ok (.getfield 26, 3) := by decide +kernel
theorem dX7_nails_52 : decode cX7_nails 52 = .ok (.iload_n 1, 1) := by decide +kernel
theorem dX7_nails_53 : decode cX7_nails 53 = .ok (.invokevirtual 208, 3) := by decide +kernel
theorem dX7_nails_56 : decode cX7_nails 56 = .ok (.aload_n 0, 1) := by decide +kernel
theorem dX7_nails_57 : decode cX7_nails 57 = .ok (.getfield 47, 3) := by decide +kernel
theorem dX7_nails_60 : decode cX7_nails 60 = .ok (.iload_n 2, 1) := by decide +kernel
theorem dX7_nails_61 : decode cX7_nails 61 = .ok (.invokevirtual 212, 3) := by decide +kernel
theorem dX7_nails_64 : decode cX7_nails 64 = .ok (.ifCond .eq 5, 3) := by decide +kernel
theorem dX7_nails_67 : decode cX7_nails 67 = .ok (.iconst 0, 1) := by decide +kernel
theorem dX7_nails_68 : decode cX7_nails 68 = .ok (.ireturn, 1) := by decide +kernel
theorem dX7_nails_69 : decode cX7_nails 69 = .ok (.aload_n 0, 1) := by decide +kernel
theorem dX7_nails_70 : decode cX7_nails 70 = .ok (.getfield 47, 3) := by decide +kernel
theorem dX7_nails_73 : decode cX7_nails 73 = .ok (.aload_n 0, 1) := by decide +kernel
theorem dX7_nails_74 : decode cX7_nails 74 = .ok (.getfield 26, 3) := by decide +kernel
theorem dX7_nails_77 : decode cX7_nails 77 = .ok (.iload_n 1, 1) := by decide +kernel
theorem dX7_nails_78 : decode cX7_nails 78 = .ok (.invokevirtual 208, 3) := by decide +kernel
theorem dX7_nails_81 : decode cX7_nails 81 = .ok (.aload_n 0, 1) := by decide +kernel
theorem dX7_nails_82 : decode cX7_nails 82 = .ok (.getfield 47, 3) := by decide +kernel
theorem dX7_nails_85 : decode cX7_nails 85 = .ok (.iconst 0, 1) := by decide +kernel
theorem dX7_nails_86 : decode cX7_nails 86 = .ok (.putfield 233, 3) := by decide +kernel
theorem dX7_nails_89 : decode cX7_nails 89 = .ok (.aload_n 0, 1) := by decide +kernel
theorem dX7_nails_90 : decode cX7_nails 90 = .ok (.getfield 47, 3) := by decide +kernel
theorem dX7_nails_93 : decode cX7_nails 93 = .ok (.iload_n 2, 1) := by decide +kernel
theorem dX7_nails_94 : decode cX7_nails 94 = .ok (.invokevirtual 212, 3) := by decide +kernel
theorem dX7_nails_97 : decode cX7_nails 97 = .ok (.ifCond .ne 6, 3) := by decide +kernel
theorem dX7_nails_100 : decode cX7_nails 100 = .ok (.ldc 217, 2) := by decide +kernel
theorem dX7_nails_102 : decode cX7_nails 102 = .ok (.ireturn, 1) := by decide +kernel
theorem dX7_nails_103 : decode cX7_nails 103 = .ok (.iload_n 3, 1) := by decide +kernel
theorem dX7_nails_104 : decode cX7_nails 104 = .ok (.ifCond .ne 7, 3) := by decide +kernel
theorem dX7_nails_107 : decode cX7_nails 107 = .ok (.iconst 1, 1) := by decide +kernel
theorem dX7_nails_108 : decode cX7_nails 108 = .ok (.goto 14, 3) := by decide +kernel
theorem dX7_nails_111 : decode cX7_nails 111 = .ok (.iconst 1, 1) := by decide +kernel
theorem dX7_nails_112 : decode cX7_nails 112 = .ok (.aload_n 0, 1) := by decide +kernel
theorem dX7_nails_113 : decode cX7_nails 113 = .ok (.getfield 26, 3) := by decide +kernel
theorem dX7_nails_116 : decode cX7_nails 116 = .ok (.getfield 190, 3) := by decide +kernel
theorem dX7_nails_119 : decode cX7_nails 119 = .ok (.iload_n 1, 1) := by decide +kernel
theorem dX7_nails_120 : decode cX7_nails 120 = .ok (.iaload, 1) := by decide +kernel
theorem dX7_nails_121 : decode cX7_nails 121 = .ok (.ishl, 1) := by decide +kernel
theorem dX7_nails_122 : decode cX7_nails 122 = .ok (.ireturn, 1) := by decide +kernel
theorem dX7_names_0 : decode cX7_names 0 = .ok (.aload_n 0, 1) := by decide +kernel
theorem dX7_names_1 : decode cX7_names 1 = .ok (.iload_n 1, 1) := by decide +kernel
theorem dX7_names_2 : decode cX7_names 2 = .ok (.invokevirtual 181, 3) := by decide +kernel
theorem dX7_names_5 : decode cX7_names 5 = .ok (.ifCond .eq 13, 3) := by decide +kernel
theorem dX7_names_8 : decode cX7_names 8 = .ok (.iload_n 2, 1) := by decide +kernel
theorem dX7_names_9 : decode cX7_names 9 = .ok (.iconst 1, 1) := by decide +kernel
theorem dX7_names_10 : decode cX7_names 10 = .ok (.bipush 60, 2) := by decide +kernel
theorem dX7_names_12 : decode cX7_names 12 = .ok (.invokestatic 76, 3) := by decide +kernel
theorem dX7_names_15 : decode cX7_names 15 = .ok (.ifCond .eq 6, 3) := by decide +kernel
theorem dX7_names_18 : decode cX7_names 18 = .ok (.ldc 80, 2) := by decide +kernel
theorem dX7_names_20 : decode cX7_names 20 = .ok (.ireturn, 1) := by decide +kernel
theorem dX7_names_21 : decode cX7_names 21 = .ok (.aload_n 0, 1) := by decide +kernel
theorem dX7_names_22 : decode cX7_names 22 = .ok (.getfield 26, 3) := by decide +kernel
theorem dX7_names_25 : decode cX7_names 25 = .ok (.iload_n 1, 1) := by decide +kernel
theorem dX7_names_26 : decode cX7_names 26 = .ok (.invokevirtual 184, 3) := by decide +kernel
theorem dX7_names_29 : decode cX7_names 29 = .ok (.ifCond .ne 6, 3) := by decide +kernel
theorem dX7_names_32 : decode cX7_names 32 = .ok (.ldc 151, 2) := by decide +kernel
theorem dX7_names_34 : decode cX7_names 34 = .ok (.ireturn, 1) := by decide +kernel
theorem dX7_names_35 : decode cX7_names 35 = .ok (.iconst 0, 1) := by decide +kernel
theorem dX7_names_36 : decode cX7_names 36 = .ok (.istore_n 3, 1) := by decide +kernel
theorem dX7_names_37 : decode cX7_names 37 = .ok (.iconst 0, 1) := by decide +kernel
theorem dX7_names_38 : decode cX7_names 38 = .ok (.istore 4, 2) := by decide +kernel
theorem dX7_names_40 : decode cX7_names 40 = .ok (.iload 4, 2) := by decide +kernel
theorem dX7_names_42 : decode cX7_names 42 = .ok (.aload_n 0, 1) := by decide +kernel
theorem dX7_names_43 : decode cX7_names 43 = .ok (.getfield 26, 3) := by decide +kernel
theorem dX7_names_46 : decode cX7_names 46 = .ok (.getfield 235, 3) := by decide +kernel
theorem dX7_names_49 : decode cX7_names 49 = .ok (.if_icmp .ge 56, 3) := by decide +kernel
theorem dX7_names_52 : decode cX7_names 52 = .ok (.aload_n 0, 1) := by decide +kernel
theorem dX7_names_53 : decode cX7_names 53 = .ok (.getfield 47, 3) := by decide +kernel
theorem dX7_names_56 : decode cX7_names 56 = .ok (.aload_n 0, 1) := by decide +kernel
theorem dX7_names_57 : decode cX7_names 57 = .ok (.getfield 26, 3) := by decide +kernel
theorem dX7_names_60 : decode cX7_names 60 = .ok (.iload_n 1, 1) := by decide +kernel
theorem dX7_names_61 : decode cX7_names 61 = .ok (.invokevirtual 208, 3) := by decide +kernel
theorem dX7_names_64 : decode cX7_names 64 = .ok (.aload_n 0, 1) := by decide +kernel
theorem dX7_names_65 : decode cX7_names 65 = .ok (.getfield 47, 3) := by decide +kernel
theorem dX7_names_68 : decode cX7_names 68 = .ok (.aload_n 0, 1) := by decide +kernel
theorem dX7_names_69 : decode cX7_names 69 = .ok (.getfield 26, 3) := by decide +kernel
theorem dX7_names_72 : decode cX7_names 72 = .ok (.iload 4, 2) := by decide +kernel
theorem dX7_names_74 : decode cX7_names 74 = .ok (.invokevirtual 238, 3) := by decide +kernel
theorem dX7_names_77 : decode cX7_names 77 = .ok (.iload_n 3, 1) := by decide +kernel
theorem dX7_names_78 : decode cX7_names 78 = .ok (.aload_n 0, 1) := by decide +kernel
theorem dX7_names_79 : decode cX7_names 79 = .ok (.getfield 47, 3) := by decide +kernel
theorem dX7_names_82 : decode cX7_names 82 = .ok (.iload_n 2, 1) := by decide +kernel
theorem dX7_names_83 : decode cX7_names 83 = .ok (.invokevirtual 212, 3) := by decide +kernel
theorem dX7_names_86 : decode cX7_names 86 = .ok (.ifCond .eq 10, 3) := by decide +kernel
theorem dX7_names_89 : decode cX7_names 89 = .ok (.iconst 1, 1) := by decide +kernel
theorem dX7_names_90 : decode cX7_names 90 = .ok (.iload 4, 2) := by decide +kernel
theorem dX7_names_92 : decode cX7_names 92 = .ok (.ishl, 1) := by decide +kernel
theorem dX7_names_93 : decode cX7_names 93 = .ok (.goto 4, 3) := by decide +kernel
theorem dX7_names_96 : decode cX7_names 96 = .ok (.iconst 0, 1) := by decide +kernel
theorem dX7_names_97 : decode cX7_names 97 = .ok (.ior, 1) := by decide +kernel
theorem dX7_names_98 : decode cX7_names 98 = .ok (.istore_n 3, 1) := by decide +kernel
theorem dX7_names_99 : decode cX7_names 99 = .ok (.iinc 4 1, 3) := by decide +kernel
theorem dX7_names_102 : decode cX7_names 102 = .ok (.goto (-62), 3) := by decide +kernel
theorem dX7_names_105 : decode cX7_names 105 = .ok (.iload_n 3, 1) := by decide +kernel
theorem dX7_names_106 : decode cX7_names 106 = .ok (.ireturn, 1) := by decide +kernel
theorem dX7_safest_0 : decode cX7_safest 0 = .ok (.aload_n 0, 1) := by decide +kernel
theorem dX7_safest_1 : decode cX7_safest 1 = .ok (.iload_n 1, 1) := by decide +kernel
theorem dX7_safest_2 : decode cX7_safest 2 = .ok (.invokevirtual 181, 3) := by decide +kernel
theorem dX7_safest_5 : decode cX7_safest 5 = .ok (.ifCond .ne 6, 3) := by decide +kernel
theorem dX7_safest_8 : decode cX7_safest 8 = .ok (.ldc 80, 2) := by decide +kernel
theorem dX7_safest_10 : decode cX7_safest 10 = .ok (.ireturn, 1) := by decide +kernel
theorem dX7_safest_11 : decode cX7_safest 11 = .ok (.aload_n 0, 1) := by decide +kernel
theorem dX7_safest_12 : decode cX7_safest 12 = .ok (.getfield 26, 3) := by decide +kernel
theorem dX7_safest_15 : decode cX7_safest 15 = .ok (.iload_n 1, 1) := by decide +kernel
theorem dX7_safest_16 : decode cX7_safest 16 = .ok (.invokevirtual 184, 3) := by decide +kernel
theorem dX7_safest_19 : decode cX7_safest 19 = .ok (.ifCond .ne 6, 3) := by decide +kernel
theorem dX7_safest_22 : decode cX7_safest 22 = .ok (.ldc 151, 2) := by decide +kernel
theorem dX7_safest_24 : decode cX7_safest 24 = .ok (.ireturn, 1) := by decide +kernel
theorem dX7_safest_25 : decode cX7_safest 25 = .ok (.iconst 0, 1) := by decide +kernel
theorem dX7_safest_26 : decode cX7_safest 26 = .ok (.istore_n 2, 1) := by decide +kernel
theorem dX7_safest_27 : decode cX7_safest 27 = .ok (.iconst (-1), 1) := by decide +kernel
theorem dX7_safest_28 : decode cX7_safest 28 = .ok (.istore_n 3, 1) := by decide +kernel
theorem dX7_safest_29 : decode cX7_safest 29 = .ok (.iconst 0, 1) := by decide +kernel
theorem dX7_safest_30 : decode cX7_safest 30 = .ok (.istore 4, 2) := by decide +kernel
theorem dX7_safest_32 : decode cX7_safest 32 = .ok (.iload 4, 2) := by decide +kernel
theorem dX7_safest_34 : decode cX7_safest 34 = .ok (.aload_n 0, 1) := by decide +kernel
theorem dX7_safest_35 : decode cX7_safest 35 = .ok (.getfield 26, 3) := by decide +kernel
theorem dX7_safest_38 : decode cX7_safest 38 = .ok (.getfield 241, 3) := by decide +kernel
theorem dX7_safest_41 : decode cX7_safest 41 = .ok (.if_icmp .ge 53, 3) := by decide +kernel
theorem dX7_safest_44 : decode cX7_safest 44 = .ok (.aload_n 0, 1) := by decide +kernel
theorem dX7_safest_45 : decode cX7_safest 45 = .ok (.getfield 47, 3) := by decide +kernel
theorem dX7_safest_48 : decode cX7_safest 48 = .ok (.aload_n 0, 1) := by decide +kernel
theorem dX7_safest_49 : decode cX7_safest 49 = .ok (.getfield 26, 3) := by decide +kernel
theorem dX7_safest_52 : decode cX7_safest 52 = .ok (.iload_n 1, 1) := by decide +kernel
theorem dX7_safest_53 : decode cX7_safest 53 = .ok (.invokevirtual 208, 3) := by decide +kernel
theorem dX7_safest_56 : decode cX7_safest 56 = .ok (.aload_n 0, 1) := by decide +kernel
theorem dX7_safest_57 : decode cX7_safest 57 = .ok (.getfield 47, 3) := by decide +kernel
theorem dX7_safest_60 : decode cX7_safest 60 = .ok (.iload 4, 2) := by decide +kernel
theorem dX7_safest_62 : decode cX7_safest 62 = .ok (.putfield 215, 3) := by decide +kernel
theorem dX7_safest_65 : decode cX7_safest 65 = .ok (.aload_n 0, 1) := by decide +kernel
theorem dX7_safest_66 : decode cX7_safest 66 = .ok (.getfield 47, 3) := by decide +kernel
theorem dX7_safest_69 : decode cX7_safest 69 = .ok (.bipush 60, 2) := by decide +kernel
theorem dX7_safest_71 : decode cX7_safest 71 = .ok (.invokevirtual 218, 3) := by decide +kernel
theorem dX7_safest_74 : decode cX7_safest 74 = .ok (.istore 5, 2) := by decide +kernel
theorem dX7_safest_76 : decode cX7_safest 76 = .ok (.iload 5, 2) := by decide +kernel
theorem dX7_safest_78 : decode cX7_safest 78 = .ok (.iload_n 3, 1) := by decide +kernel
theorem dX7_safest_79 : decode cX7_safest 79 = .ok (.if_icmp .le 9, 3) := by decide +kernel
theorem dX7_safest_82 : decode cX7_safest 82 = .ok (.iload 5, 2) := by decide +kernel
theorem dX7_safest_84 : decode cX7_safest 84 = .ok (.istore_n 3, 1) := by decide +kernel
theorem dX7_safest_85 : decode cX7_safest 85 = .ok (.iload 4, 2) := by decide +kernel
theorem dX7_safest_87 : decode cX7_safest 87 = .ok (.istore_n 2, 1) := by decide +kernel
theorem dX7_safest_88 : decode cX7_safest 88 = .ok (.iinc 4 1, 3) := by decide +kernel
theorem dX7_safest_91 : decode cX7_safest 91 = .ok (.goto (-59), 3) := by decide +kernel
theorem dX7_safest_94 : decode cX7_safest 94 = .ok (.iload_n 2, 1) := by decide +kernel
theorem dX7_safest_95 : decode cX7_safest 95 = .ok (.ireturn, 1) := by decide +kernel
theorem dX7_meet_0 : decode cX7_meet 0 = .ok (.aload_n 0, 1) := by decide +kernel
theorem dX7_meet_1 : decode cX7_meet 1 = .ok (.iload_n 1, 1) := by decide +kernel
theorem dX7_meet_2 : decode cX7_meet 2 = .ok (.invokevirtual 181, 3) := by decide +kernel
theorem dX7_meet_5 : decode cX7_meet 5 = .ok (.ifCond .eq 16, 3) := by decide +kernel
theorem dX7_meet_8 : decode cX7_meet 8 = .ok (.aload_n 0, 1) := by decide +kernel
theorem dX7_meet_9 : decode cX7_meet 9 = .ok (.iload_n 2, 1) := by decide +kernel
theorem dX7_meet_10 : decode cX7_meet 10 = .ok (.invokevirtual 181, 3) := by decide +kernel
theorem dX7_meet_13 : decode cX7_meet 13 = .ok (.ifCond .eq 8, 3) := by decide +kernel
theorem dX7_meet_16 : decode cX7_meet 16 = .ok (.iload_n 1, 1) := by decide +kernel
theorem dX7_meet_17 : decode cX7_meet 17 = .ok (.iload_n 2, 1) := by decide +kernel
theorem dX7_meet_18 : decode cX7_meet 18 = .ok (.if_icmp .ne 6, 3) := by decide +kernel
theorem dX7_meet_21 : decode cX7_meet 21 = .ok (.ldc 80, 2) := by decide +kernel
theorem dX7_meet_23 : decode cX7_meet 23 = .ok (.ireturn, 1) := by decide +kernel
theorem dX7_meet_24 : decode cX7_meet 24 = .ok (.aload_n 0, 1) := by decide +kernel
theorem dX7_meet_25 : decode cX7_meet 25 = .ok (.getfield 47, 3) := by decide +kernel
theorem dX7_meet_28 : decode cX7_meet 28 = .ok (.aload_n 0, 1) := by decide +kernel
theorem dX7_meet_29 : decode cX7_meet 29 = .ok (.getfield 26, 3) := by decide +kernel
theorem dX7_meet_32 : decode cX7_meet 32 = .ok (.iload_n 1, 1) := by decide +kernel
theorem dX7_meet_33 : decode cX7_meet 33 = .ok (.invokevirtual 208, 3) := by decide +kernel
theorem dX7_meet_36 : decode cX7_meet 36 = .ok (.aload_n 0, 1) := by decide +kernel
theorem dX7_meet_37 : decode cX7_meet 37 = .ok (.getfield 51, 3) := by decide +kernel
theorem dX7_meet_40 : decode cX7_meet 40 = .ok (.aload_n 0, 1) := by decide +kernel
theorem dX7_meet_41 : decode cX7_meet 41 = .ok (.getfield 26, 3) := by decide +kernel
theorem dX7_meet_44 : decode cX7_meet 44 = .ok (.iload_n 2, 1) := by decide +kernel
theorem dX7_meet_45 : decode cX7_meet 45 = .ok (.invokevirtual 208, 3) := by decide +kernel
theorem dX7_meet_48 : decode cX7_meet 48 = .ok (.iconst 0, 1) := by decide +kernel
theorem dX7_meet_49 : decode cX7_meet 49 = .ok (.istore_n 3, 1) := by decide +kernel
theorem dX7_meet_50 : decode cX7_meet 50 = .ok (.iload_n 3, 1) := by decide +kernel
theorem dX7_meet_51 : decode cX7_meet 51 = .ok (.bipush 60, 2) := by decide +kernel
theorem dX7_meet_53 : decode cX7_meet 53 = .ok (.if_icmp .gt 65, 3) := by decide +kernel
theorem dX7_meet_56 : decode cX7_meet 56 = .ok (.aload_n 0, 1) := by decide +kernel
theorem dX7_meet_57 : decode cX7_meet 57 = .ok (.getfield 47, 3) := by decide +kernel
theorem dX7_meet_60 : decode cX7_meet 60 = .ok (.getfield 244, 3) := by decide +kernel
theorem dX7_meet_63 : decode cX7_meet 63 = .ok (.ifCond .eq 13, 3) := by decide +kernel
theorem dX7_meet_66 : decode cX7_meet 66 = .ok (.aload_n 0, 1) := by decide +kernel
theorem dX7_meet_67 : decode cX7_meet 67 = .ok (.getfield 51, 3) := by decide +kernel
theorem dX7_meet_70 : decode cX7_meet 70 = .ok (.getfield 244, 3) := by decide +kernel
theorem dX7_meet_73 : decode cX7_meet 73 = .ok (.ifCond .ne 6, 3) := by decide +kernel
theorem dX7_meet_76 : decode cX7_meet 76 = .ok (.ldc 217, 2) := by decide +kernel
theorem dX7_meet_78 : decode cX7_meet 78 = .ok (.ireturn, 1) := by decide +kernel
theorem dX7_meet_79 : decode cX7_meet 79 = .ok (.aload_n 0, 1) := by decide +kernel
theorem dX7_meet_80 : decode cX7_meet 80 = .ok (.getfield 47, 3) := by decide +kernel
theorem dX7_meet_83 : decode cX7_meet 83 = .ok (.getfield 215, 3) := by decide +kernel
theorem dX7_meet_86 : decode cX7_meet 86 = .ok (.aload_n 0, 1) := by decide +kernel
theorem dX7_meet_87 : decode cX7_meet 87 = .ok (.getfield 51, 3) := by decide +kernel
theorem dX7_meet_90 : decode cX7_meet 90 = .ok (.getfield 215, 3) := by decide +kernel
theorem dX7_meet_93 : decode cX7_meet 93 = .ok (.if_icmp .ne 5, 3) := by decide +kernel
theorem dX7_meet_96 : decode cX7_meet 96 = .ok (.iload_n 3, 1) := by decide +kernel
theorem dX7_meet_97 : decode cX7_meet 97 = .ok (.ireturn, 1) := by decide +kernel
theorem dX7_meet_98 : decode cX7_meet 98 = .ok (.aload_n 0, 1) := by decide +kernel
theorem dX7_meet_99 : decode cX7_meet 99 = .ok (.getfield 47, 3) := by decide +kernel
theorem dX7_meet_102 : decode cX7_meet 102 = .ok (.invokevirtual 248, 3) := by decide +kernel
theorem dX7_meet_105 : decode cX7_meet 105 = .ok (.aload_n 0, 1) := by decide +kernel
theorem dX7_meet_106 : decode cX7_meet 106 = .ok (.getfield 51, 3) := by decide +kernel
theorem dX7_meet_109 : decode cX7_meet 109 = .ok (.invokevirtual 248, 3) := by decide +kernel
theorem dX7_meet_112 : decode cX7_meet 112 = .ok (.iinc 3 1, 3) := by decide +kernel
theorem dX7_meet_115 : decode cX7_meet 115 = .ok (.goto (-65), 3) := by decide +kernel
theorem dX7_meet_118 : decode cX7_meet 118 = .ok (.ldc 217, 2) := by decide +kernel
theorem dX7_meet_120 : decode cX7_meet 120 = .ok (.ireturn, 1) := by decide +kernel
theorem dX7_fatal_0 : decode cX7_fatal 0 = .ok (.aload_n 0, 1) := by decide +kernel
theorem dX7_fatal_1 : decode cX7_fatal 1 = .ok (.getfield 26, 3) := by decide +kernel
theorem dX7_fatal_4 : decode cX7_fatal 4 = .ok (.invokevirtual 152, 3) := by decide +kernel
theorem dX7_fatal_7 : decode cX7_fatal 7 = .ok (.ifCond .ne 6, 3) := by decide +kernel
theorem dX7_fatal_10 : decode cX7_fatal 10 = .ok (.ldc 151, 2) := by decide +kernel
theorem dX7_fatal_12 : decode cX7_fatal 12 = .ok (.ireturn, 1) := by decide +kernel
theorem dX7_fatal_13 : decode cX7_fatal 13 = .ok (.iload_n 1, 1) := by decide +kernel
theorem dX7_fatal_14 : decode cX7_fatal 14 = .ok (.iconst 1, 1) := by decide +kernel
theorem dX7_fatal_15 : decode cX7_fatal 15 = .ok (.bipush 60, 2) := by decide +kernel
theorem dX7_fatal_17 : decode cX7_fatal 17 = .ok (.invokestatic 76, 3) := by decide +kernel
theorem dX7_fatal_20 : decode cX7_fatal 20 = .ok (.ifCond .eq 6, 3) := by decide +kernel
theorem dX7_fatal_23 : decode cX7_fatal 23 = .ok (.ldc 80, 2) := by decide +kernel
theorem dX7_fatal_25 : decode cX7_fatal 25 = .ok (.ireturn, 1) := by decide +kernel
theorem dX7_fatal_26 : decode cX7_fatal 26 = .ok (.iconst 0, 1) := by decide +kernel
theorem dX7_fatal_27 : decode cX7_fatal 27 = .ok (.istore_n 2, 1) := by decide +kernel
theorem dX7_fatal_28 : decode cX7_fatal 28 = .ok (.iconst 0, 1) := by decide +kernel
theorem dX7_fatal_29 : decode cX7_fatal 29 = .ok (.istore_n 3, 1) := by decide +kernel
theorem dX7_fatal_30 : decode cX7_fatal 30 = .ok (.iload_n 3, 1) := by decide +kernel
theorem dX7_fatal_31 : decode cX7_fatal 31 = .ok (.aload_n 0, 1) := by decide +kernel
theorem dX7_fatal_32 : decode cX7_fatal 32 = .ok (.getfield 26, 3) := by decide +kernel
theorem dX7_fatal_35 : decode cX7_fatal 35 = .ok (.getfield 140, 3) := by decide +kernel
theorem dX7_fatal_38 : decode cX7_fatal 38 = .ok (.if_icmp .ge 56, 3) := by decide +kernel
theorem dX7_fatal_41 : decode cX7_fatal 41 = .ok (.aload_n 0, 1) := by decide +kernel
theorem dX7_fatal_42 : decode cX7_fatal 42 = .ok (.getfield 47, 3) := by decide +kernel
theorem dX7_fatal_45 : decode cX7_fatal 45 = .ok (.aload_n 0, 1) := by decide +kernel
theorem dX7_fatal_46 : decode cX7_fatal 46 = .ok (.getfield 26, 3) := by decide +kernel
theorem dX7_fatal_49 : decode cX7_fatal 49 = .ok (.iload_n 3, 1) := by decide +kernel
theorem dX7_fatal_50 : decode cX7_fatal 50 = .ok (.invokevirtual 208, 3) := by decide +kernel
theorem dX7_fatal_53 : decode cX7_fatal 53 = .ok (.aload_n 0, 1) := by decide +kernel
theorem dX7_fatal_54 : decode cX7_fatal 54 = .ok (.getfield 47, 3) := by decide +kernel
theorem dX7_fatal_57 : decode cX7_fatal 57 = .ok (.getfield 244, 3) := by decide +kernel
theorem dX7_fatal_60 : decode cX7_fatal 60 = .ok (.ifCond .eq 28, 3) := by decide +kernel
theorem dX7_fatal_63 : decode cX7_fatal 63 = .ok (.aload_n 0, 1) := by decide +kernel
theorem dX7_fatal_64 : decode cX7_fatal 64 = .ok (.getfield 47, 3) := by decide +kernel
theorem dX7_fatal_67 : decode cX7_fatal 67 = .ok (.iload_n 1, 1) := by decide +kernel
theorem dX7_fatal_68 : decode cX7_fatal 68 = .ok (.invokevirtual 212, 3) := by decide +kernel
theorem dX7_fatal_71 : decode cX7_fatal 71 = .ok (.ifCond .ne 17, 3) := by decide +kernel
theorem dX7_fatal_74 : decode cX7_fatal 74 = .ok (.iload_n 2, 1) := by decide +kernel
theorem dX7_fatal_75 : decode cX7_fatal 75 = .ok (.iconst 1, 1) := by decide +kernel
theorem dX7_fatal_76 : decode cX7_fatal 76 = .ok (.aload_n 0, 1) := by decide +kernel
theorem dX7_fatal_77 : decode cX7_fatal 77 = .ok (.getfield 26, 3) := by decide +kernel
theorem dX7_fatal_80 : decode cX7_fatal 80 = .ok (.getfield 190, 3) := by decide +kernel
theorem dX7_fatal_83 : decode cX7_fatal 83 = .ok (.iload_n 3, 1) := by decide +kernel
theorem dX7_fatal_84 : decode cX7_fatal 84 = .ok (.iaload, 1) := by decide +kernel
theorem dX7_fatal_85 : decode cX7_fatal 85 = .ok (.ishl, 1) := by decide +kernel
theorem dX7_fatal_86 : decode cX7_fatal 86 = .ok (.ior, 1) := by decide +kernel
theorem dX7_fatal_87 : decode cX7_fatal 87 = .ok (.istore_n 2, 1) := by decide +kernel
theorem dX7_fatal_88 : decode cX7_fatal 88 = .ok (.iinc 3 1, 3) := by decide +kernel
theorem dX7_fatal_91 : decode cX7_fatal 91 = .ok (.goto (-61), 3) := by decide +kernel
theorem dX7_fatal_94 : decode cX7_fatal 94 = .ok (.iload_n 2, 1) := by decide +kernel
theorem dX7_fatal_95 : decode cX7_fatal 95 = .ok (.ireturn, 1) := by decide +kernel
theorem dX7_called_0 : decode cX7_called 0 = .ok (.aload_n 0, 1) := by decide +kernel
theorem dX7_called_1 : decode cX7_called 1 = .ok (.iconst 0, 1) := by decide +kernel
theorem dX7_called_2 : decode cX7_called 2 = .ok (.iload_n 1, 1) := by decide +kernel
theorem dX7_called_3 : decode cX7_called 3 = .ok (.iload_n 2, 1) := by decide +kernel
theorem dX7_called_4 : decode cX7_called 4 = .ok (.iload_n 3, 1) := by decide +kernel
theorem dX7_called_5 : decode cX7_called 5 = .ok (.iload 4, 2) := by decide +kernel
theorem dX7_called_7 : decode cX7_called 7 = .ok (.invokevirtual 250, 3) := by decide +kernel
theorem dX7_called_10 : decode cX7_called 10 = .ok (.ireturn, 1) := by decide +kernel
theorem dX7_who_0 : decode cX7_who 0 = .ok (.aload_n 0, 1) := by decide +kernel
theorem dX7_who_1 : decode cX7_who 1 = .ok (.iconst 1, 1) := by decide +kernel
theorem dX7_who_2 : decode cX7_who 2 = .ok (.iload_n 1, 1) := by decide +kernel
theorem dX7_who_3 : decode cX7_who 3 = .ok (.iload_n 2, 1) := by decide +kernel
theorem dX7_who_4 : decode cX7_who 4 = .ok (.iload_n 3, 1) := by decide +kernel
theorem dX7_who_5 : decode cX7_who 5 = .ok (.iload 4, 2) := by decide +kernel
theorem dX7_who_7 : decode cX7_who 7 = .ok (.invokevirtual 250, 3) := by decide +kernel
theorem dX7_who_10 : decode cX7_who 10 = .ok (.ireturn, 1) := by decide +kernel
theorem dX7_steps_0 : decode cX7_steps 0 = .ok (.aload_n 0, 1) := by decide +kernel
theorem dX7_steps_1 : decode cX7_steps 1 = .ok (.iconst 2, 1) := by decide +kernel
theorem dX7_steps_2 : decode cX7_steps 2 = .ok (.iload_n 1, 1) := by decide +kernel
theorem dX7_steps_3 : decode cX7_steps 3 = .ok (.iload_n 2, 1) := by decide +kernel
theorem dX7_steps_4 : decode cX7_steps 4 = .ok (.iload_n 3, 1) := by decide +kernel
theorem dX7_steps_5 : decode cX7_steps 5 = .ok (.iload 4, 2) := by decide +kernel
theorem dX7_steps_7 : decode cX7_steps 7 = .ok (.invokevirtual 250, 3) := by decide +kernel
theorem dX7_steps_10 : decode cX7_steps 10 = .ok (.ireturn, 1) := by decide +kernel
theorem dX7_namesakes_0 : decode cX7_namesakes 0 = .ok (.aload_n 0, 1) := by decide +kernel
theorem dX7_namesakes_1 : decode cX7_namesakes 1 = .ok (.getfield 26, 3) := by decide +kernel
theorem dX7_namesakes_4 : decode cX7_namesakes 4 = .ok (.invokevirtual 152, 3) := by decide +kernel
theorem dX7_namesakes_7 : decode cX7_namesakes 7 = .ok (.ifCond .ne 6, 3) := by decide +kernel
theorem dX7_namesakes_10 : decode cX7_namesakes 10 = .ok (.ldc 151, 2) := by decide +kernel
theorem dX7_namesakes_12 : decode cX7_namesakes 12 = .ok (.ireturn, 1) := by decide +kernel
theorem dX7_namesakes_13 : decode cX7_namesakes 13 = .ok (.iload_n 1, 1) := by decide +kernel
theorem dX7_namesakes_14 : decode cX7_namesakes 14 = .ok (.iconst 0, 1) := by decide +kernel
theorem dX7_namesakes_15 : decode cX7_namesakes 15 = .ok (.iconst 1, 1) := by decide +kernel
theorem dX7_namesakes_16 : decode cX7_namesakes 16 = .ok (.invokestatic 76, 3) := by decide +kernel
theorem dX7_namesakes_19 : decode cX7_namesakes 19 = .ok (.ifCond .eq 6, 3) := by decide +kernel
theorem dX7_namesakes_22 : decode cX7_namesakes 22 = .ok (.ldc 80, 2) := by decide +kernel
theorem dX7_namesakes_24 : decode cX7_namesakes 24 = .ok (.ireturn, 1) := by decide +kernel
theorem dX7_namesakes_25 : decode cX7_namesakes 25 = .ok (.iconst 0, 1) := by decide +kernel
theorem dX7_namesakes_26 : decode cX7_namesakes 26 = .ok (.istore_n 2, 1) := by decide +kernel
theorem dX7_namesakes_27 : decode cX7_namesakes 27 = .ok (.ldc 217, 2) := by decide +kernel
theorem dX7_namesakes_29 : decode cX7_namesakes 29 = .ok (.istore_n 3, 1) := by decide +kernel
theorem dX7_namesakes_30 : decode cX7_namesakes 30 = .ok (.iconst 0, 1) := by decide +kernel
theorem dX7_namesakes_31 : decode cX7_namesakes 31 = .ok (.istore 4, 2) := by decide +kernel
theorem dX7_namesakes_33 : decode cX7_namesakes 33 = .ok (.iload 4, 2) := by decide +kernel
theorem dX7_namesakes_35 : decode cX7_namesakes 35 = .ok (.aload_n 0, 1) := by decide +kernel
theorem dX7_namesakes_36 : decode cX7_namesakes 36 = .ok (.getfield 26, 3) := by decide +kernel
theorem dX7_namesakes_39 : decode cX7_namesakes 39 = .ok (.getfield 140, 3) := by decide +kernel
theorem dX7_namesakes_42 : decode cX7_namesakes 42 = .ok (.if_icmp .ge 67, 3) := by decide +kernel
theorem dX7_namesakes_45 : decode cX7_namesakes 45 = .ok (.iload 4, 2) := by decide +kernel
theorem dX7_namesakes_47 : decode cX7_namesakes 47 = .ok (.iconst 1, 1) := by decide +kernel
theorem dX7_namesakes_48 : decode cX7_namesakes 48 = .ok (.iadd, 1) := by decide +kernel
theorem dX7_namesakes_49 : decode cX7_namesakes 49 = .ok (.istore 5, 2) := by decide +kernel
theorem dX7_namesakes_51 : decode cX7_namesakes 51 = .ok (.iload 5, 2) := by decide +kernel
theorem dX7_namesakes_53 : decode cX7_namesakes 53 = .ok (.aload_n 0, 1) := by decide +kernel
theorem dX7_namesakes_54 : decode cX7_namesakes 54 = .ok (.getfield 26, 3) := by decide +kernel
theorem dX7_namesakes_57 : decode cX7_namesakes 57 = .ok (.getfield 140, 3) := by decide +kernel
theorem dX7_namesakes_60 : decode cX7_namesakes 60 = .ok (.if_icmp .ge 43, 3) := by decide +kernel
theorem dX7_namesakes_63 : decode cX7_namesakes 63 = .ok (.aload_n 0, 1) := by decide +kernel
theorem dX7_namesakes_64 : decode cX7_namesakes 64 = .ok (.getfield 26, 3) := by decide +kernel
theorem dX7_namesakes_67 : decode cX7_namesakes 67 = .ok (.iload 4, 2) := by decide +kernel
theorem dX7_namesakes_69 : decode cX7_namesakes 69 = .ok (.iload 5, 2) := by decide +kernel
theorem dX7_namesakes_71 : decode cX7_namesakes 71 = .ok (.invokevirtual 254, 3) := by decide +kernel
theorem dX7_namesakes_74 : decode cX7_namesakes 74 = .ok (.ifCond .eq 23, 3) := by decide +kernel
theorem dX7_namesakes_77 : decode cX7_namesakes 77 = .ok (.iload_n 2, 1) := by decide +kernel
theorem dX7_namesakes_78 : decode cX7_namesakes 78 = .ok (.ifCond .ne 14, 3) := by decide +kernel
theorem dX7_namesakes_81 : decode cX7_namesakes 81 = .ok (.bipush 10, 2) := by decide +kernel
theorem dX7_namesakes_83 : decode cX7_namesakes 83 = .ok (.iload 4, 2) := by decide +kernel
theorem dX7_namesakes_85 : decode cX7_namesakes 85 = .ok (.imul, 1) := by decide +kernel
theorem dX7_namesakes_86 : decode cX7_namesakes 86 = .ok (.iload 5, 2) := by decide +kernel
theorem dX7_namesakes_88 : decode cX7_namesakes 88 = .ok (.iadd, 1) := by decide +kernel
theorem dX7_namesakes_89 : decode cX7_namesakes 89 = .ok (.goto 4, 3) := by decide +kernel
theorem dX7_namesakes_92 : decode cX7_namesakes 92 = .ok (.iload_n 3, 1) := by decide +kernel
theorem dX7_namesakes_93 : decode cX7_namesakes 93 = .ok (.istore_n 3, 1) := by decide +kernel
theorem dX7_namesakes_94 : decode cX7_namesakes 94 = .ok (.iinc 2 1, 3) := by decide +kernel
theorem dX7_namesakes_97 : decode cX7_namesakes 97 = .ok (.iinc 5 1, 3) := by decide +kernel
theorem dX7_namesakes_100 : decode cX7_namesakes 100 = .ok (.goto (-49), 3) := by decide +kernel
theorem dX7_namesakes_103 : decode cX7_namesakes 103 = .ok (.iinc 4 1, 3) := by decide +kernel
theorem dX7_namesakes_106 : decode cX7_namesakes 106 = .ok (.goto (-73), 3) := by decide +kernel
theorem dX7_namesakes_109 : decode cX7_namesakes 109 = .ok (.iload_n 1, 1) := by decide +kernel
theorem dX7_namesakes_110 : decode cX7_namesakes 110 = .ok (.ifCond .ne 7, 3) := by decide +kernel
theorem dX7_namesakes_113 : decode cX7_namesakes 113 = .ok (.iload_n 2, 1) := by decide +kernel
theorem dX7_namesakes_114 : decode cX7_namesakes 114 = .ok (.goto 4, 3) := by decide +kernel
theorem dX7_namesakes_117 : decode cX7_namesakes 117 = .ok (.iload_n 3, 1) := by decide +kernel
theorem dX7_namesakes_118 : decode cX7_namesakes 118 = .ok (.ireturn, 1) := by decide +kernel
theorem dX7_still_0 : decode cX7_still 0 = .ok (.aload_n 0, 1) := by decide +kernel
theorem dX7_still_1 : decode cX7_still 1 = .ok (.iload_n 1, 1) := by decide +kernel
theorem dX7_still_2 : decode cX7_still 2 = .ok (.invokevirtual 181, 3) := by decide +kernel
theorem dX7_still_5 : decode cX7_still 5 = .ok (.ifCond .eq 22, 3) := by decide +kernel
theorem dX7_still_8 : decode cX7_still 8 = .ok (.iload_n 2, 1) := by decide +kernel
theorem dX7_still_9 : decode cX7_still 9 = .ok (.iconst 0, 1) := by decide +kernel
theorem dX7_still_10 : decode cX7_still 10 = .ok (.bipush 10, 2) := by decide +kernel
theorem dX7_still_12 : decode cX7_still 12 = .ok (.invokestatic 76, 3) := by decide +kernel
theorem dX7_still_15 : decode cX7_still 15 = .ok (.ifCond .ne 12, 3) := by decide +kernel
theorem dX7_still_18 : decode cX7_still 18 = .ok (.iload_n 3, 1) := by decide +kernel
theorem dX7_still_19 : decode cX7_still 19 = .ok (.iconst 0, 1) := by decide +kernel
theorem dX7_still_20 : decode cX7_still 20 = .ok (.iconst 1, 1) := by decide +kernel
theorem dX7_still_21 : decode cX7_still 21 = .ok (.invokestatic 76, 3) := by decide +kernel
theorem dX7_still_24 : decode cX7_still 24 = .ok (.ifCond .eq 7, 3) := by decide +kernel
theorem dX7_still_27 : decode cX7_still 27 = .ok (.ldc2_w 258, 3) := by decide +kernel
theorem dX7_still_30 : decode cX7_still 30 = .ok (.lreturn, 1) := by decide +kernel
theorem dX7_still_31 : decode cX7_still 31 = .ok (.aload_n 0, 1) := by decide +kernel
theorem dX7_still_32 : decode cX7_still 32 = .ok (.getfield 47, 3) := by decide +kernel
theorem dX7_still_35 : decode cX7_still 35 = .ok (.aload_n 0, 1) := by decide +kernel
theorem dX7_still_36 : decode cX7_still 36 = .ok (.getfield 26, 3) := by decide +kernel
theorem dX7_still_39 : decode cX7_still 39 = .ok (.iload_n 1, 1) := by decide +kernel
theorem dX7_still_40 : decode cX7_still 40 = .ok (.invokevirtual 208, 3) := by decide +kernel
theorem dX7_still_43 : decode cX7_still 43 = .ok (.aload_n 0, 1) := by decide +kernel
theorem dX7_still_44 : decode cX7_still 44 = .ok (.getfield 47, 3) := by decide +kernel
theorem dX7_still_47 : decode cX7_still 47 = .ok (.iconst 1, 1) := by decide +kernel
theorem dX7_still_48 : decode cX7_still 48 = .ok (.invokevirtual 212, 3) := by decide +kernel
theorem dX7_still_51 : decode cX7_still 51 = .ok (.ifCond .eq 10, 3) := by decide +kernel
theorem dX7_still_54 : decode cX7_still 54 = .ok (.bipush 10, 2) := by decide +kernel
theorem dX7_still_56 : decode cX7_still 56 = .ok (.iload_n 2, 1) := by decide +kernel
theorem dX7_still_57 : decode cX7_still 57 = .ok (.isub, 1) := by decide +kernel
theorem dX7_still_58 : decode cX7_still 58 = .ok (.goto 4, 3) := by decide +kernel
theorem dX7_still_61 : decode cX7_still 61 = .ok (.iconst 0, 1) := by decide +kernel
theorem dX7_still_62 : decode cX7_still 62 = .ok (.istore 4, 2) := by decide +kernel
theorem dX7_still_64 : decode cX7_still 64 = .ok (.aload_n 0, 1) := by decide +kernel
theorem dX7_still_65 : decode cX7_still 65 = .ok (.getfield 47, 3) := by decide +kernel
theorem dX7_still_68 : decode cX7_still 68 = .ok (.aload_n 0, 1) := by decide +kernel
theorem dX7_still_69 : decode cX7_still 69 = .ok (.getfield 26, 3) := by decide +kernel
theorem dX7_still_72 : decode cX7_still 72 = .ok (.iload_n 1, 1) := by decide +kernel
theorem dX7_still_73 : decode cX7_still 73 = .ok (.invokevirtual 208, 3) := by decide +kernel
theorem dX7_still_76 : decode cX7_still 76 = .ok (.aload_n 0, 1) := by decide +kernel
theorem dX7_still_77 : decode cX7_still 77 = .ok (.getfield 47, 3) := by decide +kernel
theorem dX7_still_80 : decode cX7_still 80 = .ok (.iconst 0, 1) := by decide +kernel
theorem dX7_still_81 : decode cX7_still 81 = .ok (.putfield 233, 3) := by decide +kernel
theorem dX7_still_84 : decode cX7_still 84 = .ok (.iload 4, 2) := by decide +kernel
theorem dX7_still_86 : decode cX7_still 86 = .ok (.aload_n 0, 1) := by decide +kernel
theorem dX7_still_87 : decode cX7_still 87 = .ok (.getfield 47, 3) := by decide +kernel
theorem dX7_still_90 : decode cX7_still 90 = .ok (.iconst 1, 1) := by decide +kernel
theorem dX7_still_91 : decode cX7_still 91 = .ok (.invokevirtual 212, 3) := by decide +kernel
theorem dX7_still_94 : decode cX7_still 94 = .ok (.ifCond .eq 7, 3) := by decide +kernel
theorem dX7_still_97 : decode cX7_still 97 = .ok (.iload_n 2, 1) := by decide +kernel
theorem dX7_still_98 : decode cX7_still 98 = .ok (.goto 4, 3) := by decide +kernel
theorem dX7_still_101 : decode cX7_still 101 = .ok (.iconst 0, 1) := by decide +kernel
theorem dX7_still_102 : decode cX7_still 102 = .ok (.iadd, 1) := by decide +kernel
theorem dX7_still_103 : decode cX7_still 103 = .ok (.istore 4, 2) := by decide +kernel
theorem dX7_still_105 : decode cX7_still 105 = .ok (.iload 4, 2) := by decide +kernel
theorem dX7_still_107 : decode cX7_still 107 = .ok (.bipush 10, 2) := by decide +kernel
theorem dX7_still_109 : decode cX7_still 109 = .ok (.invokestatic 260, 3) := by decide +kernel
theorem dX7_still_112 : decode cX7_still 112 = .ok (.istore 5, 2) := by decide +kernel
theorem dX7_still_114 : decode cX7_still 114 = .ok (.iload_n 3, 1) := by decide +kernel
theorem dX7_still_115 : decode cX7_still 115 = .ok (.ifCond .ne 12, 3) := by decide +kernel
theorem dX7_still_118 : decode cX7_still 118 = .ok (.iload 4, 2) := by decide +kernel
theorem dX7_still_120 : decode cX7_still 120 = .ok (.iload 5, 2) := by decide +kernel
theorem dX7_still_122 : decode cX7_still 122 = .ok (.idiv, 1) := by decide +kernel
theorem dX7_still_123 : decode cX7_still 123 = .ok (.i2l, 1) := by decide +kernel
theorem dX7_still_124 : decode cX7_still 124 = .ok (.goto 9, 3) := by decide +kernel
theorem dX7_still_127 : decode cX7_still 127 = .ok (.bipush 10, 2) := by decide +kernel
theorem dX7_still_129 : decode cX7_still 129 = .ok (.iload 5, 2) := by decide +kernel
theorem dX7_still_131 : decode cX7_still 131 = .ok (.idiv, 1) := by decide +kernel
theorem dX7_still_132 : decode cX7_still 132 = .ok (.i2l, 1) := by decide +kernel
theorem dX7_still_133 : decode cX7_still 133 = .ok (.lreturn, 1) := by decide +kernel
theorem dX7_life_0 : decode cX7_life 0 = .ok (.aload_n 0, 1) := by decide +kernel
theorem dX7_life_1 : decode cX7_life 1 = .ok (.getfield 26, 3) := by decide +kernel
theorem dX7_life_4 : decode cX7_life 4 = .ok (.invokevirtual 152, 3) := by decide +kernel
theorem dX7_life_7 : decode cX7_life 7 = .ok (.ifCond .ne 6, 3) := by decide +kernel
theorem dX7_life_10 : decode cX7_life 10 = .ok (.ldc 151, 2) := by decide +kernel
theorem dX7_life_12 : decode cX7_life 12 = .ok (.ireturn, 1) := by decide +kernel
theorem dX7_life_13 : decode cX7_life 13 = .ok (.iconst 0, 1) := by decide +kernel
theorem dX7_life_14 : decode cX7_life 14 = .ok (.istore_n 1, 1) := by decide +kernel
theorem dX7_life_15 : decode cX7_life 15 = .ok (.iconst 0, 1) := by decide +kernel
theorem dX7_life_16 : decode cX7_life 16 = .ok (.istore_n 2, 1) := by decide +kernel
theorem dX7_life_17 : decode cX7_life 17 = .ok (.iload_n 2, 1) := by decide +kernel
theorem dX7_life_18 : decode cX7_life 18 = .ok (.aload_n 0, 1) := by decide +kernel
theorem dX7_life_19 : decode cX7_life 19 = .ok (.getfield 26, 3) := by decide +kernel
theorem dX7_life_22 : decode cX7_life 22 = .ok (.getfield 140, 3) := by decide +kernel
theorem dX7_life_25 : decode cX7_life 25 = .ok (.if_icmp .ge 38, 3) := by decide +kernel
theorem dX7_life_28 : decode cX7_life 28 = .ok (.aload_n 0, 1) := by decide +kernel
theorem dX7_life_29 : decode cX7_life 29 = .ok (.getfield 47, 3) := by decide +kernel
theorem dX7_life_32 : decode cX7_life 32 = .ok (.aload_n 0, 1) := by decide +kernel
theorem dX7_life_33 : decode cX7_life 33 = .ok (.getfield 26, 3) := by decide +kernel
theorem dX7_life_36 : decode cX7_life 36 = .ok (.iload_n 2, 1) := by decide +kernel
theorem dX7_life_37 : decode cX7_life 37 = .ok (.invokevirtual 208, 3) := by decide +kernel
theorem dX7_life_40 : decode cX7_life 40 = .ok (.iload_n 1, 1) := by decide +kernel
theorem dX7_life_41 : decode cX7_life 41 = .ok (.aload_n 0, 1) := by decide +kernel
theorem dX7_life_42 : decode cX7_life 42 = .ok (.getfield 47, 3) := by decide +kernel
theorem dX7_life_45 : decode cX7_life 45 = .ok (.bipush 60, 2) := by decide +kernel
theorem dX7_life_47 : decode cX7_life 47 = .ok (.invokevirtual 218, 3) := by decide +kernel
theorem dX7_life_50 : decode cX7_life 50 = .ok (.bipush 60, 2) := by decide +kernel
theorem dX7_life_52 : decode cX7_life 52 = .ok (.invokestatic 264, 3) := by decide +kernel
theorem dX7_life_55 : decode cX7_life 55 = .ok (.iadd, 1) := by decide +kernel
theorem dX7_life_56 : decode cX7_life 56 = .ok (.istore_n 1, 1) := by decide +kernel
theorem dX7_life_57 : decode cX7_life 57 = .ok (.iinc 2 1, 3) := by decide +kernel
theorem dX7_life_60 : decode cX7_life 60 = .ok (.goto (-43), 3) := by decide +kernel
theorem dX7_life_63 : decode cX7_life 63 = .ok (.iload_n 1, 1) := by decide +kernel
theorem dX7_life_64 : decode cX7_life 64 = .ok (.ireturn, 1) := by decide +kernel
theorem dX7_drawn_0 : decode cX7_drawn 0 = .ok (.aload_n 0, 1) := by decide +kernel
theorem dX7_drawn_1 : decode cX7_drawn 1 = .ok (.getfield 26, 3) := by decide +kernel
theorem dX7_drawn_4 : decode cX7_drawn 4 = .ok (.invokevirtual 152, 3) := by decide +kernel
theorem dX7_drawn_7 : decode cX7_drawn 7 = .ok (.ifCond .ne 6, 3) := by decide +kernel
theorem dX7_drawn_10 : decode cX7_drawn 10 = .ok (.ldc 151, 2) := by decide +kernel
theorem dX7_drawn_12 : decode cX7_drawn 12 = .ok (.ireturn, 1) := by decide +kernel
theorem dX7_drawn_13 : decode cX7_drawn 13 = .ok (.iload_n 1, 1) := by decide +kernel
theorem dX7_drawn_14 : decode cX7_drawn 14 = .ok (.iconst 0, 1) := by decide +kernel
theorem dX7_drawn_15 : decode cX7_drawn 15 = .ok (.bipush 60, 2) := by decide +kernel
theorem dX7_drawn_17 : decode cX7_drawn 17 = .ok (.invokestatic 76, 3) := by decide +kernel
theorem dX7_drawn_20 : decode cX7_drawn 20 = .ok (.ifCond .ne 23, 3) := by decide +kernel
theorem dX7_drawn_23 : decode cX7_drawn 23 = .ok (.iload_n 2, 1) := by decide +kernel
theorem dX7_drawn_24 : decode cX7_drawn 24 = .ok (.iconst 1, 1) := by decide +kernel
theorem dX7_drawn_25 : decode cX7_drawn 25 = .ok (.ldc_w 269, 3) := by decide +kernel
theorem dX7_drawn_28 : decode cX7_drawn 28 = .ok (.invokestatic 76, 3) := by decide +kernel
theorem dX7_drawn_31 : decode cX7_drawn 31 = .ok (.ifCond .ne 12, 3) := by decide +kernel
theorem dX7_drawn_34 : decode cX7_drawn 34 = .ok (.iload_n 3, 1) := by decide +kernel
theorem dX7_drawn_35 : decode cX7_drawn 35 = .ok (.iconst 0, 1) := by decide +kernel
theorem dX7_drawn_36 : decode cX7_drawn 36 = .ok (.iconst 1, 1) := by decide +kernel
theorem dX7_drawn_37 : decode cX7_drawn 37 = .ok (.invokestatic 76, 3) := by decide +kernel
theorem dX7_drawn_40 : decode cX7_drawn 40 = .ok (.ifCond .eq 6, 3) := by decide +kernel
theorem dX7_drawn_43 : decode cX7_drawn 43 = .ok (.ldc 80, 2) := by decide +kernel
theorem dX7_drawn_45 : decode cX7_drawn 45 = .ok (.ireturn, 1) := by decide +kernel
theorem dX7_drawn_46 : decode cX7_drawn 46 = .ok (.aload_n 0, 1) := by decide +kernel
theorem dX7_drawn_47 : decode cX7_drawn 47 = .ok (.getfield 30, 3) := by decide +kernel
theorem dX7_drawn_50 : decode cX7_drawn 50 = .ok (.aload_n 0, 1) := by decide +kernel
theorem dX7_drawn_51 : decode cX7_drawn 51 = .ok (.getfield 26, 3) := by decide +kernel
theorem dX7_drawn_54 : decode cX7_drawn 54 = .ok (.invokevirtual 133, 3) := by decide +kernel
theorem dX7_drawn_57 : decode cX7_drawn 57 = .ok (.iload_n 2, 1) := by decide +kernel
theorem dX7_drawn_58 : decode cX7_drawn 58 = .ok (.i2l, 1) := by decide +kernel
theorem dX7_drawn_59 : decode cX7_drawn 59 = .ok (.lstore 4, 2) := by decide +kernel
theorem dX7_drawn_61 : decode cX7_drawn 61 = .ok (.iconst 0, 1) := by decide +kernel
theorem dX7_drawn_62 : decode cX7_drawn 62 = .ok (.istore 6, 2) := by decide +kernel
theorem dX7_drawn_64 : decode cX7_drawn 64 = .ok (.iconst 0, 1) := by decide +kernel
theorem dX7_drawn_65 : decode cX7_drawn 65 = .ok (.istore 7, 2) := by decide +kernel
theorem dX7_drawn_67 : decode cX7_drawn 67 = .ok (.iload 7, 2) := by decide +kernel
theorem dX7_drawn_69 : decode cX7_drawn 69 = .ok (.iload_n 1, 1) := by decide +kernel
theorem dX7_drawn_70 : decode cX7_drawn 70 = .ok (.if_icmp .ge 57, 3) := by decide +kernel
theorem dX7_drawn_73 : decode cX7_drawn 73 = .ok (.lload 4, 2) := by decide +kernel
theorem dX7_drawn_75 : decode cX7_drawn 75 = .ok (.ldc2_w 270, 3) := by decide +kernel
theorem dX7_drawn_78 : decode cX7_drawn 78 = .ok (.lmul, 1) := by decide +kernel
theorem dX7_drawn_79 : decode cX7_drawn 79 = .ok (.ldc2_w 272, 3) := by decide +kernel
theorem dX7_drawn_82 : decode cX7_drawn 82 = .ok (.lrem, 1) := by decide +kernel
theorem dX7_drawn_83 : decode cX7_drawn 83 = .ok (.lstore 4, 2) := by decide +kernel
theorem dX7_drawn_85 : decode cX7_drawn 85 = .ok (.lload 4, 2) := by decide +kernel
theorem dX7_drawn_87 : decode cX7_drawn 87 = .ok (.ldc2_w 274, 3) := by decide +kernel
theorem dX7_drawn_90 : decode cX7_drawn 90 = .ok (.lrem, 1) := by decide +kernel
theorem dX7_drawn_91 : decode cX7_drawn 91 = .ok (.lconst 0, 1) := by decide +kernel
theorem dX7_drawn_92 : decode cX7_drawn 92 = .ok (.lcmp, 1) := by decide +kernel
theorem dX7_drawn_93 : decode cX7_drawn 93 = .ok (.ifCond .ne 12, 3) := by decide +kernel
theorem dX7_drawn_96 : decode cX7_drawn 96 = .ok (.aload_n 0, 1) := by decide +kernel
theorem dX7_drawn_97 : decode cX7_drawn 97 = .ok (.getfield 30, 3) := by decide +kernel
theorem dX7_drawn_100 : decode cX7_drawn 100 = .ok (.lload 4, 2) := by decide +kernel
theorem dX7_drawn_102 : decode cX7_drawn 102 = .ok (.invokevirtual 276, 3) := by decide +kernel
theorem dX7_drawn_105 : decode cX7_drawn 105 = .ok (.iload 6, 2) := by decide +kernel
theorem dX7_drawn_107 : decode cX7_drawn 107 = .ok (.aload_n 0, 1) := by decide +kernel
theorem dX7_drawn_108 : decode cX7_drawn 108 = .ok (.getfield 30, 3) := by decide +kernel
theorem dX7_drawn_111 : decode cX7_drawn 111 = .ok (.aload_n 0, 1) := by decide +kernel
theorem dX7_drawn_112 : decode cX7_drawn 112 = .ok (.getfield 47, 3) := by decide +kernel
theorem dX7_drawn_115 : decode cX7_drawn 115 = .ok (.invokevirtual 161, 3) := by decide +kernel
theorem dX7_drawn_118 : decode cX7_drawn 118 = .ok (.iadd, 1) := by decide +kernel
theorem dX7_drawn_119 : decode cX7_drawn 119 = .ok (.istore 6, 2) := by decide +kernel
theorem dX7_drawn_121 : decode cX7_drawn 121 = .ok (.iinc 7 1, 3) := by decide +kernel
theorem dX7_drawn_124 : decode cX7_drawn 124 = .ok (.goto (-57), 3) := by decide +kernel
theorem dX7_drawn_127 : decode cX7_drawn 127 = .ok (.iload_n 3, 1) := by decide +kernel
theorem dX7_drawn_128 : decode cX7_drawn 128 = .ok (.ifCond .ne 13, 3) := by decide +kernel
theorem dX7_drawn_131 : decode cX7_drawn 131 = .ok (.aload_n 0, 1) := by decide +kernel
theorem dX7_drawn_132 : decode cX7_drawn 132 = .ok (.getfield 30, 3) := by decide +kernel
theorem dX7_drawn_135 : decode cX7_drawn 135 = .ok (.getfield 280, 3) := by decide +kernel
theorem dX7_drawn_138 : decode cX7_drawn 138 = .ok (.goto 5, 3) := by decide +kernel
theorem dX7_drawn_141 : decode cX7_drawn 141 = .ok (.iload 6, 2) := by decide +kernel
theorem dX7_drawn_143 : decode cX7_drawn 143 = .ok (.ireturn, 1) := by decide +kernel
theorem dX7_image_0 : decode cX7_image 0 = .ok (.iload_n 1, 1) := by decide +kernel
theorem dX7_image_1 : decode cX7_image 1 = .ok (.iconst 0, 1) := by decide +kernel
theorem dX7_image_2 : decode cX7_image 2 = .ok (.iconst 1, 1) := by decide +kernel
theorem dX7_image_3 : decode cX7_image 3 = .ok (.invokestatic 76, 3) := by decide +kernel
theorem dX7_image_6 : decode cX7_image 6 = .ok (.ifCond .eq 6, 3) := by decide +kernel
theorem dX7_image_9 : decode cX7_image 9 = .ok (.ldc 80, 2) := by decide +kernel
theorem dX7_image_11 : decode cX7_image 11 = .ok (.ireturn, 1) := by decide +kernel
theorem dX7_image_12 : decode cX7_image 12 = .ok (.aload_n 0, 1) := by decide +kernel
theorem dX7_image_13 : decode cX7_image 13 = .ok (.getfield 26, 3) := by decide +kernel
theorem dX7_image_16 : decode cX7_image 16 = .ok (.invokevirtual 152, 3) := by decide +kernel
theorem dX7_image_19 : decode cX7_image 19 = .ok (.ifCond .ne 6, 3) := by decide +kernel
theorem dX7_image_22 : decode cX7_image 22 = .ok (.ldc 151, 2) := by decide +kernel
theorem dX7_image_24 : decode cX7_image 24 = .ok (.ireturn, 1) := by decide +kernel
theorem dX7_image_25 : decode cX7_image 25 = .ok (.aload_n 0, 1) := by decide +kernel
theorem dX7_image_26 : decode cX7_image 26 = .ok (.getfield 33, 3) := by decide +kernel
theorem dX7_image_29 : decode cX7_image 29 = .ok (.iload_n 1, 1) := by decide +kernel
theorem dX7_image_30 : decode cX7_image 30 = .ok (.aaload, 1) := by decide +kernel
theorem dX7_image_31 : decode cX7_image 31 = .ok (.aload_n 0, 1) := by decide +kernel
theorem dX7_image_32 : decode cX7_image 32 = .ok (.getfield 26, 3) := by decide +kernel
theorem dX7_image_35 : decode cX7_image 35 = .ok (.invokevirtual 133, 3) := by decide +kernel
theorem dX7_image_38 : decode cX7_image 38 = .ok (.iconst 1, 1) := by decide +kernel
theorem dX7_image_39 : decode cX7_image 39 = .ok (.ireturn, 1) := by decide +kernel
theorem dX7_restore_0 : decode cX7_restore 0 = .ok (.iload_n 1, 1) := by decide +kernel
theorem dX7_restore_1 : decode cX7_restore 1 = .ok (.iconst 0, 1) := by decide +kernel
theorem dX7_restore_2 : decode cX7_restore 2 = .ok (.iconst 1, 1) := by decide +kernel
theorem dX7_restore_3 : decode cX7_restore 3 = .ok (.invokestatic 76, 3) := by decide +kernel
theorem dX7_restore_6 : decode cX7_restore 6 = .ok (.ifCond .eq 6, 3) := by decide +kernel
theorem dX7_restore_9 : decode cX7_restore 9 = .ok (.ldc 80, 2) := by decide +kernel
theorem dX7_restore_11 : decode cX7_restore 11 = .ok (.ireturn, 1) := by decide +kernel
theorem dX7_restore_12 : decode cX7_restore 12 = .ok (.aload_n 0, 1) := by decide +kernel
theorem dX7_restore_13 : decode cX7_restore 13 = .ok (.getfield 33, 3) := by decide +kernel
theorem dX7_restore_16 : decode cX7_restore 16 = .ok (.iload_n 1, 1) := by decide +kernel
theorem dX7_restore_17 : decode cX7_restore 17 = .ok (.aaload, 1) := by decide +kernel
theorem dX7_restore_18 : decode cX7_restore 18 = .ok (.invokevirtual 152, 3) := by decide +kernel
theorem dX7_restore_21 : decode cX7_restore 21 = .ok (.ifCond .ne 6, 3) := by decide +kernel
theorem dX7_restore_24 : decode cX7_restore 24 = .ok (.ldc 151, 2) := by decide +kernel
theorem dX7_restore_26 : decode cX7_restore 26 = .ok (.ireturn, 1) := by decide +kernel
theorem dX7_restore_27 : decode cX7_restore 27 = .ok (.aload_n 0, 1) := by decide +kernel
theorem dX7_restore_28 : decode cX7_restore 28 = .ok (.getfield 26, 3) := by decide +kernel
theorem dX7_restore_31 : decode cX7_restore 31 = .ok (.aload_n 0, 1) := by decide +kernel
theorem dX7_restore_32 : decode cX7_restore 32 = .ok (.getfield 33, 3) := by decide +kernel
theorem dX7_restore_35 : decode cX7_restore 35 = .ok (.iload_n 1, 1) := by decide +kernel
theorem dX7_restore_36 : decode cX7_restore 36 = .ok (.aaload, 1) := by decide +kernel
theorem dX7_restore_37 : decode cX7_restore 37 = .ok (.invokevirtual 133, 3) := by decide +kernel
theorem dX7_restore_40 : decode cX7_restore 40 = .ok (.aload_n 0, 1) := by decide +kernel
theorem dX7_restore_41 : decode cX7_restore 41 = .ok (.getfield 40, 3) := by decide +kernel
theorem dX7_restore_44 : decode cX7_restore 44 = .ok (.invokevirtual 137, 3) := by decide +kernel
theorem dX7_restore_47 : decode cX7_restore 47 = .ok (.iconst 1, 1) := by decide +kernel
theorem dX7_restore_48 : decode cX7_restore 48 = .ok (.ireturn, 1) := by decide +kernel
theorem dX7_kind_0 : decode cX7_kind 0 = .ok (.aload_n 0, 1) := by decide +kernel
theorem dX7_kind_1 : decode cX7_kind 1 = .ok (.iload_n 1, 1) := by decide +kernel
theorem dX7_kind_2 : decode cX7_kind 2 = .ok (.invokevirtual 181, 3) := by decide +kernel
theorem dX7_kind_5 : decode cX7_kind 5 = .ok (.ifCond .eq 15, 3) := by decide +kernel
theorem dX7_kind_8 : decode cX7_kind 8 = .ok (.aload_n 0, 1) := by decide +kernel
theorem dX7_kind_9 : decode cX7_kind 9 = .ok (.getfield 26, 3) := by decide +kernel
theorem dX7_kind_12 : decode cX7_kind 12 = .ok (.getfield 283, 3) := by decide +kernel
theorem dX7_kind_15 : decode cX7_kind 15 = .ok (.iload_n 1, 1) := by decide +kernel
theorem dX7_kind_16 : decode cX7_kind 16 = .ok (.iaload, 1) := by decide +kernel
theorem dX7_kind_17 : decode cX7_kind 17 = .ok (.goto 5, 3) := by decide +kernel
theorem dX7_kind_20 : decode cX7_kind 20 = .ok (.ldc 80, 2) := by decide +kernel
theorem dX7_kind_22 : decode cX7_kind 22 = .ok (.ireturn, 1) := by decide +kernel
theorem dX7_as_0 : decode cX7_as 0 = .ok (.aload_n 0, 1) := by decide +kernel
theorem dX7_as_1 : decode cX7_as 1 = .ok (.iload_n 1, 1) := by decide +kernel
theorem dX7_as_2 : decode cX7_as 2 = .ok (.invokevirtual 181, 3) := by decide +kernel
theorem dX7_as_5 : decode cX7_as 5 = .ok (.ifCond .eq 12, 3) := by decide +kernel
theorem dX7_as_8 : decode cX7_as 8 = .ok (.iload_n 2, 1) := by decide +kernel
theorem dX7_as_9 : decode cX7_as 9 = .ok (.iconst 0, 1) := by decide +kernel
theorem dX7_as_10 : decode cX7_as 10 = .ok (.iconst 5, 1) := by decide +kernel
theorem dX7_as_11 : decode cX7_as 11 = .ok (.invokestatic 76, 3) := by decide +kernel
theorem dX7_as_14 : decode cX7_as 14 = .ok (.ifCond .eq 6, 3) := by decide +kernel
theorem dX7_as_17 : decode cX7_as 17 = .ok (.ldc 80, 2) := by decide +kernel
theorem dX7_as_19 : decode cX7_as 19 = .ok (.ireturn, 1) := by decide +kernel
theorem dX7_as_20 : decode cX7_as 20 = .ok (.aload_n 0, 1) := by decide +kernel
theorem dX7_as_21 : decode cX7_as 21 = .ok (.getfield 26, 3) := by decide +kernel
theorem dX7_as_24 : decode cX7_as 24 = .ok (.getfield 283, 3) := by decide +kernel
theorem dX7_as_27 : decode cX7_as 27 = .ok (.iload_n 1, 1) := by decide +kernel
theorem dX7_as_28 : decode cX7_as 28 = .ok (.iaload, 1) := by decide +kernel
theorem dX7_as_29 : decode cX7_as 29 = .ok (.iload_n 2, 1) := by decide +kernel
theorem dX7_as_30 : decode cX7_as 30 = .ok (.invokestatic 286, 3) := by decide +kernel
theorem dX7_as_33 : decode cX7_as 33 = .ok (.ifCond .eq 11, 3) := by decide +kernel
theorem dX7_as_36 : decode cX7_as 36 = .ok (.aload_n 0, 1) := by decide +kernel
theorem dX7_as_37 : decode cX7_as 37 = .ok (.iload_n 1, 1) := by decide +kernel
theorem dX7_as_38 : decode cX7_as 38 = .ok (.invokevirtual 89, 3) := by decide +kernel
theorem dX7_as_41 : decode cX7_as 41 = .ok (.goto 8, 3) := by decide +kernel
theorem dX7_as_44 : decode cX7_as 44 = .ok (.aload_n 0, 1) := by decide +kernel
theorem dX7_as_45 : decode cX7_as 45 = .ok (.iconst 3, 1) := by decide +kernel
theorem dX7_as_46 : decode cX7_as 46 = .ok (.invokevirtual 81, 3) := by decide +kernel
theorem dX7_as_49 : decode cX7_as 49 = .ok (.ireturn, 1) := by decide +kernel
theorem dX7_ask_0 : decode cX7_ask 0 = .ok (.aload_n 0, 1) := by decide +kernel
theorem dX7_ask_1 : decode cX7_ask 1 = .ok (.iload_n 1, 1) := by decide +kernel
theorem dX7_ask_2 : decode cX7_ask 2 = .ok (.invokevirtual 181, 3) := by decide +kernel
theorem dX7_ask_5 : decode cX7_ask 5 = .ok (.ifCond .eq 12, 3) := by decide +kernel
theorem dX7_ask_8 : decode cX7_ask 8 = .ok (.iload_n 2, 1) := by decide +kernel
theorem dX7_ask_9 : decode cX7_ask 9 = .ok (.iconst 0, 1) := by decide +kernel
theorem dX7_ask_10 : decode cX7_ask 10 = .ok (.iconst 1, 1) := by decide +kernel
theorem dX7_ask_11 : decode cX7_ask 11 = .ok (.invokestatic 76, 3) := by decide +kernel
theorem dX7_ask_14 : decode cX7_ask 14 = .ok (.ifCond .eq 6, 3) := by decide +kernel
theorem dX7_ask_17 : decode cX7_ask 17 = .ok (.ldc 80, 2) := by decide +kernel
theorem dX7_ask_19 : decode cX7_ask 19 = .ok (.ireturn, 1) := by decide +kernel
theorem dX7_ask_20 : decode cX7_ask 20 = .ok (.aload_n 0, 1) := by decide +kernel
theorem dX7_ask_21 : decode cX7_ask 21 = .ok (.getfield 64, 3) := by decide +kernel
theorem dX7_ask_24 : decode cX7_ask 24 = .ok (.aload_n 0, 1) := by decide +kernel
theorem dX7_ask_25 : decode cX7_ask 25 = .ok (.getfield 26, 3) := by decide +kernel
theorem dX7_ask_28 : decode cX7_ask 28 = .ok (.iload_n 1, 1) := by decide +kernel
theorem dX7_ask_29 : decode cX7_ask 29 = .ok (.invokevirtual 289, 3) := by decide +kernel
theorem dX7_ask_32 : decode cX7_ask 32 = .ok (.iload_n 2, 1) := by decide +kernel
theorem dX7_ask_33 : decode cX7_ask 33 = .ok (.ifCond .ne 13, 3) := by decide +kernel
theorem dX7_ask_36 : decode cX7_ask 36 = .ok (.aload_n 0, 1) := by decide +kernel
theorem dX7_ask_37 : decode cX7_ask 37 = .ok (.getfield 64, 3) := by decide +kernel
theorem dX7_ask_40 : decode cX7_ask 40 = .ok (.invokevirtual 290, 3) := by decide +kernel
theorem dX7_ask_43 : decode cX7_ask 43 = .ok (.goto 10, 3) := by decide +kernel
theorem dX7_ask_46 : decode cX7_ask 46 = .ok (.aload_n 0, 1) := by decide +kernel
theorem dX7_ask_47 : decode cX7_ask 47 = .ok (.getfield 64, 3) := by decide +kernel
theorem dX7_ask_50 : decode cX7_ask 50 = .ok (.invokevirtual 293, 3) := by decide +kernel
theorem dX7_ask_53 : decode cX7_ask 53 = .ok (.ireturn, 1) := by decide +kernel
theorem dX7_trace_0 : decode cX7_trace 0 = .ok (.iload_n 1, 1) := by decide +kernel
theorem dX7_trace_1 : decode cX7_trace 1 = .ok (.iconst 0, 1) := by decide +kernel
theorem dX7_trace_2 : decode cX7_trace 2 = .ok (.aload_n 0, 1) := by decide +kernel
theorem dX7_trace_3 : decode cX7_trace 3 = .ok (.getfield 64, 3) := by decide +kernel
theorem dX7_trace_6 : decode cX7_trace 6 = .ok (.getfield 296, 3) := by decide +kernel
theorem dX7_trace_9 : decode cX7_trace 9 = .ok (.iconst 1, 1) := by decide +kernel
theorem dX7_trace_10 : decode cX7_trace 10 = .ok (.isub, 1) := by decide +kernel
theorem dX7_trace_11 : decode cX7_trace 11 = .ok (.invokestatic 76, 3) := by decide +kernel
theorem dX7_trace_14 : decode cX7_trace 14 = .ok (.ifCond .eq 8, 3) := by decide +kernel
theorem dX7_trace_17 : decode cX7_trace 17 = .ok (.ldc 217, 2) := by decide +kernel
theorem dX7_trace_19 : decode cX7_trace 19 = .ok (.goto 12, 3) := by decide +kernel
theorem dX7_trace_22 : decode cX7_trace 22 = .ok (.aload_n 0, 1) := by decide +kernel
theorem dX7_trace_23 : decode cX7_trace 23 = .ok (.getfield 64, 3) := by decide +kernel
theorem dX7_trace_26 : decode cX7_trace 26 = .ok (.getfield 299, 3) := by decide +kernel
theorem dX7_trace_29 : decode cX7_trace 29 = .ok (.iload_n 1, 1) := by decide +kernel
theorem dX7_trace_30 : decode cX7_trace 30 = .ok (.iaload, 1) := by decide +kernel
theorem dX7_trace_31 : decode cX7_trace 31 = .ok (.ireturn, 1) := by decide +kernel
theorem dX7_count_0 : decode cX7_count 0 = .ok (.iload_n 1, 1) := by decide +kernel
theorem dX7_count_1 : decode cX7_count 1 = .ok (.tableswitch 111 0 7 #[47, 55, 63, 71, 79, 87, 95, 103], 47) := by decide +kernel
theorem dX7_count_48 : decode cX7_count 48 = .ok (.aload_n 0, 1) := by decide +kernel
theorem dX7_count_49 : decode cX7_count 49 = .ok (.getfield 12, 3) := by decide +kernel
theorem dX7_count_52 : decode cX7_count 52 = .ok (.invokevirtual 302, 3) := by decide +kernel
theorem dX7_count_55 : decode cX7_count 55 = .ok (.ireturn, 1) := by decide +kernel
theorem dX7_count_56 : decode cX7_count 56 = .ok (.aload_n 0, 1) := by decide +kernel
theorem dX7_count_57 : decode cX7_count 57 = .ok (.getfield 26, 3) := by decide +kernel
theorem dX7_count_60 : decode cX7_count 60 = .ok (.getfield 235, 3) := by decide +kernel
theorem dX7_count_63 : decode cX7_count 63 = .ok (.ireturn, 1) := by decide +kernel
theorem dX7_count_64 : decode cX7_count 64 = .ok (.aload_n 0, 1) := by decide +kernel
theorem dX7_count_65 : decode cX7_count 65 = .ok (.getfield 26, 3) := by decide +kernel
theorem dX7_count_68 : decode cX7_count 68 = .ok (.getfield 140, 3) := by decide +kernel
theorem dX7_count_71 : decode cX7_count 71 = .ok (.ireturn, 1) := by decide +kernel
theorem dX7_count_72 : decode cX7_count 72 = .ok (.aload_n 0, 1) := by decide +kernel
theorem dX7_count_73 : decode cX7_count 73 = .ok (.getfield 26, 3) := by decide +kernel
theorem dX7_count_76 : decode cX7_count 76 = .ok (.getfield 155, 3) := by decide +kernel
theorem dX7_count_79 : decode cX7_count 79 = .ok (.ireturn, 1) := by decide +kernel
theorem dX7_count_80 : decode cX7_count 80 = .ok (.aload_n 0, 1) := by decide +kernel
theorem dX7_count_81 : decode cX7_count 81 = .ok (.getfield 26, 3) := by decide +kernel
theorem dX7_count_84 : decode cX7_count 84 = .ok (.getfield 280, 3) := by decide +kernel
theorem dX7_count_87 : decode cX7_count 87 = .ok (.ireturn, 1) := by decide +kernel
theorem dX7_count_88 : decode cX7_count 88 = .ok (.aload_n 0, 1) := by decide +kernel
theorem dX7_count_89 : decode cX7_count 89 = .ok (.getfield 26, 3) := by decide +kernel
theorem dX7_count_92 : decode cX7_count 92 = .ok (.getfield 241, 3) := by decide +kernel
theorem dX7_count_95 : decode cX7_count 95 = .ok (.ireturn, 1) := by decide +kernel
theorem dX7_count_96 : decode cX7_count 96 = .ok (.aload_n 0, 1) := by decide +kernel
theorem dX7_count_97 : decode cX7_count 97 = .ok (.getfield 40, 3) := by decide +kernel
theorem dX7_count_100 : decode cX7_count 100 = .ok (.getfield 150, 3) := by decide +kernel
theorem dX7_count_103 : decode cX7_count 103 = .ok (.ireturn, 1) := by decide +kernel
theorem dX7_count_104 : decode cX7_count 104 = .ok (.aload_n 0, 1) := by decide +kernel
theorem dX7_count_105 : decode cX7_count 105 = .ok (.getfield 19, 3) := by decide +kernel
theorem dX7_count_108 : decode cX7_count 108 = .ok (.getfield 118, 3) := by decide +kernel
theorem dX7_count_111 : decode cX7_count 111 = .ok (.ireturn, 1) := by decide +kernel
theorem dX7_count_112 : decode cX7_count 112 = .ok (.ldc 80, 2) := by decide +kernel
theorem dX7_count_114 : decode cX7_count 114 = .ok (.ireturn, 1) := by decide +kernel
theorem dX7_status_0 : decode cX7_status 0 = .ok (.aload_n 0, 1) := by decide +kernel
theorem dX7_status_1 : decode cX7_status 1 = .ok (.getfield 68, 3) := by decide +kernel
theorem dX7_status_4 : decode cX7_status 4 = .ok (.ireturn, 1) := by decide +kernel
theorem dX7_isOutside_0 : decode cX7_isOutside 0 = .ok (.iload_n 0, 1) := by decide +kernel
theorem dX7_isOutside_1 : decode cX7_isOutside 1 = .ok (.iload_n 1, 1) := by decide +kernel
theorem dX7_isOutside_2 : decode cX7_isOutside 2 = .ok (.if_icmp .lt 8, 3) := by decide +kernel
theorem dX7_isOutside_5 : decode cX7_isOutside 5 = .ok (.iload_n 0, 1) := by decide +kernel
theorem dX7_isOutside_6 : decode cX7_isOutside 6 = .ok (.iload_n 2, 1) := by decide +kernel
theorem dX7_isOutside_7 : decode cX7_isOutside 7 = .ok (.if_icmp .le 7, 3) := by decide +kernel
theorem dX7_isOutside_10 : decode cX7_isOutside 10 = .ok (.iconst 1, 1) := by decide +kernel
theorem dX7_isOutside_11 : decode cX7_isOutside 11 = .ok (.goto 4, 3) := by decide +kernel
theorem dX7_isOutside_14 : decode cX7_isOutside 14 = .ok (.iconst 0, 1) := by decide +kernel
theorem dX7_isOutside_15 : decode cX7_isOutside 15 = .ok (.ireturn, 1) := by decide +kernel
theorem dX7_wrap_0 : decode cX7_wrap 0 = .ok (.iload_n 1, 1) := by decide +kernel
theorem dX7_wrap_1 : decode cX7_wrap 1 = .ok (.iconst 1, 1) := by decide +kernel
theorem dX7_wrap_2 : decode cX7_wrap 2 = .ok (.if_icmp .ge 7, 3) := by decide +kernel
theorem dX7_wrap_5 : decode cX7_wrap 5 = .ok (.iconst 0, 1) := by decide +kernel
theorem dX7_wrap_6 : decode cX7_wrap 6 = .ok (.goto 6, 3) := by decide +kernel
theorem dX7_wrap_9 : decode cX7_wrap 9 = .ok (.iload_n 0, 1) := by decide +kernel
theorem dX7_wrap_10 : decode cX7_wrap 10 = .ok (.iload_n 1, 1) := by decide +kernel
theorem dX7_wrap_11 : decode cX7_wrap 11 = .ok (.irem, 1) := by decide +kernel
theorem dX7_wrap_12 : decode cX7_wrap 12 = .ok (.ireturn, 1) := by decide +kernel
theorem dX7_orNone_0 : decode cX7_orNone 0 = .ok (.iload_n 0, 1) := by decide +kernel
theorem dX7_orNone_1 : decode cX7_orNone 1 = .ok (.bipush 61, 2) := by decide +kernel
theorem dX7_orNone_3 : decode cX7_orNone 3 = .ok (.if_icmp .lt 8, 3) := by decide +kernel
theorem dX7_orNone_6 : decode cX7_orNone 6 = .ok (.ldc 217, 2) := by decide +kernel
theorem dX7_orNone_8 : decode cX7_orNone 8 = .ok (.goto 4, 3) := by decide +kernel
theorem dX7_orNone_11 : decode cX7_orNone 11 = .ok (.iload_n 0, 1) := by decide +kernel
theorem dX7_orNone_12 : decode cX7_orNone 12 = .ok (.ireturn, 1) := by decide +kernel
theorem dX7_sharedPart_0 : decode cX7_sharedPart 0 = .ok (.iload_n 0, 1) := by decide +kernel
theorem dX7_sharedPart_1 : decode cX7_sharedPart 1 = .ok (.iload_n 1, 1) := by decide +kernel
theorem dX7_sharedPart_2 : decode cX7_sharedPart 2 = .ok (.invokestatic 305, 3) := by decide +kernel
theorem dX7_sharedPart_5 : decode cX7_sharedPart 5 = .ok (.istore_n 2, 1) := by decide +kernel
theorem dX7_sharedPart_6 : decode cX7_sharedPart 6 = .ok (.iload_n 2, 1) := by decide +kernel
theorem dX7_sharedPart_7 : decode cX7_sharedPart 7 = .ok (.iconst 1, 1) := by decide +kernel
theorem dX7_sharedPart_8 : decode cX7_sharedPart 8 = .ok (.if_icmp .le 23, 3) := by decide +kernel
theorem dX7_sharedPart_11 : decode cX7_sharedPart 11 = .ok (.iload_n 0, 1) := by decide +kernel
theorem dX7_sharedPart_12 : decode cX7_sharedPart 12 = .ok (.iload_n 2, 1) := by decide +kernel
theorem dX7_sharedPart_13 : decode cX7_sharedPart 13 = .ok (.irem, 1) := by decide +kernel
theorem dX7_sharedPart_14 : decode cX7_sharedPart 14 = .ok (.ifCond .ne 11, 3) := by decide +kernel
theorem dX7_sharedPart_17 : decode cX7_sharedPart 17 = .ok (.iload_n 1, 1) := by decide +kernel
theorem dX7_sharedPart_18 : decode cX7_sharedPart 18 = .ok (.iload_n 2, 1) := by decide +kernel
theorem dX7_sharedPart_19 : decode cX7_sharedPart 19 = .ok (.irem, 1) := by decide +kernel
theorem dX7_sharedPart_20 : decode cX7_sharedPart 20 = .ok (.ifCond .ne 5, 3) := by decide +kernel
theorem dX7_sharedPart_23 : decode cX7_sharedPart 23 = .ok (.iload_n 2, 1) := by decide +kernel
theorem dX7_sharedPart_24 : decode cX7_sharedPart 24 = .ok (.ireturn, 1) := by decide +kernel
theorem dX7_sharedPart_25 : decode cX7_sharedPart 25 = .ok (.iinc 2 (-1), 3) := by decide +kernel
theorem dX7_sharedPart_28 : decode cX7_sharedPart 28 = .ok (.goto (-22), 3) := by decide +kernel
theorem dX7_sharedPart_31 : decode cX7_sharedPart 31 = .ok (.iconst 1, 1) := by decide +kernel
theorem dX7_sharedPart_32 : decode cX7_sharedPart 32 = .ok (.ireturn, 1) := by decide +kernel
theorem dX7_isOfKind_0 : decode cX7_isOfKind 0 = .ok (.iload_n 1, 1) := by decide +kernel
theorem dX7_isOfKind_1 : decode cX7_isOfKind 1 = .ok (.ifCond .eq 33, 3) := by decide +kernel
theorem dX7_isOfKind_4 : decode cX7_isOfKind 4 = .ok (.iload_n 1, 1) := by decide +kernel
theorem dX7_isOfKind_5 : decode cX7_isOfKind 5 = .ok (.iload_n 0, 1) := by decide +kernel
theorem dX7_isOfKind_6 : decode cX7_isOfKind 6 = .ok (.if_icmp .eq 28, 3) := by decide +kernel
theorem dX7_isOfKind_9 : decode cX7_isOfKind 9 = .ok (.iload_n 1, 1) := by decide +kernel
theorem dX7_isOfKind_10 : decode cX7_isOfKind 10 = .ok (.iconst 1, 1) := by decide +kernel
theorem dX7_isOfKind_11 : decode cX7_isOfKind 11 = .ok (.if_icmp .ne 13, 3) := by decide +kernel
theorem dX7_isOfKind_14 : decode cX7_isOfKind 14 = .ok (.iload_n 0, 1) := by decide +kernel
theorem dX7_isOfKind_15 : decode cX7_isOfKind 15 = .ok (.iconst 2, 1) := by decide +kernel
theorem dX7_isOfKind_16 : decode cX7_isOfKind 16 = .ok (.if_icmp .eq 18, 3) := by decide +kernel
theorem dX7_isOfKind_19 : decode cX7_isOfKind 19 = .ok (.iload_n 0, 1) := by decide +kernel
theorem dX7_isOfKind_20 : decode cX7_isOfKind 20 = .ok (.iconst 3, 1) := by decide +kernel
theorem dX7_isOfKind_21 : decode cX7_isOfKind 21 = .ok (.if_icmp .eq 13, 3) := by decide +kernel
theorem dX7_isOfKind_24 : decode cX7_isOfKind 24 = .ok (.iload_n 1, 1) := by decide +kernel
theorem dX7_isOfKind_25 : decode cX7_isOfKind 25 = .ok (.iconst 4, 1) := by decide +kernel
theorem dX7_isOfKind_26 : decode cX7_isOfKind 26 = .ok (.if_icmp .ne 12, 3) := by decide +kernel
theorem dX7_isOfKind_29 : decode cX7_isOfKind 29 = .ok (.iload_n 0, 1) := by decide +kernel
theorem dX7_isOfKind_30 : decode cX7_isOfKind 30 = .ok (.iconst 5, 1) := by decide +kernel
theorem dX7_isOfKind_31 : decode cX7_isOfKind 31 = .ok (.if_icmp .ne 7, 3) := by decide +kernel
theorem dX7_isOfKind_34 : decode cX7_isOfKind 34 = .ok (.iconst 1, 1) := by decide +kernel
theorem dX7_isOfKind_35 : decode cX7_isOfKind 35 = .ok (.goto 4, 3) := by decide +kernel
theorem dX7_isOfKind_38 : decode cX7_isOfKind 38 = .ok (.iconst 0, 1) := by decide +kernel
theorem dX7_isOfKind_39 : decode cX7_isOfKind 39 = .ok (.ireturn, 1) := by decide +kernel
theorem dX7_isRow_0 : decode cX7_isRow 0 = .ok (.iload_n 0, 1) := by decide +kernel
theorem dX7_isRow_1 : decode cX7_isRow 1 = .ok (.iconst 0, 1) := by decide +kernel
theorem dX7_isRow_2 : decode cX7_isRow 2 = .ok (.bipush 7, 2) := by decide +kernel
theorem dX7_isRow_4 : decode cX7_isRow 4 = .ok (.invokestatic 76, 3) := by decide +kernel
theorem dX7_isRow_7 : decode cX7_isRow 7 = .ok (.ifCond .ne 7, 3) := by decide +kernel
theorem dX7_isRow_10 : decode cX7_isRow 10 = .ok (.iconst 1, 1) := by decide +kernel
theorem dX7_isRow_11 : decode cX7_isRow 11 = .ok (.goto 4, 3) := by decide +kernel
theorem dX7_isRow_14 : decode cX7_isRow 14 = .ok (.iconst 0, 1) := by decide +kernel
theorem dX7_isRow_15 : decode cX7_isRow 15 = .ok (.ireturn, 1) := by decide +kernel
theorem dX7_isPerson_0 : decode cX7_isPerson 0 = .ok (.iload_n 1, 1) := by decide +kernel
theorem dX7_isPerson_1 : decode cX7_isPerson 1 = .ok (.iconst 0, 1) := by decide +kernel
theorem dX7_isPerson_2 : decode cX7_isPerson 2 = .ok (.aload_n 0, 1) := by decide +kernel
theorem dX7_isPerson_3 : decode cX7_isPerson 3 = .ok (.getfield 26, 3) := by decide +kernel
theorem dX7_isPerson_6 : decode cX7_isPerson 6 = .ok (.getfield 140, 3) := by decide +kernel
theorem dX7_isPerson_9 : decode cX7_isPerson 9 = .ok (.iconst 1, 1) := by decide +kernel
theorem dX7_isPerson_10 : decode cX7_isPerson 10 = .ok (.isub, 1) := by decide +kernel
theorem dX7_isPerson_11 : decode cX7_isPerson 11 = .ok (.invokestatic 76, 3) := by decide +kernel
theorem dX7_isPerson_14 : decode cX7_isPerson 14 = .ok (.ifCond .ne 7, 3) := by decide +kernel
theorem dX7_isPerson_17 : decode cX7_isPerson 17 = .ok (.iconst 1, 1) := by decide +kernel
theorem dX7_isPerson_18 : decode cX7_isPerson 18 = .ok (.goto 4, 3) := by decide +kernel
theorem dX7_isPerson_21 : decode cX7_isPerson 21 = .ok (.iconst 0, 1) := by decide +kernel
theorem dX7_isPerson_22 : decode cX7_isPerson 22 = .ok (.ireturn, 1) := by decide +kernel
theorem dX7_isThing_0 : decode cX7_isThing 0 = .ok (.iload_n 1, 1) := by decide +kernel
theorem dX7_isThing_1 : decode cX7_isThing 1 = .ok (.iconst 0, 1) := by decide +kernel
theorem dX7_isThing_2 : decode cX7_isThing 2 = .ok (.aload_n 0, 1) := by decide +kernel
theorem dX7_isThing_3 : decode cX7_isThing 3 = .ok (.getfield 26, 3) := by decide +kernel
theorem dX7_isThing_6 : decode cX7_isThing 6 = .ok (.getfield 235, 3) := by decide +kernel
theorem dX7_isThing_9 : decode cX7_isThing 9 = .ok (.iconst 1, 1) := by decide +kernel
theorem dX7_isThing_10 : decode cX7_isThing 10 = .ok (.isub, 1) := by decide +kernel
theorem dX7_isThing_11 : decode cX7_isThing 11 = .ok (.invokestatic 76, 3) := by decide +kernel
theorem dX7_isThing_14 : decode cX7_isThing 14 = .ok (.ifCond .ne 7, 3) := by decide +kernel
theorem dX7_isThing_17 : decode cX7_isThing 17 = .ok (.iconst 1, 1) := by decide +kernel
theorem dX7_isThing_18 : decode cX7_isThing 18 = .ok (.goto 4, 3) := by decide +kernel
theorem dX7_isThing_21 : decode cX7_isThing 21 = .ok (.iconst 0, 1) := by decide +kernel
theorem dX7_isThing_22 : decode cX7_isThing 22 = .ok (.ireturn, 1) := by decide +kernel
theorem dX7_isPlace_0 : decode cX7_isPlace 0 = .ok (.iload_n 1, 1) := by decide +kernel
theorem dX7_isPlace_1 : decode cX7_isPlace 1 = .ok (.iconst 0, 1) := by decide +kernel
theorem dX7_isPlace_2 : decode cX7_isPlace 2 = .ok (.aload_n 0, 1) := by decide +kernel
theorem dX7_isPlace_3 : decode cX7_isPlace 3 = .ok (.getfield 26, 3) := by decide +kernel
theorem dX7_isPlace_6 : decode cX7_isPlace 6 = .ok (.getfield 241, 3) := by decide +kernel
theorem dX7_isPlace_9 : decode cX7_isPlace 9 = .ok (.iconst 1, 1) := by decide +kernel
theorem dX7_isPlace_10 : decode cX7_isPlace 10 = .ok (.isub, 1) := by decide +kernel
theorem dX7_isPlace_11 : decode cX7_isPlace 11 = .ok (.invokestatic 76, 3) := by decide +kernel
theorem dX7_isPlace_14 : decode cX7_isPlace 14 = .ok (.ifCond .ne 7, 3) := by decide +kernel
theorem dX7_isPlace_17 : decode cX7_isPlace 17 = .ok (.iconst 1, 1) := by decide +kernel
theorem dX7_isPlace_18 : decode cX7_isPlace 18 = .ok (.goto 4, 3) := by decide +kernel
theorem dX7_isPlace_21 : decode cX7_isPlace 21 = .ok (.iconst 0, 1) := by decide +kernel
theorem dX7_isPlace_22 : decode cX7_isPlace 22 = .ok (.ireturn, 1) := by decide +kernel
theorem dX7_allThatFit_0 : decode cX7_allThatFit 0 = .ok (.aload_n 0, 1) := by decide +kernel
theorem dX7_allThatFit_1 : decode cX7_allThatFit 1 = .ok (.iload_n 2, 1) := by decide +kernel
theorem dX7_allThatFit_2 : decode cX7_allThatFit 2 = .ok (.invokevirtual 181, 3) := by decide +kernel
theorem dX7_allThatFit_5 : decode cX7_allThatFit 5 = .ok (.ifCond .eq 21, 3) := by decide +kernel
theorem dX7_allThatFit_8 : decode cX7_allThatFit 8 = .ok (.iload_n 3, 1) := by decide +kernel
theorem dX7_allThatFit_9 : decode cX7_allThatFit 9 = .ok (.invokestatic 72, 3) := by decide +kernel
theorem dX7_allThatFit_12 : decode cX7_allThatFit 12 = .ok (.ifCond .eq 14, 3) := by decide +kernel
theorem dX7_allThatFit_15 : decode cX7_allThatFit 15 = .ok (.iload 5, 2) := by decide +kernel
theorem dX7_allThatFit_17 : decode cX7_allThatFit 17 = .ok (.iconst 1, 1) := by decide +kernel
theorem dX7_allThatFit_18 : decode cX7_allThatFit 18 = .ok (.bipush 12, 2) := by decide +kernel
theorem dX7_allThatFit_20 : decode cX7_allThatFit 20 = .ok (.invokestatic 76, 3) := by decide +kernel
theorem dX7_allThatFit_23 : decode cX7_allThatFit 23 = .ok (.ifCond .eq 6, 3) := by decide +kernel
theorem dX7_allThatFit_26 : decode cX7_allThatFit 26 = .ok (.ldc 80, 2) := by decide +kernel
theorem dX7_allThatFit_28 : decode cX7_allThatFit 28 = .ok (.ireturn, 1) := by decide +kernel
theorem dX7_allThatFit_29 : decode cX7_allThatFit 29 = .ok (.aload_n 0, 1) := by decide +kernel
theorem dX7_allThatFit_30 : decode cX7_allThatFit 30 = .ok (.getfield 12, 3) := by decide +kernel
theorem dX7_allThatFit_33 : decode cX7_allThatFit 33 = .ok (.iload_n 3, 1) := by decide +kernel
theorem dX7_allThatFit_34 : decode cX7_allThatFit 34 = .ok (.iload 4, 2) := by decide +kernel
theorem dX7_allThatFit_36 : decode cX7_allThatFit 36 = .ok (.iload 5, 2) := by decide +kernel
theorem dX7_allThatFit_38 : decode cX7_allThatFit 38 = .ok (.invokevirtual 92, 3) := by decide +kernel
theorem dX7_allThatFit_41 : decode cX7_allThatFit 41 = .ok (.istore 6, 2) := by decide +kernel
theorem dX7_allThatFit_43 : decode cX7_allThatFit 43 = .ok (.iload 6, 2) := by decide +kernel
theorem dX7_allThatFit_45 : decode cX7_allThatFit 45 = .ok (.ifCond .eq 10, 3) := by decide +kernel
theorem dX7_allThatFit_48 : decode cX7_allThatFit 48 = .ok (.aload_n 0, 1) := by decide +kernel
theorem dX7_allThatFit_49 : decode cX7_allThatFit 49 = .ok (.iload 6, 2) := by decide +kernel
theorem dX7_allThatFit_51 : decode cX7_allThatFit 51 = .ok (.invokevirtual 81, 3) := by decide +kernel
theorem dX7_allThatFit_54 : decode cX7_allThatFit 54 = .ok (.ireturn, 1) := by decide +kernel
theorem dX7_allThatFit_55 : decode cX7_allThatFit 55 = .ok (.iload_n 1, 1) := by decide +kernel
theorem dX7_allThatFit_56 : decode cX7_allThatFit 56 = .ok (.iconst 1, 1) := by decide +kernel
theorem dX7_allThatFit_57 : decode cX7_allThatFit 57 = .ok (.if_icmp .ne 7, 3) := by decide +kernel
theorem dX7_allThatFit_60 : decode cX7_allThatFit 60 = .ok (.iconst 1, 1) := by decide +kernel
theorem dX7_allThatFit_61 : decode cX7_allThatFit 61 = .ok (.goto 4, 3) := by decide +kernel
theorem dX7_allThatFit_64 : decode cX7_allThatFit 64 = .ok (.iconst 0, 1) := by decide +kernel
theorem dX7_allThatFit_65 : decode cX7_allThatFit 65 = .ok (.istore 7, 2) := by decide +kernel
theorem dX7_allThatFit_67 : decode cX7_allThatFit 67 = .ok (.iload_n 1, 1) := by decide +kernel
theorem dX7_allThatFit_68 : decode cX7_allThatFit 68 = .ok (.iconst 1, 1) := by decide +kernel
theorem dX7_allThatFit_69 : decode cX7_allThatFit 69 = .ok (.if_icmp .ne 7, 3) := by decide +kernel
theorem dX7_allThatFit_72 : decode cX7_allThatFit 72 = .ok (.iconst 5, 1) := by decide +kernel
theorem dX7_allThatFit_73 : decode cX7_allThatFit 73 = .ok (.goto 21, 3) := by decide +kernel
theorem dX7_allThatFit_76 : decode cX7_allThatFit 76 = .ok (.iload_n 1, 1) := by decide +kernel
theorem dX7_allThatFit_77 : decode cX7_allThatFit 77 = .ok (.ifCond .ne 15, 3) := by decide +kernel
theorem dX7_allThatFit_80 : decode cX7_allThatFit 80 = .ok (.aload_n 0, 1) := by decide +kernel
theorem dX7_allThatFit_81 : decode cX7_allThatFit 81 = .ok (.getfield 26, 3) := by decide +kernel
theorem dX7_allThatFit_84 : decode cX7_allThatFit 84 = .ok (.getfield 235, 3) := by decide +kernel
theorem dX7_allThatFit_87 : decode cX7_allThatFit 87 = .ok (.iconst 1, 1) := by decide +kernel
theorem dX7_allThatFit_88 : decode cX7_allThatFit 88 = .ok (.isub, 1) := by decide +kernel
theorem dX7_allThatFit_89 : decode cX7_allThatFit 89 = .ok (.goto 5, 3) := by decide +kernel
theorem dX7_allThatFit_92 : decode cX7_allThatFit 92 = .ok (.bipush 9, 2) := by decide +kernel
theorem dX7_allThatFit_94 : decode cX7_allThatFit 94 = .ok (.istore 8, 2) := by decide +kernel
theorem dX7_allThatFit_96 : decode cX7_allThatFit 96 = .ok (.iconst 0, 1) := by decide +kernel
theorem dX7_allThatFit_97 : decode cX7_allThatFit 97 = .ok (.istore 9, 2) := by decide +kernel
theorem dX7_allThatFit_99 : decode cX7_allThatFit 99 = .ok (.iload 7, 2) := by decide +kernel
theorem dX7_allThatFit_101 : decode cX7_allThatFit 101 = .ok (.istore 10, 2) := by decide +kernel
theorem dX7_allThatFit_103 : decode cX7_allThatFit 103 = .ok (.iload 10, 2) := by decide +kernel
theorem dX7_allThatFit_105 : decode cX7_allThatFit 105 = .ok (.iload 8, 2) := by decide +kernel
theorem dX7_allThatFit_107 : decode cX7_allThatFit 107 = .ok (.if_icmp .gt 109, 3) := by decide +kernel
theorem dX7_allThatFit_110 : decode cX7_allThatFit 110 = .ok (.aload_n 0, 1) := by decide +kernel
theorem dX7_allThatFit_111 : decode cX7_allThatFit 111 = .ok (.getfield 47, 3) := by decide +kernel
theorem dX7_allThatFit_114 : decode cX7_allThatFit 114 = .ok (.aload_n 0, 1) := by decide +kernel
theorem dX7_allThatFit_115 : decode cX7_allThatFit 115 = .ok (.getfield 26, 3) := by decide +kernel
theorem dX7_allThatFit_118 : decode cX7_allThatFit 118 = .ok (.iload_n 2, 1) := by decide +kernel
theorem dX7_allThatFit_119 : decode cX7_allThatFit 119 = .ok (.invokevirtual 208, 3) := by decide +kernel
theorem dX7_allThatFit_122 : decode cX7_allThatFit 122 = .ok (.iload_n 1, 1) := by decide +kernel
theorem dX7_allThatFit_123 : decode cX7_allThatFit 123 = .ok (.lookupswitch 53 #[(0, 25), (1, 41)], 25) := by decide +kernel
theorem dX7_allThatFit_148 : decode cX7_allThatFit 148 = .ok (.aload_n 0, 1) := by decide +kernel
theorem dX7_allThatFit_149 : decode cX7_allThatFit 149 = .ok (.getfield 47, 3) := by decide +kernel
theorem dX7_allThatFit_152 : decode cX7_allThatFit 152 = .ok (.aload_n 0, 1) := by decide +kernel
theorem dX7_allThatFit_153 : decode cX7_allThatFit 153 = .ok (.getfield 26, 3) := by decide +kernel
theorem dX7_allThatFit_156 : decode cX7_allThatFit 156 = .ok (.iload 10, 2) := by decide +kernel
theorem dX7_allThatFit_158 : decode cX7_allThatFit 158 = .ok (.invokevirtual 238, 3) := by decide +kernel
theorem dX7_allThatFit_161 : decode cX7_allThatFit 161 = .ok (.goto 24, 3) := by decide +kernel
theorem dX7_allThatFit_164 : decode cX7_allThatFit 164 = .ok (.aload_n 0, 1) := by decide +kernel
theorem dX7_allThatFit_165 : decode cX7_allThatFit 165 = .ok (.getfield 47, 3) := by decide +kernel
theorem dX7_allThatFit_168 : decode cX7_allThatFit 168 = .ok (.iload 10, 2) := by decide +kernel
theorem dX7_allThatFit_170 : decode cX7_allThatFit 170 = .ok (.putfield 308, 3) := by decide +kernel
theorem dX7_allThatFit_173 : decode cX7_allThatFit 173 = .ok (.goto 12, 3) := by decide +kernel
theorem dX7_allThatFit_176 : decode cX7_allThatFit 176 = .ok (.aload_n 0, 1) := by decide +kernel
theorem dX7_allThatFit_177 : decode cX7_allThatFit 177 = .ok (.getfield 47, 3) := by decide +kernel
theorem dX7_allThatFit_180 : decode cX7_allThatFit 180 = .ok (.iload 10, 2) := by decide +kernel
theorem dX7_allThatFit_182 : decode cX7_allThatFit 182 = .ok (.putfield 310, 3) := by decide +kernel
theorem dX7_allThatFit_185 : decode cX7_allThatFit 185 = .ok (.iload 9, 2) := by decide +kernel
theorem dX7_allThatFit_187 : decode cX7_allThatFit 187 = .ok (.aload_n 0, 1) := by decide +kernel
theorem dX7_allThatFit_188 : decode cX7_allThatFit 188 = .ok (.iload_n 3, 1) := by decide +kernel
theorem dX7_allThatFit_189 : decode cX7_allThatFit 189 = .ok (.iload 4, 2) := by decide +kernel
theorem dX7_allThatFit_191 : decode cX7_allThatFit 191 = .ok (.iload 5, 2) := by decide +kernel
theorem dX7_allThatFit_193 : decode cX7_allThatFit 193 = .ok (.invokevirtual 312, 3) := by decide +kernel
theorem dX7_allThatFit_196 : decode cX7_allThatFit 196 = .ok (.ifCond .eq 10, 3) := by decide +kernel
theorem dX7_allThatFit_199 : decode cX7_allThatFit 199 = .ok (.iconst 1, 1) := by decide +kernel
theorem dX7_allThatFit_200 : decode cX7_allThatFit 200 = .ok (.iload 10, 2) := by decide +kernel
theorem dX7_allThatFit_202 : decode cX7_allThatFit 202 = .ok (.ishl, 1) := by decide +kernel
theorem dX7_allThatFit_203 : decode cX7_allThatFit 203 = .ok (.goto 4, 3) := by decide +kernel
theorem dX7_allThatFit_206 : decode cX7_allThatFit 206 = .ok (.iconst 0, 1) := by decide +kernel
theorem dX7_allThatFit_207 : decode cX7_allThatFit 207 = .ok (.ior, 1) := by decide +kernel
theorem dX7_allThatFit_208 : decode cX7_allThatFit 208 = .ok (.istore 9, 2) := by decide +kernel
theorem dX7_allThatFit_210 : decode cX7_allThatFit 210 = .ok (.iinc 10 1, 3) := by decide +kernel
theorem dX7_allThatFit_213 : decode cX7_allThatFit 213 = .ok (.goto (-110), 3) := by decide +kernel
theorem dX7_allThatFit_216 : decode cX7_allThatFit 216 = .ok (.aload_n 0, 1) := by decide +kernel
theorem dX7_allThatFit_217 : decode cX7_allThatFit 217 = .ok (.iload 9, 2) := by decide +kernel
theorem dX7_allThatFit_219 : decode cX7_allThatFit 219 = .ok (.invokevirtual 89, 3) := by decide +kernel
theorem dX7_allThatFit_222 : decode cX7_allThatFit 222 = .ok (.ireturn, 1) := by decide +kernel
theorem dX7_fits_0 : decode cX7_fits 0 = .ok (.iconst 0, 1) := by decide +kernel
theorem dX7_fits_1 : decode cX7_fits 1 = .ok (.istore 4, 2) := by decide +kernel
theorem dX7_fits_3 : decode cX7_fits 3 = .ok (.iload 4, 2) := by decide +kernel
theorem dX7_fits_5 : decode cX7_fits 5 = .ok (.iload_n 3, 1) := by decide +kernel
theorem dX7_fits_6 : decode cX7_fits 6 = .ok (.if_icmp .ge 58, 3) := by decide +kernel
theorem dX7_fits_9 : decode cX7_fits 9 = .ok (.aload_n 0, 1) := by decide +kernel
theorem dX7_fits_10 : decode cX7_fits 10 = .ok (.getfield 47, 3) := by decide +kernel
theorem dX7_fits_13 : decode cX7_fits 13 = .ok (.invokevirtual 248, 3) := by decide +kernel
theorem dX7_fits_16 : decode cX7_fits 16 = .ok (.aload_n 0, 1) := by decide +kernel
theorem dX7_fits_17 : decode cX7_fits 17 = .ok (.getfield 47, 3) := by decide +kernel
theorem dX7_fits_20 : decode cX7_fits 20 = .ok (.getfield 244, 3) := by decide +kernel
theorem dX7_fits_23 : decode cX7_fits 23 = .ok (.ifCond .eq 13, 3) := by decide +kernel
theorem dX7_fits_26 : decode cX7_fits 26 = .ok (.aload_n 0, 1) := by decide +kernel
theorem dX7_fits_27 : decode cX7_fits 27 = .ok (.getfield 47, 3) := by decide +kernel
theorem dX7_fits_30 : decode cX7_fits 30 = .ok (.getfield 215, 3) := by decide +kernel
theorem dX7_fits_33 : decode cX7_fits 33 = .ok (.goto 4, 3) := by decide +kernel
theorem dX7_fits_36 : decode cX7_fits 36 = .ok (.iconst (-1), 1) := by decide +kernel
theorem dX7_fits_37 : decode cX7_fits 37 = .ok (.istore 5, 2) := by decide +kernel
theorem dX7_fits_39 : decode cX7_fits 39 = .ok (.aload_n 0, 1) := by decide +kernel
theorem dX7_fits_40 : decode cX7_fits 40 = .ok (.getfield 12, 3) := by decide +kernel
theorem dX7_fits_43 : decode cX7_fits 43 = .ok (.iload_n 1, 1) := by decide +kernel
theorem dX7_fits_44 : decode cX7_fits 44 = .ok (.iload_n 2, 1) := by decide +kernel
theorem dX7_fits_45 : decode cX7_fits 45 = .ok (.iload 4, 2) := by decide +kernel
theorem dX7_fits_47 : decode cX7_fits 47 = .ok (.iadd, 1) := by decide +kernel
theorem dX7_fits_48 : decode cX7_fits 48 = .ok (.invokevirtual 315, 3) := by decide +kernel
theorem dX7_fits_51 : decode cX7_fits 51 = .ok (.iload 5, 2) := by decide +kernel
theorem dX7_fits_53 : decode cX7_fits 53 = .ok (.if_icmp .eq 5, 3) := by decide +kernel
theorem dX7_fits_56 : decode cX7_fits 56 = .ok (.iconst 0, 1) := by decide +kernel
theorem dX7_fits_57 : decode cX7_fits 57 = .ok (.ireturn, 1) := by decide +kernel
theorem dX7_fits_58 : decode cX7_fits 58 = .ok (.iinc 4 1, 3) := by decide +kernel
theorem dX7_fits_61 : decode cX7_fits 61 = .ok (.goto (-58), 3) := by decide +kernel
theorem dX7_fits_64 : decode cX7_fits 64 = .ok (.iconst 1, 1) := by decide +kernel
theorem dX7_fits_65 : decode cX7_fits 65 = .ok (.ireturn, 1) := by decide +kernel
theorem dX7_found_0 : decode cX7_found 0 = .ok (.aload_n 0, 1) := by decide +kernel
theorem dX7_found_1 : decode cX7_found 1 = .ok (.iload_n 1, 1) := by decide +kernel
theorem dX7_found_2 : decode cX7_found 2 = .ok (.putfield 68, 3) := by decide +kernel
theorem dX7_found_5 : decode cX7_found 5 = .ok (.ldc_w 318, 3) := by decide +kernel
theorem dX7_found_8 : decode cX7_found 8 = .ok (.iload_n 1, 1) := by decide +kernel
theorem dX7_found_9 : decode cX7_found 9 = .ok (.isub, 1) := by decide +kernel
theorem dX7_found_10 : decode cX7_found 10 = .ok (.ireturn, 1) := by decide +kernel
theorem dX7_sound_0 : decode cX7_sound 0 = .ok (.aload_n 0, 1) := by decide +kernel
theorem dX7_sound_1 : decode cX7_sound 1 = .ok (.iconst 0, 1) := by decide +kernel
theorem dX7_sound_2 : decode cX7_sound 2 = .ok (.putfield 68, 3) := by decide +kernel
theorem dX7_sound_5 : decode cX7_sound 5 = .ok (.iload_n 1, 1) := by decide +kernel
theorem dX7_sound_6 : decode cX7_sound 6 = .ok (.ireturn, 1) := by decide +kernel
theorem dX8_init_0 : decode cX8_init 0 = .ok (.aload_n 0, 1) := by decide +kernel
theorem dX8_init_1 : decode cX8_init 1 = .ok (.invokespecial 1, 3) := by decide +kernel
theorem dX8_init_4 : decode cX8_init 4 = .ok (.aload_n 0, 1) := by decide +kernel
theorem dX8_init_5 : decode cX8_init 5 = .ok (.bipush 8, 2) := by decide +kernel
theorem dX8_init_7 : decode cX8_init 7 = .ok (.newarray .int, 2) := by decide +kernel
theorem dX8_init_9 : decode cX8_init 9 = .ok (.dup, 1) := by decide +kernel
theorem dX8_init_10 : decode cX8_init 10 = .ok (.iconst 0, 1) := by decide +kernel
theorem dX8_init_11 : decode cX8_init 11 = .ok (.iconst (-1), 1) := by decide +kernel
theorem dX8_init_12 : decode cX8_init 12 = .ok (.iastore, 1) := by decide +kernel
theorem dX8_init_13 : decode cX8_init 13 = .ok (.dup, 1) := by decide +kernel
theorem dX8_init_14 : decode cX8_init 14 = .ok (.iconst 1, 1) := by decide +kernel
theorem dX8_init_15 : decode cX8_init 15 = .ok (.iconst (-1), 1) := by decide +kernel
theorem dX8_init_16 : decode cX8_init 16 = .ok (.iastore, 1) := by decide +kernel
theorem dX8_init_17 : decode cX8_init 17 = .ok (.dup, 1) := by decide +kernel
theorem dX8_init_18 : decode cX8_init 18 = .ok (.iconst 2, 1) := by decide +kernel
theorem dX8_init_19 : decode cX8_init 19 = .ok (.iconst (-1), 1) := by decide +kernel
theorem dX8_init_20 : decode cX8_init 20 = .ok (.iastore, 1) := by decide +kernel
theorem dX8_init_21 : decode cX8_init 21 = .ok (.dup, 1) := by decide +kernel
theorem dX8_init_22 : decode cX8_init 22 = .ok (.iconst 3, 1) := by decide +kernel
theorem dX8_init_23 : decode cX8_init 23 = .ok (.iconst (-1), 1) := by decide +kernel
theorem dX8_init_24 : decode cX8_init 24 = .ok (.iastore, 1) := by decide +kernel
theorem dX8_init_25 : decode cX8_init 25 = .ok (.dup, 1) := by decide +kernel
theorem dX8_init_26 : decode cX8_init 26 = .ok (.iconst 4, 1) := by decide +kernel
theorem dX8_init_27 : decode cX8_init 27 = .ok (.iconst (-1), 1) := by decide +kernel
theorem dX8_init_28 : decode cX8_init 28 = .ok (.iastore, 1) := by decide +kernel
theorem dX8_init_29 : decode cX8_init 29 = .ok (.dup, 1) := by decide +kernel
theorem dX8_init_30 : decode cX8_init 30 = .ok (.iconst 5, 1) := by decide +kernel
theorem dX8_init_31 : decode cX8_init 31 = .ok (.iconst (-1), 1) := by decide +kernel
theorem dX8_init_32 : decode cX8_init 32 = .ok (.iastore, 1) := by decide +kernel
theorem dX8_init_33 : decode cX8_init 33 = .ok (.dup, 1) := by decide +kernel
theorem dX8_init_34 : decode cX8_init 34 = .ok (.bipush 6, 2) := by decide +kernel
theorem dX8_init_36 : decode cX8_init 36 = .ok (.iconst (-1), 1) := by decide +kernel
theorem dX8_init_37 : decode cX8_init 37 = .ok (.iastore, 1) := by decide +kernel
theorem dX8_init_38 : decode cX8_init 38 = .ok (.dup, 1) := by decide +kernel
theorem dX8_init_39 : decode cX8_init 39 = .ok (.bipush 7, 2) := by decide +kernel
theorem dX8_init_41 : decode cX8_init 41 = .ok (.iconst (-1), 1) := by decide +kernel
theorem dX8_init_42 : decode cX8_init 42 = .ok (.iastore, 1) := by decide +kernel
theorem dX8_init_43 : decode cX8_init 43 = .ok (.putfield 7, 3) := by decide +kernel
theorem dX8_init_46 : decode cX8_init 46 = .ok (.aload_n 0, 1) := by decide +kernel
theorem dX8_init_47 : decode cX8_init 47 = .ok (.bipush 8, 2) := by decide +kernel
theorem dX8_init_49 : decode cX8_init 49 = .ok (.newarray .int, 2) := by decide +kernel
theorem dX8_init_51 : decode cX8_init 51 = .ok (.putfield 13, 3) := by decide +kernel
theorem dX8_init_54 : decode cX8_init 54 = .ok (.aload_n 0, 1) := by decide +kernel
theorem dX8_init_55 : decode cX8_init 55 = .ok (.sipush 320, 3) := by decide +kernel
theorem dX8_init_58 : decode cX8_init 58 = .ok (.newarray .int, 2) := by decide +kernel
theorem dX8_init_60 : decode cX8_init 60 = .ok (.putfield 16, 3) := by decide +kernel
theorem dX8_init_63 : decode cX8_init 63 = .ok (.aload_n 0, 1) := by decide +kernel
theorem dX8_init_64 : decode cX8_init 64 = .ok (.bipush 58, 2) := by decide +kernel
theorem dX8_init_66 : decode cX8_init 66 = .ok (.newarray .int, 2) := by decide +kernel
theorem dX8_init_68 : decode cX8_init 68 = .ok (.putfield 19, 3) := by decide +kernel
theorem dX8_init_71 : decode cX8_init 71 = .ok (.aload_n 0, 1) := by decide +kernel
theorem dX8_init_72 : decode cX8_init 72 = .ok (.bipush 58, 2) := by decide +kernel
theorem dX8_init_74 : decode cX8_init 74 = .ok (.newarray .int, 2) := by decide +kernel
theorem dX8_init_76 : decode cX8_init 76 = .ok (.putfield 22, 3) := by decide +kernel
theorem dX8_init_79 : decode cX8_init 79 = .ok (.aload_n 0, 1) := by decide +kernel
theorem dX8_init_80 : decode cX8_init 80 = .ok (.bipush 58, 2) := by decide +kernel
theorem dX8_init_82 : decode cX8_init 82 = .ok (.newarray .int, 2) := by decide +kernel
theorem dX8_init_84 : decode cX8_init 84 = .ok (.putfield 25, 3) := by decide +kernel
theorem dX8_init_87 : decode cX8_init 87 = .ok (.aload_n 0, 1) := by decide +kernel
theorem dX8_init_88 : decode cX8_init 88 = .ok (.sipush 1392, 3) := by decide +kernel
theorem dX8_init_91 : decode cX8_init 91 = .ok (.newarray .int, 2) := by decide +kernel
theorem dX8_init_93 : decode cX8_init 93 = .ok (.putfield 28, 3) := by decide +kernel
theorem dX8_init_96 : decode cX8_init 96 = .ok (.aload_n 0, 1) := by decide +kernel
theorem dX8_init_97 : decode cX8_init 97 = .ok (.bipush 100, 2) := by decide +kernel
theorem dX8_init_99 : decode cX8_init 99 = .ok (.newarray .int, 2) := by decide +kernel
theorem dX8_init_101 : decode cX8_init 101 = .ok (.putfield 31, 3) := by decide +kernel
theorem dX8_init_104 : decode cX8_init 104 = .ok (.aload_n 0, 1) := by decide +kernel
theorem dX8_init_105 : decode cX8_init 105 = .ok (.iconst 2, 1) := by decide +kernel
theorem dX8_init_106 : decode cX8_init 106 = .ok (.newarray .boolean, 2) := by decide +kernel
theorem dX8_init_108 : decode cX8_init 108 = .ok (.putfield 34, 3) := by decide +kernel
theorem dX8_init_111 : decode cX8_init 111 = .ok (.aload_n 0, 1) := by decide +kernel
theorem dX8_init_112 : decode cX8_init 112 = .ok (.bipush 116, 2) := by decide +kernel
theorem dX8_init_114 : decode cX8_init 114 = .ok (.newarray .int, 2) := by decide +kernel
theorem dX8_init_116 : decode cX8_init 116 = .ok (.putfield 38, 3) := by decide +kernel
theorem dX8_init_119 : decode cX8_init 119 = .ok (.aload_n 0, 1) := by decide +kernel
theorem dX8_init_120 : decode cX8_init 120 = .ok (.bipush 16, 2) := by decide +kernel
theorem dX8_init_122 : decode cX8_init 122 = .ok (.newarray .int, 2) := by decide +kernel
theorem dX8_init_124 : decode cX8_init 124 = .ok (.putfield 41, 3) := by decide +kernel
theorem dX8_init_127 : decode cX8_init 127 = .ok (.return_, 1) := by decide +kernel
theorem dX8_in_0 : decode cX8_in 0 = .ok (.lload_n 0, 1) := by decide +kernel
theorem dX8_in_1 : decode cX8_in 1 = .ok (.lload_n 2, 1) := by decide +kernel
theorem dX8_in_2 : decode cX8_in 2 = .ok (.lcmp, 1) := by decide +kernel
theorem dX8_in_3 : decode cX8_in 3 = .ok (.ifCond .lt 14, 3) := by decide +kernel
theorem dX8_in_6 : decode cX8_in 6 = .ok (.lload_n 0, 1) := by decide +kernel
theorem dX8_in_7 : decode cX8_in 7 = .ok (.lload 4, 2) := by decide +kernel
theorem dX8_in_9 : decode cX8_in 9 = .ok (.lcmp, 1) := by decide +kernel
theorem dX8_in_10 : decode cX8_in 10 = .ok (.ifCond .gt 7, 3) := by decide +kernel
theorem dX8_in_13 : decode cX8_in 13 = .ok (.iconst 1, 1) := by decide +kernel
theorem dX8_in_14 : decode cX8_in 14 = .ok (.goto 4, 3) := by decide +kernel
theorem dX8_in_17 : decode cX8_in 17 = .ok (.iconst 0, 1) := by decide +kernel
theorem dX8_in_18 : decode cX8_in 18 = .ok (.ireturn, 1) := by decide +kernel
theorem dX8_finding_0 : decode cX8_finding 0 = .ok (.aload_n 0, 1) := by decide +kernel
theorem dX8_finding_1 : decode cX8_finding 1 = .ok (.iload_n 1, 1) := by decide +kernel
theorem dX8_finding_2 : decode cX8_finding 2 = .ok (.putfield 48, 3) := by decide +kernel
theorem dX8_finding_5 : decode cX8_finding 5 = .ok (.ldc 51, 2) := by decide +kernel
theorem dX8_finding_7 : decode cX8_finding 7 = .ok (.iload_n 1, 1) := by decide +kernel
theorem dX8_finding_8 : decode cX8_finding 8 = .ok (.isub, 1) := by decide +kernel
theorem dX8_finding_9 : decode cX8_finding 9 = .ok (.ireturn, 1) := by decide +kernel
theorem dX8_isRow_0 : decode cX8_isRow 0 = .ok (.iload_n 0, 1) := by decide +kernel
theorem dX8_isRow_1 : decode cX8_isRow 1 = .ok (.i2l, 1) := by decide +kernel
theorem dX8_isRow_2 : decode cX8_isRow 2 = .ok (.lconst 0, 1) := by decide +kernel
theorem dX8_isRow_3 : decode cX8_isRow 3 = .ok (.ldc2_w 52, 3) := by decide +kernel
theorem dX8_isRow_6 : decode cX8_isRow 6 = .ok (.invokestatic 54, 3) := by decide +kernel
theorem dX8_isRow_9 : decode cX8_isRow 9 = .ok (.ireturn, 1) := by decide +kernel
theorem dX8_row_0 : decode cX8_row 0 = .ok (.aload_n 0, 1) := by decide +kernel
theorem dX8_row_1 : decode cX8_row 1 = .ok (.iconst 0, 1) := by decide +kernel
theorem dX8_row_2 : decode cX8_row 2 = .ok (.putfield 44, 3) := by decide +kernel
theorem dX8_row_5 : decode cX8_row 5 = .ok (.iload_n 1, 1) := by decide +kernel
theorem dX8_row_6 : decode cX8_row 6 = .ok (.invokestatic 58, 3) := by decide +kernel
theorem dX8_row_9 : decode cX8_row 9 = .ok (.ifCond .eq 21, 3) := by decide +kernel
theorem dX8_row_12 : decode cX8_row 12 = .ok (.iload_n 2, 1) := by decide +kernel
theorem dX8_row_13 : decode cX8_row 13 = .ok (.i2l, 1) := by decide +kernel
theorem dX8_row_14 : decode cX8_row 14 = .ok (.lconst 0, 1) := by decide +kernel
theorem dX8_row_15 : decode cX8_row 15 = .ok (.ldc2_w 62, 3) := by decide +kernel
theorem dX8_row_18 : decode cX8_row 18 = .ok (.invokestatic 54, 3) := by decide +kernel
theorem dX8_row_21 : decode cX8_row 21 = .ok (.ifCond .eq 9, 3) := by decide +kernel
theorem dX8_row_24 : decode cX8_row 24 = .ok (.iload_n 3, 1) := by decide +kernel
theorem dX8_row_25 : decode cX8_row 25 = .ok (.bipush 40, 2) := by decide +kernel
theorem dX8_row_27 : decode cX8_row 27 = .ok (.if_icmp .le 6, 3) := by decide +kernel
theorem dX8_row_30 : decode cX8_row 30 = .ok (.ldc 64, 2) := by decide +kernel
theorem dX8_row_32 : decode cX8_row 32 = .ok (.ireturn, 1) := by decide +kernel
theorem dX8_row_33 : decode cX8_row 33 = .ok (.aload_n 0, 1) := by decide +kernel
theorem dX8_row_34 : decode cX8_row 34 = .ok (.iconst 0, 1) := by decide +kernel
theorem dX8_row_35 : decode cX8_row 35 = .ok (.putfield 48, 3) := by decide +kernel
theorem dX8_row_38 : decode cX8_row 38 = .ok (.iload_n 3, 1) := by decide +kernel
theorem dX8_row_39 : decode cX8_row 39 = .ok (.ifCond .ge 9, 3) := by decide +kernel
theorem dX8_row_42 : decode cX8_row 42 = .ok (.aload_n 0, 1) := by decide +kernel
theorem dX8_row_43 : decode cX8_row 43 = .ok (.iconst 4, 1) := by decide +kernel
theorem dX8_row_44 : decode cX8_row 44 = .ok (.invokevirtual 65, 3) := by decide +kernel
theorem dX8_row_47 : decode cX8_row 47 = .ok (.ireturn, 1) := by decide +kernel
theorem dX8_row_48 : decode cX8_row 48 = .ok (.aload_n 0, 1) := by decide +kernel
theorem dX8_row_49 : decode cX8_row 49 = .ok (.getfield 7, 3) := by decide +kernel
theorem dX8_row_52 : decode cX8_row 52 = .ok (.iload_n 1, 1) := by decide +kernel
theorem dX8_row_53 : decode cX8_row 53 = .ok (.iload_n 2, 1) := by decide +kernel
theorem dX8_row_54 : decode cX8_row 54 = .ok (.iastore, 1) := by decide +kernel
theorem dX8_row_55 : decode cX8_row 55 = .ok (.aload_n 0, 1) := by decide +kernel
theorem dX8_row_56 : decode cX8_row 56 = .ok (.getfield 13, 3) := by decide +kernel
theorem dX8_row_59 : decode cX8_row 59 = .ok (.iload_n 1, 1) := by decide +kernel
theorem dX8_row_60 : decode cX8_row 60 = .ok (.iload_n 3, 1) := by decide +kernel
theorem dX8_row_61 : decode cX8_row 61 = .ok (.iastore, 1) := by decide +kernel
theorem dX8_row_62 : decode cX8_row 62 = .ok (.iconst 0, 1) := by decide +kernel
theorem dX8_row_63 : decode cX8_row 63 = .ok (.istore 4, 2) := by decide +kernel
theorem dX8_row_65 : decode cX8_row 65 = .ok (.iload 4, 2) := by decide +kernel
theorem dX8_row_67 : decode cX8_row 67 = .ok (.bipush 40, 2) := by decide +kernel
theorem dX8_row_69 : decode cX8_row 69 = .ok (.if_icmp .ge 22, 3) := by decide +kernel
theorem dX8_row_72 : decode cX8_row 72 = .ok (.aload_n 0, 1) := by decide +kernel
theorem dX8_row_73 : decode cX8_row 73 = .ok (.getfield 16, 3) := by decide +kernel
theorem dX8_row_76 : decode cX8_row 76 = .ok (.bipush 40, 2) := by decide +kernel
theorem dX8_row_78 : decode cX8_row 78 = .ok (.iload_n 1, 1) := by decide +kernel
theorem dX8_row_79 : decode cX8_row 79 = .ok (.imul, 1) := by decide +kernel
theorem dX8_row_80 : decode cX8_row 80 = .ok (.iload 4, 2) := by decide +kernel
theorem dX8_row_82 : decode cX8_row 82 = .ok (.iadd, 1) := by decide +kernel
theorem dX8_row_83 : decode cX8_row 83 = .ok (.iconst 0, 1) := by decide +kernel
theorem dX8_row_84 : decode cX8_row 84 = .ok (.iastore, 1) := by decide +kernel
theorem dX8_row_85 : decode cX8_row 85 = .ok (.iinc 4 1, 3) := by decide +kernel
theorem dX8_row_88 : decode cX8_row 88 = .ok (.goto (-23), 3) := by decide +kernel
theorem dX8_row_91 : decode cX8_row 91 = .ok (.iload_n 3, 1) := by decide +kernel
theorem dX8_row_92 : decode cX8_row 92 = .ok (.ireturn, 1) := by decide +kernel
theorem dX8_set_0 : decode cX8_set 0 = .ok (.aload_n 0, 1) := by decide +kernel
theorem dX8_set_1 : decode cX8_set 1 = .ok (.iconst 0, 1) := by decide +kernel
theorem dX8_set_2 : decode cX8_set 2 = .ok (.putfield 44, 3) := by decide +kernel
theorem dX8_set_5 : decode cX8_set 5 = .ok (.iload_n 1, 1) := by decide +kernel
theorem dX8_set_6 : decode cX8_set 6 = .ok (.invokestatic 58, 3) := by decide +kernel
theorem dX8_set_9 : decode cX8_set 9 = .ok (.ifCond .ne 6, 3) := by decide +kernel
theorem dX8_set_12 : decode cX8_set 12 = .ok (.ldc 64, 2) := by decide +kernel
theorem dX8_set_14 : decode cX8_set 14 = .ok (.ireturn, 1) := by decide +kernel
theorem dX8_set_15 : decode cX8_set 15 = .ok (.aload_n 0, 1) := by decide +kernel
theorem dX8_set_16 : decode cX8_set 16 = .ok (.iconst 0, 1) := by decide +kernel
theorem dX8_set_17 : decode cX8_set 17 = .ok (.putfield 48, 3) := by decide +kernel
theorem dX8_set_20 : decode cX8_set 20 = .ok (.aload_n 0, 1) := by decide +kernel
theorem dX8_set_21 : decode cX8_set 21 = .ok (.getfield 7, 3) := by decide +kernel
theorem dX8_set_24 : decode cX8_set 24 = .ok (.iload_n 1, 1) := by decide +kernel
theorem dX8_set_25 : decode cX8_set 25 = .ok (.iaload, 1) := by decide +kernel
theorem dX8_set_26 : decode cX8_set 26 = .ok (.ifCond .ge 9, 3) := by decide +kernel
theorem dX8_set_29 : decode cX8_set 29 = .ok (.aload_n 0, 1) := by decide +kernel
theorem dX8_set_30 : decode cX8_set 30 = .ok (.iconst 1, 1) := by decide +kernel
theorem dX8_set_31 : decode cX8_set 31 = .ok (.invokevirtual 65, 3) := by decide +kernel
theorem dX8_set_34 : decode cX8_set 34 = .ok (.ireturn, 1) := by decide +kernel
theorem dX8_set_35 : decode cX8_set 35 = .ok (.iload_n 2, 1) := by decide +kernel
theorem dX8_set_36 : decode cX8_set 36 = .ok (.i2l, 1) := by decide +kernel
theorem dX8_set_37 : decode cX8_set 37 = .ok (.lconst 0, 1) := by decide +kernel
theorem dX8_set_38 : decode cX8_set 38 = .ok (.aload_n 0, 1) := by decide +kernel
theorem dX8_set_39 : decode cX8_set 39 = .ok (.getfield 13, 3) := by decide +kernel
theorem dX8_set_42 : decode cX8_set 42 = .ok (.iload_n 1, 1) := by decide +kernel
theorem dX8_set_43 : decode cX8_set 43 = .ok (.iaload, 1) := by decide +kernel
theorem dX8_set_44 : decode cX8_set 44 = .ok (.iconst 1, 1) := by decide +kernel
theorem dX8_set_45 : decode cX8_set 45 = .ok (.isub, 1) := by decide +kernel
theorem dX8_set_46 : decode cX8_set 46 = .ok (.i2l, 1) := by decide +kernel
theorem dX8_set_47 : decode cX8_set 47 = .ok (.invokestatic 54, 3) := by decide +kernel
theorem dX8_set_50 : decode cX8_set 50 = .ok (.ifCond .ne 9, 3) := by decide +kernel
theorem dX8_set_53 : decode cX8_set 53 = .ok (.aload_n 0, 1) := by decide +kernel
theorem dX8_set_54 : decode cX8_set 54 = .ok (.iconst 2, 1) := by decide +kernel
theorem dX8_set_55 : decode cX8_set 55 = .ok (.invokevirtual 65, 3) := by decide +kernel
theorem dX8_set_58 : decode cX8_set 58 = .ok (.ireturn, 1) := by decide +kernel
theorem dX8_set_59 : decode cX8_set 59 = .ok (.aload_n 0, 1) := by decide +kernel
theorem dX8_set_60 : decode cX8_set 60 = .ok (.getfield 16, 3) := by decide +kernel
theorem dX8_set_63 : decode cX8_set 63 = .ok (.bipush 40, 2) := by decide +kernel
theorem dX8_set_65 : decode cX8_set 65 = .ok (.iload_n 1, 1) := by decide +kernel
theorem dX8_set_66 : decode cX8_set 66 = .ok (.imul, 1) := by decide +kernel
theorem dX8_set_67 : decode cX8_set 67 = .ok (.iload_n 2, 1) := by decide +kernel
theorem dX8_set_68 : decode cX8_set 68 = .ok (.iadd, 1) := by decide +kernel
theorem dX8_set_69 : decode cX8_set 69 = .ok (.aload_n 0, 1) := by decide +kernel
theorem dX8_set_70 : decode cX8_set 70 = .ok (.getfield 7, 3) := by decide +kernel
theorem dX8_set_73 : decode cX8_set 73 = .ok (.iload_n 1, 1) := by decide +kernel
theorem dX8_set_74 : decode cX8_set 74 = .ok (.iaload, 1) := by decide +kernel
theorem dX8_set_75 : decode cX8_set 75 = .ok (.ifCond .ne 8, 3) := by decide +kernel
theorem dX8_set_78 : decode cX8_set 78 = .ok (.iload_n 3, 1) := by decide +kernel
theorem dX8_set_79 : decode cX8_set 79 = .ok (.i2b, 1) := by decide +kernel
theorem dX8_set_80 : decode cX8_set 80 = .ok (.goto 19, 3) := by decide +kernel
theorem dX8_set_83 : decode cX8_set 83 = .ok (.aload_n 0, 1) := by decide +kernel
theorem dX8_set_84 : decode cX8_set 84 = .ok (.getfield 7, 3) := by decide +kernel
theorem dX8_set_87 : decode cX8_set 87 = .ok (.iload_n 1, 1) := by decide +kernel
theorem dX8_set_88 : decode cX8_set 88 = .ok (.iaload, 1) := by decide +kernel
theorem dX8_set_89 : decode cX8_set 89 = .ok (.iconst 1, 1) := by decide +kernel
theorem dX8_set_90 : decode cX8_set 90 = .ok (.if_icmp .ne 8, 3) := by decide +kernel
theorem dX8_set_93 : decode cX8_set 93 = .ok (.iload_n 3, 1) := by decide +kernel
theorem dX8_set_94 : decode cX8_set 94 = .ok (.i2s, 1) := by decide +kernel
theorem dX8_set_95 : decode cX8_set 95 = .ok (.goto 4, 3) := by decide +kernel
theorem dX8_set_98 : decode cX8_set 98 = .ok (.iload_n 3, 1) := by decide +kernel
theorem dX8_set_99 : decode cX8_set 99 = .ok (.iastore, 1) := by decide +kernel
theorem dX8_set_100 : decode cX8_set 100 = .ok (.aload_n 0, 1) := by decide +kernel
theorem dX8_set_101 : decode cX8_set 101 = .ok (.getfield 16, 3) := by decide +kernel
theorem dX8_set_104 : decode cX8_set 104 = .ok (.bipush 40, 2) := by decide +kernel
theorem dX8_set_106 : decode cX8_set 106 = .ok (.iload_n 1, 1) := by decide +kernel
theorem dX8_set_107 : decode cX8_set 107 = .ok (.imul, 1) := by decide +kernel
theorem dX8_set_108 : decode cX8_set 108 = .ok (.iload_n 2, 1) := by decide +kernel
theorem dX8_set_109 : decode cX8_set 109 = .ok (.iadd, 1) := by decide +kernel
theorem dX8_set_110 : decode cX8_set 110 = .ok (.iaload, 1) := by decide +kernel
theorem dX8_set_111 : decode cX8_set 111 = .ok (.ireturn, 1) := by decide +kernel
theorem dX8_copy_0 : decode cX8_copy 0 = .ok (.aload_n 0, 1) := by decide +kernel
theorem dX8_copy_1 : decode cX8_copy 1 = .ok (.iconst 0, 1) := by decide +kernel
theorem dX8_copy_2 : decode cX8_copy 2 = .ok (.putfield 44, 3) := by decide +kernel
theorem dX8_copy_5 : decode cX8_copy 5 = .ok (.iload_n 1, 1) := by decide +kernel
theorem dX8_copy_6 : decode cX8_copy 6 = .ok (.invokestatic 58, 3) := by decide +kernel
theorem dX8_copy_9 : decode cX8_copy 9 = .ok (.ifCond .eq 10, 3) := by decide +kernel
theorem dX8_copy_12 : decode cX8_copy 12 = .ok (.iload_n 3, 1) := by decide +kernel
theorem dX8_copy_13 : decode cX8_copy 13 = .ok (.invokestatic 58, 3) := by decide +kernel
theorem dX8_copy_16 : decode cX8_copy 16 = .ok (.ifCond .ne 6, 3) := by decide +kernel
theorem dX8_copy_19 : decode cX8_copy 19 = .ok (.ldc 64, 2) := by decide +kernel
theorem dX8_copy_21 : decode cX8_copy 21 = .ok (.ireturn, 1) := by decide +kernel
theorem dX8_copy_22 : decode cX8_copy 22 = .ok (.aload_n 0, 1) := by decide +kernel
theorem dX8_copy_23 : decode cX8_copy 23 = .ok (.iconst 0, 1) := by decide +kernel
theorem dX8_copy_24 : decode cX8_copy 24 = .ok (.putfield 48, 3) := by decide +kernel
theorem dX8_copy_27 : decode cX8_copy 27 = .ok (.aload_n 0, 1) := by decide +kernel
theorem dX8_copy_28 : decode cX8_copy 28 = .ok (.getfield 7, 3) := by decide +kernel
theorem dX8_copy_31 : decode cX8_copy 31 = .ok (.iload_n 1, 1) := by decide +kernel
theorem dX8_copy_32 : decode cX8_copy 32 = .ok (.iaload, 1) := by decide +kernel
theorem dX8_copy_33 : decode cX8_copy 33 = .ok (.ifCond .lt 12, 3) := by decide +kernel
theorem dX8_copy_36 : decode cX8_copy 36 = .ok (.aload_n 0, 1) := by decide +kernel
theorem dX8_copy_37 : decode cX8_copy 37 = .ok (.getfield 7, 3) := by decide +kernel
theorem dX8_copy_40 : decode cX8_copy 40 = .ok (.iload_n 3, 1) := by decide +kernel
theorem dX8_copy_41 : decode cX8_copy 41 = .ok (.iaload, 1) := by decide +kernel
theorem dX8_copy_42 : decode cX8_copy 42 = .ok (.ifCond .ge 9, 3) := by decide +kernel
theorem dX8_copy_45 : decode cX8_copy 45 = .ok (.aload_n 0, 1) := by decide +kernel
theorem dX8_copy_46 : decode cX8_copy 46 = .ok (.iconst 1, 1) := by decide +kernel
theorem dX8_copy_47 : decode cX8_copy 47 = .ok (.invokevirtual 65, 3) := by decide +kernel
theorem dX8_copy_50 : decode cX8_copy 50 = .ok (.ireturn, 1) := by decide +kernel
theorem dX8_copy_51 : decode cX8_copy 51 = .ok (.aload_n 0, 1) := by decide +kernel
theorem dX8_copy_52 : decode cX8_copy 52 = .ok (.getfield 7, 3) := by decide +kernel
theorem dX8_copy_55 : decode cX8_copy 55 = .ok (.iload_n 1, 1) := by decide +kernel
theorem dX8_copy_56 : decode cX8_copy 56 = .ok (.iaload, 1) := by decide +kernel
theorem dX8_copy_57 : decode cX8_copy 57 = .ok (.aload_n 0, 1) := by decide +kernel
theorem dX8_copy_58 : decode cX8_copy 58 = .ok (.getfield 7, 3) := by decide +kernel
theorem dX8_copy_61 : decode cX8_copy 61 = .ok (.iload_n 3, 1) := by decide +kernel
theorem dX8_copy_62 : decode cX8_copy 62 = .ok (.iaload, 1) := by decide +kernel
theorem dX8_copy_63 : decode cX8_copy 63 = .ok (.if_icmp .eq 9, 3) := by decide +kernel
theorem dX8_copy_66 : decode cX8_copy 66 = .ok (.aload_n 0, 1) := by decide +kernel
theorem dX8_copy_67 : decode cX8_copy 67 = .ok (.iconst 5, 1) := by decide +kernel
theorem dX8_copy_68 : decode cX8_copy 68 = .ok (.invokevirtual 65, 3) := by decide +kernel
theorem dX8_copy_71 : decode cX8_copy 71 = .ok (.ireturn, 1) := by decide +kernel
theorem dX8_copy_72 : decode cX8_copy 72 = .ok (.iload_n 2, 1) := by decide +kernel
theorem dX8_copy_73 : decode cX8_copy 73 = .ok (.ifCond .lt 48, 3) := by decide +kernel
theorem dX8_copy_76 : decode cX8_copy 76 = .ok (.iload 4, 2) := by decide +kernel
theorem dX8_copy_78 : decode cX8_copy 78 = .ok (.ifCond .lt 43, 3) := by decide +kernel
theorem dX8_copy_81 : decode cX8_copy 81 = .ok (.iload 5, 2) := by decide +kernel
theorem dX8_copy_83 : decode cX8_copy 83 = .ok (.ifCond .lt 38, 3) := by decide +kernel
theorem dX8_copy_86 : decode cX8_copy 86 = .ok (.iload_n 2, 1) := by decide +kernel
theorem dX8_copy_87 : decode cX8_copy 87 = .ok (.i2l, 1) := by decide +kernel
theorem dX8_copy_88 : decode cX8_copy 88 = .ok (.iload 5, 2) := by decide +kernel
theorem dX8_copy_90 : decode cX8_copy 90 = .ok (.i2l, 1) := by decide +kernel
theorem dX8_copy_91 : decode cX8_copy 91 = .ok (.ladd, 1) := by decide +kernel
theorem dX8_copy_92 : decode cX8_copy 92 = .ok (.aload_n 0, 1) := by decide +kernel
theorem dX8_copy_93 : decode cX8_copy 93 = .ok (.getfield 13, 3) := by decide +kernel
theorem dX8_copy_96 : decode cX8_copy 96 = .ok (.iload_n 1, 1) := by decide +kernel
theorem dX8_copy_97 : decode cX8_copy 97 = .ok (.iaload, 1) := by decide +kernel
theorem dX8_copy_98 : decode cX8_copy 98 = .ok (.i2l, 1) := by decide +kernel
theorem dX8_copy_99 : decode cX8_copy 99 = .ok (.lcmp, 1) := by decide +kernel
theorem dX8_copy_100 : decode cX8_copy 100 = .ok (.ifCond .gt 21, 3) := by decide +kernel
theorem dX8_copy_103 : decode cX8_copy 103 = .ok (.iload 4, 2) := by decide +kernel
theorem dX8_copy_105 : decode cX8_copy 105 = .ok (.i2l, 1) := by decide +kernel
theorem dX8_copy_106 : decode cX8_copy 106 = .ok (.iload 5, 2) := by decide +kernel
theorem dX8_copy_108 : decode cX8_copy 108 = .ok (.i2l, 1) := by decide +kernel
theorem dX8_copy_109 : decode cX8_copy 109 = .ok (.ladd, 1) := by decide +kernel
theorem dX8_copy_110 : decode cX8_copy 110 = .ok (.aload_n 0, 1) := by decide +kernel
theorem dX8_copy_111 : decode cX8_copy 111 = .ok (.getfield 13, 3) := by decide +kernel
theorem dX8_copy_114 : decode cX8_copy 114 = .ok (.iload_n 3, 1) := by decide +kernel
theorem dX8_copy_115 : decode cX8_copy 115 = .ok (.iaload, 1) := by decide +kernel
theorem dX8_copy_116 : decode cX8_copy 116 = .ok (.i2l, 1) := by decide +kernel
theorem dX8_copy_117 : decode cX8_copy 117 = .ok (.lcmp, 1) := by decide +kernel
theorem dX8_copy_118 : decode cX8_copy 118 = .ok (.ifCond .le 9, 3) := by decide +kernel
theorem dX8_copy_121 : decode cX8_copy 121 = .ok (.aload_n 0, 1) := by decide +kernel
theorem dX8_copy_122 : decode cX8_copy 122 = .ok (.iconst 2, 1) := by decide +kernel
theorem dX8_copy_123 : decode cX8_copy 123 = .ok (.invokevirtual 65, 3) := by decide +kernel
theorem dX8_copy_126 : decode cX8_copy 126 = .ok (.ireturn, 1) := by decide +kernel
theorem dX8_copy_127 : decode cX8_copy 127 = .ok (.iload_n 2, 1) := by decide +kernel
theorem dX8_copy_128 : decode cX8_copy 128 = .ok (.iload 4, 2) := by decide +kernel
theorem dX8_copy_130 : decode cX8_copy 130 = .ok (.if_icmp .lt 7, 3) := by decide +kernel
theorem dX8_copy_133 : decode cX8_copy 133 = .ok (.iconst 1, 1) := by decide +kernel
theorem dX8_copy_134 : decode cX8_copy 134 = .ok (.goto 4, 3) := by decide +kernel
theorem dX8_copy_137 : decode cX8_copy 137 = .ok (.iconst 0, 1) := by decide +kernel
theorem dX8_copy_138 : decode cX8_copy 138 = .ok (.istore 6, 2) := by decide +kernel
theorem dX8_copy_140 : decode cX8_copy 140 = .ok (.iconst 0, 1) := by decide +kernel
theorem dX8_copy_141 : decode cX8_copy 141 = .ok (.istore 7, 2) := by decide +kernel
theorem dX8_copy_143 : decode cX8_copy 143 = .ok (.iload 7, 2) := by decide +kernel
theorem dX8_copy_145 : decode cX8_copy 145 = .ok (.iload 5, 2) := by decide +kernel
theorem dX8_copy_147 : decode cX8_copy 147 = .ok (.if_icmp .ge 57, 3) := by decide +kernel
theorem dX8_copy_150 : decode cX8_copy 150 = .ok (.iload 6, 2) := by decide +kernel
theorem dX8_copy_152 : decode cX8_copy 152 = .ok (.ifCond .eq 8, 3) := by decide +kernel
theorem dX8_copy_155 : decode cX8_copy 155 = .ok (.iload 7, 2) := by decide +kernel
theorem dX8_copy_157 : decode cX8_copy 157 = .ok (.goto 10, 3) := by decide +kernel
theorem dX8_copy_160 : decode cX8_copy 160 = .ok (.iload 5, 2) := by decide +kernel
theorem dX8_copy_162 : decode cX8_copy 162 = .ok (.iconst 1, 1) := by decide +kernel
theorem dX8_copy_163 : decode cX8_copy 163 = .ok (.isub, 1) := by decide +kernel
theorem dX8_copy_164 : decode cX8_copy 164 = .ok (.iload 7, 2) := by decide +kernel
theorem dX8_copy_166 : decode cX8_copy 166 = .ok (.isub, 1) := by decide +kernel
theorem dX8_copy_167 : decode cX8_copy 167 = .ok (.istore 8, 2) := by decide +kernel
theorem dX8_copy_169 : decode cX8_copy 169 = .ok (.aload_n 0, 1) := by decide +kernel
theorem dX8_copy_170 : decode cX8_copy 170 = .ok (.getfield 16, 3) := by decide +kernel
theorem dX8_copy_173 : decode cX8_copy 173 = .ok (.bipush 40, 2) := by decide +kernel
theorem dX8_copy_175 : decode cX8_copy 175 = .ok (.iload_n 3, 1) := by decide +kernel
theorem dX8_copy_176 : decode cX8_copy 176 = .ok (.imul, 1) := by decide +kernel
theorem dX8_copy_177 : decode cX8_copy 177 = .ok (.iload 4, 2) := by decide +kernel
theorem dX8_copy_179 : decode cX8_copy 179 = .ok (.iadd, 1) := by decide +kernel
theorem dX8_copy_180 : decode cX8_copy 180 = .ok (.iload 8, 2) := by decide +kernel
theorem dX8_copy_182 : decode cX8_copy 182 = .ok (.iadd, 1) := by decide +kernel
theorem dX8_copy_183 : decode cX8_copy 183 = .ok (.aload_n 0, 1) := by decide +kernel
theorem dX8_copy_184 : decode cX8_copy 184 = .ok (.getfield 16, 3) := by decide +kernel
theorem dX8_copy_187 : decode cX8_copy 187 = .ok (.bipush 40, 2) := by decide +kernel
theorem dX8_copy_189 : decode cX8_copy 189 = .ok (.iload_n 1, 1) := by decide +kernel
theorem dX8_copy_190 : decode cX8_copy 190 = .ok (.imul, 1) := by decide +kernel
theorem dX8_copy_191 : decode cX8_copy 191 = .ok (.iload_n 2, 1) := by decide +kernel
theorem dX8_copy_192 : decode cX8_copy 192 = .ok (.iadd, 1) := by decide +kernel
theorem dX8_copy_193 : decode cX8_copy 193 = .ok (.iload 8, 2) := by decide +kernel
theorem dX8_copy_195 : decode cX8_copy 195 = .ok (.iadd, 1) := by decide +kernel
theorem dX8_copy_196 : decode cX8_copy 196 = .ok (.iaload, 1) := by decide +kernel
theorem dX8_copy_197 : decode cX8_copy 197 = .ok (.iastore, 1) := by decide +kernel
theorem dX8_copy_198 : decode cX8_copy 198 = .ok (.iinc 7 1, 3) := by decide +kernel
theorem dX8_copy_201 : decode cX8_copy 201 = .ok (.goto (-58), 3) := by decide +kernel
theorem dX8_copy_204 : decode cX8_copy 204 = .ok (.iload 5, 2) := by decide +kernel
theorem dX8_copy_206 : decode cX8_copy 206 = .ok (.ireturn, 1) := by decide +kernel
theorem dX8_drop_0 : decode cX8_drop 0 = .ok (.aload_n 0, 1) := by decide +kernel
theorem dX8_drop_1 : decode cX8_drop 1 = .ok (.iconst 0, 1) := by decide +kernel
theorem dX8_drop_2 : decode cX8_drop 2 = .ok (.putfield 44, 3) := by decide +kernel
theorem dX8_drop_5 : decode cX8_drop 5 = .ok (.iload_n 1, 1) := by decide +kernel
theorem dX8_drop_6 : decode cX8_drop 6 = .ok (.invokestatic 58, 3) := by decide +kernel
theorem dX8_drop_9 : decode cX8_drop 9 = .ok (.ifCond .ne 6, 3) := by decide +kernel
theorem dX8_drop_12 : decode cX8_drop 12 = .ok (.ldc 64, 2) := by decide +kernel
theorem dX8_drop_14 : decode cX8_drop 14 = .ok (.ireturn, 1) := by decide +kernel
theorem dX8_drop_15 : decode cX8_drop 15 = .ok (.aload_n 0, 1) := by decide +kernel
theorem dX8_drop_16 : decode cX8_drop 16 = .ok (.iconst 0, 1) := by decide +kernel
theorem dX8_drop_17 : decode cX8_drop 17 = .ok (.putfield 48, 3) := by decide +kernel
theorem dX8_drop_20 : decode cX8_drop 20 = .ok (.aload_n 0, 1) := by decide +kernel
theorem dX8_drop_21 : decode cX8_drop 21 = .ok (.getfield 7, 3) := by decide +kernel
theorem dX8_drop_24 : decode cX8_drop 24 = .ok (.iload_n 1, 1) := by decide +kernel
theorem dX8_drop_25 : decode cX8_drop 25 = .ok (.iaload, 1) := by decide +kernel
theorem dX8_drop_26 : decode cX8_drop 26 = .ok (.ifCond .ge 9, 3) := by decide +kernel
theorem dX8_drop_29 : decode cX8_drop 29 = .ok (.aload_n 0, 1) := by decide +kernel
theorem dX8_drop_30 : decode cX8_drop 30 = .ok (.iconst 1, 1) := by decide +kernel
theorem dX8_drop_31 : decode cX8_drop 31 = .ok (.invokevirtual 65, 3) := by decide +kernel
theorem dX8_drop_34 : decode cX8_drop 34 = .ok (.ireturn, 1) := by decide +kernel
theorem dX8_drop_35 : decode cX8_drop 35 = .ok (.aload_n 0, 1) := by decide +kernel
theorem dX8_drop_36 : decode cX8_drop 36 = .ok (.getfield 7, 3) := by decide +kernel
theorem dX8_drop_39 : decode cX8_drop 39 = .ok (.iload_n 1, 1) := by decide +kernel
theorem dX8_drop_40 : decode cX8_drop 40 = .ok (.iconst (-1), 1) := by decide +kernel
theorem dX8_drop_41 : decode cX8_drop 41 = .ok (.iastore, 1) := by decide +kernel
theorem dX8_drop_42 : decode cX8_drop 42 = .ok (.aload_n 0, 1) := by decide +kernel
theorem dX8_drop_43 : decode cX8_drop 43 = .ok (.getfield 13, 3) := by decide +kernel
theorem dX8_drop_46 : decode cX8_drop 46 = .ok (.iload_n 1, 1) := by decide +kernel
theorem dX8_drop_47 : decode cX8_drop 47 = .ok (.iaload, 1) := by decide +kernel
theorem dX8_drop_48 : decode cX8_drop 48 = .ok (.ireturn, 1) := by decide +kernel
theorem dX8_feed_0 : decode cX8_feed 0 = .ok (.aload_n 0, 1) := by decide +kernel
theorem dX8_feed_1 : decode cX8_feed 1 = .ok (.iconst 0, 1) := by decide +kernel
theorem dX8_feed_2 : decode cX8_feed 2 = .ok (.putfield 44, 3) := by decide +kernel
theorem dX8_feed_5 : decode cX8_feed 5 = .ok (.iload_n 1, 1) := by decide +kernel
theorem dX8_feed_6 : decode cX8_feed 6 = .ok (.i2l, 1) := by decide +kernel
theorem dX8_feed_7 : decode cX8_feed 7 = .ok (.lconst 0, 1) := by decide +kernel
theorem dX8_feed_8 : decode cX8_feed 8 = .ok (.ldc2_w 69, 3) := by decide +kernel
theorem dX8_feed_11 : decode cX8_feed 11 = .ok (.invokestatic 54, 3) := by decide +kernel
theorem dX8_feed_14 : decode cX8_feed 14 = .ok (.ifCond .ne 6, 3) := by decide +kernel
theorem dX8_feed_17 : decode cX8_feed 17 = .ok (.ldc 64, 2) := by decide +kernel
theorem dX8_feed_19 : decode cX8_feed 19 = .ok (.ireturn, 1) := by decide +kernel
theorem dX8_feed_20 : decode cX8_feed 20 = .ok (.aload_n 0, 1) := by decide +kernel
theorem dX8_feed_21 : decode cX8_feed 21 = .ok (.getfield 71, 3) := by decide +kernel
theorem dX8_feed_24 : decode cX8_feed 24 = .ok (.bipush 100, 2) := by decide +kernel
theorem dX8_feed_26 : decode cX8_feed 26 = .ok (.if_icmp .ne 6, 3) := by decide +kernel
theorem dX8_feed_29 : decode cX8_feed 29 = .ok (.ldc 74, 2) := by decide +kernel
theorem dX8_feed_31 : decode cX8_feed 31 = .ok (.ireturn, 1) := by decide +kernel
theorem dX8_feed_32 : decode cX8_feed 32 = .ok (.aload_n 0, 1) := by decide +kernel
theorem dX8_feed_33 : decode cX8_feed 33 = .ok (.getfield 31, 3) := by decide +kernel
theorem dX8_feed_36 : decode cX8_feed 36 = .ok (.aload_n 0, 1) := by decide +kernel
theorem dX8_feed_37 : decode cX8_feed 37 = .ok (.getfield 71, 3) := by decide +kernel
theorem dX8_feed_40 : decode cX8_feed 40 = .ok (.iload_n 1, 1) := by decide +kernel
theorem dX8_feed_41 : decode cX8_feed 41 = .ok (.iastore, 1) := by decide +kernel
theorem dX8_feed_42 : decode cX8_feed 42 = .ok (.aload_n 0, 1) := by decide +kernel
theorem dX8_feed_43 : decode cX8_feed 43 = .ok (.dup, 1) := by decide +kernel
theorem dX8_feed_44 : decode cX8_feed 44 = .ok (.getfield 71, 3) := by decide +kernel
theorem dX8_feed_47 : decode cX8_feed 47 = .ok (.iconst 1, 1) := by decide +kernel
theorem dX8_feed_48 : decode cX8_feed 48 = .ok (.iadd, 1) := by decide +kernel
theorem dX8_feed_49 : decode cX8_feed 49 = .ok (.putfield 71, 3) := by decide +kernel
theorem dX8_feed_52 : decode cX8_feed 52 = .ok (.aload_n 0, 1) := by decide +kernel
theorem dX8_feed_53 : decode cX8_feed 53 = .ok (.getfield 71, 3) := by decide +kernel
theorem dX8_feed_56 : decode cX8_feed 56 = .ok (.ireturn, 1) := by decide +kernel
theorem dX8_bad_0 : decode cX8_bad 0 = .ok (.aload_n 0, 1) := by decide +kernel
theorem dX8_bad_1 : decode cX8_bad 1 = .ok (.getfield 75, 3) := by decide +kernel
theorem dX8_bad_4 : decode cX8_bad 4 = .ok (.ifCond .ne 16, 3) := by decide +kernel
theorem dX8_bad_7 : decode cX8_bad 7 = .ok (.aload_n 0, 1) := by decide +kernel
theorem dX8_bad_8 : decode cX8_bad 8 = .ok (.iload_n 1, 1) := by decide +kernel
theorem dX8_bad_9 : decode cX8_bad 9 = .ok (.putfield 75, 3) := by decide +kernel
theorem dX8_bad_12 : decode cX8_bad 12 = .ok (.aload_n 0, 1) := by decide +kernel
theorem dX8_bad_13 : decode cX8_bad 13 = .ok (.aload_n 0, 1) := by decide +kernel
theorem dX8_bad_14 : decode cX8_bad 14 = .ok (.getfield 78, 3) := by decide +kernel
theorem dX8_bad_17 : decode cX8_bad 17 = .ok (.putfield 81, 3) := by decide +kernel
theorem dX8_bad_20 : decode cX8_bad 20 = .ok (.return_, 1) := by decide +kernel
theorem dX8_nextToken_0 : decode cX8_nextToken 0 = .ok (.aload_n 0, 1) := by decide +kernel
theorem dX8_nextToken_1 : decode cX8_nextToken 1 = .ok (.aload_n 0, 1) := by decide +kernel
theorem dX8_nextToken_2 : decode cX8_nextToken 2 = .ok (.getfield 84, 3) := by decide +kernel
theorem dX8_nextToken_5 : decode cX8_nextToken 5 = .ok (.putfield 78, 3) := by decide +kernel
theorem dX8_nextToken_8 : decode cX8_nextToken 8 = .ok (.aload_n 0, 1) := by decide +kernel
theorem dX8_nextToken_9 : decode cX8_nextToken 9 = .ok (.aload_n 0, 1) := by decide +kernel
theorem dX8_nextToken_10 : decode cX8_nextToken 10 = .ok (.getfield 84, 3) := by decide +kernel
theorem dX8_nextToken_13 : decode cX8_nextToken 13 = .ok (.aload_n 0, 1) := by decide +kernel
theorem dX8_nextToken_14 : decode cX8_nextToken 14 = .ok (.getfield 71, 3) := by decide +kernel
theorem dX8_nextToken_17 : decode cX8_nextToken 17 = .ok (.if_icmp .ge 15, 3) := by decide +kernel
theorem dX8_nextToken_20 : decode cX8_nextToken 20 = .ok (.aload_n 0, 1) := by decide +kernel
theorem dX8_nextToken_21 : decode cX8_nextToken 21 = .ok (.getfield 31, 3) := by decide +kernel
theorem dX8_nextToken_24 : decode cX8_nextToken 24 = .ok (.aload_n 0, 1) := by decide +kernel
theorem dX8_nextToken_25 : decode cX8_nextToken 25 = .ok (.getfield 84, 3) := by decide +kernel
theorem dX8_nextToken_28 : decode cX8_nextToken 28 = .ok (.iaload, 1) := by decide +kernel
theorem dX8_nextToken_29 : decode cX8_nextToken 29 = .ok (.goto 5, 3) := by decide +kernel
theorem dX8_nextToken_32 : decode cX8_nextToken 32 = .ok (.ldc 87, 2) := by decide +kernel
theorem dX8_nextToken_34 : decode cX8_nextToken 34 = .ok (.putfield 88, 3) := by decide +kernel
theorem dX8_nextToken_37 : decode cX8_nextToken 37 = .ok (.aload_n 0, 1) := by decide +kernel
theorem dX8_nextToken_38 : decode cX8_nextToken 38 = .ok (.aload_n 0, 1) := by decide +kernel
theorem dX8_nextToken_39 : decode cX8_nextToken 39 = .ok (.getfield 84, 3) := by decide +kernel
theorem dX8_nextToken_42 : decode cX8_nextToken 42 = .ok (.aload_n 0, 1) := by decide +kernel
theorem dX8_nextToken_43 : decode cX8_nextToken 43 = .ok (.getfield 71, 3) := by decide +kernel
theorem dX8_nextToken_46 : decode cX8_nextToken 46 = .ok (.if_icmp .ne 7, 3) := by decide +kernel
theorem dX8_nextToken_49 : decode cX8_nextToken 49 = .ok (.iconst 1, 1) := by decide +kernel
theorem dX8_nextToken_50 : decode cX8_nextToken 50 = .ok (.goto 68, 3) := by decide +kernel
theorem dX8_nextToken_53 : decode cX8_nextToken 53 = .ok (.aload_n 0, 1) := by decide +kernel
theorem dX8_nextToken_54 : decode cX8_nextToken 54 = .ok (.getfield 88, 3) := by decide +kernel
theorem dX8_nextToken_57 : decode cX8_nextToken 57 = .ok (.i2l, 1) := by decide +kernel
theorem dX8_nextToken_58 : decode cX8_nextToken 58 = .ok (.ldc2_w 91, 3) := by decide +kernel
theorem dX8_nextToken_61 : decode cX8_nextToken 61 = .ok (.ldc2_w 93, 3) := by decide +kernel
theorem dX8_nextToken_64 : decode cX8_nextToken 64 = .ok (.invokestatic 54, 3) := by decide +kernel
theorem dX8_nextToken_67 : decode cX8_nextToken 67 = .ok (.ifCond .eq 7, 3) := by decide +kernel
theorem dX8_nextToken_70 : decode cX8_nextToken 70 = .ok (.iconst 2, 1) := by decide +kernel
theorem dX8_nextToken_71 : decode cX8_nextToken 71 = .ok (.goto 47, 3) := by decide +kernel
theorem dX8_nextToken_74 : decode cX8_nextToken 74 = .ok (.aload_n 0, 1) := by decide +kernel
theorem dX8_nextToken_75 : decode cX8_nextToken 75 = .ok (.getfield 88, 3) := by decide +kernel
theorem dX8_nextToken_78 : decode cX8_nextToken 78 = .ok (.i2l, 1) := by decide +kernel
theorem dX8_nextToken_79 : decode cX8_nextToken 79 = .ok (.ldc2_w 95, 3) := by decide +kernel
theorem dX8_nextToken_82 : decode cX8_nextToken 82 = .ok (.ldc2_w 97, 3) := by decide +kernel
theorem dX8_nextToken_85 : decode cX8_nextToken 85 = .ok (.invokestatic 54, 3) := by decide +kernel
theorem dX8_nextToken_88 : decode cX8_nextToken 88 = .ok (.ifCond .eq 7, 3) := by decide +kernel
theorem dX8_nextToken_91 : decode cX8_nextToken 91 = .ok (.iconst 3, 1) := by decide +kernel
theorem dX8_nextToken_92 : decode cX8_nextToken 92 = .ok (.goto 26, 3) := by decide +kernel
theorem dX8_nextToken_95 : decode cX8_nextToken 95 = .ok (.aload_n 0, 1) := by decide +kernel
theorem dX8_nextToken_96 : decode cX8_nextToken 96 = .ok (.getfield 88, 3) := by decide +kernel
theorem dX8_nextToken_99 : decode cX8_nextToken 99 = .ok (.bipush 44, 2) := by decide +kernel
theorem dX8_nextToken_101 : decode cX8_nextToken 101 = .ok (.if_icmp .eq 12, 3) := by decide +kernel
theorem dX8_nextToken_104 : decode cX8_nextToken 104 = .ok (.aload_n 0, 1) := by decide +kernel
theorem dX8_nextToken_105 : decode cX8_nextToken 105 = .ok (.getfield 88, 3) := by decide +kernel
theorem dX8_nextToken_108 : decode cX8_nextToken 108 = .ok (.bipush 59, 2) := by decide +kernel
theorem dX8_nextToken_110 : decode cX8_nextToken 110 = .ok (.if_icmp .ne 7, 3) := by decide +kernel
theorem dX8_nextToken_113 : decode cX8_nextToken 113 = .ok (.iconst 4, 1) := by decide +kernel
theorem dX8_nextToken_114 : decode cX8_nextToken 114 = .ok (.goto 4, 3) := by decide +kernel
theorem dX8_nextToken_117 : decode cX8_nextToken 117 = .ok (.iconst 0, 1) := by decide +kernel
theorem dX8_nextToken_118 : decode cX8_nextToken 118 = .ok (.putfield 99, 3) := by decide +kernel
theorem dX8_nextToken_121 : decode cX8_nextToken 121 = .ok (.aload_n 0, 1) := by decide +kernel
theorem dX8_nextToken_122 : decode cX8_nextToken 122 = .ok (.dup, 1) := by decide +kernel
theorem dX8_nextToken_123 : decode cX8_nextToken 123 = .ok (.getfield 84, 3) := by decide +kernel
theorem dX8_nextToken_126 : decode cX8_nextToken 126 = .ok (.aload_n 0, 1) := by decide +kernel
theorem dX8_nextToken_127 : decode cX8_nextToken 127 = .ok (.getfield 84, 3) := by decide +kernel
theorem dX8_nextToken_130 : decode cX8_nextToken 130 = .ok (.aload_n 0, 1) := by decide +kernel
theorem dX8_nextToken_131 : decode cX8_nextToken 131 = .ok (.getfield 71, 3) := by decide +kernel
theorem dX8_nextToken_134 : decode cX8_nextToken 134 = .ok (.if_icmp .ge 7, 3) := by decide +kernel
theorem dX8_nextToken_137 : decode cX8_nextToken 137 = .ok (.iconst 1, 1) := by decide +kernel
theorem dX8_nextToken_138 : decode cX8_nextToken 138 = .ok (.goto 4, 3) := by decide +kernel
theorem dX8_nextToken_141 : decode cX8_nextToken 141 = .ok (.iconst 0, 1) := by decide +kernel
theorem dX8_nextToken_142 : decode cX8_nextToken 142 = .ok (.iadd, 1) := by decide +kernel
theorem dX8_nextToken_143 : decode cX8_nextToken 143 = .ok (.putfield 84, 3) := by decide +kernel
theorem dX8_nextToken_146 : decode cX8_nextToken 146 = .ok (.aload_n 0, 1) := by decide +kernel
theorem dX8_nextToken_147 : decode cX8_nextToken 147 = .ok (.getfield 99, 3) := by decide +kernel
theorem dX8_nextToken_150 : decode cX8_nextToken 150 = .ok (.iconst 3, 1) := by decide +kernel
theorem dX8_nextToken_151 : decode cX8_nextToken 151 = .ok (.if_icmp .ne 126, 3) := by decide +kernel
theorem dX8_nextToken_154 : decode cX8_nextToken 154 = .ok (.aload_n 0, 1) := by decide +kernel
theorem dX8_nextToken_155 : decode cX8_nextToken 155 = .ok (.dup, 1) := by decide +kernel
theorem dX8_nextToken_156 : decode cX8_nextToken 156 = .ok (.getfield 88, 3) := by decide +kernel
theorem dX8_nextToken_159 : decode cX8_nextToken 159 = .ok (.bipush 48, 2) := by decide +kernel
theorem dX8_nextToken_161 : decode cX8_nextToken 161 = .ok (.isub, 1) := by decide +kernel
theorem dX8_nextToken_162 : decode cX8_nextToken 162 = .ok (.putfield 88, 3) := by decide +kernel
theorem dX8_nextToken_165 : decode cX8_nextToken 165 = .ok (.aload_n 0, 1) := by decide +kernel
theorem dX8_nextToken_166 : decode cX8_nextToken 166 = .ok (.getfield 84, 3) := by decide +kernel
theorem dX8_nextToken_169 : decode cX8_nextToken 169 = .ok (.aload_n 0, 1) := by decide +kernel
theorem dX8_nextToken_170 : decode cX8_nextToken 170 = .ok (.getfield 71, 3) := by decide +kernel
theorem dX8_nextToken_173 : decode cX8_nextToken 173 = .ok (.if_icmp .ge 82, 3) := by decide +kernel
theorem dX8_nextToken_176 : decode cX8_nextToken 176 = .ok (.aload_n 0, 1) := by decide +kernel
theorem dX8_nextToken_177 : decode cX8_nextToken 177 = .ok (.getfield 31, 3) := by decide +kernel
theorem dX8_nextToken_180 : decode cX8_nextToken 180 = .ok (.aload_n 0, 1) := by decide +kernel
theorem dX8_nextToken_181 : decode cX8_nextToken 181 = .ok (.getfield 84, 3) := by decide +kernel
