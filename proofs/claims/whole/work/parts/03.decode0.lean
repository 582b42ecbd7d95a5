theorem dX0_init_0 : decode cX0_init 0 = .ok (.aload_n 0, 1) := by decide +kernel
theorem dX0_init_1 : decode cX0_init 1 = .ok (.invokespecial 3, 3) := by decide +kernel
theorem dX0_init_4 : decode cX0_init 4 = .ok (.aload_n 0, 1) := by decide +kernel
theorem dX0_init_5 : decode cX0_init 5 = .ok (.bipush 24, 2) := by decide +kernel
theorem dX0_init_7 : decode cX0_init 7 = .ok (.anewarray 9, 3) := by decide +kernel
theorem dX0_init_10 : decode cX0_init 10 = .ok (.putfield 11, 3) := by decide +kernel
theorem dX0_init_13 : decode cX0_init 13 = .ok (.iconst 0, 1) := by decide +kernel
theorem dX0_init_14 : decode cX0_init 14 = .ok (.istore_n 1, 1) := by decide +kernel
theorem dX0_init_15 : decode cX0_init 15 = .ok (.iload_n 1, 1) := by decide +kernel
theorem dX0_init_16 : decode cX0_init 16 = .ok (.bipush 24, 2) := by decide +kernel
theorem dX0_init_18 : decode cX0_init 18 = .ok (.if_icmp .ge 22, 3) := by decide +kernel
theorem dX0_init_21 : decode cX0_init 21 = .ok (.aload_n 0, 1) := by decide +kernel
theorem dX0_init_22 : decode cX0_init 22 = .ok (.getfield 11, 3) := by decide +kernel
theorem dX0_init_25 : decode cX0_init 25 = .ok (.iload_n 1, 1) := by decide +kernel
theorem dX0_init_26 : decode cX0_init 26 = .ok (.new 9, 3) := by decide +kernel
theorem dX0_init_29 : decode cX0_init 29 = .ok (.dup, 1) := by decide +kernel
theorem dX0_init_30 : decode cX0_init 30 = .ok (.invokespecial 17, 3) := by decide +kernel
theorem dX0_init_33 : decode cX0_init 33 = .ok (.aastore, 1) := by decide +kernel
theorem dX0_init_34 : decode cX0_init 34 = .ok (.iinc 1 1, 3) := by decide +kernel
theorem dX0_init_37 : decode cX0_init 37 = .ok (.goto (-22), 3) := by decide +kernel
theorem dX0_init_40 : decode cX0_init 40 = .ok (.return_, 1) := by decide +kernel
theorem dX0_forget_0 : decode cX0_forget 0 = .ok (.aload_n 0, 1) := by decide +kernel
theorem dX0_forget_1 : decode cX0_forget 1 = .ok (.iconst 0, 1) := by decide +kernel
theorem dX0_forget_2 : decode cX0_forget 2 = .ok (.putfield 18, 3) := by decide +kernel
theorem dX0_forget_5 : decode cX0_forget 5 = .ok (.return_, 1) := by decide +kernel
theorem dX0_remember_0 : decode cX0_remember 0 = .ok (.aload_n 0, 1) := by decide +kernel
theorem dX0_remember_1 : decode cX0_remember 1 = .ok (.getfield 11, 3) := by decide +kernel
theorem dX0_remember_4 : decode cX0_remember 4 = .ok (.aload_n 0, 1) := by decide +kernel
theorem dX0_remember_5 : decode cX0_remember 5 = .ok (.getfield 22, 3) := by decide +kernel
theorem dX0_remember_8 : decode cX0_remember 8 = .ok (.aload_n 0, 1) := by decide +kernel
theorem dX0_remember_9 : decode cX0_remember 9 = .ok (.getfield 18, 3) := by decide +kernel
theorem dX0_remember_12 : decode cX0_remember 12 = .ok (.iadd, 1) := by decide +kernel
theorem dX0_remember_13 : decode cX0_remember 13 = .ok (.bipush 24, 2) := by decide +kernel
theorem dX0_remember_15 : decode cX0_remember 15 = .ok (.irem, 1) := by decide +kernel
theorem dX0_remember_16 : decode cX0_remember 16 = .ok (.aaload, 1) := by decide +kernel
theorem dX0_remember_17 : decode cX0_remember 17 = .ok (.aload_n 1, 1) := by decide +kernel
theorem dX0_remember_18 : decode cX0_remember 18 = .ok (.invokevirtual 25, 3) := by decide +kernel
theorem dX0_remember_21 : decode cX0_remember 21 = .ok (.aload_n 0, 1) := by decide +kernel
theorem dX0_remember_22 : decode cX0_remember 22 = .ok (.getfield 18, 3) := by decide +kernel
theorem dX0_remember_25 : decode cX0_remember 25 = .ok (.bipush 24, 2) := by decide +kernel
theorem dX0_remember_27 : decode cX0_remember 27 = .ok (.if_icmp .ge 16, 3) := by decide +kernel
theorem dX0_remember_30 : decode cX0_remember 30 = .ok (.aload_n 0, 1) := by decide +kernel
theorem dX0_remember_31 : decode cX0_remember 31 = .ok (.dup, 1) := by decide +kernel
theorem dX0_remember_32 : decode cX0_remember 32 = .ok (.getfield 18, 3) := by decide +kernel
theorem dX0_remember_35 : decode cX0_remember 35 = .ok (.iconst 1, 1) := by decide +kernel
theorem dX0_remember_36 : decode cX0_remember 36 = .ok (.iadd, 1) := by decide +kernel
theorem dX0_remember_37 : decode cX0_remember 37 = .ok (.putfield 18, 3) := by decide +kernel
theorem dX0_remember_40 : decode cX0_remember 40 = .ok (.goto 16, 3) := by decide +kernel
theorem dX0_remember_43 : decode cX0_remember 43 = .ok (.aload_n 0, 1) := by decide +kernel
theorem dX0_remember_44 : decode cX0_remember 44 = .ok (.aload_n 0, 1) := by decide +kernel
theorem dX0_remember_45 : decode cX0_remember 45 = .ok (.getfield 22, 3) := by decide +kernel
theorem dX0_remember_48 : decode cX0_remember 48 = .ok (.iconst 1, 1) := by decide +kernel
theorem dX0_remember_49 : decode cX0_remember 49 = .ok (.iadd, 1) := by decide +kernel
theorem dX0_remember_50 : decode cX0_remember 50 = .ok (.bipush 24, 2) := by decide +kernel
theorem dX0_remember_52 : decode cX0_remember 52 = .ok (.irem, 1) := by decide +kernel
theorem dX0_remember_53 : decode cX0_remember 53 = .ok (.putfield 22, 3) := by decide +kernel
theorem dX0_remember_56 : decode cX0_remember 56 = .ok (.return_, 1) := by decide +kernel
theorem dX0_takeBack_0 : decode cX0_takeBack 0 = .ok (.aload_n 0, 1) := by decide +kernel
theorem dX0_takeBack_1 : decode cX0_takeBack 1 = .ok (.getfield 18, 3) := by decide +kernel
theorem dX0_takeBack_4 : decode cX0_takeBack 4 = .ok (.ifCond .ne 5, 3) := by decide +kernel
theorem dX0_takeBack_7 : decode cX0_takeBack 7 = .ok (.iconst 0, 1) := by decide +kernel
theorem dX0_takeBack_8 : decode cX0_takeBack 8 = .ok (.ireturn, 1) := by decide +kernel
theorem dX0_takeBack_9 : decode cX0_takeBack 9 = .ok (.aload_n 0, 1) := by decide +kernel
theorem dX0_takeBack_10 : decode cX0_takeBack 10 = .ok (.dup, 1) := by decide +kernel
theorem dX0_takeBack_11 : decode cX0_takeBack 11 = .ok (.getfield 18, 3) := by decide +kernel
theorem dX0_takeBack_14 : decode cX0_takeBack 14 = .ok (.iconst 1, 1) := by decide +kernel
theorem dX0_takeBack_15 : decode cX0_takeBack 15 = .ok (.isub, 1) := by decide +kernel
theorem dX0_takeBack_16 : decode cX0_takeBack 16 = .ok (.putfield 18, 3) := by decide +kernel
theorem dX0_takeBack_19 : decode cX0_takeBack 19 = .ok (.aload_n 1, 1) := by decide +kernel
theorem dX0_takeBack_20 : decode cX0_takeBack 20 = .ok (.aload_n 0, 1) := by decide +kernel
theorem dX0_takeBack_21 : decode cX0_takeBack 21 = .ok (.getfield 11, 3) := by decide +kernel
theorem dX0_takeBack_24 : decode cX0_takeBack 24 = .ok (.aload_n 0, 1) := by decide +kernel
theorem dX0_takeBack_25 : decode cX0_takeBack 25 = .ok (.getfield 22, 3) := by decide +kernel
theorem dX0_takeBack_28 : decode cX0_takeBack 28 = .ok (.aload_n 0, 1) := by decide +kernel
theorem dX0_takeBack_29 : decode cX0_takeBack 29 = .ok (.getfield 18, 3) := by decide +kernel
theorem dX0_takeBack_32 : decode cX0_takeBack 32 = .ok (.iadd, 1) := by decide +kernel
theorem dX0_takeBack_33 : decode cX0_takeBack 33 = .ok (.bipush 24, 2) := by decide +kernel
theorem dX0_takeBack_35 : decode cX0_takeBack 35 = .ok (.irem, 1) := by decide +kernel
theorem dX0_takeBack_36 : decode cX0_takeBack 36 = .ok (.aaload, 1) := by decide +kernel
theorem dX0_takeBack_37 : decode cX0_takeBack 37 = .ok (.invokevirtual 25, 3) := by decide +kernel
theorem dX0_takeBack_40 : decode cX0_takeBack 40 = .ok (.iconst 1, 1) := by decide +kernel
theorem dX0_takeBack_41 : decode cX0_takeBack 41 = .ok (.ireturn, 1) := by decide +kernel
theorem dX1_init_0 : decode cX1_init 0 = .ok (.aload_n 0, 1) := by decide +kernel
theorem dX1_init_1 : decode cX1_init 1 = .ok (.invokespecial 3, 3) := by decide +kernel
theorem dX1_init_4 : decode cX1_init 4 = .ok (.aload_n 0, 1) := by decide +kernel
theorem dX1_init_5 : decode cX1_init 5 = .ok (.bipush 16, 2) := by decide +kernel
theorem dX1_init_7 : decode cX1_init 7 = .ok (.newarray .int, 2) := by decide +kernel
theorem dX1_init_9 : decode cX1_init 9 = .ok (.putfield 9, 3) := by decide +kernel
theorem dX1_init_12 : decode cX1_init 12 = .ok (.return_, 1) := by decide +kernel
theorem dX1_begin_0 : decode cX1_begin 0 = .ok (.aload_n 0, 1) := by decide +kernel
theorem dX1_begin_1 : decode cX1_begin 1 = .ok (.iconst 0, 1) := by decide +kernel
theorem dX1_begin_2 : decode cX1_begin 2 = .ok (.putfield 15, 3) := by decide +kernel
theorem dX1_begin_5 : decode cX1_begin 5 = .ok (.aload_n 0, 1) := by decide +kernel
theorem dX1_begin_6 : decode cX1_begin 6 = .ok (.iload_n 2, 1) := by decide +kernel
theorem dX1_begin_7 : decode cX1_begin 7 = .ok (.putfield 19, 3) := by decide +kernel
theorem dX1_begin_10 : decode cX1_begin 10 = .ok (.aload_n 0, 1) := by decide +kernel
theorem dX1_begin_11 : decode cX1_begin 11 = .ok (.aload_n 1, 1) := by decide +kernel
theorem dX1_begin_12 : decode cX1_begin 12 = .ok (.getfield 22, 3) := by decide +kernel
theorem dX1_begin_15 : decode cX1_begin 15 = .ok (.iload_n 2, 1) := by decide +kernel
theorem dX1_begin_16 : decode cX1_begin 16 = .ok (.iaload, 1) := by decide +kernel
theorem dX1_begin_17 : decode cX1_begin 17 = .ok (.putfield 27, 3) := by decide +kernel
theorem dX1_begin_20 : decode cX1_begin 20 = .ok (.aload_n 0, 1) := by decide +kernel
theorem dX1_begin_21 : decode cX1_begin 21 = .ok (.aload_n 1, 1) := by decide +kernel
theorem dX1_begin_22 : decode cX1_begin 22 = .ok (.getfield 29, 3) := by decide +kernel
theorem dX1_begin_25 : decode cX1_begin 25 = .ok (.iload_n 2, 1) := by decide +kernel
theorem dX1_begin_26 : decode cX1_begin 26 = .ok (.iaload, 1) := by decide +kernel
theorem dX1_begin_27 : decode cX1_begin 27 = .ok (.putfield 32, 3) := by decide +kernel
theorem dX1_begin_30 : decode cX1_begin 30 = .ok (.aload_n 0, 1) := by decide +kernel
theorem dX1_begin_31 : decode cX1_begin 31 = .ok (.aload_n 1, 1) := by decide +kernel
theorem dX1_begin_32 : decode cX1_begin 32 = .ok (.getfield 34, 3) := by decide +kernel
theorem dX1_begin_35 : decode cX1_begin 35 = .ok (.iload_n 2, 1) := by decide +kernel
theorem dX1_begin_36 : decode cX1_begin 36 = .ok (.iaload, 1) := by decide +kernel
theorem dX1_begin_37 : decode cX1_begin 37 = .ok (.putfield 37, 3) := by decide +kernel
theorem dX1_begin_40 : decode cX1_begin 40 = .ok (.return_, 1) := by decide +kernel
theorem dX1_leave_0 : decode cX1_leave 0 = .ok (.aload_n 0, 1) := by decide +kernel
theorem dX1_leave_1 : decode cX1_leave 1 = .ok (.getfield 15, 3) := by decide +kernel
theorem dX1_leave_4 : decode cX1_leave 4 = .ok (.bipush 16, 2) := by decide +kernel
theorem dX1_leave_6 : decode cX1_leave 6 = .ok (.if_icmp .ge 23, 3) := by decide +kernel
theorem dX1_leave_9 : decode cX1_leave 9 = .ok (.aload_n 0, 1) := by decide +kernel
theorem dX1_leave_10 : decode cX1_leave 10 = .ok (.getfield 9, 3) := by decide +kernel
theorem dX1_leave_13 : decode cX1_leave 13 = .ok (.aload_n 0, 1) := by decide +kernel
theorem dX1_leave_14 : decode cX1_leave 14 = .ok (.getfield 15, 3) := by decide +kernel
theorem dX1_leave_17 : decode cX1_leave 17 = .ok (.iload_n 1, 1) := by decide +kernel
theorem dX1_leave_18 : decode cX1_leave 18 = .ok (.iastore, 1) := by decide +kernel
theorem dX1_leave_19 : decode cX1_leave 19 = .ok (.aload_n 0, 1) := by decide +kernel
theorem dX1_leave_20 : decode cX1_leave 20 = .ok (.dup, 1) := by decide +kernel
theorem dX1_leave_21 : decode cX1_leave 21 = .ok (.getfield 15, 3) := by decide +kernel
theorem dX1_leave_24 : decode cX1_leave 24 = .ok (.iconst 1, 1) := by decide +kernel
theorem dX1_leave_25 : decode cX1_leave 25 = .ok (.iadd, 1) := by decide +kernel
theorem dX1_leave_26 : decode cX1_leave 26 = .ok (.putfield 15, 3) := by decide +kernel
theorem dX1_leave_29 : decode cX1_leave 29 = .ok (.return_, 1) := by decide +kernel
theorem dX1_size_0 : decode cX1_size 0 = .ok (.aload_n 0, 1) := by decide +kernel
theorem dX1_size_1 : decode cX1_size 1 = .ok (.getfield 27, 3) := by decide +kernel
theorem dX1_size_4 : decode cX1_size 4 = .ok (.tableswitch 59 1 5 #[36, 41, 36, 54, 54], 36) := by decide +kernel
theorem dX1_size_40 : decode cX1_size 40 = .ok (.aload_n 0, 1) := by decide +kernel
theorem dX1_size_41 : decode cX1_size 41 = .ok (.invokevirtual 39, 3) := by decide +kernel
theorem dX1_size_44 : decode cX1_size 44 = .ok (.ireturn, 1) := by decide +kernel
theorem dX1_size_45 : decode cX1_size 45 = .ok (.aload_n 0, 1) := by decide +kernel
theorem dX1_size_46 : decode cX1_size 46 = .ok (.bipush 12, 2) := by decide +kernel
theorem dX1_size_48 : decode cX1_size 48 = .ok (.invokevirtual 43, 3) := by decide +kernel
theorem dX1_size_51 : decode cX1_size 51 = .ok (.iconst 0, 1) := by decide +kernel
theorem dX1_size_52 : decode cX1_size 52 = .ok (.aload_n 0, 1) := by decide +kernel
theorem dX1_size_53 : decode cX1_size 53 = .ok (.invokevirtual 39, 3) := by decide +kernel
theorem dX1_size_56 : decode cX1_size 56 = .ok (.isub, 1) := by decide +kernel
theorem dX1_size_57 : decode cX1_size 57 = .ok (.ireturn, 1) := by decide +kernel
theorem dX1_size_58 : decode cX1_size 58 = .ok (.aload_n 0, 1) := by decide +kernel
theorem dX1_size_59 : decode cX1_size 59 = .ok (.invokevirtual 47, 3) := by decide +kernel
theorem dX1_size_62 : decode cX1_size 62 = .ok (.ireturn, 1) := by decide +kernel
theorem dX1_size_63 : decode cX1_size 63 = .ok (.aload_n 0, 1) := by decide +kernel
theorem dX1_size_64 : decode cX1_size 64 = .ok (.invokevirtual 50, 3) := by decide +kernel
theorem dX1_size_67 : decode cX1_size 67 = .ok (.ireturn, 1) := by decide +kernel
theorem dX1_mark_0 : decode cX1_mark 0 = .ok (.aload_n 0, 1) := by decide +kernel
theorem dX1_mark_1 : decode cX1_mark 1 = .ok (.getfield 27, 3) := by decide +kernel
theorem dX1_mark_4 : decode cX1_mark 4 = .ok (.tableswitch 57 1 5 #[36, 36, 36, 41, 41], 36) := by decide +kernel
theorem dX1_mark_40 : decode cX1_mark 40 = .ok (.aload_n 0, 1) := by decide +kernel
theorem dX1_mark_41 : decode cX1_mark 41 = .ok (.invokevirtual 53, 3) := by decide +kernel
theorem dX1_mark_44 : decode cX1_mark 44 = .ok (.ireturn, 1) := by decide +kernel
theorem dX1_mark_45 : decode cX1_mark 45 = .ok (.aload_n 0, 1) := by decide +kernel
theorem dX1_mark_46 : decode cX1_mark 46 = .ok (.bipush 23, 2) := by decide +kernel
theorem dX1_mark_48 : decode cX1_mark 48 = .ok (.invokevirtual 43, 3) := by decide +kernel
theorem dX1_mark_51 : decode cX1_mark 51 = .ok (.aload_n 0, 1) := by decide +kernel
theorem dX1_mark_52 : decode cX1_mark 52 = .ok (.invokevirtual 56, 3) := by decide +kernel
theorem dX1_mark_55 : decode cX1_mark 55 = .ok (.aload_n 0, 1) := by decide +kernel
theorem dX1_mark_56 : decode cX1_mark 56 = .ok (.invokevirtual 47, 3) := by decide +kernel
theorem dX1_mark_59 : decode cX1_mark 59 = .ok (.isub, 1) := by decide +kernel
theorem dX1_mark_60 : decode cX1_mark 60 = .ok (.ireturn, 1) := by decide +kernel
theorem dX1_mark_61 : decode cX1_mark 61 = .ok (.aload_n 0, 1) := by decide +kernel
theorem dX1_mark_62 : decode cX1_mark 62 = .ok (.invokevirtual 56, 3) := by decide +kernel
theorem dX1_mark_65 : decode cX1_mark 65 = .ok (.ireturn, 1) := by decide +kernel
theorem dX1_markAmongWalkers_0 : decode cX1_markAmongWalkers 0 = .ok (.aload_n 0, 1) := by decide +kernel
theorem dX1_markAmongWalkers_1 : decode cX1_markAmongWalkers 1 = .ok (.getfield 27, 3) := by decide +kernel
theorem dX1_markAmongWalkers_4 : decode cX1_markAmongWalkers 4 = .ok (.lookupswitch 56 #[(2, 43), (3, 28)], 28) := by decide +kernel
theorem dX1_markAmongWalkers_32 : decode cX1_markAmongWalkers 32 = .ok (.aload_n 0, 1) := by decide +kernel
theorem dX1_markAmongWalkers_33 : decode cX1_markAmongWalkers 33 = .ok (.bipush 22, 2) := by decide +kernel
theorem dX1_markAmongWalkers_35 : decode cX1_markAmongWalkers 35 = .ok (.invokevirtual 43, 3) := by decide +kernel
theorem dX1_markAmongWalkers_38 : decode cX1_markAmongWalkers 38 = .ok (.aload_n 0, 1) := by decide +kernel
theorem dX1_markAmongWalkers_39 : decode cX1_markAmongWalkers 39 = .ok (.invokevirtual 59, 3) := by decide +kernel
theorem dX1_markAmongWalkers_42 : decode cX1_markAmongWalkers 42 = .ok (.sipush 1000, 3) := by decide +kernel
theorem dX1_markAmongWalkers_45 : decode cX1_markAmongWalkers 45 = .ok (.isub, 1) := by decide +kernel
theorem dX1_markAmongWalkers_46 : decode cX1_markAmongWalkers 46 = .ok (.ireturn, 1) := by decide +kernel
theorem dX1_markAmongWalkers_47 : decode cX1_markAmongWalkers 47 = .ok (.aload_n 0, 1) := by decide +kernel
theorem dX1_markAmongWalkers_48 : decode cX1_markAmongWalkers 48 = .ok (.bipush 24, 2) := by decide +kernel
theorem dX1_markAmongWalkers_50 : decode cX1_markAmongWalkers 50 = .ok (.invokevirtual 43, 3) := by decide +kernel
theorem dX1_markAmongWalkers_53 : decode cX1_markAmongWalkers 53 = .ok (.iconst 2, 1) := by decide +kernel
theorem dX1_markAmongWalkers_54 : decode cX1_markAmongWalkers 54 = .ok (.aload_n 0, 1) := by decide +kernel
theorem dX1_markAmongWalkers_55 : decode cX1_markAmongWalkers 55 = .ok (.invokevirtual 59, 3) := by decide +kernel
theorem dX1_markAmongWalkers_58 : decode cX1_markAmongWalkers 58 = .ok (.imul, 1) := by decide +kernel
theorem dX1_markAmongWalkers_59 : decode cX1_markAmongWalkers 59 = .ok (.ireturn, 1) := by decide +kernel
theorem dX1_markAmongWalkers_60 : decode cX1_markAmongWalkers 60 = .ok (.aload_n 0, 1) := by decide +kernel
theorem dX1_markAmongWalkers_61 : decode cX1_markAmongWalkers 61 = .ok (.invokevirtual 59, 3) := by decide +kernel
theorem dX1_markAmongWalkers_64 : decode cX1_markAmongWalkers 64 = .ok (.ireturn, 1) := by decide +kernel
theorem dX1_sizeAmongStayers_0 : decode cX1_sizeAmongStayers 0 = .ok (.aload_n 0, 1) := by decide +kernel
theorem dX1_sizeAmongStayers_1 : decode cX1_sizeAmongStayers 1 = .ok (.getfield 27, 3) := by decide +kernel
theorem dX1_sizeAmongStayers_4 : decode cX1_sizeAmongStayers 4 = .ok (.iconst 5, 1) := by decide +kernel
theorem dX1_sizeAmongStayers_5 : decode cX1_sizeAmongStayers 5 = .ok (.if_icmp .ne 16, 3) := by decide +kernel
theorem dX1_sizeAmongStayers_8 : decode cX1_sizeAmongStayers 8 = .ok (.aload_n 0, 1) := by decide +kernel
theorem dX1_sizeAmongStayers_9 : decode cX1_sizeAmongStayers 9 = .ok (.bipush 14, 2) := by decide +kernel
theorem dX1_sizeAmongStayers_11 : decode cX1_sizeAmongStayers 11 = .ok (.invokevirtual 43, 3) := by decide +kernel
theorem dX1_sizeAmongStayers_14 : decode cX1_sizeAmongStayers 14 = .ok (.iconst 2, 1) := by decide +kernel
theorem dX1_sizeAmongStayers_15 : decode cX1_sizeAmongStayers 15 = .ok (.aload_n 0, 1) := by decide +kernel
theorem dX1_sizeAmongStayers_16 : decode cX1_sizeAmongStayers 16 = .ok (.invokevirtual 62, 3) := by decide +kernel
theorem dX1_sizeAmongStayers_19 : decode cX1_sizeAmongStayers 19 = .ok (.imul, 1) := by decide +kernel
theorem dX1_sizeAmongStayers_20 : decode cX1_sizeAmongStayers 20 = .ok (.ireturn, 1) := by decide +kernel
theorem dX1_sizeAmongStayers_21 : decode cX1_sizeAmongStayers 21 = .ok (.aload_n 0, 1) := by decide +kernel
theorem dX1_sizeAmongStayers_22 : decode cX1_sizeAmongStayers 22 = .ok (.invokevirtual 62, 3) := by decide +kernel
theorem dX1_sizeAmongStayers_25 : decode cX1_sizeAmongStayers 25 = .ok (.ireturn, 1) := by decide +kernel
theorem dX1_lentSize_0 : decode cX1_lentSize 0 = .ok (.aload_n 0, 1) := by decide +kernel
theorem dX1_lentSize_1 : decode cX1_lentSize 1 = .ok (.bipush 10, 2) := by decide +kernel
theorem dX1_lentSize_3 : decode cX1_lentSize 3 = .ok (.invokevirtual 43, 3) := by decide +kernel
theorem dX1_lentSize_6 : decode cX1_lentSize 6 = .ok (.aload_n 0, 1) := by decide +kernel
theorem dX1_lentSize_7 : decode cX1_lentSize 7 = .ok (.getfield 32, 3) := by decide +kernel
theorem dX1_lentSize_10 : decode cX1_lentSize 10 = .ok (.ireturn, 1) := by decide +kernel
theorem dX1_sizeOfWalker_0 : decode cX1_sizeOfWalker 0 = .ok (.aload_n 0, 1) := by decide +kernel
theorem dX1_sizeOfWalker_1 : decode cX1_sizeOfWalker 1 = .ok (.bipush 11, 2) := by decide +kernel
theorem dX1_sizeOfWalker_3 : decode cX1_sizeOfWalker 3 = .ok (.invokevirtual 43, 3) := by decide +kernel
theorem dX1_sizeOfWalker_6 : decode cX1_sizeOfWalker 6 = .ok (.aload_n 0, 1) := by decide +kernel
theorem dX1_sizeOfWalker_7 : decode cX1_sizeOfWalker 7 = .ok (.invokevirtual 50, 3) := by decide +kernel
theorem dX1_sizeOfWalker_10 : decode cX1_sizeOfWalker 10 = .ok (.aload_n 0, 1) := by decide +kernel
theorem dX1_sizeOfWalker_11 : decode cX1_sizeOfWalker 11 = .ok (.invokevirtual 53, 3) := by decide +kernel
theorem dX1_sizeOfWalker_14 : decode cX1_sizeOfWalker 14 = .ok (.iadd, 1) := by decide +kernel
theorem dX1_sizeOfWalker_15 : decode cX1_sizeOfWalker 15 = .ok (.ireturn, 1) := by decide +kernel
theorem dX1_sizeOfStayer_0 : decode cX1_sizeOfStayer 0 = .ok (.aload_n 0, 1) := by decide +kernel
theorem dX1_sizeOfStayer_1 : decode cX1_sizeOfStayer 1 = .ok (.bipush 13, 2) := by decide +kernel
theorem dX1_sizeOfStayer_3 : decode cX1_sizeOfStayer 3 = .ok (.invokevirtual 43, 3) := by decide +kernel
theorem dX1_sizeOfStayer_6 : decode cX1_sizeOfStayer 6 = .ok (.aload_n 0, 1) := by decide +kernel
theorem dX1_sizeOfStayer_7 : decode cX1_sizeOfStayer 7 = .ok (.invokevirtual 50, 3) := by decide +kernel
theorem dX1_sizeOfStayer_10 : decode cX1_sizeOfStayer 10 = .ok (.bipush 100, 2) := by decide +kernel
theorem dX1_sizeOfStayer_12 : decode cX1_sizeOfStayer 12 = .ok (.isub, 1) := by decide +kernel
theorem dX1_sizeOfStayer_13 : decode cX1_sizeOfStayer 13 = .ok (.ireturn, 1) := by decide +kernel
theorem dX1_lentMark_0 : decode cX1_lentMark 0 = .ok (.aload_n 0, 1) := by decide +kernel
theorem dX1_lentMark_1 : decode cX1_lentMark 1 = .ok (.bipush 20, 2) := by decide +kernel
theorem dX1_lentMark_3 : decode cX1_lentMark 3 = .ok (.invokevirtual 43, 3) := by decide +kernel
theorem dX1_lentMark_6 : decode cX1_lentMark 6 = .ok (.aload_n 0, 1) := by decide +kernel
theorem dX1_lentMark_7 : decode cX1_lentMark 7 = .ok (.getfield 19, 3) := by decide +kernel
theorem dX1_lentMark_10 : decode cX1_lentMark 10 = .ok (.ireturn, 1) := by decide +kernel
theorem dX1_markOfWalker_0 : decode cX1_markOfWalker 0 = .ok (.aload_n 0, 1) := by decide +kernel
theorem dX1_markOfWalker_1 : decode cX1_markOfWalker 1 = .ok (.bipush 21, 2) := by decide +kernel
theorem dX1_markOfWalker_3 : decode cX1_markOfWalker 3 = .ok (.invokevirtual 43, 3) := by decide +kernel
theorem dX1_markOfWalker_6 : decode cX1_markOfWalker 6 = .ok (.aload_n 0, 1) := by decide +kernel
theorem dX1_markOfWalker_7 : decode cX1_markOfWalker 7 = .ok (.invokevirtual 56, 3) := by decide +kernel
theorem dX1_markOfWalker_10 : decode cX1_markOfWalker 10 = .ok (.aload_n 0, 1) := by decide +kernel
theorem dX1_markOfWalker_11 : decode cX1_markOfWalker 11 = .ok (.getfield 37, 3) := by decide +kernel
theorem dX1_markOfWalker_14 : decode cX1_markOfWalker 14 = .ok (.iadd, 1) := by decide +kernel
theorem dX1_markOfWalker_15 : decode cX1_markOfWalker 15 = .ok (.ireturn, 1) := by decide +kernel
theorem dX2_init_0 : decode cX2_init 0 = .ok (.aload_n 0, 1) := by decide +kernel
theorem dX2_init_1 : decode cX2_init 1 = .ok (.invokespecial 3, 3) := by decide +kernel
theorem dX2_init_4 : decode cX2_init 4 = .ok (.return_, 1) := by decide +kernel
theorem dX2_begin_0 : decode cX2_begin 0 = .ok (.aload_n 0, 1) := by decide +kernel
theorem dX2_begin_1 : decode cX2_begin 1 = .ok (.aload_n 1, 1) := by decide +kernel
theorem dX2_begin_2 : decode cX2_begin 2 = .ok (.getfield 9, 3) := by decide +kernel
theorem dX2_begin_5 : decode cX2_begin 5 = .ok (.putfield 15, 3) := by decide +kernel
theorem dX2_begin_8 : decode cX2_begin 8 = .ok (.aload_n 0, 1) := by decide +kernel
theorem dX2_begin_9 : decode cX2_begin 9 = .ok (.aload_n 1, 1) := by decide +kernel
theorem dX2_begin_10 : decode cX2_begin 10 = .ok (.getfield 18, 3) := by decide +kernel
theorem dX2_begin_13 : decode cX2_begin 13 = .ok (.putfield 21, 3) := by decide +kernel
theorem dX2_begin_16 : decode cX2_begin 16 = .ok (.aload_n 0, 1) := by decide +kernel
theorem dX2_begin_17 : decode cX2_begin 17 = .ok (.aload_n 1, 1) := by decide +kernel
theorem dX2_begin_18 : decode cX2_begin 18 = .ok (.getfield 22, 3) := by decide +kernel
theorem dX2_begin_21 : decode cX2_begin 21 = .ok (.putfield 25, 3) := by decide +kernel
theorem dX2_begin_24 : decode cX2_begin 24 = .ok (.aload_n 0, 1) := by decide +kernel
theorem dX2_begin_25 : decode cX2_begin 25 = .ok (.aload_n 1, 1) := by decide +kernel
theorem dX2_begin_26 : decode cX2_begin 26 = .ok (.getfield 26, 3) := by decide +kernel
theorem dX2_begin_29 : decode cX2_begin 29 = .ok (.iload_n 2, 1) := by decide +kernel
theorem dX2_begin_30 : decode cX2_begin 30 = .ok (.iaload, 1) := by decide +kernel
theorem dX2_begin_31 : decode cX2_begin 31 = .ok (.putfield 30, 3) := by decide +kernel
theorem dX2_begin_34 : decode cX2_begin 34 = .ok (.aload_n 0, 1) := by decide +kernel
theorem dX2_begin_35 : decode cX2_begin 35 = .ok (.aload_n 1, 1) := by decide +kernel
theorem dX2_begin_36 : decode cX2_begin 36 = .ok (.getfield 32, 3) := by decide +kernel
theorem dX2_begin_39 : decode cX2_begin 39 = .ok (.iload_n 2, 1) := by decide +kernel
theorem dX2_begin_40 : decode cX2_begin 40 = .ok (.iaload, 1) := by decide +kernel
theorem dX2_begin_41 : decode cX2_begin 41 = .ok (.putfield 35, 3) := by decide +kernel
theorem dX2_begin_44 : decode cX2_begin 44 = .ok (.aload_n 0, 1) := by decide +kernel
theorem dX2_begin_45 : decode cX2_begin 45 = .ok (.aload_n 1, 1) := by decide +kernel
theorem dX2_begin_46 : decode cX2_begin 46 = .ok (.getfield 37, 3) := by decide +kernel
theorem dX2_begin_49 : decode cX2_begin 49 = .ok (.iload_n 2, 1) := by decide +kernel
theorem dX2_begin_50 : decode cX2_begin 50 = .ok (.iaload, 1) := by decide +kernel
theorem dX2_begin_51 : decode cX2_begin 51 = .ok (.putfield 40, 3) := by decide +kernel
theorem dX2_begin_54 : decode cX2_begin 54 = .ok (.aload_n 0, 1) := by decide +kernel
theorem dX2_begin_55 : decode cX2_begin 55 = .ok (.aload_n 1, 1) := by decide +kernel
theorem dX2_begin_56 : decode cX2_begin 56 = .ok (.getfield 42, 3) := by decide +kernel
theorem dX2_begin_59 : decode cX2_begin 59 = .ok (.iload_n 2, 1) := by decide +kernel
theorem dX2_begin_60 : decode cX2_begin 60 = .ok (.iaload, 1) := by decide +kernel
theorem dX2_begin_61 : decode cX2_begin 61 = .ok (.putfield 45, 3) := by decide +kernel
theorem dX2_begin_64 : decode cX2_begin 64 = .ok (.aload_n 0, 1) := by decide +kernel
theorem dX2_begin_65 : decode cX2_begin 65 = .ok (.aload_n 1, 1) := by decide +kernel
theorem dX2_begin_66 : decode cX2_begin 66 = .ok (.iload_n 2, 1) := by decide +kernel
theorem dX2_begin_67 : decode cX2_begin 67 = .ok (.invokevirtual 47, 3) := by decide +kernel
theorem dX2_begin_70 : decode cX2_begin 70 = .ok (.putfield 51, 3) := by decide +kernel
theorem dX2_begin_73 : decode cX2_begin 73 = .ok (.aload_n 0, 1) := by decide +kernel
theorem dX2_begin_74 : decode cX2_begin 74 = .ok (.aload_n 1, 1) := by decide +kernel
theorem dX2_begin_75 : decode cX2_begin 75 = .ok (.aload_n 1, 1) := by decide +kernel
theorem dX2_begin_76 : decode cX2_begin 76 = .ok (.getfield 55, 3) := by decide +kernel
theorem dX2_begin_79 : decode cX2_begin 79 = .ok (.iload_n 2, 1) := by decide +kernel
theorem dX2_begin_80 : decode cX2_begin 80 = .ok (.iaload, 1) := by decide +kernel
theorem dX2_begin_81 : decode cX2_begin 81 = .ok (.invokevirtual 58, 3) := by decide +kernel
theorem dX2_begin_84 : decode cX2_begin 84 = .ok (.return_, 1) := by decide +kernel
theorem dX2_callAfter_0 : decode cX2_callAfter 0 = .ok (.aload_n 0, 1) := by decide +kernel
theorem dX2_callAfter_1 : decode cX2_callAfter 1 = .ok (.aload_n 1, 1) := by decide +kernel
theorem dX2_callAfter_2 : decode cX2_callAfter 2 = .ok (.getfield 62, 3) := by decide +kernel
theorem dX2_callAfter_5 : decode cX2_callAfter 5 = .ok (.iload_n 2, 1) := by decide +kernel
theorem dX2_callAfter_6 : decode cX2_callAfter 6 = .ok (.iaload, 1) := by decide +kernel
theorem dX2_callAfter_7 : decode cX2_callAfter 7 = .ok (.putfield 65, 3) := by decide +kernel
theorem dX2_callAfter_10 : decode cX2_callAfter 10 = .ok (.aload_n 0, 1) := by decide +kernel
theorem dX2_callAfter_11 : decode cX2_callAfter 11 = .ok (.aload_n 1, 1) := by decide +kernel
theorem dX2_callAfter_12 : decode cX2_callAfter 12 = .ok (.iload_n 2, 1) := by decide +kernel
theorem dX2_callAfter_13 : decode cX2_callAfter 13 = .ok (.invokevirtual 67, 3) := by decide +kernel
theorem dX2_callAfter_16 : decode cX2_callAfter 16 = .ok (.ifCond .eq 7, 3) := by decide +kernel
theorem dX2_callAfter_19 : decode cX2_callAfter 19 = .ok (.iconst 0, 1) := by decide +kernel
theorem dX2_callAfter_20 : decode cX2_callAfter 20 = .ok (.goto 9, 3) := by decide +kernel
theorem dX2_callAfter_23 : decode cX2_callAfter 23 = .ok (.aload_n 1, 1) := by decide +kernel
theorem dX2_callAfter_24 : decode cX2_callAfter 24 = .ok (.getfield 70, 3) := by decide +kernel
theorem dX2_callAfter_27 : decode cX2_callAfter 27 = .ok (.iload_n 2, 1) := by decide +kernel
theorem dX2_callAfter_28 : decode cX2_callAfter 28 = .ok (.iaload, 1) := by decide +kernel
theorem dX2_callAfter_29 : decode cX2_callAfter 29 = .ok (.putfield 73, 3) := by decide +kernel
theorem dX2_callAfter_32 : decode cX2_callAfter 32 = .ok (.return_, 1) := by decide +kernel
theorem dX2_passDay_0 : decode cX2_passDay 0 = .ok (.aload_n 0, 1) := by decide +kernel
theorem dX2_passDay_1 : decode cX2_passDay 1 = .ok (.aload_n 0, 1) := by decide +kernel
theorem dX2_passDay_2 : decode cX2_passDay 2 = .ok (.getfield 65, 3) := by decide +kernel
theorem dX2_passDay_5 : decode cX2_passDay 5 = .ok (.aload_n 0, 1) := by decide +kernel
theorem dX2_passDay_6 : decode cX2_passDay 6 = .ok (.getfield 73, 3) := by decide +kernel
theorem dX2_passDay_9 : decode cX2_passDay 9 = .ok (.iadd, 1) := by decide +kernel
theorem dX2_passDay_10 : decode cX2_passDay 10 = .ok (.aload_n 0, 1) := by decide +kernel
theorem dX2_passDay_11 : decode cX2_passDay 11 = .ok (.getfield 15, 3) := by decide +kernel
theorem dX2_passDay_14 : decode cX2_passDay 14 = .ok (.invokestatic 75, 3) := by decide +kernel
theorem dX2_passDay_17 : decode cX2_passDay 17 = .ok (.putfield 65, 3) := by decide +kernel
theorem dX2_passDay_20 : decode cX2_passDay 20 = .ok (.aload_n 0, 1) := by decide +kernel
theorem dX2_passDay_21 : decode cX2_passDay 21 = .ok (.getfield 51, 3) := by decide +kernel
theorem dX2_passDay_24 : decode cX2_passDay 24 = .ok (.ifCond .eq 18, 3) := by decide +kernel
theorem dX2_passDay_27 : decode cX2_passDay 27 = .ok (.aload_n 0, 1) := by decide +kernel
theorem dX2_passDay_28 : decode cX2_passDay 28 = .ok (.getfield 45, 3) := by decide +kernel
theorem dX2_passDay_31 : decode cX2_passDay 31 = .ok (.ifCond .ne 11, 3) := by decide +kernel
theorem dX2_passDay_34 : decode cX2_passDay 34 = .ok (.aload_n 0, 1) := by decide +kernel
theorem dX2_passDay_35 : decode cX2_passDay 35 = .ok (.aload_n 0, 1) := by decide +kernel
theorem dX2_passDay_36 : decode cX2_passDay 36 = .ok (.invokevirtual 79, 3) := by decide +kernel
theorem dX2_passDay_39 : decode cX2_passDay 39 = .ok (.putfield 35, 3) := by decide +kernel
theorem dX2_passDay_42 : decode cX2_passDay 42 = .ok (.aload_n 0, 1) := by decide +kernel
theorem dX2_passDay_43 : decode cX2_passDay 43 = .ok (.getfield 51, 3) := by decide +kernel
theorem dX2_passDay_46 : decode cX2_passDay 46 = .ok (.ifCond .eq 38, 3) := by decide +kernel
theorem dX2_passDay_49 : decode cX2_passDay 49 = .ok (.aload_n 0, 1) := by decide +kernel
theorem dX2_passDay_50 : decode cX2_passDay 50 = .ok (.getfield 35, 3) := by decide +kernel
theorem dX2_passDay_53 : decode cX2_passDay 53 = .ok (.aload_n 0, 1) := by decide +kernel
theorem dX2_passDay_54 : decode cX2_passDay 54 = .ok (.getfield 65, 3) := by decide +kernel
theorem dX2_passDay_57 : decode cX2_passDay 57 = .ok (.if_icmp .ne 27, 3) := by decide +kernel
theorem dX2_passDay_60 : decode cX2_passDay 60 = .ok (.aload_n 0, 1) := by decide +kernel
theorem dX2_passDay_61 : decode cX2_passDay 61 = .ok (.getfield 30, 3) := by decide +kernel
theorem dX2_passDay_64 : decode cX2_passDay 64 = .ok (.iconst 5, 1) := by decide +kernel
theorem dX2_passDay_65 : decode cX2_passDay 65 = .ok (.if_icmp .ne 14, 3) := by decide +kernel
theorem dX2_passDay_68 : decode cX2_passDay 68 = .ok (.aload_n 0, 1) := by decide +kernel
theorem dX2_passDay_69 : decode cX2_passDay 69 = .ok (.getfield 25, 3) := by decide +kernel
theorem dX2_passDay_72 : decode cX2_passDay 72 = .ok (.aload_n 0, 1) := by decide +kernel
theorem dX2_passDay_73 : decode cX2_passDay 73 = .ok (.getfield 21, 3) := by decide +kernel
theorem dX2_passDay_76 : decode cX2_passDay 76 = .ok (.if_icmp .lt 8, 3) := by decide +kernel
theorem dX2_passDay_79 : decode cX2_passDay 79 = .ok (.aload_n 0, 1) := by decide +kernel
theorem dX2_passDay_80 : decode cX2_passDay 80 = .ok (.iconst 0, 1) := by decide +kernel
theorem dX2_passDay_81 : decode cX2_passDay 81 = .ok (.putfield 51, 3) := by decide +kernel
theorem dX2_passDay_84 : decode cX2_passDay 84 = .ok (.aload_n 0, 1) := by decide +kernel
theorem dX2_passDay_85 : decode cX2_passDay 85 = .ok (.dup, 1) := by decide +kernel
theorem dX2_passDay_86 : decode cX2_passDay 86 = .ok (.getfield 25, 3) := by decide +kernel
theorem dX2_passDay_89 : decode cX2_passDay 89 = .ok (.iconst 1, 1) := by decide +kernel
theorem dX2_passDay_90 : decode cX2_passDay 90 = .ok (.iadd, 1) := by decide +kernel
theorem dX2_passDay_91 : decode cX2_passDay 91 = .ok (.putfield 25, 3) := by decide +kernel
theorem dX2_passDay_94 : decode cX2_passDay 94 = .ok (.aload_n 0, 1) := by decide +kernel
theorem dX2_passDay_95 : decode cX2_passDay 95 = .ok (.aload_n 0, 1) := by decide +kernel
theorem dX2_passDay_96 : decode cX2_passDay 96 = .ok (.getfield 45, 3) := by decide +kernel
theorem dX2_passDay_99 : decode cX2_passDay 99 = .ok (.iconst 1, 1) := by decide +kernel
theorem dX2_passDay_100 : decode cX2_passDay 100 = .ok (.isub, 1) := by decide +kernel
theorem dX2_passDay_101 : decode cX2_passDay 101 = .ok (.iconst 0, 1) := by decide +kernel
theorem dX2_passDay_102 : decode cX2_passDay 102 = .ok (.invokestatic 83, 3) := by decide +kernel
theorem dX2_passDay_105 : decode cX2_passDay 105 = .ok (.putfield 45, 3) := by decide +kernel
theorem dX2_passDay_108 : decode cX2_passDay 108 = .ok (.return_, 1) := by decide +kernel
theorem dX2_goal_0 : decode cX2_goal 0 = .ok (.aload_n 0, 1) := by decide +kernel
theorem dX2_goal_1 : decode cX2_goal 1 = .ok (.getfield 35, 3) := by decide +kernel
theorem dX2_goal_4 : decode cX2_goal 4 = .ok (.aload_n 0, 1) := by decide +kernel
theorem dX2_goal_5 : decode cX2_goal 5 = .ok (.getfield 40, 3) := by decide +kernel
theorem dX2_goal_8 : decode cX2_goal 8 = .ok (.iadd, 1) := by decide +kernel
theorem dX2_goal_9 : decode cX2_goal 9 = .ok (.aload_n 0, 1) := by decide +kernel
theorem dX2_goal_10 : decode cX2_goal 10 = .ok (.getfield 15, 3) := by decide +kernel
theorem dX2_goal_13 : decode cX2_goal 13 = .ok (.invokestatic 75, 3) := by decide +kernel
theorem dX2_goal_16 : decode cX2_goal 16 = .ok (.istore_n 1, 1) := by decide +kernel
theorem dX2_goal_17 : decode cX2_goal 17 = .ok (.aload_n 0, 1) := by decide +kernel
theorem dX2_goal_18 : decode cX2_goal 18 = .ok (.getfield 65, 3) := by decide +kernel
theorem dX2_goal_21 : decode cX2_goal 21 = .ok (.iconst 1, 1) := by decide +kernel
theorem dX2_goal_22 : decode cX2_goal 22 = .ok (.iadd, 1) := by decide +kernel
theorem dX2_goal_23 : decode cX2_goal 23 = .ok (.aload_n 0, 1) := by decide +kernel
theorem dX2_goal_24 : decode cX2_goal 24 = .ok (.getfield 15, 3) := by decide +kernel
theorem dX2_goal_27 : decode cX2_goal 27 = .ok (.invokestatic 75, 3) := by decide +kernel
theorem dX2_goal_30 : decode cX2_goal 30 = .ok (.aload_n 0, 1) := by decide +kernel
theorem dX2_goal_31 : decode cX2_goal 31 = .ok (.getfield 35, 3) := by decide +kernel
theorem dX2_goal_34 : decode cX2_goal 34 = .ok (.if_icmp .ne 7, 3) := by decide +kernel
theorem dX2_goal_37 : decode cX2_goal 37 = .ok (.iconst 1, 1) := by decide +kernel
theorem dX2_goal_38 : decode cX2_goal 38 = .ok (.goto 4, 3) := by decide +kernel
theorem dX2_goal_41 : decode cX2_goal 41 = .ok (.iconst 0, 1) := by decide +kernel
theorem dX2_goal_42 : decode cX2_goal 42 = .ok (.istore_n 2, 1) := by decide +kernel
theorem dX2_goal_43 : decode cX2_goal 43 = .ok (.aload_n 0, 1) := by decide +kernel
theorem dX2_goal_44 : decode cX2_goal 44 = .ok (.getfield 30, 3) := by decide +kernel
theorem dX2_goal_47 : decode cX2_goal 47 = .ok (.tableswitch 124 1 5 #[33, 35, 52, 71, 96], 33) := by decide +kernel
theorem dX2_goal_80 : decode cX2_goal 80 = .ok (.iload_n 1, 1) := by decide +kernel
theorem dX2_goal_81 : decode cX2_goal 81 = .ok (.ireturn, 1) := by decide +kernel
theorem dX2_goal_82 : decode cX2_goal 82 = .ok (.iload_n 1, 1) := by decide +kernel
theorem dX2_goal_83 : decode cX2_goal 83 = .ok (.aload_n 0, 1) := by decide +kernel
theorem dX2_goal_84 : decode cX2_goal 84 = .ok (.getfield 65, 3) := by decide +kernel
theorem dX2_goal_87 : decode cX2_goal 87 = .ok (.if_icmp .ne 10, 3) := by decide +kernel
theorem dX2_goal_90 : decode cX2_goal 90 = .ok (.aload_n 0, 1) := by decide +kernel
theorem dX2_goal_91 : decode cX2_goal 91 = .ok (.getfield 35, 3) := by decide +kernel
theorem dX2_goal_94 : decode cX2_goal 94 = .ok (.goto 4, 3) := by decide +kernel
theorem dX2_goal_97 : decode cX2_goal 97 = .ok (.iload_n 1, 1) := by decide +kernel
theorem dX2_goal_98 : decode cX2_goal 98 = .ok (.ireturn, 1) := by decide +kernel
theorem dX2_goal_99 : decode cX2_goal 99 = .ok (.aload_n 0, 1) := by decide +kernel
theorem dX2_goal_100 : decode cX2_goal 100 = .ok (.getfield 35, 3) := by decide +kernel
theorem dX2_goal_103 : decode cX2_goal 103 = .ok (.iconst 2, 1) := by decide +kernel
theorem dX2_goal_104 : decode cX2_goal 104 = .ok (.aload_n 0, 1) := by decide +kernel
theorem dX2_goal_105 : decode cX2_goal 105 = .ok (.getfield 40, 3) := by decide +kernel
theorem dX2_goal_108 : decode cX2_goal 108 = .ok (.imul, 1) := by decide +kernel
theorem dX2_goal_109 : decode cX2_goal 109 = .ok (.iadd, 1) := by decide +kernel
theorem dX2_goal_110 : decode cX2_goal 110 = .ok (.aload_n 0, 1) := by decide +kernel
theorem dX2_goal_111 : decode cX2_goal 111 = .ok (.getfield 15, 3) := by decide +kernel
theorem dX2_goal_114 : decode cX2_goal 114 = .ok (.invokestatic 75, 3) := by decide +kernel
theorem dX2_goal_117 : decode cX2_goal 117 = .ok (.ireturn, 1) := by decide +kernel
theorem dX2_goal_118 : decode cX2_goal 118 = .ok (.iload_n 2, 1) := by decide +kernel
theorem dX2_goal_119 : decode cX2_goal 119 = .ok (.ifCond .eq 19, 3) := by decide +kernel
theorem dX2_goal_122 : decode cX2_goal 122 = .ok (.aload_n 0, 1) := by decide +kernel
theorem dX2_goal_123 : decode cX2_goal 123 = .ok (.getfield 35, 3) := by decide +kernel
theorem dX2_goal_126 : decode cX2_goal 126 = .ok (.iconst 1, 1) := by decide +kernel
theorem dX2_goal_127 : decode cX2_goal 127 = .ok (.iadd, 1) := by decide +kernel
theorem dX2_goal_128 : decode cX2_goal 128 = .ok (.aload_n 0, 1) := by decide +kernel
theorem dX2_goal_129 : decode cX2_goal 129 = .ok (.getfield 15, 3) := by decide +kernel
theorem dX2_goal_132 : decode cX2_goal 132 = .ok (.invokestatic 75, 3) := by decide +kernel
theorem dX2_goal_135 : decode cX2_goal 135 = .ok (.goto 7, 3) := by decide +kernel
theorem dX2_goal_138 : decode cX2_goal 138 = .ok (.aload_n 0, 1) := by decide +kernel
theorem dX2_goal_139 : decode cX2_goal 139 = .ok (.getfield 35, 3) := by decide +kernel
theorem dX2_goal_142 : decode cX2_goal 142 = .ok (.ireturn, 1) := by decide +kernel
theorem dX2_goal_143 : decode cX2_goal 143 = .ok (.iload_n 2, 1) := by decide +kernel
theorem dX2_goal_144 : decode cX2_goal 144 = .ok (.ifCond .eq 22, 3) := by decide +kernel
theorem dX2_goal_147 : decode cX2_goal 147 = .ok (.aload_n 0, 1) := by decide +kernel
theorem dX2_goal_148 : decode cX2_goal 148 = .ok (.getfield 35, 3) := by decide +kernel
theorem dX2_goal_151 : decode cX2_goal 151 = .ok (.aload_n 0, 1) := by decide +kernel
theorem dX2_goal_152 : decode cX2_goal 152 = .ok (.getfield 21, 3) := by decide +kernel
theorem dX2_goal_155 : decode cX2_goal 155 = .ok (.iadd, 1) := by decide +kernel
theorem dX2_goal_156 : decode cX2_goal 156 = .ok (.aload_n 0, 1) := by decide +kernel
theorem dX2_goal_157 : decode cX2_goal 157 = .ok (.getfield 15, 3) := by decide +kernel
theorem dX2_goal_160 : decode cX2_goal 160 = .ok (.invokestatic 75, 3) := by decide +kernel
theorem dX2_goal_163 : decode cX2_goal 163 = .ok (.goto 7, 3) := by decide +kernel
theorem dX2_goal_166 : decode cX2_goal 166 = .ok (.aload_n 0, 1) := by decide +kernel
theorem dX2_goal_167 : decode cX2_goal 167 = .ok (.getfield 35, 3) := by decide +kernel
theorem dX2_goal_170 : decode cX2_goal 170 = .ok (.ireturn, 1) := by decide +kernel
theorem dX2_goal_171 : decode cX2_goal 171 = .ok (.aload_n 0, 1) := by decide +kernel
theorem dX2_goal_172 : decode cX2_goal 172 = .ok (.getfield 35, 3) := by decide +kernel
theorem dX2_goal_175 : decode cX2_goal 175 = .ok (.ireturn, 1) := by decide +kernel
theorem dX2_livesBehind_0 : decode cX2_livesBehind 0 = .ok (.iconst 0, 1) := by decide +kernel
theorem dX2_livesBehind_1 : decode cX2_livesBehind 1 = .ok (.istore_n 2, 1) := by decide +kernel
theorem dX2_livesBehind_2 : decode cX2_livesBehind 2 = .ok (.iload_n 2, 1) := by decide +kernel
theorem dX2_livesBehind_3 : decode cX2_livesBehind 3 = .ok (.iload_n 1, 1) := by decide +kernel
theorem dX2_livesBehind_4 : decode cX2_livesBehind 4 = .ok (.if_icmp .ge 20, 3) := by decide +kernel
theorem dX2_livesBehind_7 : decode cX2_livesBehind 7 = .ok (.aload_n 0, 1) := by decide +kernel
theorem dX2_livesBehind_8 : decode cX2_livesBehind 8 = .ok (.getfield 51, 3) := by decide +kernel
theorem dX2_livesBehind_11 : decode cX2_livesBehind 11 = .ok (.ifCond .eq 13, 3) := by decide +kernel
theorem dX2_livesBehind_14 : decode cX2_livesBehind 14 = .ok (.aload_n 0, 1) := by decide +kernel
theorem dX2_livesBehind_15 : decode cX2_livesBehind 15 = .ok (.invokevirtual 88, 3) := by decide +kernel
theorem dX2_livesBehind_18 : decode cX2_livesBehind 18 = .ok (.iinc 2 1, 3) := by decide +kernel
theorem dX2_livesBehind_21 : decode cX2_livesBehind 21 = .ok (.goto (-19), 3) := by decide +kernel
theorem dX2_livesBehind_24 : decode cX2_livesBehind 24 = .ok (.aload_n 0, 1) := by decide +kernel
theorem dX2_livesBehind_25 : decode cX2_livesBehind 25 = .ok (.getfield 51, 3) := by decide +kernel
theorem dX2_livesBehind_28 : decode cX2_livesBehind 28 = .ok (.ireturn, 1) := by decide +kernel
theorem dX2_diesBehind_0 : decode cX2_diesBehind 0 = .ok (.aload_n 0, 1) := by decide +kernel
theorem dX2_diesBehind_1 : decode cX2_diesBehind 1 = .ok (.getfield 51, 3) := by decide +kernel
theorem dX2_diesBehind_4 : decode cX2_diesBehind 4 = .ok (.ifCond .ne 5, 3) := by decide +kernel
theorem dX2_diesBehind_7 : decode cX2_diesBehind 7 = .ok (.iconst 0, 1) := by decide +kernel
theorem dX2_diesBehind_8 : decode cX2_diesBehind 8 = .ok (.ireturn, 1) := by decide +kernel
theorem dX2_diesBehind_9 : decode cX2_diesBehind 9 = .ok (.iconst 1, 1) := by decide +kernel
theorem dX2_diesBehind_10 : decode cX2_diesBehind 10 = .ok (.istore_n 2, 1) := by decide +kernel
theorem dX2_diesBehind_11 : decode cX2_diesBehind 11 = .ok (.iload_n 2, 1) := by decide +kernel
theorem dX2_diesBehind_12 : decode cX2_diesBehind 12 = .ok (.iload_n 1, 1) := by decide +kernel
theorem dX2_diesBehind_13 : decode cX2_diesBehind 13 = .ok (.if_icmp .gt 22, 3) := by decide +kernel
theorem dX2_diesBehind_16 : decode cX2_diesBehind 16 = .ok (.aload_n 0, 1) := by decide +kernel
theorem dX2_diesBehind_17 : decode cX2_diesBehind 17 = .ok (.invokevirtual 88, 3) := by decide +kernel
theorem dX2_diesBehind_20 : decode cX2_diesBehind 20 = .ok (.aload_n 0, 1) := by decide +kernel
theorem dX2_diesBehind_21 : decode cX2_diesBehind 21 = .ok (.getfield 51, 3) := by decide +kernel
theorem dX2_diesBehind_24 : decode cX2_diesBehind 24 = .ok (.ifCond .ne 5, 3) := by decide +kernel
theorem dX2_diesBehind_27 : decode cX2_diesBehind 27 = .ok (.iload_n 2, 1) := by decide +kernel
theorem dX2_diesBehind_28 : decode cX2_diesBehind 28 = .ok (.ireturn, 1) := by decide +kernel
theorem dX2_diesBehind_29 : decode cX2_diesBehind 29 = .ok (.iinc 2 1, 3) := by decide +kernel
theorem dX2_diesBehind_32 : decode cX2_diesBehind 32 = .ok (.goto (-21), 3) := by decide +kernel
theorem dX2_diesBehind_35 : decode cX2_diesBehind 35 = .ok (.bipush 61, 2) := by decide +kernel
theorem dX2_diesBehind_37 : decode cX2_diesBehind 37 = .ok (.ireturn, 1) := by decide +kernel
theorem dX3_init_0 : decode cX3_init 0 = .ok (.aload_n 0, 1) := by decide +kernel
theorem dX3_init_1 : decode cX3_init 1 = .ok (.invokespecial 5, 3) := by decide +kernel
theorem dX3_init_4 : decode cX3_init 4 = .ok (.aload_n 0, 1) := by decide +kernel
theorem dX3_init_5 : decode cX3_init 5 = .ok (.new 11, 3) := by decide +kernel
theorem dX3_init_8 : decode cX3_init 8 = .ok (.dup, 1) := by decide +kernel
theorem dX3_init_9 : decode cX3_init 9 = .ok (.invokespecial 13, 3) := by decide +kernel
theorem dX3_init_12 : decode cX3_init 12 = .ok (.putfield 14, 3) := by decide +kernel
theorem dX3_init_15 : decode cX3_init 15 = .ok (.aload_n 0, 1) := by decide +kernel
theorem dX3_init_16 : decode cX3_init 16 = .ok (.sipush 208, 3) := by decide +kernel
theorem dX3_init_19 : decode cX3_init 19 = .ok (.newarray .int, 2) := by decide +kernel
theorem dX3_init_21 : decode cX3_init 21 = .ok (.putfield 18, 3) := by decide +kernel
theorem dX3_init_24 : decode cX3_init 24 = .ok (.aload_n 0, 1) := by decide +kernel
theorem dX3_init_25 : decode cX3_init 25 = .ok (.sipush 208, 3) := by decide +kernel
theorem dX3_init_28 : decode cX3_init 28 = .ok (.newarray .int, 2) := by decide +kernel
theorem dX3_init_30 : decode cX3_init 30 = .ok (.putfield 22, 3) := by decide +kernel
theorem dX3_init_33 : decode cX3_init 33 = .ok (.return_, 1) := by decide +kernel
theorem dX3_search_0 : decode cX3_search 0 = .ok (.iconst 0, 1) := by decide +kernel
theorem dX3_search_1 : decode cX3_search 1 = .ok (.istore 5, 2) := by decide +kernel
theorem dX3_search_3 : decode cX3_search 3 = .ok (.iload 5, 2) := by decide +kernel
theorem dX3_search_5 : decode cX3_search 5 = .ok (.aload_n 1, 1) := by decide +kernel
theorem dX3_search_6 : decode cX3_search 6 = .ok (.getfield 25, 3) := by decide +kernel
theorem dX3_search_9 : decode cX3_search 9 = .ok (.if_icmp .ge 84, 3) := by decide +kernel
theorem dX3_search_12 : decode cX3_search 12 = .ok (.aload_n 0, 1) := by decide +kernel
theorem dX3_search_13 : decode cX3_search 13 = .ok (.aload_n 1, 1) := by decide +kernel
theorem dX3_search_14 : decode cX3_search 14 = .ok (.iload_n 2, 1) := by decide +kernel
theorem dX3_search_15 : decode cX3_search 15 = .ok (.iload_n 3, 1) := by decide +kernel
theorem dX3_search_16 : decode cX3_search 16 = .ok (.iload 5, 2) := by decide +kernel
theorem dX3_search_18 : decode cX3_search 18 = .ok (.invokevirtual 31, 3) := by decide +kernel
theorem dX3_search_21 : decode cX3_search 21 = .ok (.aload_n 0, 1) := by decide +kernel
theorem dX3_search_22 : decode cX3_search 22 = .ok (.getfield 14, 3) := by decide +kernel
theorem dX3_search_25 : decode cX3_search 25 = .ok (.bipush 60, 2) := by decide +kernel
theorem dX3_search_27 : decode cX3_search 27 = .ok (.iload_n 3, 1) := by decide +kernel
theorem dX3_search_28 : decode cX3_search 28 = .ok (.isub, 1) := by decide +kernel
theorem dX3_search_29 : decode cX3_search 29 = .ok (.invokevirtual 35, 3) := by decide +kernel
theorem dX3_search_32 : decode cX3_search 32 = .ok (.istore 6, 2) := by decide +kernel
theorem dX3_search_34 : decode cX3_search 34 = .ok (.aload_n 0, 1) := by decide +kernel
theorem dX3_search_35 : decode cX3_search 35 = .ok (.iload 6, 2) := by decide +kernel
theorem dX3_search_37 : decode cX3_search 37 = .ok (.bipush 61, 2) := by decide +kernel
theorem dX3_search_39 : decode cX3_search 39 = .ok (.if_icmp .lt 8, 3) := by decide +kernel
theorem dX3_search_42 : decode cX3_search 42 = .ok (.bipush 61, 2) := by decide +kernel
theorem dX3_search_44 : decode cX3_search 44 = .ok (.goto 7, 3) := by decide +kernel
theorem dX3_search_47 : decode cX3_search 47 = .ok (.iload_n 3, 1) := by decide +kernel
theorem dX3_search_48 : decode cX3_search 48 = .ok (.iload 6, 2) := by decide +kernel
theorem dX3_search_50 : decode cX3_search 50 = .ok (.iadd, 1) := by decide +kernel
theorem dX3_search_51 : decode cX3_search 51 = .ok (.invokevirtual 39, 3) := by decide +kernel
theorem dX3_search_54 : decode cX3_search 54 = .ok (.istore 7, 2) := by decide +kernel
theorem dX3_search_56 : decode cX3_search 56 = .ok (.iconst 0, 1) := by decide +kernel
theorem dX3_search_57 : decode cX3_search 57 = .ok (.istore 8, 2) := by decide +kernel
theorem dX3_search_59 : decode cX3_search 59 = .ok (.iload 8, 2) := by decide +kernel
theorem dX3_search_61 : decode cX3_search 61 = .ok (.iload 4, 2) := by decide +kernel
theorem dX3_search_63 : decode cX3_search 63 = .ok (.if_icmp .gt 24, 3) := by decide +kernel
theorem dX3_search_66 : decode cX3_search 66 = .ok (.aload_n 0, 1) := by decide +kernel
theorem dX3_search_67 : decode cX3_search 67 = .ok (.getfield 18, 3) := by decide +kernel
theorem dX3_search_70 : decode cX3_search 70 = .ok (.iload 5, 2) := by decide +kernel
theorem dX3_search_72 : decode cX3_search 72 = .ok (.bipush 13, 2) := by decide +kernel
theorem dX3_search_74 : decode cX3_search 74 = .ok (.imul, 1) := by decide +kernel
theorem dX3_search_75 : decode cX3_search 75 = .ok (.iload 8, 2) := by decide +kernel
theorem dX3_search_77 : decode cX3_search 77 = .ok (.iadd, 1) := by decide +kernel
theorem dX3_search_78 : decode cX3_search 78 = .ok (.iload 7, 2) := by decide +kernel
theorem dX3_search_80 : decode cX3_search 80 = .ok (.iastore, 1) := by decide +kernel
theorem dX3_search_81 : decode cX3_search 81 = .ok (.iinc 8 1, 3) := by decide +kernel
theorem dX3_search_84 : decode cX3_search 84 = .ok (.goto (-25), 3) := by decide +kernel
theorem dX3_search_87 : decode cX3_search 87 = .ok (.iinc 5 1, 3) := by decide +kernel
theorem dX3_search_90 : decode cX3_search 90 = .ok (.goto (-87), 3) := by decide +kernel
theorem dX3_search_93 : decode cX3_search 93 = .ok (.iload_n 3, 1) := by decide +kernel
theorem dX3_search_94 : decode cX3_search 94 = .ok (.iconst 1, 1) := by decide +kernel
theorem dX3_search_95 : decode cX3_search 95 = .ok (.isub, 1) := by decide +kernel
theorem dX3_search_96 : decode cX3_search 96 = .ok (.istore 5, 2) := by decide +kernel
theorem dX3_search_98 : decode cX3_search 98 = .ok (.iload 5, 2) := by decide +kernel
theorem dX3_search_100 : decode cX3_search 100 = .ok (.ifCond .lt 57, 3) := by decide +kernel
theorem dX3_search_103 : decode cX3_search 103 = .ok (.aload_n 0, 1) := by decide +kernel
theorem dX3_search_104 : decode cX3_search 104 = .ok (.getfield 18, 3) := by decide +kernel
theorem dX3_search_107 : decode cX3_search 107 = .ok (.iconst 0, 1) := by decide +kernel
theorem dX3_search_108 : decode cX3_search 108 = .ok (.aload_n 0, 1) := by decide +kernel
theorem dX3_search_109 : decode cX3_search 109 = .ok (.getfield 22, 3) := by decide +kernel
theorem dX3_search_112 : decode cX3_search 112 = .ok (.iconst 0, 1) := by decide +kernel
theorem dX3_search_113 : decode cX3_search 113 = .ok (.aload_n 0, 1) := by decide +kernel
theorem dX3_search_114 : decode cX3_search 114 = .ok (.getfield 18, 3) := by decide +kernel
theorem dX3_search_117 : decode cX3_search 117 = .ok (.arraylength, 1) := by decide +kernel
theorem dX3_search_118 : decode cX3_search 118 = .ok (.invokestatic 42, 3) := by decide +kernel
theorem dX3_search_121 : decode cX3_search 121 = .ok (.iconst 0, 1) := by decide +kernel
theorem dX3_search_122 : decode cX3_search 122 = .ok (.istore 6, 2) := by decide +kernel
theorem dX3_search_124 : decode cX3_search 124 = .ok (.iload 6, 2) := by decide +kernel
theorem dX3_search_126 : decode cX3_search 126 = .ok (.aload_n 1, 1) := by decide +kernel
theorem dX3_search_127 : decode cX3_search 127 = .ok (.getfield 25, 3) := by decide +kernel
theorem dX3_search_130 : decode cX3_search 130 = .ok (.if_icmp .ge 21, 3) := by decide +kernel
theorem dX3_search_133 : decode cX3_search 133 = .ok (.aload_n 0, 1) := by decide +kernel
theorem dX3_search_134 : decode cX3_search 134 = .ok (.aload_n 1, 1) := by decide +kernel
theorem dX3_search_135 : decode cX3_search 135 = .ok (.iload_n 2, 1) := by decide +kernel
theorem dX3_search_136 : decode cX3_search 136 = .ok (.iload 5, 2) := by decide +kernel
theorem dX3_search_138 : decode cX3_search 138 = .ok (.iload 6, 2) := by decide +kernel
theorem dX3_search_140 : decode cX3_search 140 = .ok (.iload 4, 2) := by decide +kernel
theorem dX3_search_142 : decode cX3_search 142 = .ok (.invokevirtual 48, 3) := by decide +kernel
theorem dX3_search_145 : decode cX3_search 145 = .ok (.iinc 6 1, 3) := by decide +kernel
theorem dX3_search_148 : decode cX3_search 148 = .ok (.goto (-24), 3) := by decide +kernel
theorem dX3_search_151 : decode cX3_search 151 = .ok (.iinc 5 (-1), 3) := by decide +kernel
theorem dX3_search_154 : decode cX3_search 154 = .ok (.goto (-56), 3) := by decide +kernel
theorem dX3_search_157 : decode cX3_search 157 = .ok (.aload_n 0, 1) := by decide +kernel
theorem dX3_search_158 : decode cX3_search 158 = .ok (.getfield 18, 3) := by decide +kernel
theorem dX3_search_161 : decode cX3_search 161 = .ok (.aload_n 1, 1) := by decide +kernel
theorem dX3_search_162 : decode cX3_search 162 = .ok (.getfield 52, 3) := by decide +kernel
theorem dX3_search_165 : decode cX3_search 165 = .ok (.iload_n 2, 1) := by decide +kernel
theorem dX3_search_166 : decode cX3_search 166 = .ok (.iaload, 1) := by decide +kernel
theorem dX3_search_167 : decode cX3_search 167 = .ok (.bipush 13, 2) := by decide +kernel
theorem dX3_search_169 : decode cX3_search 169 = .ok (.imul, 1) := by decide +kernel
theorem dX3_search_170 : decode cX3_search 170 = .ok (.iload 4, 2) := by decide +kernel
theorem dX3_search_172 : decode cX3_search 172 = .ok (.iadd, 1) := by decide +kernel
theorem dX3_search_173 : decode cX3_search 173 = .ok (.iaload, 1) := by decide +kernel
theorem dX3_search_174 : decode cX3_search 174 = .ok (.istore 5, 2) := by decide +kernel
theorem dX3_search_176 : decode cX3_search 176 = .ok (.aload_n 0, 1) := by decide +kernel
theorem dX3_search_177 : decode cX3_search 177 = .ok (.bipush 61, 2) := by decide +kernel
theorem dX3_search_179 : decode cX3_search 179 = .ok (.iload 5, 2) := by decide +kernel
theorem dX3_search_181 : decode cX3_search 181 = .ok (.ldc 55, 2) := by decide +kernel
theorem dX3_search_183 : decode cX3_search 183 = .ok (.idiv, 1) := by decide +kernel
theorem dX3_search_184 : decode cX3_search 184 = .ok (.isub, 1) := by decide +kernel
theorem dX3_search_185 : decode cX3_search 185 = .ok (.putfield 56, 3) := by decide +kernel
theorem dX3_search_188 : decode cX3_search 188 = .ok (.aload_n 0, 1) := by decide +kernel
theorem dX3_search_189 : decode cX3_search 189 = .ok (.iload 5, 2) := by decide +kernel
theorem dX3_search_191 : decode cX3_search 191 = .ok (.sipush 4096, 3) := by decide +kernel
theorem dX3_search_194 : decode cX3_search 194 = .ok (.irem, 1) := by decide +kernel
theorem dX3_search_195 : decode cX3_search 195 = .ok (.putfield 58, 3) := by decide +kernel
theorem dX3_search_198 : decode cX3_search 198 = .ok (.return_, 1) := by decide +kernel
theorem dX3_stand_0 : decode cX3_stand 0 = .ok (.aload_n 0, 1) := by decide +kernel
theorem dX3_stand_1 : decode cX3_stand 1 = .ok (.getfield 14, 3) := by decide +kernel
theorem dX3_stand_4 : decode cX3_stand 4 = .ok (.aload_n 1, 1) := by decide +kernel
theorem dX3_stand_5 : decode cX3_stand 5 = .ok (.iload_n 2, 1) := by decide +kernel
theorem dX3_stand_6 : decode cX3_stand 6 = .ok (.invokevirtual 61, 3) := by decide +kernel
theorem dX3_stand_9 : decode cX3_stand 9 = .ok (.aload_n 0, 1) := by decide +kernel
theorem dX3_stand_10 : decode cX3_stand 10 = .ok (.getfield 14, 3) := by decide +kernel
theorem dX3_stand_13 : decode cX3_stand 13 = .ok (.aload_n 0, 1) := by decide +kernel
theorem dX3_stand_14 : decode cX3_stand 14 = .ok (.getfield 14, 3) := by decide +kernel
theorem dX3_stand_17 : decode cX3_stand 17 = .ok (.getfield 65, 3) := by decide +kernel
theorem dX3_stand_20 : decode cX3_stand 20 = .ok (.iload_n 3, 1) := by decide +kernel
theorem dX3_stand_21 : decode cX3_stand 21 = .ok (.aload_n 0, 1) := by decide +kernel
theorem dX3_stand_22 : decode cX3_stand 22 = .ok (.getfield 14, 3) := by decide +kernel
theorem dX3_stand_25 : decode cX3_stand 25 = .ok (.getfield 68, 3) := by decide +kernel
theorem dX3_stand_28 : decode cX3_stand 28 = .ok (.imul, 1) := by decide +kernel
theorem dX3_stand_29 : decode cX3_stand 29 = .ok (.iadd, 1) := by decide +kernel
theorem dX3_stand_30 : decode cX3_stand 30 = .ok (.aload_n 0, 1) := by decide +kernel
theorem dX3_stand_31 : decode cX3_stand 31 = .ok (.getfield 14, 3) := by decide +kernel
theorem dX3_stand_34 : decode cX3_stand 34 = .ok (.getfield 71, 3) := by decide +kernel
theorem dX3_stand_37 : decode cX3_stand 37 = .ok (.invokestatic 72, 3) := by decide +kernel
theorem dX3_stand_40 : decode cX3_stand 40 = .ok (.putfield 65, 3) := by decide +kernel
theorem dX3_stand_43 : decode cX3_stand 43 = .ok (.aload_n 0, 1) := by decide +kernel
theorem dX3_stand_44 : decode cX3_stand 44 = .ok (.getfield 14, 3) := by decide +kernel
theorem dX3_stand_47 : decode cX3_stand 47 = .ok (.dup, 1) := by decide +kernel
theorem dX3_stand_48 : decode cX3_stand 48 = .ok (.getfield 76, 3) := by decide +kernel
theorem dX3_stand_51 : decode cX3_stand 51 = .ok (.iload_n 3, 1) := by decide +kernel
theorem dX3_stand_52 : decode cX3_stand 52 = .ok (.iadd, 1) := by decide +kernel
theorem dX3_stand_53 : decode cX3_stand 53 = .ok (.putfield 76, 3) := by decide +kernel
theorem dX3_stand_56 : decode cX3_stand 56 = .ok (.aload_n 0, 1) := by decide +kernel
theorem dX3_stand_57 : decode cX3_stand 57 = .ok (.getfield 14, 3) := by decide +kernel
theorem dX3_stand_60 : decode cX3_stand 60 = .ok (.iload 4, 2) := by decide +kernel
theorem dX3_stand_62 : decode cX3_stand 62 = .ok (.putfield 79, 3) := by decide +kernel
theorem dX3_stand_65 : decode cX3_stand 65 = .ok (.aload_n 0, 1) := by decide +kernel
theorem dX3_stand_66 : decode cX3_stand 66 = .ok (.getfield 14, 3) := by decide +kernel
theorem dX3_stand_69 : decode cX3_stand 69 = .ok (.iconst 0, 1) := by decide +kernel
theorem dX3_stand_70 : decode cX3_stand 70 = .ok (.putfield 81, 3) := by decide +kernel
theorem dX3_stand_73 : decode cX3_stand 73 = .ok (.return_, 1) := by decide +kernel
theorem dX3_weigh_0 : decode cX3_weigh 0 = .ok (.aload_n 0, 1) := by decide +kernel
theorem dX3_weigh_1 : decode cX3_weigh 1 = .ok (.aload_n 1, 1) := by decide +kernel
theorem dX3_weigh_2 : decode cX3_weigh 2 = .ok (.iload_n 2, 1) := by decide +kernel
theorem dX3_weigh_3 : decode cX3_weigh 3 = .ok (.iload_n 3, 1) := by decide +kernel
theorem dX3_weigh_4 : decode cX3_weigh 4 = .ok (.iload 4, 2) := by decide +kernel
theorem dX3_weigh_6 : decode cX3_weigh 6 = .ok (.invokevirtual 31, 3) := by decide +kernel
theorem dX3_weigh_9 : decode cX3_weigh 9 = .ok (.aload_n 0, 1) := by decide +kernel
theorem dX3_weigh_10 : decode cX3_weigh 10 = .ok (.getfield 14, 3) := by decide +kernel
theorem dX3_weigh_13 : decode cX3_weigh 13 = .ok (.invokevirtual 84, 3) := by decide +kernel
theorem dX3_weigh_16 : decode cX3_weigh 16 = .ok (.aload_n 0, 1) := by decide +kernel
theorem dX3_weigh_17 : decode cX3_weigh 17 = .ok (.getfield 14, 3) := by decide +kernel
theorem dX3_weigh_20 : decode cX3_weigh 20 = .ok (.getfield 87, 3) := by decide +kernel
theorem dX3_weigh_23 : decode cX3_weigh 23 = .ok (.istore 6, 2) := by decide +kernel
theorem dX3_weigh_25 : decode cX3_weigh 25 = .ok (.aload_n 0, 1) := by decide +kernel
theorem dX3_weigh_26 : decode cX3_weigh 26 = .ok (.getfield 14, 3) := by decide +kernel
theorem dX3_weigh_29 : decode cX3_weigh 29 = .ok (.getfield 79, 3) := by decide +kernel
theorem dX3_weigh_32 : decode cX3_weigh 32 = .ok (.bipush 13, 2) := by decide +kernel
theorem dX3_weigh_34 : decode cX3_weigh 34 = .ok (.imul, 1) := by decide +kernel
theorem dX3_weigh_35 : decode cX3_weigh 35 = .ok (.istore 7, 2) := by decide +kernel
theorem dX3_weigh_37 : decode cX3_weigh 37 = .ok (.aload_n 0, 1) := by decide +kernel
theorem dX3_weigh_38 : decode cX3_weigh 38 = .ok (.aload_n 1, 1) := by decide +kernel
theorem dX3_weigh_39 : decode cX3_weigh 39 = .ok (.iload_n 2, 1) := by decide +kernel
theorem dX3_weigh_40 : decode cX3_weigh 40 = .ok (.iload_n 3, 1) := by decide +kernel
theorem dX3_weigh_41 : decode cX3_weigh 41 = .ok (.iload 4, 2) := by decide +kernel
theorem dX3_weigh_43 : decode cX3_weigh 43 = .ok (.invokevirtual 31, 3) := by decide +kernel
theorem dX3_weigh_46 : decode cX3_weigh 46 = .ok (.aload_n 0, 1) := by decide +kernel
theorem dX3_weigh_47 : decode cX3_weigh 47 = .ok (.getfield 14, 3) := by decide +kernel
theorem dX3_weigh_50 : decode cX3_weigh 50 = .ok (.iconst 1, 1) := by decide +kernel
theorem dX3_weigh_51 : decode cX3_weigh 51 = .ok (.putfield 81, 3) := by decide +kernel
theorem dX3_weigh_54 : decode cX3_weigh 54 = .ok (.aload_n 0, 1) := by decide +kernel
theorem dX3_weigh_55 : decode cX3_weigh 55 = .ok (.getfield 14, 3) := by decide +kernel
theorem dX3_weigh_58 : decode cX3_weigh 58 = .ok (.invokevirtual 84, 3) := by decide +kernel
theorem dX3_weigh_61 : decode cX3_weigh 61 = .ok (.aload_n 0, 1) := by decide +kernel
theorem dX3_weigh_62 : decode cX3_weigh 62 = .ok (.getfield 14, 3) := by decide +kernel
theorem dX3_weigh_65 : decode cX3_weigh 65 = .ok (.getfield 87, 3) := by decide +kernel
theorem dX3_weigh_68 : decode cX3_weigh 68 = .ok (.istore 8, 2) := by decide +kernel
theorem dX3_weigh_70 : decode cX3_weigh 70 = .ok (.aload_n 0, 1) := by decide +kernel
theorem dX3_weigh_71 : decode cX3_weigh 71 = .ok (.getfield 14, 3) := by decide +kernel
theorem dX3_weigh_74 : decode cX3_weigh 74 = .ok (.getfield 79, 3) := by decide +kernel
theorem dX3_weigh_77 : decode cX3_weigh 77 = .ok (.bipush 13, 2) := by decide +kernel
theorem dX3_weigh_79 : decode cX3_weigh 79 = .ok (.imul, 1) := by decide +kernel
theorem dX3_weigh_80 : decode cX3_weigh 80 = .ok (.istore 9, 2) := by decide +kernel
theorem dX3_weigh_82 : decode cX3_weigh 82 = .ok (.aload_n 0, 1) := by decide +kernel
theorem dX3_weigh_83 : decode cX3_weigh 83 = .ok (.iload_n 3, 1) := by decide +kernel
theorem dX3_weigh_84 : decode cX3_weigh 84 = .ok (.iconst 1, 1) := by decide +kernel
theorem dX3_weigh_85 : decode cX3_weigh 85 = .ok (.iadd, 1) := by decide +kernel
theorem dX3_weigh_86 : decode cX3_weigh 86 = .ok (.invokevirtual 39, 3) := by decide +kernel
theorem dX3_weigh_89 : decode cX3_weigh 89 = .ok (.istore 10, 2) := by decide +kernel
theorem dX3_weigh_91 : decode cX3_weigh 91 = .ok (.iconst 0, 1) := by decide +kernel
theorem dX3_weigh_92 : decode cX3_weigh 92 = .ok (.istore 11, 2) := by decide +kernel
theorem dX3_weigh_94 : decode cX3_weigh 94 = .ok (.iload 11, 2) := by decide +kernel
theorem dX3_weigh_96 : decode cX3_weigh 96 = .ok (.iload 5, 2) := by decide +kernel
theorem dX3_weigh_98 : decode cX3_weigh 98 = .ok (.if_icmp .gt 83, 3) := by decide +kernel
theorem dX3_weigh_101 : decode cX3_weigh 101 = .ok (.iload 6, 2) := by decide +kernel
theorem dX3_weigh_103 : decode cX3_weigh 103 = .ok (.ifCond .eq 16, 3) := by decide +kernel
theorem dX3_weigh_106 : decode cX3_weigh 106 = .ok (.aload_n 0, 1) := by decide +kernel
theorem dX3_weigh_107 : decode cX3_weigh 107 = .ok (.getfield 22, 3) := by decide +kernel
theorem dX3_weigh_110 : decode cX3_weigh 110 = .ok (.iload 7, 2) := by decide +kernel
theorem dX3_weigh_112 : decode cX3_weigh 112 = .ok (.iload 11, 2) := by decide +kernel
theorem dX3_weigh_114 : decode cX3_weigh 114 = .ok (.iadd, 1) := by decide +kernel
theorem dX3_weigh_115 : decode cX3_weigh 115 = .ok (.iaload, 1) := by decide +kernel
theorem dX3_weigh_116 : decode cX3_weigh 116 = .ok (.goto 5, 3) := by decide +kernel
theorem dX3_weigh_119 : decode cX3_weigh 119 = .ok (.iload 10, 2) := by decide +kernel
theorem dX3_weigh_121 : decode cX3_weigh 121 = .ok (.istore 12, 2) := by decide +kernel
theorem dX3_weigh_123 : decode cX3_weigh 123 = .ok (.iload 11, 2) := by decide +kernel
theorem dX3_weigh_125 : decode cX3_weigh 125 = .ok (.ifCond .le 35, 3) := by decide +kernel
theorem dX3_weigh_128 : decode cX3_weigh 128 = .ok (.iload 8, 2) := by decide +kernel
theorem dX3_weigh_130 : decode cX3_weigh 130 = .ok (.ifCond .eq 30, 3) := by decide +kernel
theorem dX3_weigh_133 : decode cX3_weigh 133 = .ok (.iload 12, 2) := by decide +kernel
theorem dX3_weigh_135 : decode cX3_weigh 135 = .ok (.aload_n 0, 1) := by decide +kernel
theorem dX3_weigh_136 : decode cX3_weigh 136 = .ok (.getfield 22, 3) := by decide +kernel
theorem dX3_weigh_139 : decode cX3_weigh 139 = .ok (.iload 9, 2) := by decide +kernel
theorem dX3_weigh_141 : decode cX3_weigh 141 = .ok (.iload 11, 2) := by decide +kernel
theorem dX3_weigh_143 : decode cX3_weigh 143 = .ok (.iadd, 1) := by decide +kernel
theorem dX3_weigh_144 : decode cX3_weigh 144 = .ok (.iconst 1, 1) := by decide +kernel
theorem dX3_weigh_145 : decode cX3_weigh 145 = .ok (.isub, 1) := by decide +kernel
theorem dX3_weigh_146 : decode cX3_weigh 146 = .ok (.iaload, 1) := by decide +kernel
theorem dX3_weigh_147 : decode cX3_weigh 147 = .ok (.sipush 4096, 3) := by decide +kernel
theorem dX3_weigh_150 : decode cX3_weigh 150 = .ok (.iadd, 1) := by decide +kernel
theorem dX3_weigh_151 : decode cX3_weigh 151 = .ok (.iconst 1, 1) := by decide +kernel
theorem dX3_weigh_152 : decode cX3_weigh 152 = .ok (.iload_n 3, 1) := by decide +kernel
theorem dX3_weigh_153 : decode cX3_weigh 153 = .ok (.ishl, 1) := by decide +kernel
theorem dX3_weigh_154 : decode cX3_weigh 154 = .ok (.iadd, 1) := by decide +kernel
theorem dX3_weigh_155 : decode cX3_weigh 155 = .ok (.invokestatic 91, 3) := by decide +kernel
theorem dX3_weigh_158 : decode cX3_weigh 158 = .ok (.istore 12, 2) := by decide +kernel
theorem dX3_weigh_160 : decode cX3_weigh 160 = .ok (.aload_n 0, 1) := by decide +kernel
theorem dX3_weigh_161 : decode cX3_weigh 161 = .ok (.getfield 18, 3) := by decide +kernel
theorem dX3_weigh_164 : decode cX3_weigh 164 = .ok (.iload 4, 2) := by decide +kernel
theorem dX3_weigh_166 : decode cX3_weigh 166 = .ok (.bipush 13, 2) := by decide +kernel
theorem dX3_weigh_168 : decode cX3_weigh 168 = .ok (.imul, 1) := by decide +kernel
theorem dX3_weigh_169 : decode cX3_weigh 169 = .ok (.iload 11, 2) := by decide +kernel
theorem dX3_weigh_171 : decode cX3_weigh 171 = .ok (.iadd, 1) := by decide +kernel
theorem dX3_weigh_172 : decode cX3_weigh 172 = .ok (.iload 12, 2) := by decide +kernel
theorem dX3_weigh_174 : decode cX3_weigh 174 = .ok (.iastore, 1) := by decide +kernel
theorem dX3_weigh_175 : decode cX3_weigh 175 = .ok (.iinc 11 1, 3) := by decide +kernel
theorem dX3_weigh_178 : decode cX3_weigh 178 = .ok (.goto (-84), 3) := by decide +kernel
theorem dX3_weigh_181 : decode cX3_weigh 181 = .ok (.return_, 1) := by decide +kernel
theorem dX3_earlyCost_0 : decode cX3_earlyCost 0 = .ok (.bipush 61, 2) := by decide +kernel
theorem dX3_earlyCost_2 : decode cX3_earlyCost 2 = .ok (.iload_n 1, 1) := by decide +kernel
theorem dX3_earlyCost_3 : decode cX3_earlyCost 3 = .ok (.isub, 1) := by decide +kernel
theorem dX3_earlyCost_4 : decode cX3_earlyCost 4 = .ok (.ldc 55, 2) := by decide +kernel
theorem dX3_earlyCost_6 : decode cX3_earlyCost 6 = .ok (.imul, 1) := by decide +kernel
theorem dX3_earlyCost_7 : decode cX3_earlyCost 7 = .ok (.ireturn, 1) := by decide +kernel
theorem dX4_init_0 : decode cX4_init 0 = .ok (.aload_n 0, 1) := by decide +kernel
theorem dX4_init_1 : decode cX4_init 1 = .ok (.invokespecial 3, 3) := by decide +kernel
theorem dX4_init_4 : decode cX4_init 4 = .ok (.aload_n 0, 1) := by decide +kernel
theorem dX4_init_5 : decode cX4_init 5 = .ok (.iconst 5, 1) := by decide +kernel
theorem dX4_init_6 : decode cX4_init 6 = .ok (.newarray .int, 2) := by decide +kernel
theorem dX4_init_8 : decode cX4_init 8 = .ok (.putfield 9, 3) := by decide +kernel
theorem dX4_init_11 : decode cX4_init 11 = .ok (.aload_n 0, 1) := by decide +kernel
theorem dX4_init_12 : decode cX4_init 12 = .ok (.iconst 5, 1) := by decide +kernel
theorem dX4_init_13 : decode cX4_init 13 = .ok (.newarray .int, 2) := by decide +kernel
theorem dX4_init_15 : decode cX4_init 15 = .ok (.putfield 15, 3) := by decide +kernel
theorem dX4_init_18 : decode cX4_init 18 = .ok (.aload_n 0, 1) := by decide +kernel
theorem dX4_init_19 : decode cX4_init 19 = .ok (.bipush 7, 2) := by decide +kernel
theorem dX4_init_21 : decode cX4_init 21 = .ok (.newarray .int, 2) := by decide +kernel
theorem dX4_init_23 : decode cX4_init 23 = .ok (.putfield 18, 3) := by decide +kernel
theorem dX4_init_26 : decode cX4_init 26 = .ok (.aload_n 0, 1) := by decide +kernel
theorem dX4_init_27 : decode cX4_init 27 = .ok (.bipush 7, 2) := by decide +kernel
theorem dX4_init_29 : decode cX4_init 29 = .ok (.newarray .int, 2) := by decide +kernel
theorem dX4_init_31 : decode cX4_init 31 = .ok (.putfield 21, 3) := by decide +kernel
theorem dX4_init_34 : decode cX4_init 34 = .ok (.aload_n 0, 1) := by decide +kernel
theorem dX4_init_35 : decode cX4_init 35 = .ok (.bipush 7, 2) := by decide +kernel
theorem dX4_init_37 : decode cX4_init 37 = .ok (.newarray .int, 2) := by decide +kernel
theorem dX4_init_39 : decode cX4_init 39 = .ok (.putfield 24, 3) := by decide +kernel
theorem dX4_init_42 : decode cX4_init 42 = .ok (.aload_n 0, 1) := by decide +kernel
theorem dX4_init_43 : decode cX4_init 43 = .ok (.bipush 7, 2) := by decide +kernel
theorem dX4_init_45 : decode cX4_init 45 = .ok (.newarray .int, 2) := by decide +kernel
theorem dX4_init_47 : decode cX4_init 47 = .ok (.putfield 27, 3) := by decide +kernel
theorem dX4_init_50 : decode cX4_init 50 = .ok (.aload_n 0, 1) := by decide +kernel
theorem dX4_init_51 : decode cX4_init 51 = .ok (.bipush 7, 2) := by decide +kernel
theorem dX4_init_53 : decode cX4_init 53 = .ok (.newarray .int, 2) := by decide +kernel
theorem dX4_init_55 : decode cX4_init 55 = .ok (.putfield 30, 3) := by decide +kernel
theorem dX4_init_58 : decode cX4_init 58 = .ok (.aload_n 0, 1) := by decide +kernel
theorem dX4_init_59 : decode cX4_init 59 = .ok (.bipush 7, 2) := by decide +kernel
theorem dX4_init_61 : decode cX4_init 61 = .ok (.newarray .int, 2) := by decide +kernel
theorem dX4_init_63 : decode cX4_init 63 = .ok (.putfield 33, 3) := by decide +kernel
theorem dX4_init_66 : decode cX4_init 66 = .ok (.return_, 1) := by decide +kernel
theorem dX4_isThere_0 : decode cX4_isThere 0 = .ok (.aload_n 0, 1) := by decide +kernel
theorem dX4_isThere_1 : decode cX4_isThere 1 = .ok (.getfield 36, 3) := by decide +kernel
theorem dX4_isThere_4 : decode cX4_isThere 4 = .ok (.ifCond .le 7, 3) := by decide +kernel
theorem dX4_isThere_7 : decode cX4_isThere 7 = .ok (.iconst 1, 1) := by decide +kernel
theorem dX4_isThere_8 : decode cX4_isThere 8 = .ok (.goto 4, 3) := by decide +kernel
theorem dX4_isThere_11 : decode cX4_isThere 11 = .ok (.iconst 0, 1) := by decide +kernel
theorem dX4_isThere_12 : decode cX4_isThere 12 = .ok (.ireturn, 1) := by decide +kernel
theorem dX4_isLiving_0 : decode cX4_isLiving 0 = .ok (.aload_n 0, 1) := by decide +kernel
theorem dX4_isLiving_1 : decode cX4_isLiving 1 = .ok (.getfield 40, 3) := by decide +kernel
theorem dX4_isLiving_4 : decode cX4_isLiving 4 = .ok (.iload_n 1, 1) := by decide +kernel
theorem dX4_isLiving_5 : decode cX4_isLiving 5 = .ok (.ishr, 1) := by decide +kernel
theorem dX4_isLiving_6 : decode cX4_isLiving 6 = .ok (.iconst 1, 1) := by decide +kernel
theorem dX4_isLiving_7 : decode cX4_isLiving 7 = .ok (.iand, 1) := by decide +kernel
theorem dX4_isLiving_8 : decode cX4_isLiving 8 = .ok (.iconst 1, 1) := by decide +kernel
theorem dX4_isLiving_9 : decode cX4_isLiving 9 = .ok (.if_icmp .ne 7, 3) := by decide +kernel
theorem dX4_isLiving_12 : decode cX4_isLiving 12 = .ok (.iconst 1, 1) := by decide +kernel
theorem dX4_isLiving_13 : decode cX4_isLiving 13 = .ok (.goto 4, 3) := by decide +kernel
theorem dX4_isLiving_16 : decode cX4_isLiving 16 = .ok (.iconst 0, 1) := by decide +kernel
theorem dX4_isLiving_17 : decode cX4_isLiving 17 = .ok (.ireturn, 1) := by decide +kernel
theorem dX4_isNailed_0 : decode cX4_isNailed 0 = .ok (.aload_n 0, 1) := by decide +kernel
theorem dX4_isNailed_1 : decode cX4_isNailed 1 = .ok (.getfield 43, 3) := by decide +kernel
theorem dX4_isNailed_4 : decode cX4_isNailed 4 = .ok (.iload_n 1, 1) := by decide +kernel
theorem dX4_isNailed_5 : decode cX4_isNailed 5 = .ok (.ishr, 1) := by decide +kernel
theorem dX4_isNailed_6 : decode cX4_isNailed 6 = .ok (.iconst 1, 1) := by decide +kernel
theorem dX4_isNailed_7 : decode cX4_isNailed 7 = .ok (.iand, 1) := by decide +kernel
theorem dX4_isNailed_8 : decode cX4_isNailed 8 = .ok (.iconst 1, 1) := by decide +kernel
theorem dX4_isNailed_9 : decode cX4_isNailed 9 = .ok (.if_icmp .ne 7, 3) := by decide +kernel
theorem dX4_isNailed_12 : decode cX4_isNailed 12 = .ok (.iconst 1, 1) := by decide +kernel
theorem dX4_isNailed_13 : decode cX4_isNailed 13 = .ok (.goto 4, 3) := by decide +kernel
theorem dX4_isNailed_16 : decode cX4_isNailed 16 = .ok (.iconst 0, 1) := by decide +kernel
theorem dX4_isNailed_17 : decode cX4_isNailed 17 = .ok (.ireturn, 1) := by decide +kernel
theorem dX4_areNamesakes_0 : decode cX4_areNamesakes 0 = .ok (.aload_n 0, 1) := by decide +kernel
theorem dX4_areNamesakes_1 : decode cX4_areNamesakes 1 = .ok (.iload_n 1, 1) := by decide +kernel
theorem dX4_areNamesakes_2 : decode cX4_areNamesakes 2 = .ok (.invokevirtual 46, 3) := by decide +kernel
theorem dX4_areNamesakes_5 : decode cX4_areNamesakes 5 = .ok (.ifCond .eq 30, 3) := by decide +kernel
theorem dX4_areNamesakes_8 : decode cX4_areNamesakes 8 = .ok (.aload_n 0, 1) := by decide +kernel
theorem dX4_areNamesakes_9 : decode cX4_areNamesakes 9 = .ok (.iload_n 2, 1) := by decide +kernel
theorem dX4_areNamesakes_10 : decode cX4_areNamesakes 10 = .ok (.invokevirtual 46, 3) := by decide +kernel
theorem dX4_areNamesakes_13 : decode cX4_areNamesakes 13 = .ok (.ifCond .eq 22, 3) := by decide +kernel
theorem dX4_areNamesakes_16 : decode cX4_areNamesakes 16 = .ok (.aload_n 0, 1) := by decide +kernel
theorem dX4_areNamesakes_17 : decode cX4_areNamesakes 17 = .ok (.getfield 21, 3) := by decide +kernel
theorem dX4_areNamesakes_20 : decode cX4_areNamesakes 20 = .ok (.iload_n 1, 1) := by decide +kernel
theorem dX4_areNamesakes_21 : decode cX4_areNamesakes 21 = .ok (.iaload, 1) := by decide +kernel
theorem dX4_areNamesakes_22 : decode cX4_areNamesakes 22 = .ok (.aload_n 0, 1) := by decide +kernel
theorem dX4_areNamesakes_23 : decode cX4_areNamesakes 23 = .ok (.getfield 21, 3) := by decide +kernel
theorem dX4_areNamesakes_26 : decode cX4_areNamesakes 26 = .ok (.iload_n 2, 1) := by decide +kernel
theorem dX4_areNamesakes_27 : decode cX4_areNamesakes 27 = .ok (.iaload, 1) := by decide +kernel
theorem dX4_areNamesakes_28 : decode cX4_areNamesakes 28 = .ok (.if_icmp .ne 7, 3) := by decide +kernel
theorem dX4_areNamesakes_31 : decode cX4_areNamesakes 31 = .ok (.iconst 1, 1) := by decide +kernel
theorem dX4_areNamesakes_32 : decode cX4_areNamesakes 32 = .ok (.goto 4, 3) := by decide +kernel
theorem dX4_areNamesakes_35 : decode cX4_areNamesakes 35 = .ok (.iconst 0, 1) := by decide +kernel
theorem dX4_areNamesakes_36 : decode cX4_areNamesakes 36 = .ok (.ireturn, 1) := by decide +kernel
theorem dX4_calledAfter_0 : decode cX4_calledAfter 0 = .ok (.iconst 0, 1) := by decide +kernel
theorem dX4_calledAfter_1 : decode cX4_calledAfter 1 = .ok (.istore_n 2, 1) := by decide +kernel
theorem dX4_calledAfter_2 : decode cX4_calledAfter 2 = .ok (.iconst 0, 1) := by decide +kernel
theorem dX4_calledAfter_3 : decode cX4_calledAfter 3 = .ok (.istore_n 3, 1) := by decide +kernel
theorem dX4_calledAfter_4 : decode cX4_calledAfter 4 = .ok (.iload_n 3, 1) := by decide +kernel
theorem dX4_calledAfter_5 : decode cX4_calledAfter 5 = .ok (.aload_n 0, 1) := by decide +kernel
theorem dX4_calledAfter_6 : decode cX4_calledAfter 6 = .ok (.getfield 50, 3) := by decide +kernel
theorem dX4_calledAfter_9 : decode cX4_calledAfter 9 = .ok (.if_icmp .ge 29, 3) := by decide +kernel
theorem dX4_calledAfter_12 : decode cX4_calledAfter 12 = .ok (.iload_n 2, 1) := by decide +kernel
theorem dX4_calledAfter_13 : decode cX4_calledAfter 13 = .ok (.aload_n 0, 1) := by decide +kernel
theorem dX4_calledAfter_14 : decode cX4_calledAfter 14 = .ok (.getfield 21, 3) := by decide +kernel
theorem dX4_calledAfter_17 : decode cX4_calledAfter 17 = .ok (.iload_n 3, 1) := by decide +kernel
theorem dX4_calledAfter_18 : decode cX4_calledAfter 18 = .ok (.iaload, 1) := by decide +kernel
theorem dX4_calledAfter_19 : decode cX4_calledAfter 19 = .ok (.iload_n 1, 1) := by decide +kernel
theorem dX4_calledAfter_20 : decode cX4_calledAfter 20 = .ok (.if_icmp .ne 9, 3) := by decide +kernel
theorem dX4_calledAfter_23 : decode cX4_calledAfter 23 = .ok (.iconst 1, 1) := by decide +kernel
theorem dX4_calledAfter_24 : decode cX4_calledAfter 24 = .ok (.iload_n 3, 1) := by decide +kernel
theorem dX4_calledAfter_25 : decode cX4_calledAfter 25 = .ok (.ishl, 1) := by decide +kernel
theorem dX4_calledAfter_26 : decode cX4_calledAfter 26 = .ok (.goto 4, 3) := by decide +kernel
theorem dX4_calledAfter_29 : decode cX4_calledAfter 29 = .ok (.iconst 0, 1) := by decide +kernel
theorem dX4_calledAfter_30 : decode cX4_calledAfter 30 = .ok (.ior, 1) := by decide +kernel
theorem dX4_calledAfter_31 : decode cX4_calledAfter 31 = .ok (.istore_n 2, 1) := by decide +kernel
theorem dX4_calledAfter_32 : decode cX4_calledAfter 32 = .ok (.iinc 3 1, 3) := by decide +kernel
theorem dX4_calledAfter_35 : decode cX4_calledAfter 35 = .ok (.goto (-31), 3) := by decide +kernel
theorem dX4_calledAfter_38 : decode cX4_calledAfter 38 = .ok (.iload_n 2, 1) := by decide +kernel
theorem dX4_calledAfter_39 : decode cX4_calledAfter 39 = .ok (.ireturn, 1) := by decide +kernel
theorem dX4_become_0 : decode cX4_become 0 = .ok (.aload_n 0, 1) := by decide +kernel
theorem dX4_become_1 : decode cX4_become 1 = .ok (.aload_n 1, 1) := by decide +kernel
theorem dX4_become_2 : decode cX4_become 2 = .ok (.getfield 36, 3) := by decide +kernel
theorem dX4_become_5 : decode cX4_become 5 = .ok (.putfield 36, 3) := by decide +kernel
theorem dX4_become_8 : decode cX4_become 8 = .ok (.aload_n 0, 1) := by decide +kernel
theorem dX4_become_9 : decode cX4_become 9 = .ok (.aload_n 1, 1) := by decide +kernel
theorem dX4_become_10 : decode cX4_become 10 = .ok (.getfield 53, 3) := by decide +kernel
theorem dX4_become_13 : decode cX4_become 13 = .ok (.putfield 53, 3) := by decide +kernel
theorem dX4_become_16 : decode cX4_become 16 = .ok (.aload_n 0, 1) := by decide +kernel
theorem dX4_become_17 : decode cX4_become 17 = .ok (.aload_n 1, 1) := by decide +kernel
theorem dX4_become_18 : decode cX4_become 18 = .ok (.getfield 56, 3) := by decide +kernel
theorem dX4_become_21 : decode cX4_become 21 = .ok (.putfield 56, 3) := by decide +kernel
theorem dX4_become_24 : decode cX4_become 24 = .ok (.aload_n 0, 1) := by decide +kernel
theorem dX4_become_25 : decode cX4_become 25 = .ok (.aload_n 1, 1) := by decide +kernel
theorem dX4_become_26 : decode cX4_become 26 = .ok (.getfield 59, 3) := by decide +kernel
theorem dX4_become_29 : decode cX4_become 29 = .ok (.putfield 59, 3) := by decide +kernel
theorem dX4_become_32 : decode cX4_become 32 = .ok (.aload_n 0, 1) := by decide +kernel
theorem dX4_become_33 : decode cX4_become 33 = .ok (.aload_n 1, 1) := by decide +kernel
theorem dX4_become_34 : decode cX4_become 34 = .ok (.getfield 50, 3) := by decide +kernel
theorem dX4_become_37 : decode cX4_become 37 = .ok (.putfield 50, 3) := by decide +kernel
theorem dX4_become_40 : decode cX4_become 40 = .ok (.aload_n 0, 1) := by decide +kernel
theorem dX4_become_41 : decode cX4_become 41 = .ok (.aload_n 1, 1) := by decide +kernel
theorem dX4_become_42 : decode cX4_become 42 = .ok (.getfield 43, 3) := by decide +kernel
theorem dX4_become_45 : decode cX4_become 45 = .ok (.putfield 43, 3) := by decide +kernel
theorem dX4_become_48 : decode cX4_become 48 = .ok (.aload_n 0, 1) := by decide +kernel
theorem dX4_become_49 : decode cX4_become 49 = .ok (.aload_n 1, 1) := by decide +kernel
theorem dX4_become_50 : decode cX4_become 50 = .ok (.getfield 40, 3) := by decide +kernel
theorem dX4_become_53 : decode cX4_become 53 = .ok (.putfield 40, 3) := by decide +kernel
theorem dX4_become_56 : decode cX4_become 56 = .ok (.aload_n 1, 1) := by decide +kernel
theorem dX4_become_57 : decode cX4_become 57 = .ok (.getfield 9, 3) := by decide +kernel
theorem dX4_become_60 : decode cX4_become 60 = .ok (.iconst 0, 1) := by decide +kernel
theorem dX4_become_61 : decode cX4_become 61 = .ok (.aload_n 0, 1) := by decide +kernel
theorem dX4_become_62 : decode cX4_become 62 = .ok (.getfield 9, 3) := by decide +kernel
theorem dX4_become_65 : decode cX4_become 65 = .ok (.iconst 0, 1) := by decide +kernel
theorem dX4_become_66 : decode cX4_become 66 = .ok (.iconst 5, 1) := by decide +kernel
theorem dX4_become_67 : decode cX4_become 67 = .ok (.invokestatic 62, 3) := by decide +kernel
theorem dX4_become_70 : decode cX4_become 70 = .ok (.aload_n 1, 1) := by decide +kernel
theorem dX4_become_71 : decode cX4_become 71 = .ok (.getfield 15, 3) := by decide +kernel
theorem dX4_become_74 : decode cX4_become 74 = .ok (.iconst 0, 1) := by decide +kernel
theorem dX4_become_75 : decode cX4_become 75 = .ok (.aload_n 0, 1) := by decide +kernel
theorem dX4_become_76 : decode cX4_become 76 = .ok (.getfield 15, 3) := by decide +kernel
theorem dX4_become_79 : decode cX4_become 79 = .ok (.iconst 0, 1) := by decide +kernel
theorem dX4_become_80 : decode cX4_become 80 = .ok (.iconst 5, 1) := by decide +kernel
theorem dX4_become_81 : decode cX4_become 81 = .ok (.invokestatic 62, 3) := by decide +kernel
theorem dX4_become_84 : decode cX4_become 84 = .ok (.aload_n 1, 1) := by decide +kernel
theorem dX4_become_85 : decode cX4_become 85 = .ok (.getfield 18, 3) := by decide +kernel
theorem dX4_become_88 : decode cX4_become 88 = .ok (.iconst 0, 1) := by decide +kernel
theorem dX4_become_89 : decode cX4_become 89 = .ok (.aload_n 0, 1) := by decide +kernel
theorem dX4_become_90 : decode cX4_become 90 = .ok (.getfield 18, 3) := by decide +kernel
theorem dX4_become_93 : decode cX4_become 93 = .ok (.iconst 0, 1) := by decide +kernel
theorem dX4_become_94 : decode cX4_become 94 = .ok (.bipush 7, 2) := by decide +kernel
theorem dX4_become_96 : decode cX4_become 96 = .ok (.invokestatic 62, 3) := by decide +kernel
theorem dX4_become_99 : decode cX4_become 99 = .ok (.aload_n 1, 1) := by decide +kernel
theorem dX4_become_100 : decode cX4_become 100 = .ok (.getfield 21, 3) := by decide +kernel
theorem dX4_become_103 : decode cX4_become 103 = .ok (.iconst 0, 1) := by decide +kernel
theorem dX4_become_104 : decode cX4_become 104 = .ok (.aload_n 0, 1) := by decide +kernel
theorem dX4_become_105 : decode cX4_become 105 = .ok (.getfield 21, 3) := by decide +kernel
theorem dX4_become_108 : decode cX4_become 108 = .ok (.iconst 0, 1) := by decide +kernel
theorem dX4_become_109 : decode cX4_become 109 = .ok (.bipush 7, 2) := by decide +kernel
theorem dX4_become_111 : decode cX4_become 111 = .ok (.invokestatic 62, 3) := by decide +kernel
theorem dX4_become_114 : decode cX4_become 114 = .ok (.aload_n 1, 1) := by decide +kernel
theorem dX4_become_115 : decode cX4_become 115 = .ok (.getfield 24, 3) := by decide +kernel
theorem dX4_become_118 : decode cX4_become 118 = .ok (.iconst 0, 1) := by decide +kernel
theorem dX4_become_119 : decode cX4_become 119 = .ok (.aload_n 0, 1) := by decide +kernel
theorem dX4_become_120 : decode cX4_become 120 = .ok (.getfield 24, 3) := by decide +kernel
theorem dX4_become_123 : decode cX4_become 123 = .ok (.iconst 0, 1) := by decide +kernel
theorem dX4_become_124 : decode cX4_become 124 = .ok (.bipush 7, 2) := by decide +kernel
theorem dX4_become_126 : decode cX4_become 126 = .ok (.invokestatic 62, 3) := by decide +kernel
theorem dX4_become_129 : decode cX4_become 129 = .ok (.aload_n 1, 1) := by decide +kernel
theorem dX4_become_130 : decode cX4_become 130 = .ok (.getfield 27, 3) := by decide +kernel
theorem dX4_become_133 : decode cX4_become 133 = .ok (.iconst 0, 1) := by decide +kernel
theorem dX4_become_134 : decode cX4_become 134 = .ok (.aload_n 0, 1) := by decide +kernel
theorem dX4_become_135 : decode cX4_become 135 = .ok (.getfield 27, 3) := by decide +kernel
theorem dX4_become_138 : decode cX4_become 138 = .ok (.iconst 0, 1) := by decide +kernel
theorem dX4_become_139 : decode cX4_become 139 = .ok (.bipush 7, 2) := by decide +kernel
theorem dX4_become_141 : decode cX4_become 141 = .ok (.invokestatic 62, 3) := by decide +kernel
theorem dX4_become_144 : decode cX4_become 144 = .ok (.aload_n 1, 1) := by decide +kernel
theorem dX4_become_145 : decode cX4_become 145 = .ok (.getfield 30, 3) := by decide +kernel
theorem dX4_become_148 : decode cX4_become 148 = .ok (.iconst 0, 1) := by decide +kernel
theorem dX4_become_149 : decode cX4_become 149 = .ok (.aload_n 0, 1) := by decide +kernel
theorem dX4_become_150 : decode cX4_become 150 = .ok (.getfield 30, 3) := by decide +kernel
theorem dX4_become_153 : decode cX4_become 153 = .ok (.iconst 0, 1) := by decide +kernel
theorem dX4_become_154 : decode cX4_become 154 = .ok (.bipush 7, 2) := by decide +kernel
theorem dX4_become_156 : decode cX4_become 156 = .ok (.invokestatic 62, 3) := by decide +kernel
theorem dX4_become_159 : decode cX4_become 159 = .ok (.aload_n 1, 1) := by decide +kernel
theorem dX4_become_160 : decode cX4_become 160 = .ok (.getfield 33, 3) := by decide +kernel
theorem dX4_become_163 : decode cX4_become 163 = .ok (.iconst 0, 1) := by decide +kernel
theorem dX4_become_164 : decode cX4_become 164 = .ok (.aload_n 0, 1) := by decide +kernel
theorem dX4_become_165 : decode cX4_become 165 = .ok (.getfield 33, 3) := by decide +kernel
theorem dX4_become_168 : decode cX4_become 168 = .ok (.iconst 0, 1) := by decide +kernel
theorem dX4_become_169 : decode cX4_become 169 = .ok (.bipush 7, 2) := by decide +kernel
theorem dX4_become_171 : decode cX4_become 171 = .ok (.invokestatic 62, 3) := by decide +kernel
theorem dX4_become_174 : decode cX4_become 174 = .ok (.return_, 1) := by decide +kernel
theorem dX4_carryByDraw_0 : decode cX4_carryByDraw 0 = .ok (.aload_n 0, 1) := by decide +kernel
theorem dX4_carryByDraw_1 : decode cX4_carryByDraw 1 = .ok (.getfield 59, 3) := by decide +kernel
theorem dX4_carryByDraw_4 : decode cX4_carryByDraw 4 = .ok (.ifCond .le 31, 3) := by decide +kernel
theorem dX4_carryByDraw_7 : decode cX4_carryByDraw 7 = .ok (.aload_n 0, 1) := by decide +kernel
theorem dX4_carryByDraw_8 : decode cX4_carryByDraw 8 = .ok (.getfield 36, 3) := by decide +kernel
theorem dX4_carryByDraw_11 : decode cX4_carryByDraw 11 = .ok (.ifCond .le 24, 3) := by decide +kernel
theorem dX4_carryByDraw_14 : decode cX4_carryByDraw 14 = .ok (.aload_n 0, 1) := by decide +kernel
theorem dX4_carryByDraw_15 : decode cX4_carryByDraw 15 = .ok (.getfield 9, 3) := by decide +kernel
theorem dX4_carryByDraw_18 : decode cX4_carryByDraw 18 = .ok (.lload_n 1, 1) := by decide +kernel
theorem dX4_carryByDraw_19 : decode cX4_carryByDraw 19 = .ok (.aload_n 0, 1) := by decide +kernel
theorem dX4_carryByDraw_20 : decode cX4_carryByDraw 20 = .ok (.getfield 59, 3) := by decide +kernel
theorem dX4_carryByDraw_23 : decode cX4_carryByDraw 23 = .ok (.i2l, 1) := by decide +kernel
theorem dX4_carryByDraw_24 : decode cX4_carryByDraw 24 = .ok (.lrem, 1) := by decide +kernel
theorem dX4_carryByDraw_25 : decode cX4_carryByDraw 25 = .ok (.l2i, 1) := by decide +kernel
theorem dX4_carryByDraw_26 : decode cX4_carryByDraw 26 = .ok (.lload_n 1, 1) := by decide +kernel
theorem dX4_carryByDraw_27 : decode cX4_carryByDraw 27 = .ok (.aload_n 0, 1) := by decide +kernel
theorem dX4_carryByDraw_28 : decode cX4_carryByDraw 28 = .ok (.getfield 36, 3) := by decide +kernel
theorem dX4_carryByDraw_31 : decode cX4_carryByDraw 31 = .ok (.i2l, 1) := by decide +kernel
theorem dX4_carryByDraw_32 : decode cX4_carryByDraw 32 = .ok (.lrem, 1) := by decide +kernel
theorem dX4_carryByDraw_33 : decode cX4_carryByDraw 33 = .ok (.l2i, 1) := by decide +kernel
theorem dX4_carryByDraw_34 : decode cX4_carryByDraw 34 = .ok (.iastore, 1) := by decide +kernel
theorem dX4_carryByDraw_35 : decode cX4_carryByDraw 35 = .ok (.return_, 1) := by decide +kernel
theorem dX4_passDay_0 : decode cX4_passDay 0 = .ok (.iconst 0, 1) := by decide +kernel
theorem dX4_passDay_1 : decode cX4_passDay 1 = .ok (.istore_n 2, 1) := by decide +kernel
theorem dX4_passDay_2 : decode cX4_passDay 2 = .ok (.iconst 0, 1) := by decide +kernel
theorem dX4_passDay_3 : decode cX4_passDay 3 = .ok (.istore_n 3, 1) := by decide +kernel
theorem dX4_passDay_4 : decode cX4_passDay 4 = .ok (.iload_n 3, 1) := by decide +kernel
theorem dX4_passDay_5 : decode cX4_passDay 5 = .ok (.aload_n 0, 1) := by decide +kernel
theorem dX4_passDay_6 : decode cX4_passDay 6 = .ok (.getfield 50, 3) := by decide +kernel
theorem dX4_passDay_9 : decode cX4_passDay 9 = .ok (.if_icmp .ge 85, 3) := by decide +kernel
theorem dX4_passDay_12 : decode cX4_passDay 12 = .ok (.aload_n 0, 1) := by decide +kernel
theorem dX4_passDay_13 : decode cX4_passDay 13 = .ok (.iload_n 3, 1) := by decide +kernel
theorem dX4_passDay_14 : decode cX4_passDay 14 = .ok (.invokevirtual 46, 3) := by decide +kernel
theorem dX4_passDay_17 : decode cX4_passDay 17 = .ok (.istore 4, 2) := by decide +kernel
theorem dX4_passDay_19 : decode cX4_passDay 19 = .ok (.aload_n 1, 1) := by decide +kernel
theorem dX4_passDay_20 : decode cX4_passDay 20 = .ok (.aload_n 0, 1) := by decide +kernel
theorem dX4_passDay_21 : decode cX4_passDay 21 = .ok (.iload_n 3, 1) := by decide +kernel
theorem dX4_passDay_22 : decode cX4_passDay 22 = .ok (.invokevirtual 68, 3) := by decide +kernel
theorem dX4_passDay_25 : decode cX4_passDay 25 = .ok (.aload_n 1, 1) := by decide +kernel
theorem dX4_passDay_26 : decode cX4_passDay 26 = .ok (.invokevirtual 74, 3) := by decide +kernel
theorem dX4_passDay_29 : decode cX4_passDay 29 = .ok (.aload_n 0, 1) := by decide +kernel
theorem dX4_passDay_30 : decode cX4_passDay 30 = .ok (.getfield 24, 3) := by decide +kernel
theorem dX4_passDay_33 : decode cX4_passDay 33 = .ok (.iload_n 3, 1) := by decide +kernel
theorem dX4_passDay_34 : decode cX4_passDay 34 = .ok (.aload_n 1, 1) := by decide +kernel
theorem dX4_passDay_35 : decode cX4_passDay 35 = .ok (.getfield 77, 3) := by decide +kernel
theorem dX4_passDay_38 : decode cX4_passDay 38 = .ok (.iastore, 1) := by decide +kernel
theorem dX4_passDay_39 : decode cX4_passDay 39 = .ok (.aload_n 0, 1) := by decide +kernel
theorem dX4_passDay_40 : decode cX4_passDay 40 = .ok (.getfield 30, 3) := by decide +kernel
theorem dX4_passDay_43 : decode cX4_passDay 43 = .ok (.iload_n 3, 1) := by decide +kernel
theorem dX4_passDay_44 : decode cX4_passDay 44 = .ok (.aload_n 1, 1) := by decide +kernel
theorem dX4_passDay_45 : decode cX4_passDay 45 = .ok (.getfield 79, 3) := by decide +kernel
theorem dX4_passDay_48 : decode cX4_passDay 48 = .ok (.iastore, 1) := by decide +kernel
theorem dX4_passDay_49 : decode cX4_passDay 49 = .ok (.iload 4, 2) := by decide +kernel
theorem dX4_passDay_51 : decode cX4_passDay 51 = .ok (.ifCond .eq 37, 3) := by decide +kernel
theorem dX4_passDay_54 : decode cX4_passDay 54 = .ok (.aload_n 1, 1) := by decide +kernel
theorem dX4_passDay_55 : decode cX4_passDay 55 = .ok (.getfield 81, 3) := by decide +kernel
theorem dX4_passDay_58 : decode cX4_passDay 58 = .ok (.ifCond .ne 30, 3) := by decide +kernel
theorem dX4_passDay_61 : decode cX4_passDay 61 = .ok (.aload_n 0, 1) := by decide +kernel
theorem dX4_passDay_62 : decode cX4_passDay 62 = .ok (.dup, 1) := by decide +kernel
theorem dX4_passDay_63 : decode cX4_passDay 63 = .ok (.getfield 40, 3) := by decide +kernel
theorem dX4_passDay_66 : decode cX4_passDay 66 = .ok (.iconst 1, 1) := by decide +kernel
theorem dX4_passDay_67 : decode cX4_passDay 67 = .ok (.iload_n 3, 1) := by decide +kernel
theorem dX4_passDay_68 : decode cX4_passDay 68 = .ok (.ishl, 1) := by decide +kernel
theorem dX4_passDay_69 : decode cX4_passDay 69 = .ok (.iconst (-1), 1) := by decide +kernel
theorem dX4_passDay_70 : decode cX4_passDay 70 = .ok (.ixor, 1) := by decide +kernel
theorem dX4_passDay_71 : decode cX4_passDay 71 = .ok (.iand, 1) := by decide +kernel
theorem dX4_passDay_72 : decode cX4_passDay 72 = .ok (.putfield 40, 3) := by decide +kernel
theorem dX4_passDay_75 : decode cX4_passDay 75 = .ok (.aload_n 0, 1) := by decide +kernel
theorem dX4_passDay_76 : decode cX4_passDay 76 = .ok (.getfield 33, 3) := by decide +kernel
theorem dX4_passDay_79 : decode cX4_passDay 79 = .ok (.iload_n 3, 1) := by decide +kernel
theorem dX4_passDay_80 : decode cX4_passDay 80 = .ok (.aload_n 0, 1) := by decide +kernel
theorem dX4_passDay_81 : decode cX4_passDay 81 = .ok (.getfield 56, 3) := by decide +kernel
theorem dX4_passDay_84 : decode cX4_passDay 84 = .ok (.iastore, 1) := by decide +kernel
theorem dX4_passDay_85 : decode cX4_passDay 85 = .ok (.iinc 2 1, 3) := by decide +kernel
theorem dX4_passDay_88 : decode cX4_passDay 88 = .ok (.iinc 3 1, 3) := by decide +kernel
theorem dX4_passDay_91 : decode cX4_passDay 91 = .ok (.goto (-87), 3) := by decide +kernel
theorem dX4_passDay_94 : decode cX4_passDay 94 = .ok (.iconst 0, 1) := by decide +kernel
theorem dX4_passDay_95 : decode cX4_passDay 95 = .ok (.istore_n 3, 1) := by decide +kernel
theorem dX4_passDay_96 : decode cX4_passDay 96 = .ok (.iload_n 3, 1) := by decide +kernel
theorem dX4_passDay_97 : decode cX4_passDay 97 = .ok (.aload_n 0, 1) := by decide +kernel
theorem dX4_passDay_98 : decode cX4_passDay 98 = .ok (.getfield 59, 3) := by decide +kernel
theorem dX4_passDay_101 : decode cX4_passDay 101 = .ok (.if_icmp .ge 52, 3) := by decide +kernel
theorem dX4_passDay_104 : decode cX4_passDay 104 = .ok (.aload_n 0, 1) := by decide +kernel
theorem dX4_passDay_105 : decode cX4_passDay 105 = .ok (.getfield 9, 3) := by decide +kernel
theorem dX4_passDay_108 : decode cX4_passDay 108 = .ok (.iload_n 3, 1) := by decide +kernel
theorem dX4_passDay_109 : decode cX4_passDay 109 = .ok (.aload_n 0, 1) := by decide +kernel
theorem dX4_passDay_110 : decode cX4_passDay 110 = .ok (.iload_n 3, 1) := by decide +kernel
theorem dX4_passDay_111 : decode cX4_passDay 111 = .ok (.invokevirtual 85, 3) := by decide +kernel
theorem dX4_passDay_114 : decode cX4_passDay 114 = .ok (.ifCond .eq 12, 3) := by decide +kernel
theorem dX4_passDay_117 : decode cX4_passDay 117 = .ok (.aload_n 0, 1) := by decide +kernel
theorem dX4_passDay_118 : decode cX4_passDay 118 = .ok (.getfield 9, 3) := by decide +kernel
theorem dX4_passDay_121 : decode cX4_passDay 121 = .ok (.iload_n 3, 1) := by decide +kernel
theorem dX4_passDay_122 : decode cX4_passDay 122 = .ok (.iaload, 1) := by decide +kernel
theorem dX4_passDay_123 : decode cX4_passDay 123 = .ok (.goto 23, 3) := by decide +kernel
theorem dX4_passDay_126 : decode cX4_passDay 126 = .ok (.aload_n 0, 1) := by decide +kernel
theorem dX4_passDay_127 : decode cX4_passDay 127 = .ok (.getfield 9, 3) := by decide +kernel
theorem dX4_passDay_130 : decode cX4_passDay 130 = .ok (.iload_n 3, 1) := by decide +kernel
theorem dX4_passDay_131 : decode cX4_passDay 131 = .ok (.iaload, 1) := by decide +kernel
theorem dX4_passDay_132 : decode cX4_passDay 132 = .ok (.aload_n 0, 1) := by decide +kernel
theorem dX4_passDay_133 : decode cX4_passDay 133 = .ok (.getfield 15, 3) := by decide +kernel
theorem dX4_passDay_136 : decode cX4_passDay 136 = .ok (.iload_n 3, 1) := by decide +kernel
theorem dX4_passDay_137 : decode cX4_passDay 137 = .ok (.iaload, 1) := by decide +kernel
theorem dX4_passDay_138 : decode cX4_passDay 138 = .ok (.iadd, 1) := by decide +kernel
theorem dX4_passDay_139 : decode cX4_passDay 139 = .ok (.aload_n 0, 1) := by decide +kernel
theorem dX4_passDay_140 : decode cX4_passDay 140 = .ok (.getfield 36, 3) := by decide +kernel
theorem dX4_passDay_143 : decode cX4_passDay 143 = .ok (.invokestatic 88, 3) := by decide +kernel
theorem dX4_passDay_146 : decode cX4_passDay 146 = .ok (.iastore, 1) := by decide +kernel
theorem dX4_passDay_147 : decode cX4_passDay 147 = .ok (.iinc 3 1, 3) := by decide +kernel
theorem dX4_passDay_150 : decode cX4_passDay 150 = .ok (.goto (-54), 3) := by decide +kernel
theorem dX4_passDay_153 : decode cX4_passDay 153 = .ok (.aload_n 0, 1) := by decide +kernel
theorem dX4_passDay_154 : decode cX4_passDay 154 = .ok (.dup, 1) := by decide +kernel
theorem dX4_passDay_155 : decode cX4_passDay 155 = .ok (.getfield 56, 3) := by decide +kernel
theorem dX4_passDay_158 : decode cX4_passDay 158 = .ok (.iconst 1, 1) := by decide +kernel
theorem dX4_passDay_159 : decode cX4_passDay 159 = .ok (.iadd, 1) := by decide +kernel
theorem dX4_passDay_160 : decode cX4_passDay 160 = .ok (.putfield 56, 3) := by decide +kernel
theorem dX4_passDay_163 : decode cX4_passDay 163 = .ok (.iload_n 2, 1) := by decide +kernel
theorem dX4_passDay_164 : decode cX4_passDay 164 = .ok (.ireturn, 1) := by decide +kernel
theorem dX5_init_0 : decode cX5_init 0 = .ok (.aload_n 0, 1) := by decide +kernel
theorem dX5_init_1 : decode cX5_init 1 = .ok (.invokespecial 3, 3) := by decide +kernel
theorem dX5_init_4 : decode cX5_init 4 = .ok (.aload_n 0, 1) := by decide +kernel
theorem dX5_init_5 : decode cX5_init 5 = .ok (.bipush 100, 2) := by decide +kernel
theorem dX5_init_7 : decode cX5_init 7 = .ok (.newarray .int, 2) := by decide +kernel
theorem dX5_init_9 : decode cX5_init 9 = .ok (.putfield 9, 3) := by decide +kernel
theorem dX5_init_12 : decode cX5_init 12 = .ok (.aload_n 0, 1) := by decide +kernel
theorem dX5_init_13 : decode cX5_init 13 = .ok (.new 15, 3) := by decide +kernel
theorem dX5_init_16 : decode cX5_init 16 = .ok (.dup, 1) := by decide +kernel
theorem dX5_init_17 : decode cX5_init 17 = .ok (.invokespecial 17, 3) := by decide +kernel
theorem dX5_init_20 : decode cX5_init 20 = .ok (.putfield 18, 3) := by decide +kernel
theorem dX5_init_23 : decode cX5_init 23 = .ok (.return_, 1) := by decide +kernel
theorem dX5_take_0 : decode cX5_take 0 = .ok (.aload_n 0, 1) := by decide +kernel
theorem dX5_take_1 : decode cX5_take 1 = .ok (.getfield 22, 3) := by decide +kernel
theorem dX5_take_4 : decode cX5_take 4 = .ok (.bipush 100, 2) := by decide +kernel
theorem dX5_take_6 : decode cX5_take 6 = .ok (.if_icmp .lt 5, 3) := by decide +kernel
theorem dX5_take_9 : decode cX5_take 9 = .ok (.iconst 0, 1) := by decide +kernel
theorem dX5_take_10 : decode cX5_take 10 = .ok (.ireturn, 1) := by decide +kernel
theorem dX5_take_11 : decode cX5_take 11 = .ok (.aload_n 0, 1) := by decide +kernel
theorem dX5_take_12 : decode cX5_take 12 = .ok (.getfield 9, 3) := by decide +kernel
theorem dX5_take_15 : decode cX5_take 15 = .ok (.aload_n 0, 1) := by decide +kernel
theorem dX5_take_16 : decode cX5_take 16 = .ok (.getfield 22, 3) := by decide +kernel
theorem dX5_take_19 : decode cX5_take 19 = .ok (.iload_n 1, 1) := by decide +kernel
theorem dX5_take_20 : decode cX5_take 20 = .ok (.iastore, 1) := by decide +kernel
theorem dX5_take_21 : decode cX5_take 21 = .ok (.aload_n 0, 1) := by decide +kernel
theorem dX5_take_22 : decode cX5_take 22 = .ok (.dup, 1) := by decide +kernel
theorem dX5_take_23 : decode cX5_take 23 = .ok (.getfield 22, 3) := by decide +kernel
theorem dX5_take_26 : decode cX5_take 26 = .ok (.iconst 1, 1) := by decide +kernel
theorem dX5_take_27 : decode cX5_take 27 = .ok (.iadd, 1) := by decide +kernel
theorem dX5_take_28 : decode cX5_take 28 = .ok (.putfield 22, 3) := by decide +kernel
theorem dX5_take_31 : decode cX5_take 31 = .ok (.iconst 1, 1) := by decide +kernel
theorem dX5_take_32 : decode cX5_take 32 = .ok (.ireturn, 1) := by decide +kernel
theorem dX5_readTape_0 : decode cX5_readTape 0 = .ok (.aload_n 0, 1) := by decide +kernel
theorem dX5_readTape_1 : decode cX5_readTape 1 = .ok (.iconst 0, 1) := by decide +kernel
theorem dX5_readTape_2 : decode cX5_readTape 2 = .ok (.putfield 26, 3) := by decide +kernel
theorem dX5_readTape_5 : decode cX5_readTape 5 = .ok (.aload_n 0, 1) := by decide +kernel
theorem dX5_readTape_6 : decode cX5_readTape 6 = .ok (.invokevirtual 29, 3) := by decide +kernel
theorem dX5_readTape_9 : decode cX5_readTape 9 = .ok (.aload_n 0, 1) := by decide +kernel
theorem dX5_readTape_10 : decode cX5_readTape 10 = .ok (.invokevirtual 32, 3) := by decide +kernel
theorem dX5_readTape_13 : decode cX5_readTape 13 = .ok (.ifCond .eq 14, 3) := by decide +kernel
theorem dX5_readTape_16 : decode cX5_readTape 16 = .ok (.aload_n 0, 1) := by decide +kernel
theorem dX5_readTape_17 : decode cX5_readTape 17 = .ok (.invokevirtual 36, 3) := by decide +kernel
theorem dX5_readTape_20 : decode cX5_readTape 20 = .ok (.ifCond .eq 7, 3) := by decide +kernel
theorem dX5_readTape_23 : decode cX5_readTape 23 = .ok (.iconst 1, 1) := by decide +kernel
theorem dX5_readTape_24 : decode cX5_readTape 24 = .ok (.goto 4, 3) := by decide +kernel
theorem dX5_readTape_27 : decode cX5_readTape 27 = .ok (.iconst 0, 1) := by decide +kernel
theorem dX5_readTape_28 : decode cX5_readTape 28 = .ok (.istore_n 1, 1) := by decide +kernel
theorem dX5_readTape_29 : decode cX5_readTape 29 = .ok (.iconst 1, 1) := by decide +kernel
theorem dX5_readTape_30 : decode cX5_readTape 30 = .ok (.istore_n 2, 1) := by decide +kernel
theorem dX5_readTape_31 : decode cX5_readTape 31 = .ok (.iload_n 2, 1) := by decide +kernel
theorem dX5_readTape_32 : decode cX5_readTape 32 = .ok (.iconst 5, 1) := by decide +kernel
theorem dX5_readTape_33 : decode cX5_readTape 33 = .ok (.if_icmp .gt 27, 3) := by decide +kernel
theorem dX5_readTape_36 : decode cX5_readTape 36 = .ok (.iload_n 1, 1) := by decide +kernel
theorem dX5_readTape_37 : decode cX5_readTape 37 = .ok (.ifCond .eq 23, 3) := by decide +kernel
theorem dX5_readTape_40 : decode cX5_readTape 40 = .ok (.aload_n 0, 1) := by decide +kernel
theorem dX5_readTape_41 : decode cX5_readTape 41 = .ok (.getfield 39, 3) := by decide +kernel
theorem dX5_readTape_44 : decode cX5_readTape 44 = .ok (.bipush 116, 2) := by decide +kernel
theorem dX5_readTape_46 : decode cX5_readTape 46 = .ok (.if_icmp .ne 14, 3) := by decide +kernel
theorem dX5_readTape_49 : decode cX5_readTape 49 = .ok (.aload_n 0, 1) := by decide +kernel
theorem dX5_readTape_50 : decode cX5_readTape 50 = .ok (.invokevirtual 36, 3) := by decide +kernel
theorem dX5_readTape_53 : decode cX5_readTape 53 = .ok (.istore_n 1, 1) := by decide +kernel
theorem dX5_readTape_54 : decode cX5_readTape 54 = .ok (.iinc 2 1, 3) := by decide +kernel
theorem dX5_readTape_57 : decode cX5_readTape 57 = .ok (.goto (-26), 3) := by decide +kernel
theorem dX5_readTape_60 : decode cX5_readTape 60 = .ok (.iload_n 1, 1) := by decide +kernel
theorem dX5_readTape_61 : decode cX5_readTape 61 = .ok (.ifCond .eq 14, 3) := by decide +kernel
theorem dX5_readTape_64 : decode cX5_readTape 64 = .ok (.aload_n 0, 1) := by decide +kernel
theorem dX5_readTape_65 : decode cX5_readTape 65 = .ok (.invokevirtual 42, 3) := by decide +kernel
theorem dX5_readTape_68 : decode cX5_readTape 68 = .ok (.ifCond .eq 7, 3) := by decide +kernel
theorem dX5_readTape_71 : decode cX5_readTape 71 = .ok (.iconst 1, 1) := by decide +kernel
theorem dX5_readTape_72 : decode cX5_readTape 72 = .ok (.goto 4, 3) := by decide +kernel
theorem dX5_readTape_75 : decode cX5_readTape 75 = .ok (.iconst 0, 1) := by decide +kernel
theorem dX5_readTape_76 : decode cX5_readTape 76 = .ok (.istore_n 1, 1) := by decide +kernel
theorem dX5_readTape_77 : decode cX5_readTape 77 = .ok (.iconst 1, 1) := by decide +kernel
theorem dX5_readTape_78 : decode cX5_readTape 78 = .ok (.istore_n 2, 1) := by decide +kernel
theorem dX5_readTape_79 : decode cX5_readTape 79 = .ok (.iload_n 2, 1) := by decide +kernel
theorem dX5_readTape_80 : decode cX5_readTape 80 = .ok (.bipush 7, 2) := by decide +kernel
theorem dX5_readTape_82 : decode cX5_readTape 82 = .ok (.if_icmp .gt 25, 3) := by decide +kernel
theorem dX5_readTape_85 : decode cX5_readTape 85 = .ok (.iload_n 1, 1) := by decide +kernel
theorem dX5_readTape_86 : decode cX5_readTape 86 = .ok (.ifCond .eq 21, 3) := by decide +kernel
theorem dX5_readTape_89 : decode cX5_readTape 89 = .ok (.aload_n 0, 1) := by decide +kernel
theorem dX5_readTape_90 : decode cX5_readTape 90 = .ok (.getfield 39, 3) := by decide +kernel
theorem dX5_readTape_93 : decode cX5_readTape 93 = .ok (.ifCond .eq 14, 3) := by decide +kernel
theorem dX5_readTape_96 : decode cX5_readTape 96 = .ok (.aload_n 0, 1) := by decide +kernel
theorem dX5_readTape_97 : decode cX5_readTape 97 = .ok (.invokevirtual 42, 3) := by decide +kernel
theorem dX5_readTape_100 : decode cX5_readTape 100 = .ok (.istore_n 1, 1) := by decide +kernel
theorem dX5_readTape_101 : decode cX5_readTape 101 = .ok (.iinc 2 1, 3) := by decide +kernel
theorem dX5_readTape_104 : decode cX5_readTape 104 = .ok (.goto (-25), 3) := by decide +kernel
theorem dX5_readTape_107 : decode cX5_readTape 107 = .ok (.aload_n 0, 1) := by decide +kernel
theorem dX5_readTape_108 : decode cX5_readTape 108 = .ok (.iconst 0, 1) := by decide +kernel
theorem dX5_readTape_109 : decode cX5_readTape 109 = .ok (.putfield 22, 3) := by decide +kernel
theorem dX5_readTape_112 : decode cX5_readTape 112 = .ok (.iload_n 1, 1) := by decide +kernel
theorem dX5_readTape_113 : decode cX5_readTape 113 = .ok (.ireturn, 1) := by decide +kernel
theorem dX5_readLaw_0 : decode cX5_readLaw 0 = .ok (.aload_n 0, 1) := by decide +kernel
theorem dX5_readLaw_1 : decode cX5_readLaw 1 = .ok (.getfield 18, 3) := by decide +kernel
theorem dX5_readLaw_4 : decode cX5_readLaw 4 = .ok (.iconst 0, 1) := by decide +kernel
theorem dX5_readLaw_5 : decode cX5_readLaw 5 = .ok (.putfield 45, 3) := by decide +kernel
theorem dX5_readLaw_8 : decode cX5_readLaw 8 = .ok (.aload_n 0, 1) := by decide +kernel
theorem dX5_readLaw_9 : decode cX5_readLaw 9 = .ok (.getfield 18, 3) := by decide +kernel
theorem dX5_readLaw_12 : decode cX5_readLaw 12 = .ok (.iconst 0, 1) := by decide +kernel
theorem dX5_readLaw_13 : decode cX5_readLaw 13 = .ok (.putfield 48, 3) := by decide +kernel
theorem dX5_readLaw_16 : decode cX5_readLaw 16 = .ok (.aload_n 0, 1) := by decide +kernel
theorem dX5_readLaw_17 : decode cX5_readLaw 17 = .ok (.getfield 18, 3) := by decide +kernel
theorem dX5_readLaw_20 : decode cX5_readLaw 20 = .ok (.iconst 0, 1) := by decide +kernel
theorem dX5_readLaw_21 : decode cX5_readLaw 21 = .ok (.putfield 51, 3) := by decide +kernel
theorem dX5_readLaw_24 : decode cX5_readLaw 24 = .ok (.aload_n 0, 1) := by decide +kernel
theorem dX5_readLaw_25 : decode cX5_readLaw 25 = .ok (.getfield 18, 3) := by decide +kernel
theorem dX5_readLaw_28 : decode cX5_readLaw 28 = .ok (.iconst 0, 1) := by decide +kernel
theorem dX5_readLaw_29 : decode cX5_readLaw 29 = .ok (.putfield 54, 3) := by decide +kernel
theorem dX5_readLaw_32 : decode cX5_readLaw 32 = .ok (.aload_n 0, 1) := by decide +kernel
theorem dX5_readLaw_33 : decode cX5_readLaw 33 = .ok (.getfield 18, 3) := by decide +kernel
theorem dX5_readLaw_36 : decode cX5_readLaw 36 = .ok (.iconst 0, 1) := by decide +kernel
theorem dX5_readLaw_37 : decode cX5_readLaw 37 = .ok (.putfield 57, 3) := by decide +kernel
theorem dX5_readLaw_40 : decode cX5_readLaw 40 = .ok (.aload_n 0, 1) := by decide +kernel
theorem dX5_readLaw_41 : decode cX5_readLaw 41 = .ok (.bipush 110, 2) := by decide +kernel
theorem dX5_readLaw_43 : decode cX5_readLaw 43 = .ok (.invokevirtual 60, 3) := by decide +kernel
theorem dX5_readLaw_46 : decode cX5_readLaw 46 = .ok (.ifCond .eq 13, 3) := by decide +kernel
theorem dX5_readLaw_49 : decode cX5_readLaw 49 = .ok (.aload_n 0, 1) := by decide +kernel
theorem dX5_readLaw_50 : decode cX5_readLaw 50 = .ok (.iconst 2, 1) := by decide +kernel
theorem dX5_readLaw_51 : decode cX5_readLaw 51 = .ok (.bipush 16, 2) := by decide +kernel
theorem dX5_readLaw_53 : decode cX5_readLaw 53 = .ok (.invokevirtual 64, 3) := by decide +kernel
theorem dX5_readLaw_56 : decode cX5_readLaw 56 = .ok (.ifCond .ne 5, 3) := by decide +kernel
theorem dX5_readLaw_59 : decode cX5_readLaw 59 = .ok (.iconst 0, 1) := by decide +kernel
theorem dX5_readLaw_60 : decode cX5_readLaw 60 = .ok (.ireturn, 1) := by decide +kernel
theorem dX5_readLaw_61 : decode cX5_readLaw 61 = .ok (.aload_n 0, 1) := by decide +kernel
theorem dX5_readLaw_62 : decode cX5_readLaw 62 = .ok (.getfield 18, 3) := by decide +kernel
theorem dX5_readLaw_65 : decode cX5_readLaw 65 = .ok (.aload_n 0, 1) := by decide +kernel
theorem dX5_readLaw_66 : decode cX5_readLaw 66 = .ok (.getfield 68, 3) := by decide +kernel
theorem dX5_readLaw_69 : decode cX5_readLaw 69 = .ok (.putfield 71, 3) := by decide +kernel
theorem dX5_readLaw_72 : decode cX5_readLaw 72 = .ok (.aload_n 0, 1) := by decide +kernel
theorem dX5_readLaw_73 : decode cX5_readLaw 73 = .ok (.bipush 44, 2) := by decide +kernel
theorem dX5_readLaw_75 : decode cX5_readLaw 75 = .ok (.invokevirtual 60, 3) := by decide +kernel
theorem dX5_readLaw_78 : decode cX5_readLaw 78 = .ok (.ifCond .eq 13, 3) := by decide +kernel
theorem dX5_readLaw_81 : decode cX5_readLaw 81 = .ok (.aload_n 0, 1) := by decide +kernel
theorem dX5_readLaw_82 : decode cX5_readLaw 82 = .ok (.iconst 0, 1) := by decide +kernel
theorem dX5_readLaw_83 : decode cX5_readLaw 83 = .ok (.bipush 9, 2) := by decide +kernel
theorem dX5_readLaw_85 : decode cX5_readLaw 85 = .ok (.invokevirtual 64, 3) := by decide +kernel
theorem dX5_readLaw_88 : decode cX5_readLaw 88 = .ok (.ifCond .ne 5, 3) := by decide +kernel
theorem dX5_readLaw_91 : decode cX5_readLaw 91 = .ok (.iconst 0, 1) := by decide +kernel
theorem dX5_readLaw_92 : decode cX5_readLaw 92 = .ok (.ireturn, 1) := by decide +kernel
theorem dX5_readLaw_93 : decode cX5_readLaw 93 = .ok (.aload_n 0, 1) := by decide +kernel
theorem dX5_readLaw_94 : decode cX5_readLaw 94 = .ok (.getfield 18, 3) := by decide +kernel
theorem dX5_readLaw_97 : decode cX5_readLaw 97 = .ok (.aload_n 0, 1) := by decide +kernel
theorem dX5_readLaw_98 : decode cX5_readLaw 98 = .ok (.getfield 68, 3) := by decide +kernel
theorem dX5_readLaw_101 : decode cX5_readLaw 101 = .ok (.putfield 74, 3) := by decide +kernel
theorem dX5_readLaw_104 : decode cX5_readLaw 104 = .ok (.aload_n 0, 1) := by decide +kernel
theorem dX5_readLaw_105 : decode cX5_readLaw 105 = .ok (.bipush 59, 2) := by decide +kernel
theorem dX5_readLaw_107 : decode cX5_readLaw 107 = .ok (.invokevirtual 60, 3) := by decide +kernel
theorem dX5_readLaw_110 : decode cX5_readLaw 110 = .ok (.ireturn, 1) := by decide +kernel
theorem dX5_readThing_0 : decode cX5_readThing 0 = .ok (.aload_n 0, 1) := by decide +kernel
theorem dX5_readThing_1 : decode cX5_readThing 1 = .ok (.getfield 18, 3) := by decide +kernel
theorem dX5_readThing_4 : decode cX5_readThing 4 = .ok (.getfield 48, 3) := by decide +kernel
theorem dX5_readThing_7 : decode cX5_readThing 7 = .ok (.istore_n 1, 1) := by decide +kernel
theorem dX5_readThing_8 : decode cX5_readThing 8 = .ok (.aload_n 0, 1) := by decide +kernel
theorem dX5_readThing_9 : decode cX5_readThing 9 = .ok (.getfield 39, 3) := by decide +kernel
theorem dX5_readThing_12 : decode cX5_readThing 12 = .ok (.bipush 116, 2) := by decide +kernel
theorem dX5_readThing_14 : decode cX5_readThing 14 = .ok (.if_icmp .eq 9, 3) := by decide +kernel
theorem dX5_readThing_17 : decode cX5_readThing 17 = .ok (.aload_n 0, 1) := by decide +kernel
theorem dX5_readThing_18 : decode cX5_readThing 18 = .ok (.iconst 1, 1) := by decide +kernel
theorem dX5_readThing_19 : decode cX5_readThing 19 = .ok (.invokevirtual 77, 3) := by decide +kernel
theorem dX5_readThing_22 : decode cX5_readThing 22 = .ok (.ireturn, 1) := by decide +kernel
theorem dX5_readThing_23 : decode cX5_readThing 23 = .ok (.iload_n 1, 1) := by decide +kernel
theorem dX5_readThing_24 : decode cX5_readThing 24 = .ok (.iconst 5, 1) := by decide +kernel
theorem dX5_readThing_25 : decode cX5_readThing 25 = .ok (.if_icmp .lt 9, 3) := by decide +kernel
theorem dX5_readThing_28 : decode cX5_readThing 28 = .ok (.aload_n 0, 1) := by decide +kernel
theorem dX5_readThing_29 : decode cX5_readThing 29 = .ok (.iconst 3, 1) := by decide +kernel
theorem dX5_readThing_30 : decode cX5_readThing 30 = .ok (.invokevirtual 77, 3) := by decide +kernel
theorem dX5_readThing_33 : decode cX5_readThing 33 = .ok (.ireturn, 1) := by decide +kernel
theorem dX5_readThing_34 : decode cX5_readThing 34 = .ok (.aload_n 0, 1) := by decide +kernel
theorem dX5_readThing_35 : decode cX5_readThing 35 = .ok (.bipush 116, 2) := by decide +kernel
theorem dX5_readThing_37 : decode cX5_readThing 37 = .ok (.invokevirtual 60, 3) := by decide +kernel
theorem dX5_readThing_40 : decode cX5_readThing 40 = .ok (.ifCond .eq 20, 3) := by decide +kernel
theorem dX5_readThing_43 : decode cX5_readThing 43 = .ok (.aload_n 0, 1) := by decide +kernel
theorem dX5_readThing_44 : decode cX5_readThing 44 = .ok (.iconst 0, 1) := by decide +kernel
theorem dX5_readThing_45 : decode cX5_readThing 45 = .ok (.aload_n 0, 1) := by decide +kernel
theorem dX5_readThing_46 : decode cX5_readThing 46 = .ok (.getfield 18, 3) := by decide +kernel
theorem dX5_readThing_49 : decode cX5_readThing 49 = .ok (.getfield 71, 3) := by decide +kernel
theorem dX5_readThing_52 : decode cX5_readThing 52 = .ok (.iconst 1, 1) := by decide +kernel
theorem dX5_readThing_53 : decode cX5_readThing 53 = .ok (.isub, 1) := by decide +kernel
theorem dX5_readThing_54 : decode cX5_readThing 54 = .ok (.invokevirtual 64, 3) := by decide +kernel
theorem dX5_readThing_57 : decode cX5_readThing 57 = .ok (.ifCond .ne 5, 3) := by decide +kernel
theorem dX5_readThing_60 : decode cX5_readThing 60 = .ok (.iconst 0, 1) := by decide +kernel
theorem dX5_readThing_61 : decode cX5_readThing 61 = .ok (.ireturn, 1) := by decide +kernel
theorem dX5_readThing_62 : decode cX5_readThing 62 = .ok (.aload_n 0, 1) := by decide +kernel
theorem dX5_readThing_63 : decode cX5_readThing 63 = .ok (.getfield 18, 3) := by decide +kernel
theorem dX5_readThing_66 : decode cX5_readThing 66 = .ok (.getfield 80, 3) := by decide +kernel
theorem dX5_readThing_69 : decode cX5_readThing 69 = .ok (.iload_n 1, 1) := by decide +kernel
theorem dX5_readThing_70 : decode cX5_readThing 70 = .ok (.aload_n 0, 1) := by decide +kernel
theorem dX5_readThing_71 : decode cX5_readThing 71 = .ok (.getfield 68, 3) := by decide +kernel
theorem dX5_readThing_74 : decode cX5_readThing 74 = .ok (.iastore, 1) := by decide +kernel
theorem dX5_readThing_75 : decode cX5_readThing 75 = .ok (.aload_n 0, 1) := by decide +kernel
theorem dX5_readThing_76 : decode cX5_readThing 76 = .ok (.bipush 44, 2) := by decide +kernel
theorem dX5_readThing_78 : decode cX5_readThing 78 = .ok (.invokevirtual 60, 3) := by decide +kernel
theorem dX5_readThing_81 : decode cX5_readThing 81 = .ok (.ifCond .eq 13, 3) := by decide +kernel
theorem dX5_readThing_84 : decode cX5_readThing 84 = .ok (.aload_n 0, 1) := by decide +kernel
theorem dX5_readThing_85 : decode cX5_readThing 85 = .ok (.iconst 0, 1) := by decide +kernel
theorem dX5_readThing_86 : decode cX5_readThing 86 = .ok (.bipush 15, 2) := by decide +kernel
theorem dX5_readThing_88 : decode cX5_readThing 88 = .ok (.invokevirtual 64, 3) := by decide +kernel
theorem dX5_readThing_91 : decode cX5_readThing 91 = .ok (.ifCond .ne 5, 3) := by decide +kernel
theorem dX5_readThing_94 : decode cX5_readThing 94 = .ok (.iconst 0, 1) := by decide +kernel
theorem dX5_readThing_95 : decode cX5_readThing 95 = .ok (.ireturn, 1) := by decide +kernel
theorem dX5_readThing_96 : decode cX5_readThing 96 = .ok (.aload_n 0, 1) := by decide +kernel
theorem dX5_readThing_97 : decode cX5_readThing 97 = .ok (.getfield 18, 3) := by decide +kernel
theorem dX5_readThing_100 : decode cX5_readThing 100 = .ok (.getfield 83, 3) := by decide +kernel
theorem dX5_readThing_103 : decode cX5_readThing 103 = .ok (.iload_n 1, 1) := by decide +kernel
theorem dX5_readThing_104 : decode cX5_readThing 104 = .ok (.aload_n 0, 1) := by decide +kernel
theorem dX5_readThing_105 : decode cX5_readThing 105 = .ok (.getfield 68, 3) := by decide +kernel
theorem dX5_readThing_108 : decode cX5_readThing 108 = .ok (.iastore, 1) := by decide +kernel
theorem dX5_readThing_109 : decode cX5_readThing 109 = .ok (.aload_n 0, 1) := by decide +kernel
theorem dX5_readThing_110 : decode cX5_readThing 110 = .ok (.getfield 18, 3) := by decide +kernel
theorem dX5_readThing_113 : decode cX5_readThing 113 = .ok (.iload_n 1, 1) := by decide +kernel
theorem dX5_readThing_114 : decode cX5_readThing 114 = .ok (.iconst 1, 1) := by decide +kernel
theorem dX5_readThing_115 : decode cX5_readThing 115 = .ok (.iadd, 1) := by decide +kernel
theorem dX5_readThing_116 : decode cX5_readThing 116 = .ok (.putfield 48, 3) := by decide +kernel
theorem dX5_readThing_119 : decode cX5_readThing 119 = .ok (.aload_n 0, 1) := by decide +kernel
theorem dX5_readThing_120 : decode cX5_readThing 120 = .ok (.bipush 59, 2) := by decide +kernel
theorem dX5_readThing_122 : decode cX5_readThing 122 = .ok (.invokevirtual 60, 3) := by decide +kernel
theorem dX5_readThing_125 : decode cX5_readThing 125 = .ok (.ireturn, 1) := by decide +kernel
theorem dX5_readPerson_0 : decode cX5_readPerson 0 = .ok (.aload_n 0, 1) := by decide +kernel
theorem dX5_readPerson_1 : decode cX5_readPerson 1 = .ok (.getfield 18, 3) := by decide +kernel
theorem dX5_readPerson_4 : decode cX5_readPerson 4 = .ok (.getfield 51, 3) := by decide +kernel
theorem dX5_readPerson_7 : decode cX5_readPerson 7 = .ok (.istore_n 1, 1) := by decide +kernel
theorem dX5_readPerson_8 : decode cX5_readPerson 8 = .ok (.aload_n 0, 1) := by decide +kernel
theorem dX5_readPerson_9 : decode cX5_readPerson 9 = .ok (.aload_n 0, 1) := by decide +kernel
theorem dX5_readPerson_10 : decode cX5_readPerson 10 = .ok (.getfield 39, 3) := by decide +kernel
theorem dX5_readPerson_13 : decode cX5_readPerson 13 = .ok (.invokevirtual 86, 3) := by decide +kernel
theorem dX5_readPerson_16 : decode cX5_readPerson 16 = .ok (.istore_n 2, 1) := by decide +kernel
theorem dX5_readPerson_17 : decode cX5_readPerson 17 = .ok (.iload_n 2, 1) := by decide +kernel
theorem dX5_readPerson_18 : decode cX5_readPerson 18 = .ok (.ifCond .ne 9, 3) := by decide +kernel
theorem dX5_readPerson_21 : decode cX5_readPerson 21 = .ok (.aload_n 0, 1) := by decide +kernel
theorem dX5_readPerson_22 : decode cX5_readPerson 22 = .ok (.iconst 1, 1) := by decide +kernel
theorem dX5_readPerson_23 : decode cX5_readPerson 23 = .ok (.invokevirtual 77, 3) := by decide +kernel
theorem dX5_readPerson_26 : decode cX5_readPerson 26 = .ok (.ireturn, 1) := by decide +kernel
theorem dX5_readPerson_27 : decode cX5_readPerson 27 = .ok (.iload_n 1, 1) := by decide +kernel
theorem dX5_readPerson_28 : decode cX5_readPerson 28 = .ok (.bipush 7, 2) := by decide +kernel
theorem dX5_readPerson_30 : decode cX5_readPerson 30 = .ok (.if_icmp .lt 9, 3) := by decide +kernel
theorem dX5_readPerson_33 : decode cX5_readPerson 33 = .ok (.aload_n 0, 1) := by decide +kernel
theorem dX5_readPerson_34 : decode cX5_readPerson 34 = .ok (.iconst 3, 1) := by decide +kernel
theorem dX5_readPerson_35 : decode cX5_readPerson 35 = .ok (.invokevirtual 77, 3) := by decide +kernel
theorem dX5_readPerson_38 : decode cX5_readPerson 38 = .ok (.ireturn, 1) := by decide +kernel
theorem dX5_readPerson_39 : decode cX5_readPerson 39 = .ok (.aload_n 0, 1) := by decide +kernel
theorem dX5_readPerson_40 : decode cX5_readPerson 40 = .ok (.aload_n 0, 1) := by decide +kernel
theorem dX5_readPerson_41 : decode cX5_readPerson 41 = .ok (.getfield 39, 3) := by decide +kernel
theorem dX5_readPerson_44 : decode cX5_readPerson 44 = .ok (.invokevirtual 60, 3) := by decide +kernel
theorem dX5_readPerson_47 : decode cX5_readPerson 47 = .ok (.ifCond .eq 20, 3) := by decide +kernel
theorem dX5_readPerson_50 : decode cX5_readPerson 50 = .ok (.aload_n 0, 1) := by decide +kernel
theorem dX5_readPerson_51 : decode cX5_readPerson 51 = .ok (.iconst 0, 1) := by decide +kernel
theorem dX5_readPerson_52 : decode cX5_readPerson 52 = .ok (.aload_n 0, 1) := by decide +kernel
theorem dX5_readPerson_53 : decode cX5_readPerson 53 = .ok (.getfield 18, 3) := by decide +kernel
theorem dX5_readPerson_56 : decode cX5_readPerson 56 = .ok (.getfield 48, 3) := by decide +kernel
theorem dX5_readPerson_59 : decode cX5_readPerson 59 = .ok (.iconst 1, 1) := by decide +kernel
theorem dX5_readPerson_60 : decode cX5_readPerson 60 = .ok (.isub, 1) := by decide +kernel
theorem dX5_readPerson_61 : decode cX5_readPerson 61 = .ok (.invokevirtual 64, 3) := by decide +kernel
theorem dX5_readPerson_64 : decode cX5_readPerson 64 = .ok (.ifCond .ne 5, 3) := by decide +kernel
theorem dX5_readPerson_67 : decode cX5_readPerson 67 = .ok (.iconst 0, 1) := by decide +kernel
theorem dX5_readPerson_68 : decode cX5_readPerson 68 = .ok (.ireturn, 1) := by decide +kernel
theorem dX5_readPerson_69 : decode cX5_readPerson 69 = .ok (.aload_n 0, 1) := by decide +kernel
theorem dX5_readPerson_70 : decode cX5_readPerson 70 = .ok (.getfield 18, 3) := by decide +kernel
theorem dX5_readPerson_73 : decode cX5_readPerson 73 = .ok (.getfield 90, 3) := by decide +kernel
theorem dX5_readPerson_76 : decode cX5_readPerson 76 = .ok (.iload_n 1, 1) := by decide +kernel
theorem dX5_readPerson_77 : decode cX5_readPerson 77 = .ok (.aload_n 0, 1) := by decide +kernel
theorem dX5_readPerson_78 : decode cX5_readPerson 78 = .ok (.getfield 68, 3) := by decide +kernel
theorem dX5_readPerson_81 : decode cX5_readPerson 81 = .ok (.iastore, 1) := by decide +kernel
theorem dX5_readPerson_82 : decode cX5_readPerson 82 = .ok (.aload_n 0, 1) := by decide +kernel
theorem dX5_readPerson_83 : decode cX5_readPerson 83 = .ok (.bipush 44, 2) := by decide +kernel
theorem dX5_readPerson_85 : decode cX5_readPerson 85 = .ok (.invokevirtual 60, 3) := by decide +kernel
theorem dX5_readPerson_88 : decode cX5_readPerson 88 = .ok (.ifCond .eq 20, 3) := by decide +kernel
theorem dX5_readPerson_91 : decode cX5_readPerson 91 = .ok (.aload_n 0, 1) := by decide +kernel
theorem dX5_readPerson_92 : decode cX5_readPerson 92 = .ok (.iconst 0, 1) := by decide +kernel
theorem dX5_readPerson_93 : decode cX5_readPerson 93 = .ok (.aload_n 0, 1) := by decide +kernel
theorem dX5_readPerson_94 : decode cX5_readPerson 94 = .ok (.getfield 18, 3) := by decide +kernel
theorem dX5_readPerson_97 : decode cX5_readPerson 97 = .ok (.getfield 71, 3) := by decide +kernel
theorem dX5_readPerson_100 : decode cX5_readPerson 100 = .ok (.iconst 1, 1) := by decide +kernel
theorem dX5_readPerson_101 : decode cX5_readPerson 101 = .ok (.isub, 1) := by decide +kernel
theorem dX5_readPerson_102 : decode cX5_readPerson 102 = .ok (.invokevirtual 64, 3) := by decide +kernel
theorem dX5_readPerson_105 : decode cX5_readPerson 105 = .ok (.ifCond .ne 5, 3) := by decide +kernel
theorem dX5_readPerson_108 : decode cX5_readPerson 108 = .ok (.iconst 0, 1) := by decide +kernel
theorem dX5_readPerson_109 : decode cX5_readPerson 109 = .ok (.ireturn, 1) := by decide +kernel
theorem dX5_readPerson_110 : decode cX5_readPerson 110 = .ok (.aload_n 0, 1) := by decide +kernel
theorem dX5_readPerson_111 : decode cX5_readPerson 111 = .ok (.getfield 18, 3) := by decide +kernel
theorem dX5_readPerson_114 : decode cX5_readPerson 114 = .ok (.getfield 93, 3) := by decide +kernel
theorem dX5_readPerson_117 : decode cX5_readPerson 117 = .ok (.iload_n 1, 1) := by decide +kernel
theorem dX5_readPerson_118 : decode cX5_readPerson 118 = .ok (.aload_n 0, 1) := by decide +kernel
theorem dX5_readPerson_119 : decode cX5_readPerson 119 = .ok (.getfield 68, 3) := by decide +kernel
theorem dX5_readPerson_122 : decode cX5_readPerson 122 = .ok (.iastore, 1) := by decide +kernel
theorem dX5_readPerson_123 : decode cX5_readPerson 123 = .ok (.aload_n 0, 1) := by decide +kernel
theorem dX5_readPerson_124 : decode cX5_readPerson 124 = .ok (.bipush 44, 2) := by decide +kernel
theorem dX5_readPerson_126 : decode cX5_readPerson 126 = .ok (.invokevirtual 60, 3) := by decide +kernel
theorem dX5_readPerson_129 : decode cX5_readPerson 129 = .ok (.ifCond .eq 13, 3) := by decide +kernel
theorem dX5_readPerson_132 : decode cX5_readPerson 132 = .ok (.aload_n 0, 1) := by decide +kernel
theorem dX5_readPerson_133 : decode cX5_readPerson 133 = .ok (.iconst 0, 1) := by decide +kernel
theorem dX5_readPerson_134 : decode cX5_readPerson 134 = .ok (.bipush 9, 2) := by decide +kernel
theorem dX5_readPerson_136 : decode cX5_readPerson 136 = .ok (.invokevirtual 64, 3) := by decide +kernel
theorem dX5_readPerson_139 : decode cX5_readPerson 139 = .ok (.ifCond .ne 5, 3) := by decide +kernel
theorem dX5_readPerson_142 : decode cX5_readPerson 142 = .ok (.iconst 0, 1) := by decide +kernel
theorem dX5_readPerson_143 : decode cX5_readPerson 143 = .ok (.ireturn, 1) := by decide +kernel
theorem dX5_readPerson_144 : decode cX5_readPerson 144 = .ok (.aload_n 0, 1) := by decide +kernel
theorem dX5_readPerson_145 : decode cX5_readPerson 145 = .ok (.getfield 18, 3) := by decide +kernel
theorem dX5_readPerson_148 : decode cX5_readPerson 148 = .ok (.getfield 96, 3) := by decide +kernel
theorem dX5_readPerson_151 : decode cX5_readPerson 151 = .ok (.iload_n 1, 1) := by decide +kernel
theorem dX5_readPerson_152 : decode cX5_readPerson 152 = .ok (.aload_n 0, 1) := by decide +kernel
theorem dX5_readPerson_153 : decode cX5_readPerson 153 = .ok (.getfield 68, 3) := by decide +kernel
theorem dX5_readPerson_156 : decode cX5_readPerson 156 = .ok (.iastore, 1) := by decide +kernel
theorem dX5_readPerson_157 : decode cX5_readPerson 157 = .ok (.aload_n 0, 1) := by decide +kernel
theorem dX5_readPerson_158 : decode cX5_readPerson 158 = .ok (.getfield 18, 3) := by decide +kernel
theorem dX5_readPerson_161 : decode cX5_readPerson 161 = .ok (.getfield 99, 3) := by decide +kernel
theorem dX5_readPerson_164 : decode cX5_readPerson 164 = .ok (.iload_n 1, 1) := by decide +kernel
theorem dX5_readPerson_165 : decode cX5_readPerson 165 = .ok (.iload_n 2, 1) := by decide +kernel
theorem dX5_readPerson_166 : decode cX5_readPerson 166 = .ok (.iastore, 1) := by decide +kernel
theorem dX5_readPerson_167 : decode cX5_readPerson 167 = .ok (.aload_n 0, 1) := by decide +kernel
theorem dX5_readPerson_168 : decode cX5_readPerson 168 = .ok (.getfield 18, 3) := by decide +kernel
theorem dX5_readPerson_171 : decode cX5_readPerson 171 = .ok (.getfield 102, 3) := by decide +kernel
theorem dX5_readPerson_174 : decode cX5_readPerson 174 = .ok (.iload_n 1, 1) := by decide +kernel
theorem dX5_readPerson_175 : decode cX5_readPerson 175 = .ok (.iconst 0, 1) := by decide +kernel
theorem dX5_readPerson_176 : decode cX5_readPerson 176 = .ok (.iastore, 1) := by decide +kernel
theorem dX5_readPerson_177 : decode cX5_readPerson 177 = .ok (.aload_n 0, 1) := by decide +kernel
theorem dX5_readPerson_178 : decode cX5_readPerson 178 = .ok (.getfield 18, 3) := by decide +kernel
theorem dX5_readPerson_181 : decode cX5_readPerson 181 = .ok (.getfield 105, 3) := by decide +kernel
theorem dX5_readPerson_184 : decode cX5_readPerson 184 = .ok (.iload_n 1, 1) := by decide +kernel
theorem dX5_readPerson_185 : decode cX5_readPerson 185 = .ok (.ldc 108, 2) := by decide +kernel
theorem dX5_readPerson_187 : decode cX5_readPerson 187 = .ok (.iastore, 1) := by decide +kernel
theorem dX5_readPerson_188 : decode cX5_readPerson 188 = .ok (.aload_n 0, 1) := by decide +kernel
theorem dX5_readPerson_189 : decode cX5_readPerson 189 = .ok (.getfield 18, 3) := by decide +kernel
theorem dX5_readPerson_192 : decode cX5_readPerson 192 = .ok (.dup, 1) := by decide +kernel
theorem dX5_readPerson_193 : decode cX5_readPerson 193 = .ok (.getfield 57, 3) := by decide +kernel
theorem dX5_readPerson_196 : decode cX5_readPerson 196 = .ok (.iconst 1, 1) := by decide +kernel
theorem dX5_readPerson_197 : decode cX5_readPerson 197 = .ok (.iload_n 1, 1) := by decide +kernel
theorem dX5_readPerson_198 : decode cX5_readPerson 198 = .ok (.ishl, 1) := by decide +kernel
theorem dX5_readPerson_199 : decode cX5_readPerson 199 = .ok (.ior, 1) := by decide +kernel
theorem dX5_readPerson_200 : decode cX5_readPerson 200 = .ok (.putfield 57, 3) := by decide +kernel
theorem dX5_readPerson_203 : decode cX5_readPerson 203 = .ok (.aload_n 0, 1) := by decide +kernel
theorem dX5_readPerson_204 : decode cX5_readPerson 204 = .ok (.getfield 18, 3) := by decide +kernel
theorem dX5_readPerson_207 : decode cX5_readPerson 207 = .ok (.iload_n 1, 1) := by decide +kernel
theorem dX5_readPerson_208 : decode cX5_readPerson 208 = .ok (.iconst 1, 1) := by decide +kernel
theorem dX5_readPerson_209 : decode cX5_readPerson 209 = .ok (.iadd, 1) := by decide +kernel
theorem dX5_readPerson_210 : decode cX5_readPerson 210 = .ok (.putfield 51, 3) := by decide +kernel
theorem dX5_readPerson_213 : decode cX5_readPerson 213 = .ok (.aload_n 0, 1) := by decide +kernel
theorem dX5_readPerson_214 : decode cX5_readPerson 214 = .ok (.bipush 59, 2) := by decide +kernel
theorem dX5_readPerson_216 : decode cX5_readPerson 216 = .ok (.invokevirtual 60, 3) := by decide +kernel
theorem dX5_readPerson_219 : decode cX5_readPerson 219 = .ok (.ireturn, 1) := by decide +kernel
theorem dX5_sortOf_0 : decode cX5_sortOf 0 = .ok (.iload_n 1, 1) := by decide +kernel
theorem dX5_sortOf_1 : decode cX5_sortOf 1 = .ok (.lookupswitch 61 #[(98, 55), (107, 53), (114, 59), (115, 57), (119, 51)], 51) := by decide +kernel
theorem dX5_sortOf_52 : decode cX5_sortOf 52 = .ok (.iconst 1, 1) := by decide +kernel
theorem dX5_sortOf_53 : decode cX5_sortOf 53 = .ok (.ireturn, 1) := by decide +kernel
theorem dX5_sortOf_54 : decode cX5_sortOf 54 = .ok (.iconst 2, 1) := by decide +kernel
theorem dX5_sortOf_55 : decode cX5_sortOf 55 = .ok (.ireturn, 1) := by decide +kernel
theorem dX5_sortOf_56 : decode cX5_sortOf 56 = .ok (.iconst 3, 1) := by decide +kernel
theorem dX5_sortOf_57 : decode cX5_sortOf 57 = .ok (.ireturn, 1) := by decide +kernel
theorem dX5_sortOf_58 : decode cX5_sortOf 58 = .ok (.iconst 4, 1) := by decide +kernel
theorem dX5_sortOf_59 : decode cX5_sortOf 59 = .ok (.ireturn, 1) := by decide +kernel
theorem dX5_sortOf_60 : decode cX5_sortOf 60 = .ok (.iconst 5, 1) := by decide +kernel
theorem dX5_sortOf_61 : decode cX5_sortOf 61 = .ok (.ireturn, 1) := by decide +kernel
theorem dX5_sortOf_62 : decode cX5_sortOf 62 = .ok (.iconst 0, 1) := by decide +kernel
theorem dX5_sortOf_63 : decode cX5_sortOf 63 = .ok (.ireturn, 1) := by decide +kernel
theorem dX5_takeSign_0 : decode cX5_takeSign 0 = .ok (.aload_n 0, 1) := by decide +kernel
theorem dX5_takeSign_1 : decode cX5_takeSign 1 = .ok (.getfield 39, 3) := by decide +kernel
theorem dX5_takeSign_4 : decode cX5_takeSign 4 = .ok (.iload_n 1, 1) := by decide +kernel
theorem dX5_takeSign_5 : decode cX5_takeSign 5 = .ok (.if_icmp .ne 10, 3) := by decide +kernel
theorem dX5_takeSign_8 : decode cX5_takeSign 8 = .ok (.aload_n 0, 1) := by decide +kernel
theorem dX5_takeSign_9 : decode cX5_takeSign 9 = .ok (.invokevirtual 109, 3) := by decide +kernel
theorem dX5_takeSign_12 : decode cX5_takeSign 12 = .ok (.goto 8, 3) := by decide +kernel
theorem dX5_takeSign_15 : decode cX5_takeSign 15 = .ok (.aload_n 0, 1) := by decide +kernel
theorem dX5_takeSign_16 : decode cX5_takeSign 16 = .ok (.iconst 1, 1) := by decide +kernel
theorem dX5_takeSign_17 : decode cX5_takeSign 17 = .ok (.invokevirtual 77, 3) := by decide +kernel
theorem dX5_takeSign_20 : decode cX5_takeSign 20 = .ok (.ireturn, 1) := by decide +kernel
theorem dX5_takeNumber_0 : decode cX5_takeNumber 0 = .ok (.aload_n 0, 1) := by decide +kernel
theorem dX5_takeNumber_1 : decode cX5_takeNumber 1 = .ok (.getfield 39, 3) := by decide +kernel
theorem dX5_takeNumber_4 : decode cX5_takeNumber 4 = .ok (.iconst 1, 1) := by decide +kernel
theorem dX5_takeNumber_5 : decode cX5_takeNumber 5 = .ok (.if_icmp .eq 9, 3) := by decide +kernel
theorem dX5_takeNumber_8 : decode cX5_takeNumber 8 = .ok (.aload_n 0, 1) := by decide +kernel
theorem dX5_takeNumber_9 : decode cX5_takeNumber 9 = .ok (.iconst 1, 1) := by decide +kernel
theorem dX5_takeNumber_10 : decode cX5_takeNumber 10 = .ok (.invokevirtual 77, 3) := by decide +kernel
theorem dX5_takeNumber_13 : decode cX5_takeNumber 13 = .ok (.ireturn, 1) := by decide +kernel
theorem dX5_takeNumber_14 : decode cX5_takeNumber 14 = .ok (.aload_n 0, 1) := by decide +kernel
theorem dX5_takeNumber_15 : decode cX5_takeNumber 15 = .ok (.getfield 112, 3) := by decide +kernel
theorem dX5_takeNumber_18 : decode cX5_takeNumber 18 = .ok (.iload_n 1, 1) := by decide +kernel
theorem dX5_takeNumber_19 : decode cX5_takeNumber 19 = .ok (.iload_n 2, 1) := by decide +kernel
theorem dX5_takeNumber_20 : decode cX5_takeNumber 20 = .ok (.invokestatic 115, 3) := by decide +kernel
theorem dX5_takeNumber_23 : decode cX5_takeNumber 23 = .ok (.ifCond .eq 9, 3) := by decide +kernel
theorem dX5_takeNumber_26 : decode cX5_takeNumber 26 = .ok (.aload_n 0, 1) := by decide +kernel
theorem dX5_takeNumber_27 : decode cX5_takeNumber 27 = .ok (.iconst 2, 1) := by decide +kernel
theorem dX5_takeNumber_28 : decode cX5_takeNumber 28 = .ok (.invokevirtual 77, 3) := by decide +kernel
theorem dX5_takeNumber_31 : decode cX5_takeNumber 31 = .ok (.ireturn, 1) := by decide +kernel
theorem dX5_takeNumber_32 : decode cX5_takeNumber 32 = .ok (.aload_n 0, 1) := by decide +kernel
theorem dX5_takeNumber_33 : decode cX5_takeNumber 33 = .ok (.aload_n 0, 1) := by decide +kernel
theorem dX5_takeNumber_34 : decode cX5_takeNumber 34 = .ok (.getfield 112, 3) := by decide +kernel
theorem dX5_takeNumber_37 : decode cX5_takeNumber 37 = .ok (.putfield 68, 3) := by decide +kernel
theorem dX5_takeNumber_40 : decode cX5_takeNumber 40 = .ok (.aload_n 0, 1) := by decide +kernel
theorem dX5_takeNumber_41 : decode cX5_takeNumber 41 = .ok (.invokevirtual 109, 3) := by decide +kernel
theorem dX5_takeNumber_44 : decode cX5_takeNumber 44 = .ok (.ireturn, 1) := by decide +kernel
theorem dX5_blame_0 : decode cX5_blame 0 = .ok (.aload_n 0, 1) := by decide +kernel
theorem dX5_blame_1 : decode cX5_blame 1 = .ok (.iload_n 1, 1) := by decide +kernel
theorem dX5_blame_2 : decode cX5_blame 2 = .ok (.putfield 119, 3) := by decide +kernel
theorem dX5_blame_5 : decode cX5_blame 5 = .ok (.aload_n 0, 1) := by decide +kernel
theorem dX5_blame_6 : decode cX5_blame 6 = .ok (.aload_n 0, 1) := by decide +kernel
theorem dX5_blame_7 : decode cX5_blame 7 = .ok (.getfield 26, 3) := by decide +kernel
theorem dX5_blame_10 : decode cX5_blame 10 = .ok (.putfield 122, 3) := by decide +kernel
theorem dX5_blame_13 : decode cX5_blame 13 = .ok (.iconst 0, 1) := by decide +kernel
theorem dX5_blame_14 : decode cX5_blame 14 = .ok (.ireturn, 1) := by decide +kernel
theorem dX5_goOn_0 : decode cX5_goOn 0 = .ok (.aload_n 0, 1) := by decide +kernel
theorem dX5_goOn_1 : decode cX5_goOn 1 = .ok (.aload_n 0, 1) := by decide +kernel
theorem dX5_goOn_2 : decode cX5_goOn 2 = .ok (.getfield 125, 3) := by decide +kernel
theorem dX5_goOn_5 : decode cX5_goOn 5 = .ok (.putfield 26, 3) := by decide +kernel
theorem dX5_goOn_8 : decode cX5_goOn 8 = .ok (.aload_n 0, 1) := by decide +kernel
theorem dX5_goOn_9 : decode cX5_goOn 9 = .ok (.invokevirtual 29, 3) := by decide +kernel
theorem dX5_goOn_12 : decode cX5_goOn 12 = .ok (.iconst 1, 1) := by decide +kernel
theorem dX5_goOn_13 : decode cX5_goOn 13 = .ok (.ireturn, 1) := by decide +kernel
theorem dX5_look_0 : decode cX5_look 0 = .ok (.aload_n 0, 1) := by decide +kernel
theorem dX5_look_1 : decode cX5_look 1 = .ok (.aload_n 0, 1) := by decide +kernel
theorem dX5_look_2 : decode cX5_look 2 = .ok (.getfield 26, 3) := by decide +kernel
theorem dX5_look_5 : decode cX5_look 5 = .ok (.putfield 125, 3) := by decide +kernel
theorem dX5_look_8 : decode cX5_look 8 = .ok (.aload_n 0, 1) := by decide +kernel
theorem dX5_look_9 : decode cX5_look 9 = .ok (.iconst 0, 1) := by decide +kernel
theorem dX5_look_10 : decode cX5_look 10 = .ok (.putfield 39, 3) := by decide +kernel
theorem dX5_look_13 : decode cX5_look 13 = .ok (.aload_n 0, 1) := by decide +kernel
theorem dX5_look_14 : decode cX5_look 14 = .ok (.getfield 26, 3) := by decide +kernel
theorem dX5_look_17 : decode cX5_look 17 = .ok (.aload_n 0, 1) := by decide +kernel
theorem dX5_look_18 : decode cX5_look 18 = .ok (.getfield 22, 3) := by decide +kernel
theorem dX5_look_21 : decode cX5_look 21 = .ok (.if_icmp .lt 4, 3) := by decide +kernel
theorem dX5_look_24 : decode cX5_look 24 = .ok (.return_, 1) := by decide +kernel
theorem dX5_look_25 : decode cX5_look 25 = .ok (.aload_n 0, 1) := by decide +kernel
theorem dX5_look_26 : decode cX5_look 26 = .ok (.getfield 9, 3) := by decide +kernel
theorem dX5_look_29 : decode cX5_look 29 = .ok (.aload_n 0, 1) := by decide +kernel
theorem dX5_look_30 : decode cX5_look 30 = .ok (.getfield 26, 3) := by decide +kernel
theorem dX5_look_33 : decode cX5_look 33 = .ok (.iaload, 1) := by decide +kernel
theorem dX5_look_34 : decode cX5_look 34 = .ok (.istore_n 1, 1) := by decide +kernel
theorem dX5_look_35 : decode cX5_look 35 = .ok (.aload_n 0, 1) := by decide +kernel
theorem dX5_look_36 : decode cX5_look 36 = .ok (.aload_n 0, 1) := by decide +kernel
theorem dX5_look_37 : decode cX5_look 37 = .ok (.getfield 26, 3) := by decide +kernel
theorem dX5_look_40 : decode cX5_look 40 = .ok (.iconst 1, 1) := by decide +kernel
theorem dX5_look_41 : decode cX5_look 41 = .ok (.iadd, 1) := by decide +kernel
theorem dX5_look_42 : decode cX5_look 42 = .ok (.putfield 125, 3) := by decide +kernel
theorem dX5_look_45 : decode cX5_look 45 = .ok (.iload_n 1, 1) := by decide +kernel
theorem dX5_look_46 : decode cX5_look 46 = .ok (.bipush 44, 2) := by decide +kernel
theorem dX5_look_48 : decode cX5_look 48 = .ok (.if_icmp .eq 21, 3) := by decide +kernel
theorem dX5_look_51 : decode cX5_look 51 = .ok (.iload_n 1, 1) := by decide +kernel
theorem dX5_look_52 : decode cX5_look 52 = .ok (.bipush 59, 2) := by decide +kernel
theorem dX5_look_54 : decode cX5_look 54 = .ok (.if_icmp .eq 15, 3) := by decide +kernel
theorem dX5_look_57 : decode cX5_look 57 = .ok (.iload_n 1, 1) := by decide +kernel
theorem dX5_look_58 : decode cX5_look 58 = .ok (.bipush 97, 2) := by decide +kernel
theorem dX5_look_60 : decode cX5_look 60 = .ok (.if_icmp .lt 15, 3) := by decide +kernel
theorem dX5_look_63 : decode cX5_look 63 = .ok (.iload_n 1, 1) := by decide +kernel
theorem dX5_look_64 : decode cX5_look 64 = .ok (.bipush 122, 2) := by decide +kernel
theorem dX5_look_66 : decode cX5_look 66 = .ok (.if_icmp .gt 9, 3) := by decide +kernel
theorem dX5_look_69 : decode cX5_look 69 = .ok (.aload_n 0, 1) := by decide +kernel
theorem dX5_look_70 : decode cX5_look 70 = .ok (.iload_n 1, 1) := by decide +kernel
theorem dX5_look_71 : decode cX5_look 71 = .ok (.putfield 39, 3) := by decide +kernel
theorem dX5_look_74 : decode cX5_look 74 = .ok (.return_, 1) := by decide +kernel
theorem dX5_look_75 : decode cX5_look 75 = .ok (.aload_n 0, 1) := by decide +kernel
theorem dX5_look_76 : decode cX5_look 76 = .ok (.iconst 2, 1) := by decide +kernel
theorem dX5_look_77 : decode cX5_look 77 = .ok (.putfield 39, 3) := by decide +kernel
theorem dX5_look_80 : decode cX5_look 80 = .ok (.aload_n 0, 1) := by decide +kernel
theorem dX5_look_81 : decode cX5_look 81 = .ok (.aload_n 0, 1) := by decide +kernel
theorem dX5_look_82 : decode cX5_look 82 = .ok (.getfield 26, 3) := by decide +kernel
theorem dX5_look_85 : decode cX5_look 85 = .ok (.invokevirtual 128, 3) := by decide +kernel
theorem dX5_look_88 : decode cX5_look 88 = .ok (.ifCond .ne 4, 3) := by decide +kernel
theorem dX5_look_91 : decode cX5_look 91 = .ok (.return_, 1) := by decide +kernel
theorem dX5_look_92 : decode cX5_look 92 = .ok (.aload_n 0, 1) := by decide +kernel
theorem dX5_look_93 : decode cX5_look 93 = .ok (.iload_n 1, 1) := by decide +kernel
theorem dX5_look_94 : decode cX5_look 94 = .ok (.bipush 48, 2) := by decide +kernel
theorem dX5_look_96 : decode cX5_look 96 = .ok (.isub, 1) := by decide +kernel
theorem dX5_look_97 : decode cX5_look 97 = .ok (.putfield 112, 3) := by decide +kernel
theorem dX5_look_100 : decode cX5_look 100 = .ok (.aload_n 0, 1) := by decide +kernel
theorem dX5_look_101 : decode cX5_look 101 = .ok (.aload_n 0, 1) := by decide +kernel
theorem dX5_look_102 : decode cX5_look 102 = .ok (.getfield 125, 3) := by decide +kernel
theorem dX5_look_105 : decode cX5_look 105 = .ok (.invokevirtual 128, 3) := by decide +kernel
theorem dX5_look_108 : decode cX5_look 108 = .ok (.ifCond .eq 37, 3) := by decide +kernel
theorem dX5_look_111 : decode cX5_look 111 = .ok (.aload_n 0, 1) := by decide +kernel
theorem dX5_look_112 : decode cX5_look 112 = .ok (.bipush 10, 2) := by decide +kernel
theorem dX5_look_114 : decode cX5_look 114 = .ok (.aload_n 0, 1) := by decide +kernel
theorem dX5_look_115 : decode cX5_look 115 = .ok (.getfield 112, 3) := by decide +kernel
theorem dX5_look_118 : decode cX5_look 118 = .ok (.imul, 1) := by decide +kernel
theorem dX5_look_119 : decode cX5_look 119 = .ok (.aload_n 0, 1) := by decide +kernel
theorem dX5_look_120 : decode cX5_look 120 = .ok (.getfield 9, 3) := by decide +kernel
theorem dX5_look_123 : decode cX5_look 123 = .ok (.aload_n 0, 1) := by decide +kernel
theorem dX5_look_124 : decode cX5_look 124 = .ok (.getfield 125, 3) := by decide +kernel
theorem dX5_look_127 : decode cX5_look 127 = .ok (.iaload, 1) := by decide +kernel
theorem dX5_look_128 : decode cX5_look 128 = .ok (.iadd, 1) := by decide +kernel
theorem dX5_look_129 : decode cX5_look 129 = .ok (.bipush 48, 2) := by decide +kernel
theorem dX5_look_131 : decode cX5_look 131 = .ok (.isub, 1) := by decide +kernel
theorem dX5_look_132 : decode cX5_look 132 = .ok (.putfield 112, 3) := by decide +kernel
theorem dX5_look_135 : decode cX5_look 135 = .ok (.aload_n 0, 1) := by decide +kernel
theorem dX5_look_136 : decode cX5_look 136 = .ok (.dup, 1) := by decide +kernel
theorem dX5_look_137 : decode cX5_look 137 = .ok (.getfield 125, 3) := by decide +kernel
theorem dX5_look_140 : decode cX5_look 140 = .ok (.iconst 1, 1) := by decide +kernel
theorem dX5_look_141 : decode cX5_look 141 = .ok (.iadd, 1) := by decide +kernel
theorem dX5_look_142 : decode cX5_look 142 = .ok (.putfield 125, 3) := by decide +kernel
theorem dX5_look_145 : decode cX5_look 145 = .ok (.aload_n 0, 1) := by decide +kernel
theorem dX5_look_146 : decode cX5_look 146 = .ok (.aload_n 0, 1) := by decide +kernel
theorem dX5_look_147 : decode cX5_look 147 = .ok (.aload_n 0, 1) := by decide +kernel
theorem dX5_look_148 : decode cX5_look 148 = .ok (.getfield 125, 3) := by decide +kernel
theorem dX5_look_151 : decode cX5_look 151 = .ok (.invokevirtual 128, 3) := by decide +kernel
theorem dX5_look_154 : decode cX5_look 154 = .ok (.ifCond .eq 7, 3) := by decide +kernel
theorem dX5_look_157 : decode cX5_look 157 = .ok (.iconst 2, 1) := by decide +kernel
theorem dX5_look_158 : decode cX5_look 158 = .ok (.goto 4, 3) := by decide +kernel
theorem dX5_look_161 : decode cX5_look 161 = .ok (.iconst 1, 1) := by decide +kernel
theorem dX5_look_162 : decode cX5_look 162 = .ok (.putfield 39, 3) := by decide +kernel
theorem dX5_look_165 : decode cX5_look 165 = .ok (.return_, 1) := by decide +kernel
theorem dX5_isFigure_0 : decode cX5_isFigure 0 = .ok (.iload_n 1, 1) := by decide +kernel
theorem dX5_isFigure_1 : decode cX5_isFigure 1 = .ok (.aload_n 0, 1) := by decide +kernel
theorem dX5_isFigure_2 : decode cX5_isFigure 2 = .ok (.getfield 22, 3) := by decide +kernel
theorem dX5_isFigure_5 : decode cX5_isFigure 5 = .ok (.if_icmp .ge 29, 3) := by decide +kernel
theorem dX5_isFigure_8 : decode cX5_isFigure 8 = .ok (.aload_n 0, 1) := by decide +kernel
theorem dX5_isFigure_9 : decode cX5_isFigure 9 = .ok (.getfield 9, 3) := by decide +kernel
theorem dX5_isFigure_12 : decode cX5_isFigure 12 = .ok (.iload_n 1, 1) := by decide +kernel
theorem dX5_isFigure_13 : decode cX5_isFigure 13 = .ok (.iaload, 1) := by decide +kernel
theorem dX5_isFigure_14 : decode cX5_isFigure 14 = .ok (.bipush 48, 2) := by decide +kernel
theorem dX5_isFigure_16 : decode cX5_isFigure 16 = .ok (.if_icmp .lt 18, 3) := by decide +kernel
theorem dX5_isFigure_19 : decode cX5_isFigure 19 = .ok (.aload_n 0, 1) := by decide +kernel
theorem dX5_isFigure_20 : decode cX5_isFigure 20 = .ok (.getfield 9, 3) := by decide +kernel
theorem dX5_isFigure_23 : decode cX5_isFigure 23 = .ok (.iload_n 1, 1) := by decide +kernel
theorem dX5_isFigure_24 : decode cX5_isFigure 24 = .ok (.iaload, 1) := by decide +kernel
theorem dX5_isFigure_25 : decode cX5_isFigure 25 = .ok (.bipush 57, 2) := by decide +kernel
theorem dX5_isFigure_27 : decode cX5_isFigure 27 = .ok (.if_icmp .gt 7, 3) := by decide +kernel
theorem dX5_isFigure_30 : decode cX5_isFigure 30 = .ok (.iconst 1, 1) := by decide +kernel
theorem dX5_isFigure_31 : decode cX5_isFigure 31 = .ok (.goto 4, 3) := by decide +kernel
theorem dX5_isFigure_34 : decode cX5_isFigure 34 = .ok (.iconst 0, 1) := by decide +kernel
theorem dX5_isFigure_35 : decode cX5_isFigure 35 = .ok (.ireturn, 1) := by decide +kernel
theorem dX6_init_0 : decode cX6_init 0 = .ok (.aload_n 0, 1) := by decide +kernel
theorem dX6_init_1 : decode cX6_init 1 = .ok (.invokespecial 3, 3) := by decide +kernel
theorem dX6_init_4 : decode cX6_init 4 = .ok (.aload_n 0, 1) := by decide +kernel
theorem dX6_init_5 : decode cX6_init 5 = .ok (.sipush 320, 3) := by decide +kernel
theorem dX6_init_8 : decode cX6_init 8 = .ok (.newarray .int, 2) := by decide +kernel
theorem dX6_init_10 : decode cX6_init 10 = .ok (.putfield 9, 3) := by decide +kernel
theorem dX6_init_13 : decode cX6_init 13 = .ok (.aload_n 0, 1) := by decide +kernel
theorem dX6_init_14 : decode cX6_init 14 = .ok (.bipush 8, 2) := by decide +kernel
theorem dX6_init_16 : decode cX6_init 16 = .ok (.newarray .int, 2) := by decide +kernel
theorem dX6_init_18 : decode cX6_init 18 = .ok (.putfield 15, 3) := by decide +kernel
theorem dX6_init_21 : decode cX6_init 21 = .ok (.aload_n 0, 1) := by decide +kernel
theorem dX6_init_22 : decode cX6_init 22 = .ok (.bipush 8, 2) := by decide +kernel
theorem dX6_init_24 : decode cX6_init 24 = .ok (.newarray .int, 2) := by decide +kernel
theorem dX6_init_26 : decode cX6_init 26 = .ok (.putfield 18, 3) := by decide +kernel
theorem dX6_init_29 : decode cX6_init 29 = .ok (.iconst 0, 1) := by decide +kernel
theorem dX6_init_30 : decode cX6_init 30 = .ok (.istore_n 1, 1) := by decide +kernel
theorem dX6_init_31 : decode cX6_init 31 = .ok (.iload_n 1, 1) := by decide +kernel
theorem dX6_init_32 : decode cX6_init 32 = .ok (.bipush 8, 2) := by decide +kernel
theorem dX6_init_34 : decode cX6_init 34 = .ok (.if_icmp .ge 16, 3) := by decide +kernel
theorem dX6_init_37 : decode cX6_init 37 = .ok (.aload_n 0, 1) := by decide +kernel
theorem dX6_init_38 : decode cX6_init 38 = .ok (.getfield 18, 3) := by decide +kernel
theorem dX6_init_41 : decode cX6_init 41 = .ok (.iload_n 1, 1) := by decide +kernel
theorem dX6_init_42 : decode cX6_init 42 = .ok (.iconst (-1), 1) := by decide +kernel
theorem dX6_init_43 : decode cX6_init 43 = .ok (.iastore, 1) := by decide +kernel
theorem dX6_init_44 : decode cX6_init 44 = .ok (.iinc 1 1, 3) := by decide +kernel
theorem dX6_init_47 : decode cX6_init 47 = .ok (.goto (-16), 3) := by decide +kernel
theorem dX6_init_50 : decode cX6_init 50 = .ok (.return_, 1) := by decide +kernel
theorem dX6_isMissing_0 : decode cX6_isMissing 0 = .ok (.aload_n 0, 1) := by decide +kernel
theorem dX6_isMissing_1 : decode cX6_isMissing 1 = .ok (.getfield 18, 3) := by decide +kernel
theorem dX6_isMissing_4 : decode cX6_isMissing 4 = .ok (.iload_n 1, 1) := by decide +kernel
theorem dX6_isMissing_5 : decode cX6_isMissing 5 = .ok (.iaload, 1) := by decide +kernel
theorem dX6_isMissing_6 : decode cX6_isMissing 6 = .ok (.iconst (-1), 1) := by decide +kernel
theorem dX6_isMissing_7 : decode cX6_isMissing 7 = .ok (.if_icmp .ne 7, 3) := by decide +kernel
theorem dX6_isMissing_10 : decode cX6_isMissing 10 = .ok (.iconst 1, 1) := by decide +kernel
theorem dX6_isMissing_11 : decode cX6_isMissing 11 = .ok (.goto 4, 3) := by decide +kernel
theorem dX6_isMissing_14 : decode cX6_isMissing 14 = .ok (.iconst 0, 1) := by decide +kernel
theorem dX6_isMissing_15 : decode cX6_isMissing 15 = .ok (.ireturn, 1) := by decide +kernel
theorem dX6_laneOf_0 : decode cX6_laneOf 0 = .ok (.aload_n 0, 1) := by decide +kernel
theorem dX6_laneOf_1 : decode cX6_laneOf 1 = .ok (.getfield 15, 3) := by decide +kernel
theorem dX6_laneOf_4 : decode cX6_laneOf 4 = .ok (.iload_n 1, 1) := by decide +kernel
theorem dX6_laneOf_5 : decode cX6_laneOf 5 = .ok (.iaload, 1) := by decide +kernel
theorem dX6_laneOf_6 : decode cX6_laneOf 6 = .ok (.ireturn, 1) := by decide +kernel
theorem dX6_item_0 : decode cX6_item 0 = .ok (.aload_n 0, 1) := by decide +kernel
theorem dX6_item_1 : decode cX6_item 1 = .ok (.getfield 9, 3) := by decide +kernel
theorem dX6_item_4 : decode cX6_item 4 = .ok (.iload_n 1, 1) := by decide +kernel
theorem dX6_item_5 : decode cX6_item 5 = .ok (.bipush 40, 2) := by decide +kernel
theorem dX6_item_7 : decode cX6_item 7 = .ok (.imul, 1) := by decide +kernel
theorem dX6_item_8 : decode cX6_item 8 = .ok (.iload_n 2, 1) := by decide +kernel
theorem dX6_item_9 : decode cX6_item 9 = .ok (.iadd, 1) := by decide +kernel
theorem dX6_item_10 : decode cX6_item 10 = .ok (.iaload, 1) := by decide +kernel
theorem dX6_item_11 : decode cX6_item 11 = .ok (.ireturn, 1) := by decide +kernel
theorem dX6_holds_0 : decode cX6_holds 0 = .ok (.iload_n 2, 1) := by decide +kernel
theorem dX6_holds_1 : decode cX6_holds 1 = .ok (.ifCond .lt 33, 3) := by decide +kernel
theorem dX6_holds_4 : decode cX6_holds 4 = .ok (.iload_n 3, 1) := by decide +kernel
theorem dX6_holds_5 : decode cX6_holds 5 = .ok (.ifCond .lt 29, 3) := by decide +kernel
theorem dX6_holds_8 : decode cX6_holds 8 = .ok (.iload_n 3, 1) := by decide +kernel
theorem dX6_holds_9 : decode cX6_holds 9 = .ok (.aload_n 0, 1) := by decide +kernel
theorem dX6_holds_10 : decode cX6_holds 10 = .ok (.getfield 18, 3) := by decide +kernel
theorem dX6_holds_13 : decode cX6_holds 13 = .ok (.iload_n 1, 1) := by decide +kernel
theorem dX6_holds_14 : decode cX6_holds 14 = .ok (.iaload, 1) := by decide +kernel
theorem dX6_holds_15 : decode cX6_holds 15 = .ok (.if_icmp .gt 19, 3) := by decide +kernel
theorem dX6_holds_18 : decode cX6_holds 18 = .ok (.iload_n 2, 1) := by decide +kernel
theorem dX6_holds_19 : decode cX6_holds 19 = .ok (.aload_n 0, 1) := by decide +kernel
theorem dX6_holds_20 : decode cX6_holds 20 = .ok (.getfield 18, 3) := by decide +kernel
theorem dX6_holds_23 : decode cX6_holds 23 = .ok (.iload_n 1, 1) := by decide +kernel
theorem dX6_holds_24 : decode cX6_holds 24 = .ok (.iaload, 1) := by decide +kernel
theorem dX6_holds_25 : decode cX6_holds 25 = .ok (.iload_n 3, 1) := by decide +kernel
theorem dX6_holds_26 : decode cX6_holds 26 = .ok (.isub, 1) := by decide +kernel
theorem dX6_holds_27 : decode cX6_holds 27 = .ok (.if_icmp .gt 7, 3) := by decide +kernel
theorem dX6_holds_30 : decode cX6_holds 30 = .ok (.iconst 1, 1) := by decide +kernel
theorem dX6_holds_31 : decode cX6_holds 31 = .ok (.goto 4, 3) := by decide +kernel
theorem dX6_holds_34 : decode cX6_holds 34 = .ok (.iconst 0, 1) := by decide +kernel
theorem dX6_holds_35 : decode cX6_holds 35 = .ok (.ireturn, 1) := by decide +kernel
theorem dX6_seek_0 : decode cX6_seek 0 = .ok (.aload_n 0, 1) := by decide +kernel
theorem dX6_seek_1 : decode cX6_seek 1 = .ok (.iload_n 1, 1) := by decide +kernel
theorem dX6_seek_2 : decode cX6_seek 2 = .ok (.invokevirtual 21, 3) := by decide +kernel
theorem dX6_seek_5 : decode cX6_seek 5 = .ok (.ifCond .eq 5, 3) := by decide +kernel
theorem dX6_seek_8 : decode cX6_seek 8 = .ok (.iconst 1, 1) := by decide +kernel
theorem dX6_seek_9 : decode cX6_seek 9 = .ok (.ireturn, 1) := by decide +kernel
theorem dX6_seek_10 : decode cX6_seek 10 = .ok (.aload_n 0, 1) := by decide +kernel
theorem dX6_seek_11 : decode cX6_seek 11 = .ok (.iload_n 1, 1) := by decide +kernel
theorem dX6_seek_12 : decode cX6_seek 12 = .ok (.iload_n 2, 1) := by decide +kernel
theorem dX6_seek_13 : decode cX6_seek 13 = .ok (.iload_n 3, 1) := by decide +kernel
theorem dX6_seek_14 : decode cX6_seek 14 = .ok (.invokevirtual 25, 3) := by decide +kernel
theorem dX6_seek_17 : decode cX6_seek 17 = .ok (.ifCond .eq 7, 3) := by decide +kernel
theorem dX6_seek_20 : decode cX6_seek 20 = .ok (.iconst 0, 1) := by decide +kernel
theorem dX6_seek_21 : decode cX6_seek 21 = .ok (.goto 4, 3) := by decide +kernel
theorem dX6_seek_24 : decode cX6_seek 24 = .ok (.iconst 2, 1) := by decide +kernel
theorem dX6_seek_25 : decode cX6_seek 25 = .ok (.ireturn, 1) := by decide +kernel
theorem dX6_make_0 : decode cX6_make 0 = .ok (.aload_n 0, 1) := by decide +kernel
theorem dX6_make_1 : decode cX6_make 1 = .ok (.getfield 15, 3) := by decide +kernel
theorem dX6_make_4 : decode cX6_make 4 = .ok (.iload_n 1, 1) := by decide +kernel
theorem dX6_make_5 : decode cX6_make 5 = .ok (.iload_n 2, 1) := by decide +kernel
theorem dX6_make_6 : decode cX6_make 6 = .ok (.iastore, 1) := by decide +kernel
theorem dX6_make_7 : decode cX6_make 7 = .ok (.aload_n 0, 1) := by decide +kernel
theorem dX6_make_8 : decode cX6_make 8 = .ok (.getfield 18, 3) := by decide +kernel
theorem dX6_make_11 : decode cX6_make 11 = .ok (.iload_n 1, 1) := by decide +kernel
theorem dX6_make_12 : decode cX6_make 12 = .ok (.iload_n 3, 1) := by decide +kernel
theorem dX6_make_13 : decode cX6_make 13 = .ok (.iastore, 1) := by decide +kernel
theorem dX6_make_14 : decode cX6_make 14 = .ok (.iconst 0, 1) := by decide +kernel
theorem dX6_make_15 : decode cX6_make 15 = .ok (.istore 4, 2) := by decide +kernel
theorem dX6_make_17 : decode cX6_make 17 = .ok (.iload 4, 2) := by decide +kernel
theorem dX6_make_19 : decode cX6_make 19 = .ok (.iload_n 3, 1) := by decide +kernel
theorem dX6_make_20 : decode cX6_make 20 = .ok (.if_icmp .ge 22, 3) := by decide +kernel
theorem dX6_make_23 : decode cX6_make 23 = .ok (.aload_n 0, 1) := by decide +kernel
theorem dX6_make_24 : decode cX6_make 24 = .ok (.getfield 9, 3) := by decide +kernel
theorem dX6_make_27 : decode cX6_make 27 = .ok (.iload_n 1, 1) := by decide +kernel
theorem dX6_make_28 : decode cX6_make 28 = .ok (.bipush 40, 2) := by decide +kernel
theorem dX6_make_30 : decode cX6_make 30 = .ok (.imul, 1) := by decide +kernel
theorem dX6_make_31 : decode cX6_make 31 = .ok (.iload 4, 2) := by decide +kernel
theorem dX6_make_33 : decode cX6_make 33 = .ok (.iadd, 1) := by decide +kernel
theorem dX6_make_34 : decode cX6_make 34 = .ok (.iconst 0, 1) := by decide +kernel
theorem dX6_make_35 : decode cX6_make 35 = .ok (.iastore, 1) := by decide +kernel
theorem dX6_make_36 : decode cX6_make 36 = .ok (.iinc 4 1, 3) := by decide +kernel
theorem dX6_make_39 : decode cX6_make 39 = .ok (.goto (-22), 3) := by decide +kernel
theorem dX6_make_42 : decode cX6_make 42 = .ok (.return_, 1) := by decide +kernel
theorem dX6_put_0 : decode cX6_put 0 = .ok (.aload_n 0, 1) := by decide +kernel
theorem dX6_put_1 : decode cX6_put 1 = .ok (.getfield 15, 3) := by decide +kernel
theorem dX6_put_4 : decode cX6_put 4 = .ok (.iload_n 1, 1) := by decide +kernel
theorem dX6_put_5 : decode cX6_put 5 = .ok (.iaload, 1) := by decide +kernel
theorem dX6_put_6 : decode cX6_put 6 = .ok (.ifCond .ne 8, 3) := by decide +kernel
theorem dX6_put_9 : decode cX6_put 9 = .ok (.iload_n 3, 1) := by decide +kernel
theorem dX6_put_10 : decode cX6_put 10 = .ok (.i2b, 1) := by decide +kernel
theorem dX6_put_11 : decode cX6_put 11 = .ok (.goto 19, 3) := by decide +kernel
theorem dX6_put_14 : decode cX6_put 14 = .ok (.aload_n 0, 1) := by decide +kernel
theorem dX6_put_15 : decode cX6_put 15 = .ok (.getfield 15, 3) := by decide +kernel
theorem dX6_put_18 : decode cX6_put 18 = .ok (.iload_n 1, 1) := by decide +kernel
theorem dX6_put_19 : decode cX6_put 19 = .ok (.iaload, 1) := by decide +kernel
theorem dX6_put_20 : decode cX6_put 20 = .ok (.iconst 1, 1) := by decide +kernel
theorem dX6_put_21 : decode cX6_put 21 = .ok (.if_icmp .ne 8, 3) := by decide +kernel
theorem dX6_put_24 : decode cX6_put 24 = .ok (.iload_n 3, 1) := by decide +kernel
theorem dX6_put_25 : decode cX6_put 25 = .ok (.i2s, 1) := by decide +kernel
theorem dX6_put_26 : decode cX6_put 26 = .ok (.goto 4, 3) := by decide +kernel
theorem dX6_put_29 : decode cX6_put 29 = .ok (.iload_n 3, 1) := by decide +kernel
theorem dX6_put_30 : decode cX6_put 30 = .ok (.istore 4, 2) := by decide +kernel
theorem dX6_put_32 : decode cX6_put 32 = .ok (.aload_n 0, 1) := by decide +kernel
theorem dX6_put_33 : decode cX6_put 33 = .ok (.getfield 9, 3) := by decide +kernel
theorem dX6_put_36 : decode cX6_put 36 = .ok (.iload_n 1, 1) := by decide +kernel
theorem dX6_put_37 : decode cX6_put 37 = .ok (.bipush 40, 2) := by decide +kernel
theorem dX6_put_39 : decode cX6_put 39 = .ok (.imul, 1) := by decide +kernel
theorem dX6_put_40 : decode cX6_put 40 = .ok (.iload_n 2, 1) := by decide +kernel
theorem dX6_put_41 : decode cX6_put 41 = .ok (.iadd, 1) := by decide +kernel
theorem dX6_put_42 : decode cX6_put 42 = .ok (.iload 4, 2) := by decide +kernel
theorem dX6_put_44 : decode cX6_put 44 = .ok (.iastore, 1) := by decide +kernel
theorem dX6_put_45 : decode cX6_put 45 = .ok (.iload 4, 2) := by decide +kernel
theorem dX6_put_47 : decode cX6_put 47 = .ok (.ireturn, 1) := by decide +kernel
theorem dX6_bring_0 : decode cX6_bring 0 = .ok (.aload_n 0, 1) := by decide +kernel
theorem dX6_bring_1 : decode cX6_bring 1 = .ok (.getfield 9, 3) := by decide +kernel
theorem dX6_bring_4 : decode cX6_bring 4 = .ok (.iload_n 1, 1) := by decide +kernel
theorem dX6_bring_5 : decode cX6_bring 5 = .ok (.bipush 40, 2) := by decide +kernel
theorem dX6_bring_7 : decode cX6_bring 7 = .ok (.imul, 1) := by decide +kernel
theorem dX6_bring_8 : decode cX6_bring 8 = .ok (.iload_n 2, 1) := by decide +kernel
theorem dX6_bring_9 : decode cX6_bring 9 = .ok (.iadd, 1) := by decide +kernel
theorem dX6_bring_10 : decode cX6_bring 10 = .ok (.aload_n 0, 1) := by decide +kernel
theorem dX6_bring_11 : decode cX6_bring 11 = .ok (.getfield 9, 3) := by decide +kernel
theorem dX6_bring_14 : decode cX6_bring 14 = .ok (.iload_n 3, 1) := by decide +kernel
theorem dX6_bring_15 : decode cX6_bring 15 = .ok (.bipush 40, 2) := by decide +kernel
theorem dX6_bring_17 : decode cX6_bring 17 = .ok (.imul, 1) := by decide +kernel
theorem dX6_bring_18 : decode cX6_bring 18 = .ok (.iload 4, 2) := by decide +kernel
theorem dX6_bring_20 : decode cX6_bring 20 = .ok (.iadd, 1) := by decide +kernel
theorem dX6_bring_21 : decode cX6_bring 21 = .ok (.iload 5, 2) := by decide +kernel
theorem dX6_bring_23 : decode cX6_bring 23 = .ok (.invokestatic 29, 3) := by decide +kernel
theorem dX6_bring_26 : decode cX6_bring 26 = .ok (.return_, 1) := by decide +kernel
theorem dX6_lose_0 : decode cX6_lose 0 = .ok (.aload_n 0, 1) := by decide +kernel
theorem dX6_lose_1 : decode cX6_lose 1 = .ok (.getfield 18, 3) := by decide +kernel
theorem dX6_lose_4 : decode cX6_lose 4 = .ok (.iload_n 1, 1) := by decide +kernel
theorem dX6_lose_5 : decode cX6_lose 5 = .ok (.iaload, 1) := by decide +kernel
theorem dX6_lose_6 : decode cX6_lose 6 = .ok (.istore_n 2, 1) := by decide +kernel
theorem dX6_lose_7 : decode cX6_lose 7 = .ok (.aload_n 0, 1) := by decide +kernel
theorem dX6_lose_8 : decode cX6_lose 8 = .ok (.getfield 18, 3) := by decide +kernel
theorem dX6_lose_11 : decode cX6_lose 11 = .ok (.iload_n 1, 1) := by decide +kernel
theorem dX6_lose_12 : decode cX6_lose 12 = .ok (.iconst (-1), 1) := by decide +kernel
theorem dX6_lose_13 : decode cX6_lose 13 = .ok (.iastore, 1) := by decide +kernel
theorem dX6_lose_14 : decode cX6_lose 14 = .ok (.iload_n 2, 1) := by decide +kernel
theorem dX6_lose_15 : decode cX6_lose 15 = .ok (.ireturn, 1) := by decide +kernel
theorem dX6_standing_0 : decode cX6_standing 0 = .ok (.iconst 0, 1) := by decide +kernel
theorem dX6_standing_1 : decode cX6_standing 1 = .ok (.istore_n 1, 1) := by decide +kernel
theorem dX6_standing_2 : decode cX6_standing 2 = .ok (.iconst 0, 1) := by decide +kernel
theorem dX6_standing_3 : decode cX6_standing 3 = .ok (.istore_n 2, 1) := by decide +kernel
theorem dX6_standing_4 : decode cX6_standing 4 = .ok (.iload_n 2, 1) := by decide +kernel
theorem dX6_standing_5 : decode cX6_standing 5 = .ok (.bipush 8, 2) := by decide +kernel
theorem dX6_standing_7 : decode cX6_standing 7 = .ok (.if_icmp .ge 25, 3) := by decide +kernel
theorem dX6_standing_10 : decode cX6_standing 10 = .ok (.iload_n 1, 1) := by decide +kernel
theorem dX6_standing_11 : decode cX6_standing 11 = .ok (.aload_n 0, 1) := by decide +kernel
theorem dX6_standing_12 : decode cX6_standing 12 = .ok (.iload_n 2, 1) := by decide +kernel
theorem dX6_standing_13 : decode cX6_standing 13 = .ok (.invokevirtual 21, 3) := by decide +kernel
theorem dX6_standing_16 : decode cX6_standing 16 = .ok (.ifCond .eq 7, 3) := by decide +kernel
theorem dX6_standing_19 : decode cX6_standing 19 = .ok (.iconst 0, 1) := by decide +kernel
theorem dX6_standing_20 : decode cX6_standing 20 = .ok (.goto 4, 3) := by decide +kernel
theorem dX6_standing_23 : decode cX6_standing 23 = .ok (.iconst 1, 1) := by decide +kernel
theorem dX6_standing_24 : decode cX6_standing 24 = .ok (.iadd, 1) := by decide +kernel
theorem dX6_standing_25 : decode cX6_standing 25 = .ok (.istore_n 1, 1) := by decide +kernel
theorem dX6_standing_26 : decode cX6_standing 26 = .ok (.iinc 2 1, 3) := by decide +kernel
theorem dX6_standing_29 : decode cX6_standing 29 = .ok (.goto (-25), 3) := by decide +kernel
theorem dX6_standing_32 : decode cX6_standing 32 = .ok (.iload_n 1, 1) := by decide +kernel
theorem dX6_standing_33 : decode cX6_standing 33 = .ok (.ireturn, 1) := by decide +kernel
theorem dJ9_max_7cf53_0 : decode cJ9_max_7cf53 0 = .ok (.iload_n 0, 1) := by decide +kernel
theorem dJ9_max_7cf53_1 : decode cJ9_max_7cf53 1 = .ok (.iload_n 1, 1) := by decide +kernel
theorem dJ9_max_7cf53_2 : decode cJ9_max_7cf53 2 = .ok (.if_icmp .lt 7, 3) := by decide +kernel
theorem dJ9_max_7cf53_5 : decode cJ9_max_7cf53 5 = .ok (.iload_n 0, 1) := by decide +kernel
theorem dJ9_max_7cf53_6 : decode cJ9_max_7cf53 6 = .ok (.goto 4, 3) := by decide +kernel
theorem dJ9_max_7cf53_9 : decode cJ9_max_7cf53 9 = .ok (.iload_n 1, 1) := by decide +kernel
theorem dJ9_max_7cf53_10 : decode cJ9_max_7cf53 10 = .ok (.ireturn, 1) := by decide +kernel
theorem dJ9_min_7cf53_0 : decode cJ9_min_7cf53 0 = .ok (.iload_n 0, 1) := by decide +kernel
theorem dJ9_min_7cf53_1 : decode cJ9_min_7cf53 1 = .ok (.iload_n 1, 1) := by decide +kernel
theorem dJ9_min_7cf53_2 : decode cJ9_min_7cf53 2 = .ok (.if_icmp .gt 7, 3) := by decide +kernel
theorem dJ9_min_7cf53_5 : decode cJ9_min_7cf53 5 = .ok (.iload_n 0, 1) := by decide +kernel
theorem dJ9_min_7cf53_6 : decode cJ9_min_7cf53 6 = .ok (.goto 4, 3) := by decide +kernel
theorem dJ9_min_7cf53_9 : decode cJ9_min_7cf53 9 = .ok (.iload_n 1, 1) := by decide +kernel
theorem dJ9_min_7cf53_10 : decode cJ9_min_7cf53 10 = .ok (.ireturn, 1) := by decide +kernel
theorem dX7_init_0 : decode cX7_init 0 = .ok (.aload_n 0, 1) := by decide +kernel
theorem dX7_init_1 : decode cX7_init 1 = .ok (.invokespecial 3, 3) := by decide +kernel
theorem dX7_init_4 : decode cX7_init 4 = .ok (.aload_n 0, 1) := by decide +kernel
theorem dX7_init_5 : decode cX7_init 5 = .ok (.new 9, 3) := by decide +kernel
theorem dX7_init_8 : decode cX7_init 8 = .ok (.dup, 1) := by decide +kernel
theorem dX7_init_9 : decode cX7_init 9 = .ok (.invokespecial 11, 3) := by decide +kernel
theorem dX7_init_12 : decode cX7_init 12 = .ok (.putfield 12, 3) := by decide +kernel
theorem dX7_init_15 : decode cX7_init 15 = .ok (.aload_n 0, 1) := by decide +kernel
theorem dX7_init_16 : decode cX7_init 16 = .ok (.new 16, 3) := by decide +kernel
theorem dX7_init_19 : decode cX7_init 19 = .ok (.dup, 1) := by decide +kernel
theorem dX7_init_20 : decode cX7_init 20 = .ok (.invokespecial 18, 3) := by decide +kernel
theorem dX7_init_23 : decode cX7_init 23 = .ok (.putfield 19, 3) := by decide +kernel
theorem dX7_init_26 : decode cX7_init 26 = .ok (.aload_n 0, 1) := by decide +kernel
theorem dX7_init_27 : decode cX7_init 27 = .ok (.new 23, 3) := by decide +kernel
theorem dX7_init_30 : decode cX7_init 30 = .ok (.dup, 1) := by decide +kernel
theorem dX7_init_31 : decode cX7_init 31 = .ok (.invokespecial 25, 3) := by decide +kernel
theorem dX7_init_34 : decode cX7_init 34 = .ok (.putfield 26, 3) := by decide +kernel
theorem dX7_init_37 : decode cX7_init 37 = .ok (.aload_n 0, 1) := by decide +kernel
theorem dX7_init_38 : decode cX7_init 38 = .ok (.new 23, 3) := by decide +kernel
theorem dX7_init_41 : decode cX7_init 41 = .ok (.dup, 1) := by decide +kernel
theorem dX7_init_42 : decode cX7_init 42 = .ok (.invokespecial 25, 3) := by decide +kernel
theorem dX7_init_45 : decode cX7_init 45 = .ok (.putfield 30, 3) := by decide +kernel
theorem dX7_init_48 : decode cX7_init 48 = .ok (.aload_n 0, 1) := by decide +kernel
theorem dX7_init_49 : decode cX7_init 49 = .ok (.iconst 2, 1) := by decide +kernel
theorem dX7_init_50 : decode cX7_init 50 = .ok (.anewarray 23, 3) := by decide +kernel
theorem dX7_init_53 : decode cX7_init 53 = .ok (.putfield 33, 3) := by decide +kernel
theorem dX7_init_56 : decode cX7_init 56 = .ok (.iconst 0, 1) := by decide +kernel
theorem dX7_init_57 : decode cX7_init 57 = .ok (.istore_n 1, 1) := by decide +kernel
theorem dX7_init_58 : decode cX7_init 58 = .ok (.iload_n 1, 1) := by decide +kernel
theorem dX7_init_59 : decode cX7_init 59 = .ok (.iconst 2, 1) := by decide +kernel
theorem dX7_init_60 : decode cX7_init 60 = .ok (.if_icmp .ge 22, 3) := by decide +kernel
theorem dX7_init_63 : decode cX7_init 63 = .ok (.aload_n 0, 1) := by decide +kernel
theorem dX7_init_64 : decode cX7_init 64 = .ok (.getfield 33, 3) := by decide +kernel
theorem dX7_init_67 : decode cX7_init 67 = .ok (.iload_n 1, 1) := by decide +kernel
theorem dX7_init_68 : decode cX7_init 68 = .ok (.new 23, 3) := by decide +kernel
theorem dX7_init_71 : decode cX7_init 71 = .ok (.dup, 1) := by decide +kernel
theorem dX7_init_72 : decode cX7_init 72 = .ok (.invokespecial 25, 3) := by decide +kernel
theorem dX7_init_75 : decode cX7_init 75 = .ok (.aastore, 1) := by decide +kernel
theorem dX7_init_76 : decode cX7_init 76 = .ok (.iinc 1 1, 3) := by decide +kernel
theorem dX7_init_79 : decode cX7_init 79 = .ok (.goto (-21), 3) := by decide +kernel
theorem dX7_init_82 : decode cX7_init 82 = .ok (.aload_n 0, 1) := by decide +kernel
theorem dX7_init_83 : decode cX7_init 83 = .ok (.new 37, 3) := by decide +kernel
theorem dX7_init_86 : decode cX7_init 86 = .ok (.dup, 1) := by decide +kernel
theorem dX7_init_87 : decode cX7_init 87 = .ok (.invokespecial 39, 3) := by decide +kernel
theorem dX7_init_90 : decode cX7_init 90 = .ok (.putfield 40, 3) := by decide +kernel
theorem dX7_init_93 : decode cX7_init 93 = .ok (.aload_n 0, 1) := by decide +kernel
theorem dX7_init_94 : decode cX7_init 94 = .ok (.new 44, 3) := by decide +kernel
theorem dX7_init_97 : decode cX7_init 97 = .ok (.dup, 1) := by decide +kernel
theorem dX7_init_98 : decode cX7_init 98 = .ok (.invokespecial 46, 3) := by decide +kernel
theorem dX7_init_101 : decode cX7_init 101 = .ok (.putfield 47, 3) := by decide +kernel
theorem dX7_init_104 : decode cX7_init 104 = .ok (.aload_n 0, 1) := by decide +kernel
theorem dX7_init_105 : decode cX7_init 105 = .ok (.new 44, 3) := by decide +kernel
theorem dX7_init_108 : decode cX7_init 108 = .ok (.dup, 1) := by decide +kernel
theorem dX7_init_109 : decode cX7_init 109 = .ok (.invokespecial 46, 3) := by decide +kernel
theorem dX7_init_112 : decode cX7_init 112 = .ok (.putfield 51, 3) := by decide +kernel
theorem dX7_init_115 : decode cX7_init 115 = .ok (.aload_n 0, 1) := by decide +kernel
theorem dX7_init_116 : decode cX7_init 116 = .ok (.new 54, 3) := by decide +kernel
theorem dX7_init_119 : decode cX7_init 119 = .ok (.dup, 1) := by decide +kernel
theorem dX7_init_120 : decode cX7_init 120 = .ok (.invokespecial 56, 3) := by decide +kernel
theorem dX7_init_123 : decode cX7_init 123 = .ok (.putfield 57, 3) := by decide +kernel
theorem dX7_init_126 : decode cX7_init 126 = .ok (.aload_n 0, 1) := by decide +kernel
theorem dX7_init_127 : decode cX7_init 127 = .ok (.new 61, 3) := by decide +kernel
theorem dX7_init_130 : decode cX7_init 130 = .ok (.dup, 1) := by decide +kernel
theorem dX7_init_131 : decode cX7_init 131 = .ok (.invokespecial 63, 3) := by decide +kernel
theorem dX7_init_134 : decode cX7_init 134 = .ok (.putfield 64, 3) := by decide +kernel
theorem dX7_init_137 : decode cX7_init 137 = .ok (.aload_n 0, 1) := by decide +kernel
theorem dX7_init_138 : decode cX7_init 138 = .ok (.iconst 0, 1) := by decide +kernel
theorem dX7_init_139 : decode cX7_init 139 = .ok (.putfield 68, 3) := by decide +kernel
theorem dX7_init_142 : decode cX7_init 142 = .ok (.return_, 1) := by decide +kernel
theorem dX7_row_0 : decode cX7_row 0 = .ok (.iload_n 1, 1) := by decide +kernel
theorem dX7_row_1 : decode cX7_row 1 = .ok (.invokestatic 72, 3) := by decide +kernel
theorem dX7_row_4 : decode cX7_row 4 = .ok (.ifCond .eq 18, 3) := by decide +kernel
theorem dX7_row_7 : decode cX7_row 7 = .ok (.iload_n 2, 1) := by decide +kernel
theorem dX7_row_8 : decode cX7_row 8 = .ok (.iconst 0, 1) := by decide +kernel
theorem dX7_row_9 : decode cX7_row 9 = .ok (.iconst 2, 1) := by decide +kernel
theorem dX7_row_10 : decode cX7_row 10 = .ok (.invokestatic 76, 3) := by decide +kernel
theorem dX7_row_13 : decode cX7_row 13 = .ok (.ifCond .ne 9, 3) := by decide +kernel
theorem dX7_row_16 : decode cX7_row 16 = .ok (.iload_n 3, 1) := by decide +kernel
theorem dX7_row_17 : decode cX7_row 17 = .ok (.bipush 40, 2) := by decide +kernel
theorem dX7_row_19 : decode cX7_row 19 = .ok (.if_icmp .le 6, 3) := by decide +kernel
theorem dX7_row_22 : decode cX7_row 22 = .ok (.ldc 80, 2) := by decide +kernel
theorem dX7_row_24 : decode cX7_row 24 = .ok (.ireturn, 1) := by decide +kernel
theorem dX7_row_25 : decode cX7_row 25 = .ok (.iload_n 3, 1) := by decide +kernel
theorem dX7_row_26 : decode cX7_row 26 = .ok (.ifCond .ge 9, 3) := by decide +kernel
theorem dX7_row_29 : decode cX7_row 29 = .ok (.aload_n 0, 1) := by decide +kernel
theorem dX7_row_30 : decode cX7_row 30 = .ok (.iconst 4, 1) := by decide +kernel
theorem dX7_row_31 : decode cX7_row 31 = .ok (.invokevirtual 81, 3) := by decide +kernel
theorem dX7_row_34 : decode cX7_row 34 = .ok (.ireturn, 1) := by decide +kernel
theorem dX7_row_35 : decode cX7_row 35 = .ok (.aload_n 0, 1) := by decide +kernel
theorem dX7_row_36 : decode cX7_row 36 = .ok (.getfield 12, 3) := by decide +kernel
theorem dX7_row_39 : decode cX7_row 39 = .ok (.iload_n 1, 1) := by decide +kernel
theorem dX7_row_40 : decode cX7_row 40 = .ok (.iload_n 2, 1) := by decide +kernel
theorem dX7_row_41 : decode cX7_row 41 = .ok (.iload_n 3, 1) := by decide +kernel
theorem dX7_row_42 : decode cX7_row 42 = .ok (.invokevirtual 85, 3) := by decide +kernel
theorem dX7_row_45 : decode cX7_row 45 = .ok (.aload_n 0, 1) := by decide +kernel
theorem dX7_row_46 : decode cX7_row 46 = .ok (.iload_n 3, 1) := by decide +kernel
theorem dX7_row_47 : decode cX7_row 47 = .ok (.invokevirtual 89, 3) := by decide +kernel
theorem dX7_row_50 : decode cX7_row 50 = .ok (.ireturn, 1) := by decide +kernel
theorem dX7_set_0 : decode cX7_set 0 = .ok (.iload_n 1, 1) := by decide +kernel
theorem dX7_set_1 : decode cX7_set 1 = .ok (.invokestatic 72, 3) := by decide +kernel
theorem dX7_set_4 : decode cX7_set 4 = .ok (.ifCond .ne 6, 3) := by decide +kernel
theorem dX7_set_7 : decode cX7_set 7 = .ok (.ldc 80, 2) := by decide +kernel
theorem dX7_set_9 : decode cX7_set 9 = .ok (.ireturn, 1) := by decide +kernel
theorem dX7_set_10 : decode cX7_set 10 = .ok (.aload_n 0, 1) := by decide +kernel
theorem dX7_set_11 : decode cX7_set 11 = .ok (.getfield 12, 3) := by decide +kernel
theorem dX7_set_14 : decode cX7_set 14 = .ok (.iload_n 1, 1) := by decide +kernel
theorem dX7_set_15 : decode cX7_set 15 = .ok (.iload_n 2, 1) := by decide +kernel
theorem dX7_set_16 : decode cX7_set 16 = .ok (.iconst 1, 1) := by decide +kernel
theorem dX7_set_17 : decode cX7_set 17 = .ok (.invokevirtual 92, 3) := by decide +kernel
theorem dX7_set_20 : decode cX7_set 20 = .ok (.istore 4, 2) := by decide +kernel
theorem dX7_set_22 : decode cX7_set 22 = .ok (.iload 4, 2) := by decide +kernel
theorem dX7_set_24 : decode cX7_set 24 = .ok (.ifCond .eq 10, 3) := by decide +kernel
theorem dX7_set_27 : decode cX7_set 27 = .ok (.aload_n 0, 1) := by decide +kernel
theorem dX7_set_28 : decode cX7_set 28 = .ok (.iload 4, 2) := by decide +kernel
theorem dX7_set_30 : decode cX7_set 30 = .ok (.invokevirtual 81, 3) := by decide +kernel
theorem dX7_set_33 : decode cX7_set 33 = .ok (.ireturn, 1) := by decide +kernel
theorem dX7_set_34 : decode cX7_set 34 = .ok (.aload_n 0, 1) := by decide +kernel
theorem dX7_set_35 : decode cX7_set 35 = .ok (.aload_n 0, 1) := by decide +kernel
theorem dX7_set_36 : decode cX7_set 36 = .ok (.getfield 12, 3) := by decide +kernel
theorem dX7_set_39 : decode cX7_set 39 = .ok (.iload_n 1, 1) := by decide +kernel
theorem dX7_set_40 : decode cX7_set 40 = .ok (.iload_n 2, 1) := by decide +kernel
theorem dX7_set_41 : decode cX7_set 41 = .ok (.iload_n 3, 1) := by decide +kernel
theorem dX7_set_42 : decode cX7_set 42 = .ok (.invokevirtual 96, 3) := by decide +kernel
theorem dX7_set_45 : decode cX7_set 45 = .ok (.invokevirtual 89, 3) := by decide +kernel
theorem dX7_set_48 : decode cX7_set 48 = .ok (.ireturn, 1) := by decide +kernel
theorem dX7_copy_0 : decode cX7_copy 0 = .ok (.iload_n 1, 1) := by decide +kernel
theorem dX7_copy_1 : decode cX7_copy 1 = .ok (.invokestatic 72, 3) := by decide +kernel
theorem dX7_copy_4 : decode cX7_copy 4 = .ok (.ifCond .eq 10, 3) := by decide +kernel
theorem dX7_copy_7 : decode cX7_copy 7 = .ok (.iload_n 3, 1) := by decide +kernel
theorem dX7_copy_8 : decode cX7_copy 8 = .ok (.invokestatic 72, 3) := by decide +kernel
theorem dX7_copy_11 : decode cX7_copy 11 = .ok (.ifCond .ne 6, 3) := by decide +kernel
theorem dX7_copy_14 : decode cX7_copy 14 = .ok (.ldc 80, 2) := by decide +kernel
theorem dX7_copy_16 : decode cX7_copy 16 = .ok (.ireturn, 1) := by decide +kernel
theorem dX7_copy_17 : decode cX7_copy 17 = .ok (.aload_n 0, 1) := by decide +kernel
theorem dX7_copy_18 : decode cX7_copy 18 = .ok (.getfield 12, 3) := by decide +kernel
theorem dX7_copy_21 : decode cX7_copy 21 = .ok (.iload_n 1, 1) := by decide +kernel
theorem dX7_copy_22 : decode cX7_copy 22 = .ok (.invokevirtual 99, 3) := by decide +kernel
theorem dX7_copy_25 : decode cX7_copy 25 = .ok (.ifCond .ne 14, 3) := by decide +kernel
theorem dX7_copy_28 : decode cX7_copy 28 = .ok (.aload_n 0, 1) := by decide +kernel
theorem dX7_copy_29 : decode cX7_copy 29 = .ok (.getfield 12, 3) := by decide +kernel
theorem dX7_copy_32 : decode cX7_copy 32 = .ok (.iload_n 3, 1) := by decide +kernel
theorem dX7_copy_33 : decode cX7_copy 33 = .ok (.invokevirtual 99, 3) := by decide +kernel
theorem dX7_copy_36 : decode cX7_copy 36 = .ok (.ifCond .eq 9, 3) := by decide +kernel
theorem dX7_copy_39 : decode cX7_copy 39 = .ok (.aload_n 0, 1) := by decide +kernel
theorem dX7_copy_40 : decode cX7_copy 40 = .ok (.iconst 1, 1) := by decide +kernel
theorem dX7_copy_41 : decode cX7_copy 41 = .ok (.invokevirtual 81, 3) := by decide +kernel
theorem dX7_copy_44 : decode cX7_copy 44 = .ok (.ireturn, 1) := by decide +kernel
theorem dX7_copy_45 : decode cX7_copy 45 = .ok (.aload_n 0, 1) := by decide +kernel
theorem dX7_copy_46 : decode cX7_copy 46 = .ok (.getfield 12, 3) := by decide +kernel
theorem dX7_copy_49 : decode cX7_copy 49 = .ok (.iload_n 1, 1) := by decide +kernel
theorem dX7_copy_50 : decode cX7_copy 50 = .ok (.invokevirtual 102, 3) := by decide +kernel
theorem dX7_copy_53 : decode cX7_copy 53 = .ok (.aload_n 0, 1) := by decide +kernel
theorem dX7_copy_54 : decode cX7_copy 54 = .ok (.getfield 12, 3) := by decide +kernel
theorem dX7_copy_57 : decode cX7_copy 57 = .ok (.iload_n 3, 1) := by decide +kernel
theorem dX7_copy_58 : decode cX7_copy 58 = .ok (.invokevirtual 102, 3) := by decide +kernel
theorem dX7_copy_61 : decode cX7_copy 61 = .ok (.if_icmp .eq 9, 3) := by decide +kernel
theorem dX7_copy_64 : decode cX7_copy 64 = .ok (.aload_n 0, 1) := by decide +kernel
theorem dX7_copy_65 : decode cX7_copy 65 = .ok (.iconst 5, 1) := by decide +kernel
theorem dX7_copy_66 : decode cX7_copy 66 = .ok (.invokevirtual 81, 3) := by decide +kernel
theorem dX7_copy_69 : decode cX7_copy 69 = .ok (.ireturn, 1) := by decide +kernel
theorem dX7_copy_70 : decode cX7_copy 70 = .ok (.aload_n 0, 1) := by decide +kernel
theorem dX7_copy_71 : decode cX7_copy 71 = .ok (.getfield 12, 3) := by decide +kernel
theorem dX7_copy_74 : decode cX7_copy 74 = .ok (.iload_n 1, 1) := by decide +kernel
theorem dX7_copy_75 : decode cX7_copy 75 = .ok (.iload_n 2, 1) := by decide +kernel
theorem dX7_copy_76 : decode cX7_copy 76 = .ok (.iload 5, 2) := by decide +kernel
theorem dX7_copy_78 : decode cX7_copy 78 = .ok (.invokevirtual 105, 3) := by decide +kernel
theorem dX7_copy_81 : decode cX7_copy 81 = .ok (.ifCond .eq 18, 3) := by decide +kernel
theorem dX7_copy_84 : decode cX7_copy 84 = .ok (.aload_n 0, 1) := by decide +kernel
theorem dX7_copy_85 : decode cX7_copy 85 = .ok (.getfield 12, 3) := by decide +kernel
theorem dX7_copy_88 : decode cX7_copy 88 = .ok (.iload_n 3, 1) := by decide +kernel
theorem dX7_copy_89 : decode cX7_copy 89 = .ok (.iload 4, 2) := by decide +kernel
theorem dX7_copy_91 : decode cX7_copy 91 = .ok (.iload 5, 2) := by decide +kernel
theorem dX7_copy_93 : decode cX7_copy 93 = .ok (.invokevirtual 105, 3) := by decide +kernel
theorem dX7_copy_96 : decode cX7_copy 96 = .ok (.ifCond .ne 9, 3) := by decide +kernel
theorem dX7_copy_99 : decode cX7_copy 99 = .ok (.aload_n 0, 1) := by decide +kernel
theorem dX7_copy_100 : decode cX7_copy 100 = .ok (.iconst 2, 1) := by decide +kernel
theorem dX7_copy_101 : decode cX7_copy 101 = .ok (.invokevirtual 81, 3) := by decide +kernel
theorem dX7_copy_104 : decode cX7_copy 104 = .ok (.ireturn, 1) := by decide +kernel
theorem dX7_copy_105 : decode cX7_copy 105 = .ok (.aload_n 0, 1) := by decide +kernel
theorem dX7_copy_106 : decode cX7_copy 106 = .ok (.getfield 12, 3) := by decide +kernel
theorem dX7_copy_109 : decode cX7_copy 109 = .ok (.iload_n 1, 1) := by decide +kernel
theorem dX7_copy_110 : decode cX7_copy 110 = .ok (.iload_n 2, 1) := by decide +kernel
theorem dX7_copy_111 : decode cX7_copy 111 = .ok (.iload_n 3, 1) := by decide +kernel
theorem dX7_copy_112 : decode cX7_copy 112 = .ok (.iload 4, 2) := by decide +kernel
theorem dX7_copy_114 : decode cX7_copy 114 = .ok (.iload 5, 2) := by decide +kernel
theorem dX7_copy_116 : decode cX7_copy 116 = .ok (.invokevirtual 108, 3) := by decide +kernel
theorem dX7_copy_119 : decode cX7_copy 119 = .ok (.aload_n 0, 1) := by decide +kernel
theorem dX7_copy_120 : decode cX7_copy 120 = .ok (.iload 5, 2) := by decide +kernel
theorem dX7_copy_122 : decode cX7_copy 122 = .ok (.invokevirtual 89, 3) := by decide +kernel
theorem dX7_copy_125 : decode cX7_copy 125 = .ok (.ireturn, 1) := by decide +kernel
theorem dX7_drop_0 : decode cX7_drop 0 = .ok (.iload_n 1, 1) := by decide +kernel
theorem dX7_drop_1 : decode cX7_drop 1 = .ok (.invokestatic 72, 3) := by decide +kernel
theorem dX7_drop_4 : decode cX7_drop 4 = .ok (.ifCond .ne 6, 3) := by decide +kernel
theorem dX7_drop_7 : decode cX7_drop 7 = .ok (.ldc 80, 2) := by decide +kernel
theorem dX7_drop_9 : decode cX7_drop 9 = .ok (.ireturn, 1) := by decide +kernel
theorem dX7_drop_10 : decode cX7_drop 10 = .ok (.aload_n 0, 1) := by decide +kernel
theorem dX7_drop_11 : decode cX7_drop 11 = .ok (.getfield 12, 3) := by decide +kernel
theorem dX7_drop_14 : decode cX7_drop 14 = .ok (.iload_n 1, 1) := by decide +kernel
theorem dX7_drop_15 : decode cX7_drop 15 = .ok (.invokevirtual 99, 3) := by decide +kernel
theorem dX7_drop_18 : decode cX7_drop 18 = .ok (.ifCond .eq 9, 3) := by decide +kernel
theorem dX7_drop_21 : decode cX7_drop 21 = .ok (.aload_n 0, 1) := by decide +kernel
theorem dX7_drop_22 : decode cX7_drop 22 = .ok (.iconst 1, 1) := by decide +kernel
theorem dX7_drop_23 : decode cX7_drop 23 = .ok (.invokevirtual 81, 3) := by decide +kernel
theorem dX7_drop_26 : decode cX7_drop 26 = .ok (.ireturn, 1) := by decide +kernel
