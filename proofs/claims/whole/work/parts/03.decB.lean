theorem dX11_init_0 : decode cX11_init 0 = .ok (.aload_n 0, 1) := by decide +kernel
theorem dX11_init_1 : decode cX11_init 1 = .ok (.invokespecial 1, 3) := by decide +kernel
theorem dX11_init_4 : decode cX11_init 4 = .ok (.aload_n 0, 1) := by decide +kernel
theorem dX11_init_5 : decode cX11_init 5 = .ok (.new 7, 3) := by decide +kernel
theorem dX11_init_8 : decode cX11_init 8 = .ok (.dup, 1) := by decide +kernel
theorem dX11_init_9 : decode cX11_init 9 = .ok (.invokespecial 9, 3) := by decide +kernel
theorem dX11_init_12 : decode cX11_init 12 = .ok (.putfield 10, 3) := by decide +kernel
theorem dX11_init_15 : decode cX11_init 15 = .ok (.aload_n 0, 1) := by decide +kernel
theorem dX11_init_16 : decode cX11_init 16 = .ok (.new 16, 3) := by decide +kernel
theorem dX11_init_19 : decode cX11_init 19 = .ok (.dup, 1) := by decide +kernel
theorem dX11_init_20 : decode cX11_init 20 = .ok (.invokespecial 18, 3) := by decide +kernel
theorem dX11_init_23 : decode cX11_init 23 = .ok (.putfield 19, 3) := by decide +kernel
theorem dX11_init_26 : decode cX11_init 26 = .ok (.aload_n 0, 1) := by decide +kernel
theorem dX11_init_27 : decode cX11_init 27 = .ok (.new 23, 3) := by decide +kernel
theorem dX11_init_30 : decode cX11_init 30 = .ok (.dup, 1) := by decide +kernel
theorem dX11_init_31 : decode cX11_init 31 = .ok (.aload_n 0, 1) := by decide +kernel
theorem dX11_init_32 : decode cX11_init 32 = .ok (.getfield 10, 3) := by decide +kernel
theorem dX11_init_35 : decode cX11_init 35 = .ok (.aload_n 0, 1) := by decide +kernel
theorem dX11_init_36 : decode cX11_init 36 = .ok (.getfield 19, 3) := by decide +kernel
theorem dX11_init_39 : decode cX11_init 39 = .ok (.invokespecial 25, 3) := by decide +kernel
theorem dX11_init_42 : decode cX11_init 42 = .ok (.putfield 28, 3) := by decide +kernel
theorem dX11_init_45 : decode cX11_init 45 = .ok (.aload_n 0, 1) := by decide +kernel
theorem dX11_init_46 : decode cX11_init 46 = .ok (.new 32, 3) := by decide +kernel
theorem dX11_init_49 : decode cX11_init 49 = .ok (.dup, 1) := by decide +kernel
theorem dX11_init_50 : decode cX11_init 50 = .ok (.invokespecial 34, 3) := by decide +kernel
theorem dX11_init_53 : decode cX11_init 53 = .ok (.putfield 35, 3) := by decide +kernel
theorem dX11_init_56 : decode cX11_init 56 = .ok (.aload_n 0, 1) := by decide +kernel
theorem dX11_init_57 : decode cX11_init 57 = .ok (.new 39, 3) := by decide +kernel
theorem dX11_init_60 : decode cX11_init 60 = .ok (.dup, 1) := by decide +kernel
theorem dX11_init_61 : decode cX11_init 61 = .ok (.invokespecial 41, 3) := by decide +kernel
theorem dX11_init_64 : decode cX11_init 64 = .ok (.putfield 42, 3) := by decide +kernel
theorem dX11_init_67 : decode cX11_init 67 = .ok (.aload_n 0, 1) := by decide +kernel
theorem dX11_init_68 : decode cX11_init 68 = .ok (.new 46, 3) := by decide +kernel
theorem dX11_init_71 : decode cX11_init 71 = .ok (.dup, 1) := by decide +kernel
theorem dX11_init_72 : decode cX11_init 72 = .ok (.invokespecial 48, 3) := by decide +kernel
theorem dX11_init_75 : decode cX11_init 75 = .ok (.putfield 49, 3) := by decide +kernel
theorem dX11_init_78 : decode cX11_init 78 = .ok (.aload_n 0, 1) := by decide +kernel
theorem dX11_init_79 : decode cX11_init 79 = .ok (.new 53, 3) := by decide +kernel
theorem dX11_init_82 : decode cX11_init 82 = .ok (.dup, 1) := by decide +kernel
theorem dX11_init_83 : decode cX11_init 83 = .ok (.invokespecial 55, 3) := by decide +kernel
theorem dX11_init_86 : decode cX11_init 86 = .ok (.putfield 56, 3) := by decide +kernel
theorem dX11_init_89 : decode cX11_init 89 = .ok (.aload_n 0, 1) := by decide +kernel
theorem dX11_init_90 : decode cX11_init 90 = .ok (.new 60, 3) := by decide +kernel
theorem dX11_init_93 : decode cX11_init 93 = .ok (.dup, 1) := by decide +kernel
theorem dX11_init_94 : decode cX11_init 94 = .ok (.invokespecial 62, 3) := by decide +kernel
theorem dX11_init_97 : decode cX11_init 97 = .ok (.putfield 63, 3) := by decide +kernel
theorem dX11_init_100 : decode cX11_init 100 = .ok (.return_, 1) := by decide +kernel
theorem dX11_open_0 : decode cX11_open 0 = .ok (.iload_n 1, 1) := by decide +kernel
theorem dX11_open_1 : decode cX11_open 1 = .ok (.invokestatic 67, 3) := by decide +kernel
theorem dX11_open_4 : decode cX11_open 4 = .ok (.ifCond .ne 6, 3) := by decide +kernel
theorem dX11_open_7 : decode cX11_open 7 = .ok (.bipush (-2), 2) := by decide +kernel
theorem dX11_open_9 : decode cX11_open 9 = .ok (.ireturn, 1) := by decide +kernel
theorem dX11_open_10 : decode cX11_open 10 = .ok (.iload_n 2, 1) := by decide +kernel
theorem dX11_open_11 : decode cX11_open 11 = .ok (.iconst 0, 1) := by decide +kernel
theorem dX11_open_12 : decode cX11_open 12 = .ok (.sipush 1439, 3) := by decide +kernel
theorem dX11_open_15 : decode cX11_open 15 = .ok (.invokestatic 71, 3) := by decide +kernel
theorem dX11_open_18 : decode cX11_open 18 = .ok (.ifCond .eq 14, 3) := by decide +kernel
theorem dX11_open_21 : decode cX11_open 21 = .ok (.iload_n 3, 1) := by decide +kernel
theorem dX11_open_22 : decode cX11_open 22 = .ok (.iload_n 2, 1) := by decide +kernel
theorem dX11_open_23 : decode cX11_open 23 = .ok (.sipush 1439, 3) := by decide +kernel
theorem dX11_open_26 : decode cX11_open 26 = .ok (.invokestatic 71, 3) := by decide +kernel
theorem dX11_open_29 : decode cX11_open 29 = .ok (.ifCond .ne 6, 3) := by decide +kernel
theorem dX11_open_32 : decode cX11_open 32 = .ok (.bipush (-3), 2) := by decide +kernel
theorem dX11_open_34 : decode cX11_open 34 = .ok (.ireturn, 1) := by decide +kernel
theorem dX11_open_35 : decode cX11_open 35 = .ok (.aload_n 0, 1) := by decide +kernel
theorem dX11_open_36 : decode cX11_open 36 = .ok (.getfield 10, 3) := by decide +kernel
theorem dX11_open_39 : decode cX11_open 39 = .ok (.getfield 75, 3) := by decide +kernel
theorem dX11_open_42 : decode cX11_open 42 = .ok (.iload_n 1, 1) := by decide +kernel
theorem dX11_open_43 : decode cX11_open 43 = .ok (.iload_n 2, 1) := by decide +kernel
theorem dX11_open_44 : decode cX11_open 44 = .ok (.iastore, 1) := by decide +kernel
theorem dX11_open_45 : decode cX11_open 45 = .ok (.aload_n 0, 1) := by decide +kernel
theorem dX11_open_46 : decode cX11_open 46 = .ok (.getfield 10, 3) := by decide +kernel
theorem dX11_open_49 : decode cX11_open 49 = .ok (.getfield 79, 3) := by decide +kernel
theorem dX11_open_52 : decode cX11_open 52 = .ok (.iload_n 1, 1) := by decide +kernel
theorem dX11_open_53 : decode cX11_open 53 = .ok (.iload_n 3, 1) := by decide +kernel
theorem dX11_open_54 : decode cX11_open 54 = .ok (.iastore, 1) := by decide +kernel
theorem dX11_open_55 : decode cX11_open 55 = .ok (.iconst 1, 1) := by decide +kernel
theorem dX11_open_56 : decode cX11_open 56 = .ok (.ireturn, 1) := by decide +kernel
theorem dX11_wire_0 : decode cX11_wire 0 = .ok (.iload_n 1, 1) := by decide +kernel
theorem dX11_wire_1 : decode cX11_wire 1 = .ok (.invokestatic 67, 3) := by decide +kernel
theorem dX11_wire_4 : decode cX11_wire 4 = .ok (.ifCond .eq 10, 3) := by decide +kernel
theorem dX11_wire_7 : decode cX11_wire 7 = .ok (.iload_n 2, 1) := by decide +kernel
theorem dX11_wire_8 : decode cX11_wire 8 = .ok (.invokestatic 67, 3) := by decide +kernel
theorem dX11_wire_11 : decode cX11_wire 11 = .ok (.ifCond .ne 6, 3) := by decide +kernel
theorem dX11_wire_14 : decode cX11_wire 14 = .ok (.bipush (-2), 2) := by decide +kernel
theorem dX11_wire_16 : decode cX11_wire 16 = .ok (.ireturn, 1) := by decide +kernel
theorem dX11_wire_17 : decode cX11_wire 17 = .ok (.iload_n 1, 1) := by decide +kernel
theorem dX11_wire_18 : decode cX11_wire 18 = .ok (.iload_n 2, 1) := by decide +kernel
theorem dX11_wire_19 : decode cX11_wire 19 = .ok (.if_icmp .eq 13, 3) := by decide +kernel
theorem dX11_wire_22 : decode cX11_wire 22 = .ok (.iload_n 3, 1) := by decide +kernel
theorem dX11_wire_23 : decode cX11_wire 23 = .ok (.iconst 1, 1) := by decide +kernel
theorem dX11_wire_24 : decode cX11_wire 24 = .ok (.bipush 40, 2) := by decide +kernel
theorem dX11_wire_26 : decode cX11_wire 26 = .ok (.invokestatic 71, 3) := by decide +kernel
theorem dX11_wire_29 : decode cX11_wire 29 = .ok (.ifCond .ne 6, 3) := by decide +kernel
theorem dX11_wire_32 : decode cX11_wire 32 = .ok (.bipush (-3), 2) := by decide +kernel
theorem dX11_wire_34 : decode cX11_wire 34 = .ok (.ireturn, 1) := by decide +kernel
theorem dX11_wire_35 : decode cX11_wire 35 = .ok (.aload_n 0, 1) := by decide +kernel
theorem dX11_wire_36 : decode cX11_wire 36 = .ok (.getfield 10, 3) := by decide +kernel
theorem dX11_wire_39 : decode cX11_wire 39 = .ok (.iload_n 1, 1) := by decide +kernel
theorem dX11_wire_40 : decode cX11_wire 40 = .ok (.iload_n 2, 1) := by decide +kernel
theorem dX11_wire_41 : decode cX11_wire 41 = .ok (.invokevirtual 82, 3) := by decide +kernel
theorem dX11_wire_44 : decode cX11_wire 44 = .ok (.ifCond .eq 6, 3) := by decide +kernel
theorem dX11_wire_47 : decode cX11_wire 47 = .ok (.bipush (-4), 2) := by decide +kernel
theorem dX11_wire_49 : decode cX11_wire 49 = .ok (.ireturn, 1) := by decide +kernel
theorem dX11_wire_50 : decode cX11_wire 50 = .ok (.aload_n 0, 1) := by decide +kernel
theorem dX11_wire_51 : decode cX11_wire 51 = .ok (.getfield 10, 3) := by decide +kernel
theorem dX11_wire_54 : decode cX11_wire 54 = .ok (.getfield 86, 3) := by decide +kernel
theorem dX11_wire_57 : decode cX11_wire 57 = .ok (.bipush 12, 2) := by decide +kernel
theorem dX11_wire_59 : decode cX11_wire 59 = .ok (.if_icmp .ne 6, 3) := by decide +kernel
theorem dX11_wire_62 : decode cX11_wire 62 = .ok (.bipush (-5), 2) := by decide +kernel
theorem dX11_wire_64 : decode cX11_wire 64 = .ok (.ireturn, 1) := by decide +kernel
theorem dX11_wire_65 : decode cX11_wire 65 = .ok (.aload_n 0, 1) := by decide +kernel
theorem dX11_wire_66 : decode cX11_wire 66 = .ok (.getfield 10, 3) := by decide +kernel
theorem dX11_wire_69 : decode cX11_wire 69 = .ok (.iload_n 1, 1) := by decide +kernel
theorem dX11_wire_70 : decode cX11_wire 70 = .ok (.iload_n 2, 1) := by decide +kernel
theorem dX11_wire_71 : decode cX11_wire 71 = .ok (.iload_n 3, 1) := by decide +kernel
theorem dX11_wire_72 : decode cX11_wire 72 = .ok (.iload 4, 2) := by decide +kernel
theorem dX11_wire_74 : decode cX11_wire 74 = .ok (.invokevirtual 90, 3) := by decide +kernel
theorem dX11_wire_77 : decode cX11_wire 77 = .ok (.ireturn, 1) := by decide +kernel
theorem dX11_storm_0 : decode cX11_storm 0 = .ok (.aload_n 0, 1) := by decide +kernel
theorem dX11_storm_1 : decode cX11_storm 1 = .ok (.aload_n 0, 1) := by decide +kernel
theorem dX11_storm_2 : decode cX11_storm 2 = .ok (.getfield 10, 3) := by decide +kernel
theorem dX11_storm_5 : decode cX11_storm 5 = .ok (.getfield 94, 3) := by decide +kernel
theorem dX11_storm_8 : decode cX11_storm 8 = .ok (.iload_n 1, 1) := by decide +kernel
theorem dX11_storm_9 : decode cX11_storm 9 = .ok (.iload_n 2, 1) := by decide +kernel
theorem dX11_storm_10 : decode cX11_storm 10 = .ok (.iload_n 3, 1) := by decide +kernel
theorem dX11_storm_11 : decode cX11_storm 11 = .ok (.invokevirtual 98, 3) := by decide +kernel
theorem dX11_storm_14 : decode cX11_storm 14 = .ok (.ireturn, 1) := by decide +kernel
theorem dX11_let_0 : decode cX11_let 0 = .ok (.aload_n 0, 1) := by decide +kernel
theorem dX11_let_1 : decode cX11_let 1 = .ok (.aload_n 0, 1) := by decide +kernel
theorem dX11_let_2 : decode cX11_let 2 = .ok (.getfield 10, 3) := by decide +kernel
theorem dX11_let_5 : decode cX11_let 5 = .ok (.getfield 102, 3) := by decide +kernel
theorem dX11_let_8 : decode cX11_let 8 = .ok (.iload_n 1, 1) := by decide +kernel
theorem dX11_let_9 : decode cX11_let 9 = .ok (.iload_n 2, 1) := by decide +kernel
theorem dX11_let_10 : decode cX11_let 10 = .ok (.iload_n 3, 1) := by decide +kernel
theorem dX11_let_11 : decode cX11_let 11 = .ok (.invokevirtual 98, 3) := by decide +kernel
theorem dX11_let_14 : decode cX11_let 14 = .ok (.ireturn, 1) := by decide +kernel
theorem dX11_message_0 : decode cX11_message 0 = .ok (.iload_n 1, 1) := by decide +kernel
theorem dX11_message_1 : decode cX11_message 1 = .ok (.invokestatic 67, 3) := by decide +kernel
theorem dX11_message_4 : decode cX11_message 4 = .ok (.ifCond .eq 15, 3) := by decide +kernel
theorem dX11_message_7 : decode cX11_message 7 = .ok (.iload_n 2, 1) := by decide +kernel
theorem dX11_message_8 : decode cX11_message 8 = .ok (.invokestatic 67, 3) := by decide +kernel
theorem dX11_message_11 : decode cX11_message 11 = .ok (.ifCond .eq 8, 3) := by decide +kernel
theorem dX11_message_14 : decode cX11_message 14 = .ok (.iload_n 1, 1) := by decide +kernel
theorem dX11_message_15 : decode cX11_message 15 = .ok (.iload_n 2, 1) := by decide +kernel
theorem dX11_message_16 : decode cX11_message 16 = .ok (.if_icmp .ne 6, 3) := by decide +kernel
theorem dX11_message_19 : decode cX11_message 19 = .ok (.bipush (-2), 2) := by decide +kernel
theorem dX11_message_21 : decode cX11_message 21 = .ok (.ireturn, 1) := by decide +kernel
theorem dX11_message_22 : decode cX11_message 22 = .ok (.iload_n 3, 1) := by decide +kernel
theorem dX11_message_23 : decode cX11_message 23 = .ok (.iconst 1, 1) := by decide +kernel
theorem dX11_message_24 : decode cX11_message 24 = .ok (.bipush 99, 2) := by decide +kernel
theorem dX11_message_26 : decode cX11_message 26 = .ok (.invokestatic 71, 3) := by decide +kernel
theorem dX11_message_29 : decode cX11_message 29 = .ok (.ifCond .eq 13, 3) := by decide +kernel
theorem dX11_message_32 : decode cX11_message 32 = .ok (.iload 4, 2) := by decide +kernel
theorem dX11_message_34 : decode cX11_message 34 = .ok (.iconst 0, 1) := by decide +kernel
theorem dX11_message_35 : decode cX11_message 35 = .ok (.iconst 4, 1) := by decide +kernel
theorem dX11_message_36 : decode cX11_message 36 = .ok (.invokestatic 71, 3) := by decide +kernel
theorem dX11_message_39 : decode cX11_message 39 = .ok (.ifCond .ne 6, 3) := by decide +kernel
theorem dX11_message_42 : decode cX11_message 42 = .ok (.bipush (-3), 2) := by decide +kernel
theorem dX11_message_44 : decode cX11_message 44 = .ok (.ireturn, 1) := by decide +kernel
theorem dX11_message_45 : decode cX11_message 45 = .ok (.aload_n 0, 1) := by decide +kernel
theorem dX11_message_46 : decode cX11_message 46 = .ok (.getfield 10, 3) := by decide +kernel
theorem dX11_message_49 : decode cX11_message 49 = .ok (.iload_n 1, 1) := by decide +kernel
theorem dX11_message_50 : decode cX11_message 50 = .ok (.aload_n 0, 1) := by decide +kernel
theorem dX11_message_51 : decode cX11_message 51 = .ok (.getfield 28, 3) := by decide +kernel
theorem dX11_message_54 : decode cX11_message 54 = .ok (.getfield 105, 3) := by decide +kernel
theorem dX11_message_57 : decode cX11_message 57 = .ok (.invokevirtual 108, 3) := by decide +kernel
theorem dX11_message_60 : decode cX11_message 60 = .ok (.ifCond .ne 6, 3) := by decide +kernel
theorem dX11_message_63 : decode cX11_message 63 = .ok (.bipush (-4), 2) := by decide +kernel
theorem dX11_message_65 : decode cX11_message 65 = .ok (.ireturn, 1) := by decide +kernel
theorem dX11_message_66 : decode cX11_message 66 = .ok (.aload_n 0, 1) := by decide +kernel
theorem dX11_message_67 : decode cX11_message 67 = .ok (.getfield 28, 3) := by decide +kernel
theorem dX11_message_70 : decode cX11_message 70 = .ok (.getfield 111, 3) := by decide +kernel
theorem dX11_message_73 : decode cX11_message 73 = .ok (.bipush 24, 2) := by decide +kernel
theorem dX11_message_75 : decode cX11_message 75 = .ok (.if_icmp .ne 6, 3) := by decide +kernel
theorem dX11_message_78 : decode cX11_message 78 = .ok (.bipush (-5), 2) := by decide +kernel
theorem dX11_message_80 : decode cX11_message 80 = .ok (.ireturn, 1) := by decide +kernel
theorem dX11_message_81 : decode cX11_message 81 = .ok (.aload_n 0, 1) := by decide +kernel
theorem dX11_message_82 : decode cX11_message 82 = .ok (.getfield 28, 3) := by decide +kernel
theorem dX11_message_85 : decode cX11_message 85 = .ok (.iload_n 1, 1) := by decide +kernel
theorem dX11_message_86 : decode cX11_message 86 = .ok (.iload_n 2, 1) := by decide +kernel
theorem dX11_message_87 : decode cX11_message 87 = .ok (.iload_n 3, 1) := by decide +kernel
theorem dX11_message_88 : decode cX11_message 88 = .ok (.iload 4, 2) := by decide +kernel
theorem dX11_message_90 : decode cX11_message 90 = .ok (.invokevirtual 114, 3) := by decide +kernel
theorem dX11_message_93 : decode cX11_message 93 = .ok (.ireturn, 1) := by decide +kernel
theorem dX11_minutes_0 : decode cX11_minutes 0 = .ok (.iload_n 1, 1) := by decide +kernel
theorem dX11_minutes_1 : decode cX11_minutes 1 = .ok (.iconst 1, 1) := by decide +kernel
theorem dX11_minutes_2 : decode cX11_minutes 2 = .ok (.bipush 120, 2) := by decide +kernel
theorem dX11_minutes_4 : decode cX11_minutes 4 = .ok (.invokestatic 71, 3) := by decide +kernel
theorem dX11_minutes_7 : decode cX11_minutes 7 = .ok (.ifCond .eq 18, 3) := by decide +kernel
theorem dX11_minutes_10 : decode cX11_minutes 10 = .ok (.aload_n 0, 1) := by decide +kernel
theorem dX11_minutes_11 : decode cX11_minutes 11 = .ok (.getfield 28, 3) := by decide +kernel
theorem dX11_minutes_14 : decode cX11_minutes 14 = .ok (.getfield 105, 3) := by decide +kernel
theorem dX11_minutes_17 : decode cX11_minutes 17 = .ok (.iload_n 1, 1) := by decide +kernel
theorem dX11_minutes_18 : decode cX11_minutes 18 = .ok (.iadd, 1) := by decide +kernel
theorem dX11_minutes_19 : decode cX11_minutes 19 = .ok (.sipush 9000, 3) := by decide +kernel
theorem dX11_minutes_22 : decode cX11_minutes 22 = .ok (.if_icmp .le 6, 3) := by decide +kernel
theorem dX11_minutes_25 : decode cX11_minutes 25 = .ok (.bipush (-3), 2) := by decide +kernel
theorem dX11_minutes_27 : decode cX11_minutes 27 = .ok (.ireturn, 1) := by decide +kernel
theorem dX11_minutes_28 : decode cX11_minutes 28 = .ok (.aload_n 0, 1) := by decide +kernel
theorem dX11_minutes_29 : decode cX11_minutes 29 = .ok (.getfield 28, 3) := by decide +kernel
theorem dX11_minutes_32 : decode cX11_minutes 32 = .ok (.iload_n 1, 1) := by decide +kernel
theorem dX11_minutes_33 : decode cX11_minutes 33 = .ok (.iconst 0, 1) := by decide +kernel
theorem dX11_minutes_34 : decode cX11_minutes 34 = .ok (.invokevirtual 118, 3) := by decide +kernel
theorem dX11_minutes_37 : decode cX11_minutes 37 = .ok (.aload_n 0, 1) := by decide +kernel
theorem dX11_minutes_38 : decode cX11_minutes 38 = .ok (.getfield 28, 3) := by decide +kernel
theorem dX11_minutes_41 : decode cX11_minutes 41 = .ok (.getfield 105, 3) := by decide +kernel
theorem dX11_minutes_44 : decode cX11_minutes 44 = .ok (.ireturn, 1) := by decide +kernel
theorem dX11_at_0 : decode cX11_at 0 = .ok (.aload_n 0, 1) := by decide +kernel
theorem dX11_at_1 : decode cX11_at 1 = .ok (.iload_n 1, 1) := by decide +kernel
theorem dX11_at_2 : decode cX11_at 2 = .ok (.invokevirtual 122, 3) := by decide +kernel
theorem dX11_at_5 : decode cX11_at 5 = .ok (.ifCond .ne 6, 3) := by decide +kernel
theorem dX11_at_8 : decode cX11_at 8 = .ok (.bipush (-2), 2) := by decide +kernel
theorem dX11_at_10 : decode cX11_at 10 = .ok (.ireturn, 1) := by decide +kernel
theorem dX11_at_11 : decode cX11_at 11 = .ok (.aload_n 0, 1) := by decide +kernel
theorem dX11_at_12 : decode cX11_at 12 = .ok (.getfield 28, 3) := by decide +kernel
theorem dX11_at_15 : decode cX11_at 15 = .ok (.getfield 125, 3) := by decide +kernel
theorem dX11_at_18 : decode cX11_at 18 = .ok (.iload_n 1, 1) := by decide +kernel
theorem dX11_at_19 : decode cX11_at 19 = .ok (.aaload, 1) := by decide +kernel
theorem dX11_at_20 : decode cX11_at 20 = .ok (.astore_n 3, 1) := by decide +kernel
theorem dX11_at_21 : decode cX11_at 21 = .ok (.iload_n 2, 1) := by decide +kernel
theorem dX11_at_22 : decode cX11_at 22 = .ok (.tableswitch 77 0 6 #[42, 47, 52, 57, 62, 67, 72], 42) := by decide +kernel
theorem dX11_at_64 : decode cX11_at 64 = .ok (.aload_n 3, 1) := by decide +kernel
theorem dX11_at_65 : decode cX11_at 65 = .ok (.getfield 129, 3) := by decide +kernel
theorem dX11_at_68 : decode cX11_at 68 = .ok (.ireturn, 1) := by decide +kernel
theorem dX11_at_69 : decode cX11_at 69 = .ok (.aload_n 3, 1) := by decide +kernel
theorem dX11_at_70 : decode cX11_at 70 = .ok (.getfield 134, 3) := by decide +kernel
theorem dX11_at_73 : decode cX11_at 73 = .ok (.ireturn, 1) := by decide +kernel
theorem dX11_at_74 : decode cX11_at 74 = .ok (.aload_n 3, 1) := by decide +kernel
theorem dX11_at_75 : decode cX11_at 75 = .ok (.getfield 137, 3) := by decide +kernel
theorem dX11_at_78 : decode cX11_at 78 = .ok (.ireturn, 1) := by decide +kernel
theorem dX11_at_79 : decode cX11_at 79 = .ok (.aload_n 3, 1) := by decide +kernel
theorem dX11_at_80 : decode cX11_at 80 = .ok (.getfield 140, 3) := by decide +kernel
theorem dX11_at_83 : decode cX11_at 83 = .ok (.ireturn, 1) := by decide +kernel
theorem dX11_at_84 : decode cX11_at 84 = .ok (.aload_n 3, 1) := by decide +kernel
theorem dX11_at_85 : decode cX11_at 85 = .ok (.getfield 143, 3) := by decide +kernel
theorem dX11_at_88 : decode cX11_at 88 = .ok (.ireturn, 1) := by decide +kernel
theorem dX11_at_89 : decode cX11_at 89 = .ok (.aload_n 3, 1) := by decide +kernel
theorem dX11_at_90 : decode cX11_at 90 = .ok (.getfield 146, 3) := by decide +kernel
theorem dX11_at_93 : decode cX11_at 93 = .ok (.ireturn, 1) := by decide +kernel
theorem dX11_at_94 : decode cX11_at 94 = .ok (.aload_n 3, 1) := by decide +kernel
theorem dX11_at_95 : decode cX11_at 95 = .ok (.getfield 149, 3) := by decide +kernel
theorem dX11_at_98 : decode cX11_at 98 = .ok (.ireturn, 1) := by decide +kernel
theorem dX11_at_99 : decode cX11_at 99 = .ok (.bipush (-3), 2) := by decide +kernel
theorem dX11_at_101 : decode cX11_at 101 = .ok (.ireturn, 1) := by decide +kernel
theorem dX11_next_0 : decode cX11_next 0 = .ok (.aload_n 0, 1) := by decide +kernel
theorem dX11_next_1 : decode cX11_next 1 = .ok (.iload_n 1, 1) := by decide +kernel
theorem dX11_next_2 : decode cX11_next 2 = .ok (.invokevirtual 122, 3) := by decide +kernel
theorem dX11_next_5 : decode cX11_next 5 = .ok (.ifCond .ne 6, 3) := by decide +kernel
theorem dX11_next_8 : decode cX11_next 8 = .ok (.bipush (-2), 2) := by decide +kernel
theorem dX11_next_10 : decode cX11_next 10 = .ok (.ireturn, 1) := by decide +kernel
theorem dX11_next_11 : decode cX11_next 11 = .ok (.aload_n 0, 1) := by decide +kernel
theorem dX11_next_12 : decode cX11_next 12 = .ok (.getfield 28, 3) := by decide +kernel
theorem dX11_next_15 : decode cX11_next 15 = .ok (.aload_n 0, 1) := by decide +kernel
theorem dX11_next_16 : decode cX11_next 16 = .ok (.getfield 28, 3) := by decide +kernel
theorem dX11_next_19 : decode cX11_next 19 = .ok (.getfield 125, 3) := by decide +kernel
theorem dX11_next_22 : decode cX11_next 22 = .ok (.iload_n 1, 1) := by decide +kernel
theorem dX11_next_23 : decode cX11_next 23 = .ok (.aaload, 1) := by decide +kernel
theorem dX11_next_24 : decode cX11_next 24 = .ok (.invokevirtual 152, 3) := by decide +kernel
theorem dX11_next_27 : decode cX11_next 27 = .ok (.ireturn, 1) := by decide +kernel
theorem dX11_first_0 : decode cX11_first 0 = .ok (.iload_n 1, 1) := by decide +kernel
theorem dX11_first_1 : decode cX11_first 1 = .ok (.invokestatic 67, 3) := by decide +kernel
theorem dX11_first_4 : decode cX11_first 4 = .ok (.ifCond .eq 24, 3) := by decide +kernel
theorem dX11_first_7 : decode cX11_first 7 = .ok (.aload_n 0, 1) := by decide +kernel
theorem dX11_first_8 : decode cX11_first 8 = .ok (.iload_n 2, 1) := by decide +kernel
theorem dX11_first_9 : decode cX11_first 9 = .ok (.invokevirtual 156, 3) := by decide +kernel
theorem dX11_first_12 : decode cX11_first 12 = .ok (.ifCond .eq 16, 3) := by decide +kernel
theorem dX11_first_15 : decode cX11_first 15 = .ok (.aload_n 0, 1) := by decide +kernel
theorem dX11_first_16 : decode cX11_first 16 = .ok (.getfield 10, 3) := by decide +kernel
theorem dX11_first_19 : decode cX11_first 19 = .ok (.iload_n 2, 1) := by decide +kernel
theorem dX11_first_20 : decode cX11_first 20 = .ok (.iload_n 1, 1) := by decide +kernel
theorem dX11_first_21 : decode cX11_first 21 = .ok (.invokevirtual 159, 3) := by decide +kernel
theorem dX11_first_24 : decode cX11_first 24 = .ok (.iconst (-1), 1) := by decide +kernel
theorem dX11_first_25 : decode cX11_first 25 = .ok (.if_icmp .ne 6, 3) := by decide +kernel
theorem dX11_first_28 : decode cX11_first 28 = .ok (.bipush (-2), 2) := by decide +kernel
theorem dX11_first_30 : decode cX11_first 30 = .ok (.ireturn, 1) := by decide +kernel
theorem dX11_first_31 : decode cX11_first 31 = .ok (.aload_n 0, 1) := by decide +kernel
theorem dX11_first_32 : decode cX11_first 32 = .ok (.getfield 28, 3) := by decide +kernel
theorem dX11_first_35 : decode cX11_first 35 = .ok (.aload_n 0, 1) := by decide +kernel
theorem dX11_first_36 : decode cX11_first 36 = .ok (.getfield 10, 3) := by decide +kernel
theorem dX11_first_39 : decode cX11_first 39 = .ok (.aload_n 0, 1) := by decide +kernel
theorem dX11_first_40 : decode cX11_first 40 = .ok (.getfield 28, 3) := by decide +kernel
theorem dX11_first_43 : decode cX11_first 43 = .ok (.getfield 105, 3) := by decide +kernel
theorem dX11_first_46 : decode cX11_first 46 = .ok (.invokevirtual 163, 3) := by decide +kernel
theorem dX11_first_49 : decode cX11_first 49 = .ok (.invokevirtual 167, 3) := by decide +kernel
theorem dX11_first_52 : decode cX11_first 52 = .ok (.pop, 1) := by decide +kernel
theorem dX11_first_53 : decode cX11_first 53 = .ok (.aload_n 0, 1) := by decide +kernel
theorem dX11_first_54 : decode cX11_first 54 = .ok (.getfield 28, 3) := by decide +kernel
theorem dX11_first_57 : decode cX11_first 57 = .ok (.iload_n 1, 1) := by decide +kernel
theorem dX11_first_58 : decode cX11_first 58 = .ok (.iload_n 2, 1) := by decide +kernel
theorem dX11_first_59 : decode cX11_first 59 = .ok (.invokevirtual 170, 3) := by decide +kernel
theorem dX11_first_62 : decode cX11_first 62 = .ok (.ireturn, 1) := by decide +kernel
theorem dX11_soonest_0 : decode cX11_soonest 0 = .ok (.iload_n 1, 1) := by decide +kernel
theorem dX11_soonest_1 : decode cX11_soonest 1 = .ok (.invokestatic 67, 3) := by decide +kernel
theorem dX11_soonest_4 : decode cX11_soonest 4 = .ok (.ifCond .eq 15, 3) := by decide +kernel
theorem dX11_soonest_7 : decode cX11_soonest 7 = .ok (.iload_n 2, 1) := by decide +kernel
theorem dX11_soonest_8 : decode cX11_soonest 8 = .ok (.invokestatic 67, 3) := by decide +kernel
theorem dX11_soonest_11 : decode cX11_soonest 11 = .ok (.ifCond .eq 8, 3) := by decide +kernel
theorem dX11_soonest_14 : decode cX11_soonest 14 = .ok (.iload_n 1, 1) := by decide +kernel
theorem dX11_soonest_15 : decode cX11_soonest 15 = .ok (.iload_n 2, 1) := by decide +kernel
theorem dX11_soonest_16 : decode cX11_soonest 16 = .ok (.if_icmp .ne 6, 3) := by decide +kernel
theorem dX11_soonest_19 : decode cX11_soonest 19 = .ok (.bipush (-2), 2) := by decide +kernel
theorem dX11_soonest_21 : decode cX11_soonest 21 = .ok (.ireturn, 1) := by decide +kernel
theorem dX11_soonest_22 : decode cX11_soonest 22 = .ok (.iload_n 3, 1) := by decide +kernel
theorem dX11_soonest_23 : decode cX11_soonest 23 = .ok (.iconst 1, 1) := by decide +kernel
theorem dX11_soonest_24 : decode cX11_soonest 24 = .ok (.bipush 99, 2) := by decide +kernel
theorem dX11_soonest_26 : decode cX11_soonest 26 = .ok (.invokestatic 71, 3) := by decide +kernel
theorem dX11_soonest_29 : decode cX11_soonest 29 = .ok (.ifCond .eq 31, 3) := by decide +kernel
theorem dX11_soonest_32 : decode cX11_soonest 32 = .ok (.iload 4, 2) := by decide +kernel
theorem dX11_soonest_34 : decode cX11_soonest 34 = .ok (.iconst 0, 1) := by decide +kernel
theorem dX11_soonest_35 : decode cX11_soonest 35 = .ok (.iconst 4, 1) := by decide +kernel
theorem dX11_soonest_36 : decode cX11_soonest 36 = .ok (.invokestatic 71, 3) := by decide +kernel
theorem dX11_soonest_39 : decode cX11_soonest 39 = .ok (.ifCond .eq 21, 3) := by decide +kernel
theorem dX11_soonest_42 : decode cX11_soonest 42 = .ok (.iload 5, 2) := by decide +kernel
theorem dX11_soonest_44 : decode cX11_soonest 44 = .ok (.aload_n 0, 1) := by decide +kernel
theorem dX11_soonest_45 : decode cX11_soonest 45 = .ok (.getfield 28, 3) := by decide +kernel
theorem dX11_soonest_48 : decode cX11_soonest 48 = .ok (.getfield 105, 3) := by decide +kernel
theorem dX11_soonest_51 : decode cX11_soonest 51 = .ok (.sipush 9000, 3) := by decide +kernel
theorem dX11_soonest_54 : decode cX11_soonest 54 = .ok (.invokestatic 71, 3) := by decide +kernel
theorem dX11_soonest_57 : decode cX11_soonest 57 = .ok (.ifCond .ne 6, 3) := by decide +kernel
theorem dX11_soonest_60 : decode cX11_soonest 60 = .ok (.bipush (-3), 2) := by decide +kernel
theorem dX11_soonest_62 : decode cX11_soonest 62 = .ok (.ireturn, 1) := by decide +kernel
theorem dX11_soonest_63 : decode cX11_soonest 63 = .ok (.aload_n 0, 1) := by decide +kernel
theorem dX11_soonest_64 : decode cX11_soonest 64 = .ok (.getfield 19, 3) := by decide +kernel
theorem dX11_soonest_67 : decode cX11_soonest 67 = .ok (.iload_n 1, 1) := by decide +kernel
theorem dX11_soonest_68 : decode cX11_soonest 68 = .ok (.iload 5, 2) := by decide +kernel
theorem dX11_soonest_70 : decode cX11_soonest 70 = .ok (.invokevirtual 173, 3) := by decide +kernel
theorem dX11_soonest_73 : decode cX11_soonest 73 = .ok (.astore 6, 2) := by decide +kernel
theorem dX11_soonest_75 : decode cX11_soonest 75 = .ok (.aload_n 0, 1) := by decide +kernel
theorem dX11_soonest_76 : decode cX11_soonest 76 = .ok (.getfield 10, 3) := by decide +kernel
theorem dX11_soonest_79 : decode cX11_soonest 79 = .ok (.iload_n 1, 1) := by decide +kernel
theorem dX11_soonest_80 : decode cX11_soonest 80 = .ok (.iload_n 2, 1) := by decide +kernel
theorem dX11_soonest_81 : decode cX11_soonest 81 = .ok (.aload 6, 2) := by decide +kernel
theorem dX11_soonest_83 : decode cX11_soonest 83 = .ok (.iload_n 3, 1) := by decide +kernel
theorem dX11_soonest_84 : decode cX11_soonest 84 = .ok (.iload 4, 2) := by decide +kernel
theorem dX11_soonest_86 : decode cX11_soonest 86 = .ok (.invokevirtual 177, 3) := by decide +kernel
theorem dX11_soonest_89 : decode cX11_soonest 89 = .ok (.iload 5, 2) := by decide +kernel
theorem dX11_soonest_91 : decode cX11_soonest 91 = .ok (.iload 4, 2) := by decide +kernel
theorem dX11_soonest_93 : decode cX11_soonest 93 = .ok (.iconst 2, 1) := by decide +kernel
theorem dX11_soonest_94 : decode cX11_soonest 94 = .ok (.if_icmp .ne 8, 3) := by decide +kernel
theorem dX11_soonest_97 : decode cX11_soonest 97 = .ok (.aload 6, 2) := by decide +kernel
theorem dX11_soonest_99 : decode cX11_soonest 99 = .ok (.goto 4, 3) := by decide +kernel
theorem dX11_soonest_102 : decode cX11_soonest 102 = .ok (.aconst_null, 1) := by decide +kernel
theorem dX11_soonest_103 : decode cX11_soonest 103 = .ok (.invokevirtual 182, 3) := by decide +kernel
theorem dX11_soonest_106 : decode cX11_soonest 106 = .ok (.ireturn, 1) := by decide +kernel
theorem dX11_beside_0 : decode cX11_beside 0 = .ok (.iload_n 1, 1) := by decide +kernel
theorem dX11_beside_1 : decode cX11_beside 1 = .ok (.iconst (-1), 1) := by decide +kernel
theorem dX11_beside_2 : decode cX11_beside 2 = .ok (.if_icmp .eq 14, 3) := by decide +kernel
theorem dX11_beside_5 : decode cX11_beside 5 = .ok (.aload_n 0, 1) := by decide +kernel
theorem dX11_beside_6 : decode cX11_beside 6 = .ok (.iload_n 1, 1) := by decide +kernel
theorem dX11_beside_7 : decode cX11_beside 7 = .ok (.invokevirtual 156, 3) := by decide +kernel
theorem dX11_beside_10 : decode cX11_beside 10 = .ok (.ifCond .ne 6, 3) := by decide +kernel
theorem dX11_beside_13 : decode cX11_beside 13 = .ok (.bipush (-2), 2) := by decide +kernel
theorem dX11_beside_15 : decode cX11_beside 15 = .ok (.ireturn, 1) := by decide +kernel
theorem dX11_beside_16 : decode cX11_beside 16 = .ok (.iload_n 2, 1) := by decide +kernel
theorem dX11_beside_17 : decode cX11_beside 17 = .ok (.iconst 1, 1) := by decide +kernel
theorem dX11_beside_18 : decode cX11_beside 18 = .ok (.sipush 300, 3) := by decide +kernel
theorem dX11_beside_21 : decode cX11_beside 21 = .ok (.invokestatic 71, 3) := by decide +kernel
theorem dX11_beside_24 : decode cX11_beside 24 = .ok (.ifCond .eq 18, 3) := by decide +kernel
theorem dX11_beside_27 : decode cX11_beside 27 = .ok (.aload_n 0, 1) := by decide +kernel
theorem dX11_beside_28 : decode cX11_beside 28 = .ok (.getfield 28, 3) := by decide +kernel
theorem dX11_beside_31 : decode cX11_beside 31 = .ok (.getfield 105, 3) := by decide +kernel
theorem dX11_beside_34 : decode cX11_beside 34 = .ok (.iload_n 2, 1) := by decide +kernel
theorem dX11_beside_35 : decode cX11_beside 35 = .ok (.iadd, 1) := by decide +kernel
theorem dX11_beside_36 : decode cX11_beside 36 = .ok (.sipush 9000, 3) := by decide +kernel
theorem dX11_beside_39 : decode cX11_beside 39 = .ok (.if_icmp .le 6, 3) := by decide +kernel
theorem dX11_beside_42 : decode cX11_beside 42 = .ok (.bipush (-3), 2) := by decide +kernel
theorem dX11_beside_44 : decode cX11_beside 44 = .ok (.ireturn, 1) := by decide +kernel
theorem dX11_beside_45 : decode cX11_beside 45 = .ok (.aload_n 0, 1) := by decide +kernel
theorem dX11_beside_46 : decode cX11_beside 46 = .ok (.getfield 28, 3) := by decide +kernel
theorem dX11_beside_49 : decode cX11_beside 49 = .ok (.getfield 105, 3) := by decide +kernel
theorem dX11_beside_52 : decode cX11_beside 52 = .ok (.istore_n 3, 1) := by decide +kernel
theorem dX11_beside_53 : decode cX11_beside 53 = .ok (.aload_n 0, 1) := by decide +kernel
theorem dX11_beside_54 : decode cX11_beside 54 = .ok (.getfield 28, 3) := by decide +kernel
theorem dX11_beside_57 : decode cX11_beside 57 = .ok (.invokevirtual 186, 3) := by decide +kernel
theorem dX11_beside_60 : decode cX11_beside 60 = .ok (.aload_n 0, 1) := by decide +kernel
theorem dX11_beside_61 : decode cX11_beside 61 = .ok (.getfield 28, 3) := by decide +kernel
theorem dX11_beside_64 : decode cX11_beside 64 = .ok (.iload_n 2, 1) := by decide +kernel
theorem dX11_beside_65 : decode cX11_beside 65 = .ok (.iload_n 1, 1) := by decide +kernel
theorem dX11_beside_66 : decode cX11_beside 66 = .ok (.iconst (-1), 1) := by decide +kernel
theorem dX11_beside_67 : decode cX11_beside 67 = .ok (.if_icmp .ne 7, 3) := by decide +kernel
theorem dX11_beside_70 : decode cX11_beside 70 = .ok (.iconst 0, 1) := by decide +kernel
theorem dX11_beside_71 : decode cX11_beside 71 = .ok (.goto 6, 3) := by decide +kernel
theorem dX11_beside_74 : decode cX11_beside 74 = .ok (.iconst 1, 1) := by decide +kernel
theorem dX11_beside_75 : decode cX11_beside 75 = .ok (.iload_n 1, 1) := by decide +kernel
theorem dX11_beside_76 : decode cX11_beside 76 = .ok (.ishl, 1) := by decide +kernel
theorem dX11_beside_77 : decode cX11_beside 77 = .ok (.invokevirtual 118, 3) := by decide +kernel
theorem dX11_beside_80 : decode cX11_beside 80 = .ok (.aload_n 0, 1) := by decide +kernel
theorem dX11_beside_81 : decode cX11_beside 81 = .ok (.getfield 28, 3) := by decide +kernel
theorem dX11_beside_84 : decode cX11_beside 84 = .ok (.iconst 2, 1) := by decide +kernel
theorem dX11_beside_85 : decode cX11_beside 85 = .ok (.invokevirtual 189, 3) := by decide +kernel
theorem dX11_beside_88 : decode cX11_beside 88 = .ok (.istore 4, 2) := by decide +kernel
theorem dX11_beside_90 : decode cX11_beside 90 = .ok (.aload_n 0, 1) := by decide +kernel
theorem dX11_beside_91 : decode cX11_beside 91 = .ok (.getfield 28, 3) := by decide +kernel
theorem dX11_beside_94 : decode cX11_beside 94 = .ok (.iload_n 3, 1) := by decide +kernel
theorem dX11_beside_95 : decode cX11_beside 95 = .ok (.invokevirtual 192, 3) := by decide +kernel
theorem dX11_beside_98 : decode cX11_beside 98 = .ok (.iload 4, 2) := by decide +kernel
theorem dX11_beside_100 : decode cX11_beside 100 = .ok (.ireturn, 1) := by decide +kernel
theorem dX11_write_0 : decode cX11_write 0 = .ok (.iload_n 3, 1) := by decide +kernel
theorem dX11_write_1 : decode cX11_write 1 = .ok (.iconst 1, 1) := by decide +kernel
theorem dX11_write_2 : decode cX11_write 2 = .ok (.bipush 8, 2) := by decide +kernel
theorem dX11_write_4 : decode cX11_write 4 = .ok (.invokestatic 71, 3) := by decide +kernel
theorem dX11_write_7 : decode cX11_write 7 = .ok (.ifCond .ne 6, 3) := by decide +kernel
theorem dX11_write_10 : decode cX11_write 10 = .ok (.bipush (-3), 2) := by decide +kernel
theorem dX11_write_12 : decode cX11_write 12 = .ok (.ireturn, 1) := by decide +kernel
theorem dX11_write_13 : decode cX11_write 13 = .ok (.aload_n 0, 1) := by decide +kernel
theorem dX11_write_14 : decode cX11_write 14 = .ok (.getfield 35, 3) := by decide +kernel
theorem dX11_write_17 : decode cX11_write 17 = .ok (.getfield 196, 3) := by decide +kernel
theorem dX11_write_20 : decode cX11_write 20 = .ok (.iload_n 3, 1) := by decide +kernel
theorem dX11_write_21 : decode cX11_write 21 = .ok (.iadd, 1) := by decide +kernel
theorem dX11_write_22 : decode cX11_write 22 = .ok (.sipush 160, 3) := by decide +kernel
theorem dX11_write_25 : decode cX11_write 25 = .ok (.if_icmp .le 6, 3) := by decide +kernel
theorem dX11_write_28 : decode cX11_write 28 = .ok (.bipush (-5), 2) := by decide +kernel
theorem dX11_write_30 : decode cX11_write 30 = .ok (.ireturn, 1) := by decide +kernel
theorem dX11_write_31 : decode cX11_write 31 = .ok (.aload_n 0, 1) := by decide +kernel
theorem dX11_write_32 : decode cX11_write 32 = .ok (.getfield 35, 3) := by decide +kernel
theorem dX11_write_35 : decode cX11_write 35 = .ok (.lload_n 1, 1) := by decide +kernel
theorem dX11_write_36 : decode cX11_write 36 = .ok (.iload_n 3, 1) := by decide +kernel
theorem dX11_write_37 : decode cX11_write 37 = .ok (.invokevirtual 199, 3) := by decide +kernel
theorem dX11_write_40 : decode cX11_write 40 = .ok (.ireturn, 1) := by decide +kernel
theorem dX11_erase_0 : decode cX11_erase 0 = .ok (.aload_n 0, 1) := by decide +kernel
theorem dX11_erase_1 : decode cX11_erase 1 = .ok (.getfield 35, 3) := by decide +kernel
theorem dX11_erase_4 : decode cX11_erase 4 = .ok (.getfield 196, 3) := by decide +kernel
theorem dX11_erase_7 : decode cX11_erase 7 = .ok (.istore_n 1, 1) := by decide +kernel
theorem dX11_erase_8 : decode cX11_erase 8 = .ok (.aload_n 0, 1) := by decide +kernel
theorem dX11_erase_9 : decode cX11_erase 9 = .ok (.getfield 35, 3) := by decide +kernel
theorem dX11_erase_12 : decode cX11_erase 12 = .ok (.iconst 0, 1) := by decide +kernel
theorem dX11_erase_13 : decode cX11_erase 13 = .ok (.putfield 196, 3) := by decide +kernel
theorem dX11_erase_16 : decode cX11_erase 16 = .ok (.iload_n 1, 1) := by decide +kernel
theorem dX11_erase_17 : decode cX11_erase 17 = .ok (.ireturn, 1) := by decide +kernel
theorem dX11_fault_0 : decode cX11_fault 0 = .ok (.aload_n 0, 1) := by decide +kernel
theorem dX11_fault_1 : decode cX11_fault 1 = .ok (.getfield 35, 3) := by decide +kernel
theorem dX11_fault_4 : decode cX11_fault 4 = .ok (.aload_n 0, 1) := by decide +kernel
theorem dX11_fault_5 : decode cX11_fault 5 = .ok (.getfield 19, 3) := by decide +kernel
theorem dX11_fault_8 : decode cX11_fault 8 = .ok (.getfield 203, 3) := by decide +kernel
theorem dX11_fault_11 : decode cX11_fault 11 = .ok (.invokevirtual 207, 3) := by decide +kernel
theorem dX11_fault_14 : decode cX11_fault 14 = .ok (.ireturn, 1) := by decide +kernel
theorem dX11_force_0 : decode cX11_force 0 = .ok (.aload_n 0, 1) := by decide +kernel
theorem dX11_force_1 : decode cX11_force 1 = .ok (.getfield 35, 3) := by decide +kernel
theorem dX11_force_4 : decode cX11_force 4 = .ok (.aload_n 0, 1) := by decide +kernel
theorem dX11_force_5 : decode cX11_force 5 = .ok (.getfield 19, 3) := by decide +kernel
theorem dX11_force_8 : decode cX11_force 8 = .ok (.getfield 203, 3) := by decide +kernel
theorem dX11_force_11 : decode cX11_force 11 = .ok (.invokevirtual 207, 3) := by decide +kernel
theorem dX11_force_14 : decode cX11_force 14 = .ok (.iconst (-1), 1) := by decide +kernel
theorem dX11_force_15 : decode cX11_force 15 = .ok (.if_icmp .eq 6, 3) := by decide +kernel
theorem dX11_force_18 : decode cX11_force 18 = .ok (.bipush (-4), 2) := by decide +kernel
theorem dX11_force_20 : decode cX11_force 20 = .ok (.ireturn, 1) := by decide +kernel
theorem dX11_force_21 : decode cX11_force 21 = .ok (.aload_n 0, 1) := by decide +kernel
theorem dX11_force_22 : decode cX11_force 22 = .ok (.getfield 19, 3) := by decide +kernel
theorem dX11_force_25 : decode cX11_force 25 = .ok (.getfield 211, 3) := by decide +kernel
theorem dX11_force_28 : decode cX11_force 28 = .ok (.bipush 6, 2) := by decide +kernel
theorem dX11_force_30 : decode cX11_force 30 = .ok (.if_icmp .ne 6, 3) := by decide +kernel
theorem dX11_force_33 : decode cX11_force 33 = .ok (.bipush (-5), 2) := by decide +kernel
theorem dX11_force_35 : decode cX11_force 35 = .ok (.ireturn, 1) := by decide +kernel
theorem dX11_force_36 : decode cX11_force 36 = .ok (.aload_n 0, 1) := by decide +kernel
theorem dX11_force_37 : decode cX11_force 37 = .ok (.getfield 35, 3) := by decide +kernel
theorem dX11_force_40 : decode cX11_force 40 = .ok (.iconst 0, 1) := by decide +kernel
theorem dX11_force_41 : decode cX11_force 41 = .ok (.putfield 196, 3) := by decide +kernel
theorem dX11_force_44 : decode cX11_force 44 = .ok (.aload_n 0, 1) := by decide +kernel
theorem dX11_force_45 : decode cX11_force 45 = .ok (.getfield 19, 3) := by decide +kernel
theorem dX11_force_48 : decode cX11_force 48 = .ok (.aload_n 0, 1) := by decide +kernel
theorem dX11_force_49 : decode cX11_force 49 = .ok (.getfield 10, 3) := by decide +kernel
theorem dX11_force_52 : decode cX11_force 52 = .ok (.aload_n 0, 1) := by decide +kernel
theorem dX11_force_53 : decode cX11_force 53 = .ok (.getfield 28, 3) := by decide +kernel
theorem dX11_force_56 : decode cX11_force 56 = .ok (.getfield 105, 3) := by decide +kernel
theorem dX11_force_59 : decode cX11_force 59 = .ok (.invokevirtual 212, 3) := by decide +kernel
theorem dX11_force_62 : decode cX11_force 62 = .ok (.ireturn, 1) := by decide +kernel
theorem dX11_lag_0 : decode cX11_lag 0 = .ok (.iload_n 1, 1) := by decide +kernel
theorem dX11_lag_1 : decode cX11_lag 1 = .ok (.iconst 0, 1) := by decide +kernel
theorem dX11_lag_2 : decode cX11_lag 2 = .ok (.bipush 99, 2) := by decide +kernel
theorem dX11_lag_4 : decode cX11_lag 4 = .ok (.invokestatic 71, 3) := by decide +kernel
theorem dX11_lag_7 : decode cX11_lag 7 = .ok (.ifCond .ne 6, 3) := by decide +kernel
theorem dX11_lag_10 : decode cX11_lag 10 = .ok (.bipush (-3), 2) := by decide +kernel
theorem dX11_lag_12 : decode cX11_lag 12 = .ok (.ireturn, 1) := by decide +kernel
theorem dX11_lag_13 : decode cX11_lag 13 = .ok (.aload_n 0, 1) := by decide +kernel
theorem dX11_lag_14 : decode cX11_lag 14 = .ok (.getfield 19, 3) := by decide +kernel
theorem dX11_lag_17 : decode cX11_lag 17 = .ok (.getfield 216, 3) := by decide +kernel
theorem dX11_lag_20 : decode cX11_lag 20 = .ok (.istore_n 2, 1) := by decide +kernel
theorem dX11_lag_21 : decode cX11_lag 21 = .ok (.aload_n 0, 1) := by decide +kernel
theorem dX11_lag_22 : decode cX11_lag 22 = .ok (.getfield 19, 3) := by decide +kernel
theorem dX11_lag_25 : decode cX11_lag 25 = .ok (.iload_n 1, 1) := by decide +kernel
theorem dX11_lag_26 : decode cX11_lag 26 = .ok (.putfield 216, 3) := by decide +kernel
theorem dX11_lag_29 : decode cX11_lag 29 = .ok (.iload_n 2, 1) := by decide +kernel
theorem dX11_lag_30 : decode cX11_lag 30 = .ok (.ireturn, 1) := by decide +kernel
theorem dX11_knows_0 : decode cX11_knows 0 = .ok (.iload_n 1, 1) := by decide +kernel
theorem dX11_knows_1 : decode cX11_knows 1 = .ok (.invokestatic 67, 3) := by decide +kernel
theorem dX11_knows_4 : decode cX11_knows 4 = .ok (.ifCond .eq 20, 3) := by decide +kernel
theorem dX11_knows_7 : decode cX11_knows 7 = .ok (.iload_n 2, 1) := by decide +kernel
theorem dX11_knows_8 : decode cX11_knows 8 = .ok (.iconst 0, 1) := by decide +kernel
theorem dX11_knows_9 : decode cX11_knows 9 = .ok (.aload_n 0, 1) := by decide +kernel
theorem dX11_knows_10 : decode cX11_knows 10 = .ok (.getfield 19, 3) := by decide +kernel
theorem dX11_knows_13 : decode cX11_knows 13 = .ok (.getfield 211, 3) := by decide +kernel
theorem dX11_knows_16 : decode cX11_knows 16 = .ok (.iconst 1, 1) := by decide +kernel
theorem dX11_knows_17 : decode cX11_knows 17 = .ok (.isub, 1) := by decide +kernel
theorem dX11_knows_18 : decode cX11_knows 18 = .ok (.invokestatic 71, 3) := by decide +kernel
theorem dX11_knows_21 : decode cX11_knows 21 = .ok (.ifCond .ne 6, 3) := by decide +kernel
theorem dX11_knows_24 : decode cX11_knows 24 = .ok (.bipush (-2), 2) := by decide +kernel
theorem dX11_knows_26 : decode cX11_knows 26 = .ok (.ireturn, 1) := by decide +kernel
theorem dX11_knows_27 : decode cX11_knows 27 = .ok (.aload_n 0, 1) := by decide +kernel
theorem dX11_knows_28 : decode cX11_knows 28 = .ok (.getfield 19, 3) := by decide +kernel
theorem dX11_knows_31 : decode cX11_knows 31 = .ok (.iload_n 2, 1) := by decide +kernel
theorem dX11_knows_32 : decode cX11_knows 32 = .ok (.invokevirtual 219, 3) := by decide +kernel
theorem dX11_knows_35 : decode cX11_knows 35 = .ok (.getfield 223, 3) := by decide +kernel
theorem dX11_knows_38 : decode cX11_knows 38 = .ok (.iload_n 1, 1) := by decide +kernel
theorem dX11_knows_39 : decode cX11_knows 39 = .ok (.iaload, 1) := by decide +kernel
theorem dX11_knows_40 : decode cX11_knows 40 = .ok (.ireturn, 1) := by decide +kernel
theorem dX11_orders_0 : decode cX11_orders 0 = .ok (.iload_n 1, 1) := by decide +kernel
theorem dX11_orders_1 : decode cX11_orders 1 = .ok (.invokestatic 67, 3) := by decide +kernel
theorem dX11_orders_4 : decode cX11_orders 4 = .ok (.ifCond .ne 6, 3) := by decide +kernel
theorem dX11_orders_7 : decode cX11_orders 7 = .ok (.bipush (-2), 2) := by decide +kernel
theorem dX11_orders_9 : decode cX11_orders 9 = .ok (.ireturn, 1) := by decide +kernel
theorem dX11_orders_10 : decode cX11_orders 10 = .ok (.iload_n 2, 1) := by decide +kernel
theorem dX11_orders_11 : decode cX11_orders 11 = .ok (.iconst 0, 1) := by decide +kernel
theorem dX11_orders_12 : decode cX11_orders 12 = .ok (.sipush 9999, 3) := by decide +kernel
theorem dX11_orders_15 : decode cX11_orders 15 = .ok (.invokestatic 71, 3) := by decide +kernel
theorem dX11_orders_18 : decode cX11_orders 18 = .ok (.ifCond .ne 6, 3) := by decide +kernel
theorem dX11_orders_21 : decode cX11_orders 21 = .ok (.bipush (-3), 2) := by decide +kernel
theorem dX11_orders_23 : decode cX11_orders 23 = .ok (.ireturn, 1) := by decide +kernel
theorem dX11_orders_24 : decode cX11_orders 24 = .ok (.aload_n 0, 1) := by decide +kernel
theorem dX11_orders_25 : decode cX11_orders 25 = .ok (.getfield 19, 3) := by decide +kernel
theorem dX11_orders_28 : decode cX11_orders 28 = .ok (.iload_n 1, 1) := by decide +kernel
theorem dX11_orders_29 : decode cX11_orders 29 = .ok (.iload_n 2, 1) := by decide +kernel
theorem dX11_orders_30 : decode cX11_orders 30 = .ok (.invokevirtual 226, 3) := by decide +kernel
theorem dX11_orders_33 : decode cX11_orders 33 = .ok (.ireturn, 1) := by decide +kernel
theorem dX11_told_0 : decode cX11_told 0 = .ok (.iload_n 1, 1) := by decide +kernel
theorem dX11_told_1 : decode cX11_told 1 = .ok (.iconst (-1), 1) := by decide +kernel
theorem dX11_told_2 : decode cX11_told 2 = .ok (.aload_n 0, 1) := by decide +kernel
theorem dX11_told_3 : decode cX11_told 3 = .ok (.getfield 19, 3) := by decide +kernel
theorem dX11_told_6 : decode cX11_told 6 = .ok (.getfield 211, 3) := by decide +kernel
theorem dX11_told_9 : decode cX11_told 9 = .ok (.iconst 1, 1) := by decide +kernel
theorem dX11_told_10 : decode cX11_told 10 = .ok (.isub, 1) := by decide +kernel
theorem dX11_told_11 : decode cX11_told 11 = .ok (.invokestatic 71, 3) := by decide +kernel
theorem dX11_told_14 : decode cX11_told 14 = .ok (.ifCond .ne 6, 3) := by decide +kernel
theorem dX11_told_17 : decode cX11_told 17 = .ok (.bipush (-2), 2) := by decide +kernel
theorem dX11_told_19 : decode cX11_told 19 = .ok (.ireturn, 1) := by decide +kernel
theorem dX11_told_20 : decode cX11_told 20 = .ok (.iload_n 2, 1) := by decide +kernel
theorem dX11_told_21 : decode cX11_told 21 = .ok (.iconst 0, 1) := by decide +kernel
theorem dX11_told_22 : decode cX11_told 22 = .ok (.iconst 5, 1) := by decide +kernel
theorem dX11_told_23 : decode cX11_told 23 = .ok (.invokestatic 71, 3) := by decide +kernel
theorem dX11_told_26 : decode cX11_told 26 = .ok (.ifCond .eq 15, 3) := by decide +kernel
theorem dX11_told_29 : decode cX11_told 29 = .ok (.iload_n 3, 1) := by decide +kernel
theorem dX11_told_30 : decode cX11_told 30 = .ok (.iconst 0, 1) := by decide +kernel
theorem dX11_told_31 : decode cX11_told 31 = .ok (.iload_n 2, 1) := by decide +kernel
theorem dX11_told_32 : decode cX11_told 32 = .ok (.invokestatic 229, 3) := by decide +kernel
theorem dX11_told_35 : decode cX11_told 35 = .ok (.invokestatic 71, 3) := by decide +kernel
theorem dX11_told_38 : decode cX11_told 38 = .ok (.ifCond .ne 6, 3) := by decide +kernel
theorem dX11_told_41 : decode cX11_told 41 = .ok (.bipush (-3), 2) := by decide +kernel
theorem dX11_told_43 : decode cX11_told 43 = .ok (.ireturn, 1) := by decide +kernel
theorem dX11_told_44 : decode cX11_told 44 = .ok (.aload_n 0, 1) := by decide +kernel
theorem dX11_told_45 : decode cX11_told 45 = .ok (.getfield 19, 3) := by decide +kernel
theorem dX11_told_48 : decode cX11_told 48 = .ok (.iload_n 1, 1) := by decide +kernel
theorem dX11_told_49 : decode cX11_told 49 = .ok (.invokevirtual 219, 3) := by decide +kernel
theorem dX11_told_52 : decode cX11_told 52 = .ok (.astore 4, 2) := by decide +kernel
theorem dX11_told_54 : decode cX11_told 54 = .ok (.iload_n 2, 1) := by decide +kernel
theorem dX11_told_55 : decode cX11_told 55 = .ok (.tableswitch 76 0 4 #[33, 41, 49, 64, 70], 33) := by decide +kernel
theorem dX11_told_88 : decode cX11_told 88 = .ok (.aload 4, 2) := by decide +kernel
theorem dX11_told_90 : decode cX11_told 90 = .ok (.getfield 232, 3) := by decide +kernel
theorem dX11_told_93 : decode cX11_told 93 = .ok (.iload_n 3, 1) := by decide +kernel
theorem dX11_told_94 : decode cX11_told 94 = .ok (.iaload, 1) := by decide +kernel
theorem dX11_told_95 : decode cX11_told 95 = .ok (.ireturn, 1) := by decide +kernel
theorem dX11_told_96 : decode cX11_told 96 = .ok (.aload 4, 2) := by decide +kernel
theorem dX11_told_98 : decode cX11_told 98 = .ok (.getfield 235, 3) := by decide +kernel
theorem dX11_told_101 : decode cX11_told 101 = .ok (.iload_n 3, 1) := by decide +kernel
theorem dX11_told_102 : decode cX11_told 102 = .ok (.iaload, 1) := by decide +kernel
theorem dX11_told_103 : decode cX11_told 103 = .ok (.ireturn, 1) := by decide +kernel
theorem dX11_told_104 : decode cX11_told 104 = .ok (.aload 4, 2) := by decide +kernel
theorem dX11_told_106 : decode cX11_told 106 = .ok (.iload_n 3, 1) := by decide +kernel
theorem dX11_told_107 : decode cX11_told 107 = .ok (.invokevirtual 238, 3) := by decide +kernel
theorem dX11_told_110 : decode cX11_told 110 = .ok (.ifCond .eq 7, 3) := by decide +kernel
theorem dX11_told_113 : decode cX11_told 113 = .ok (.iconst 1, 1) := by decide +kernel
theorem dX11_told_114 : decode cX11_told 114 = .ok (.goto 4, 3) := by decide +kernel
theorem dX11_told_117 : decode cX11_told 117 = .ok (.iconst 0, 1) := by decide +kernel
theorem dX11_told_118 : decode cX11_told 118 = .ok (.ireturn, 1) := by decide +kernel
theorem dX11_told_119 : decode cX11_told 119 = .ok (.aload 4, 2) := by decide +kernel
theorem dX11_told_121 : decode cX11_told 121 = .ok (.getfield 241, 3) := by decide +kernel
theorem dX11_told_124 : decode cX11_told 124 = .ok (.ireturn, 1) := by decide +kernel
theorem dX11_told_125 : decode cX11_told 125 = .ok (.aload 4, 2) := by decide +kernel
theorem dX11_told_127 : decode cX11_told 127 = .ok (.getfield 244, 3) := by decide +kernel
theorem dX11_told_130 : decode cX11_told 130 = .ok (.ireturn, 1) := by decide +kernel
theorem dX11_told_131 : decode cX11_told 131 = .ok (.aload 4, 2) := by decide +kernel
theorem dX11_told_133 : decode cX11_told 133 = .ok (.iload_n 3, 1) := by decide +kernel
theorem dX11_told_134 : decode cX11_told 134 = .ok (.invokevirtual 247, 3) := by decide +kernel
theorem dX11_told_137 : decode cX11_told 137 = .ok (.ifCond .eq 7, 3) := by decide +kernel
theorem dX11_told_140 : decode cX11_told 140 = .ok (.iconst 1, 1) := by decide +kernel
theorem dX11_told_141 : decode cX11_told 141 = .ok (.goto 4, 3) := by decide +kernel
theorem dX11_told_144 : decode cX11_told 144 = .ok (.iconst 0, 1) := by decide +kernel
theorem dX11_told_145 : decode cX11_told 145 = .ok (.ireturn, 1) := by decide +kernel
theorem dX11_back_0 : decode cX11_back 0 = .ok (.aload_n 0, 1) := by decide +kernel
theorem dX11_back_1 : decode cX11_back 1 = .ok (.iload_n 1, 1) := by decide +kernel
theorem dX11_back_2 : decode cX11_back 2 = .ok (.invokevirtual 122, 3) := by decide +kernel
theorem dX11_back_5 : decode cX11_back 5 = .ok (.ifCond .ne 6, 3) := by decide +kernel
theorem dX11_back_8 : decode cX11_back 8 = .ok (.bipush (-2), 2) := by decide +kernel
theorem dX11_back_10 : decode cX11_back 10 = .ok (.ireturn, 1) := by decide +kernel
theorem dX11_back_11 : decode cX11_back 11 = .ok (.aload_n 0, 1) := by decide +kernel
theorem dX11_back_12 : decode cX11_back 12 = .ok (.getfield 28, 3) := by decide +kernel
theorem dX11_back_15 : decode cX11_back 15 = .ok (.getfield 125, 3) := by decide +kernel
theorem dX11_back_18 : decode cX11_back 18 = .ok (.iload_n 1, 1) := by decide +kernel
theorem dX11_back_19 : decode cX11_back 19 = .ok (.aaload, 1) := by decide +kernel
theorem dX11_back_20 : decode cX11_back 20 = .ok (.astore_n 2, 1) := by decide +kernel
theorem dX11_back_21 : decode cX11_back 21 = .ok (.aload_n 2, 1) := by decide +kernel
theorem dX11_back_22 : decode cX11_back 22 = .ok (.getfield 146, 3) := by decide +kernel
theorem dX11_back_25 : decode cX11_back 25 = .ok (.aload_n 0, 1) := by decide +kernel
theorem dX11_back_26 : decode cX11_back 26 = .ok (.getfield 19, 3) := by decide +kernel
theorem dX11_back_29 : decode cX11_back 29 = .ok (.aload_n 2, 1) := by decide +kernel
theorem dX11_back_30 : decode cX11_back 30 = .ok (.getfield 250, 3) := by decide +kernel
theorem dX11_back_33 : decode cX11_back 33 = .ok (.aload_n 0, 1) := by decide +kernel
theorem dX11_back_34 : decode cX11_back 34 = .ok (.getfield 28, 3) := by decide +kernel
theorem dX11_back_37 : decode cX11_back 37 = .ok (.getfield 105, 3) := by decide +kernel
theorem dX11_back_40 : decode cX11_back 40 = .ok (.invokevirtual 173, 3) := by decide +kernel
theorem dX11_back_43 : decode cX11_back 43 = .ok (.getfield 244, 3) := by decide +kernel
theorem dX11_back_46 : decode cX11_back 46 = .ok (.imul, 1) := by decide +kernel
theorem dX11_back_47 : decode cX11_back 47 = .ok (.bipush 100, 2) := by decide +kernel
theorem dX11_back_49 : decode cX11_back 49 = .ok (.idiv, 1) := by decide +kernel
theorem dX11_back_50 : decode cX11_back 50 = .ok (.ireturn, 1) := by decide +kernel
theorem dX11_word_0 : decode cX11_word 0 = .ok (.iload_n 1, 1) := by decide +kernel
theorem dX11_word_1 : decode cX11_word 1 = .ok (.iconst 0, 1) := by decide +kernel
theorem dX11_word_2 : decode cX11_word 2 = .ok (.bipush 15, 2) := by decide +kernel
theorem dX11_word_4 : decode cX11_word 4 = .ok (.invokestatic 71, 3) := by decide +kernel
theorem dX11_word_7 : decode cX11_word 7 = .ok (.ifCond .ne 6, 3) := by decide +kernel
theorem dX11_word_10 : decode cX11_word 10 = .ok (.bipush (-2), 2) := by decide +kernel
theorem dX11_word_12 : decode cX11_word 12 = .ok (.ireturn, 1) := by decide +kernel
theorem dX11_word_13 : decode cX11_word 13 = .ok (.lload_n 2, 1) := by decide +kernel
theorem dX11_word_14 : decode cX11_word 14 = .ok (.iload 4, 2) := by decide +kernel
theorem dX11_word_16 : decode cX11_word 16 = .ok (.invokestatic 253, 3) := by decide +kernel
theorem dX11_word_19 : decode cX11_word 19 = .ok (.ifCond .ne 6, 3) := by decide +kernel
theorem dX11_word_22 : decode cX11_word 22 = .ok (.bipush (-3), 2) := by decide +kernel
theorem dX11_word_24 : decode cX11_word 24 = .ok (.ireturn, 1) := by decide +kernel
theorem dX11_word_25 : decode cX11_word 25 = .ok (.aload_n 0, 1) := by decide +kernel
theorem dX11_word_26 : decode cX11_word 26 = .ok (.getfield 42, 3) := by decide +kernel
theorem dX11_word_29 : decode cX11_word 29 = .ok (.getfield 257, 3) := by decide +kernel
theorem dX11_word_32 : decode cX11_word 32 = .ok (.iload_n 1, 1) := by decide +kernel
theorem dX11_word_33 : decode cX11_word 33 = .ok (.lload_n 2, 1) := by decide +kernel
theorem dX11_word_34 : decode cX11_word 34 = .ok (.lastore, 1) := by decide +kernel
theorem dX11_word_35 : decode cX11_word 35 = .ok (.aload_n 0, 1) := by decide +kernel
theorem dX11_word_36 : decode cX11_word 36 = .ok (.getfield 42, 3) := by decide +kernel
theorem dX11_word_39 : decode cX11_word 39 = .ok (.getfield 261, 3) := by decide +kernel
theorem dX11_word_42 : decode cX11_word 42 = .ok (.iload_n 1, 1) := by decide +kernel
theorem dX11_word_43 : decode cX11_word 43 = .ok (.iload 4, 2) := by decide +kernel
theorem dX11_word_45 : decode cX11_word 45 = .ok (.iastore, 1) := by decide +kernel
theorem dX11_word_46 : decode cX11_word 46 = .ok (.iconst 1, 1) := by decide +kernel
theorem dX11_word_47 : decode cX11_word 47 = .ok (.ireturn, 1) := by decide +kernel
theorem dX11_far_0 : decode cX11_far 0 = .ok (.iload_n 1, 1) := by decide +kernel
theorem dX11_far_1 : decode cX11_far 1 = .ok (.iconst 0, 1) := by decide +kernel
theorem dX11_far_2 : decode cX11_far 2 = .ok (.bipush 15, 2) := by decide +kernel
theorem dX11_far_4 : decode cX11_far 4 = .ok (.invokestatic 71, 3) := by decide +kernel
theorem dX11_far_7 : decode cX11_far 7 = .ok (.ifCond .eq 15, 3) := by decide +kernel
theorem dX11_far_10 : decode cX11_far 10 = .ok (.aload_n 0, 1) := by decide +kernel
theorem dX11_far_11 : decode cX11_far 11 = .ok (.getfield 42, 3) := by decide +kernel
theorem dX11_far_14 : decode cX11_far 14 = .ok (.getfield 261, 3) := by decide +kernel
theorem dX11_far_17 : decode cX11_far 17 = .ok (.iload_n 1, 1) := by decide +kernel
theorem dX11_far_18 : decode cX11_far 18 = .ok (.iaload, 1) := by decide +kernel
theorem dX11_far_19 : decode cX11_far 19 = .ok (.ifCond .ne 6, 3) := by decide +kernel
theorem dX11_far_22 : decode cX11_far 22 = .ok (.bipush (-2), 2) := by decide +kernel
theorem dX11_far_24 : decode cX11_far 24 = .ok (.ireturn, 1) := by decide +kernel
theorem dX11_far_25 : decode cX11_far 25 = .ok (.lload_n 2, 1) := by decide +kernel
theorem dX11_far_26 : decode cX11_far 26 = .ok (.iload 4, 2) := by decide +kernel
theorem dX11_far_28 : decode cX11_far 28 = .ok (.invokestatic 253, 3) := by decide +kernel
theorem dX11_far_31 : decode cX11_far 31 = .ok (.ifCond .ne 6, 3) := by decide +kernel
theorem dX11_far_34 : decode cX11_far 34 = .ok (.bipush (-3), 2) := by decide +kernel
theorem dX11_far_36 : decode cX11_far 36 = .ok (.ireturn, 1) := by decide +kernel
theorem dX11_far_37 : decode cX11_far 37 = .ok (.aload_n 0, 1) := by decide +kernel
theorem dX11_far_38 : decode cX11_far 38 = .ok (.getfield 42, 3) := by decide +kernel
theorem dX11_far_41 : decode cX11_far 41 = .ok (.lload_n 2, 1) := by decide +kernel
theorem dX11_far_42 : decode cX11_far 42 = .ok (.iload 4, 2) := by decide +kernel
theorem dX11_far_44 : decode cX11_far 44 = .ok (.invokevirtual 264, 3) := by decide +kernel
theorem dX11_far_47 : decode cX11_far 47 = .ok (.aload_n 0, 1) := by decide +kernel
theorem dX11_far_48 : decode cX11_far 48 = .ok (.getfield 42, 3) := by decide +kernel
theorem dX11_far_51 : decode cX11_far 51 = .ok (.iload_n 1, 1) := by decide +kernel
theorem dX11_far_52 : decode cX11_far 52 = .ok (.invokevirtual 268, 3) := by decide +kernel
theorem dX11_far_55 : decode cX11_far 55 = .ok (.ireturn, 1) := by decide +kernel
theorem dX11_likely_0 : decode cX11_likely 0 = .ok (.lload_n 1, 1) := by decide +kernel
theorem dX11_likely_1 : decode cX11_likely 1 = .ok (.iload_n 3, 1) := by decide +kernel
theorem dX11_likely_2 : decode cX11_likely 2 = .ok (.invokestatic 253, 3) := by decide +kernel
theorem dX11_likely_5 : decode cX11_likely 5 = .ok (.ifCond .eq 8, 3) := by decide +kernel
theorem dX11_likely_8 : decode cX11_likely 8 = .ok (.iload 4, 2) := by decide +kernel
theorem dX11_likely_10 : decode cX11_likely 10 = .ok (.ifCond .ge 6, 3) := by decide +kernel
theorem dX11_likely_13 : decode cX11_likely 13 = .ok (.bipush (-3), 2) := by decide +kernel
theorem dX11_likely_15 : decode cX11_likely 15 = .ok (.ireturn, 1) := by decide +kernel
theorem dX11_likely_16 : decode cX11_likely 16 = .ok (.iload 4, 2) := by decide +kernel
theorem dX11_likely_18 : decode cX11_likely 18 = .ok (.aload_n 0, 1) := by decide +kernel
theorem dX11_likely_19 : decode cX11_likely 19 = .ok (.getfield 42, 3) := by decide +kernel
theorem dX11_likely_22 : decode cX11_likely 22 = .ok (.invokevirtual 271, 3) := by decide +kernel
theorem dX11_likely_25 : decode cX11_likely 25 = .ok (.if_icmp .lt 5, 3) := by decide +kernel
theorem dX11_likely_28 : decode cX11_likely 28 = .ok (.iconst (-1), 1) := by decide +kernel
theorem dX11_likely_29 : decode cX11_likely 29 = .ok (.ireturn, 1) := by decide +kernel
theorem dX11_likely_30 : decode cX11_likely 30 = .ok (.aload_n 0, 1) := by decide +kernel
theorem dX11_likely_31 : decode cX11_likely 31 = .ok (.getfield 42, 3) := by decide +kernel
theorem dX11_likely_34 : decode cX11_likely 34 = .ok (.lload_n 1, 1) := by decide +kernel
theorem dX11_likely_35 : decode cX11_likely 35 = .ok (.iload_n 3, 1) := by decide +kernel
theorem dX11_likely_36 : decode cX11_likely 36 = .ok (.invokevirtual 264, 3) := by decide +kernel
theorem dX11_likely_39 : decode cX11_likely 39 = .ok (.aload_n 0, 1) := by decide +kernel
theorem dX11_likely_40 : decode cX11_likely 40 = .ok (.getfield 42, 3) := by decide +kernel
theorem dX11_likely_43 : decode cX11_likely 43 = .ok (.iload 4, 2) := by decide +kernel
theorem dX11_likely_45 : decode cX11_likely 45 = .ok (.invokevirtual 275, 3) := by decide +kernel
theorem dX11_likely_48 : decode cX11_likely 48 = .ok (.ireturn, 1) := by decide +kernel
theorem dX11_row_0 : decode cX11_row 0 = .ok (.iload_n 1, 1) := by decide +kernel
theorem dX11_row_1 : decode cX11_row 1 = .ok (.iconst 2, 1) := by decide +kernel
theorem dX11_row_2 : decode cX11_row 2 = .ok (.bipush 7, 2) := by decide +kernel
theorem dX11_row_4 : decode cX11_row 4 = .ok (.invokestatic 71, 3) := by decide +kernel
theorem dX11_row_7 : decode cX11_row 7 = .ok (.ifCond .ne 6, 3) := by decide +kernel
theorem dX11_row_10 : decode cX11_row 10 = .ok (.bipush (-3), 2) := by decide +kernel
theorem dX11_row_12 : decode cX11_row 12 = .ok (.ireturn, 1) := by decide +kernel
theorem dX11_row_13 : decode cX11_row 13 = .ok (.aload_n 0, 1) := by decide +kernel
theorem dX11_row_14 : decode cX11_row 14 = .ok (.getfield 49, 3) := by decide +kernel
theorem dX11_row_17 : decode cX11_row 17 = .ok (.getfield 278, 3) := by decide +kernel
theorem dX11_row_20 : decode cX11_row 20 = .ok (.bipush 8, 2) := by decide +kernel
theorem dX11_row_22 : decode cX11_row 22 = .ok (.if_icmp .ne 6, 3) := by decide +kernel
theorem dX11_row_25 : decode cX11_row 25 = .ok (.bipush (-5), 2) := by decide +kernel
theorem dX11_row_27 : decode cX11_row 27 = .ok (.ireturn, 1) := by decide +kernel
theorem dX11_row_28 : decode cX11_row 28 = .ok (.aload_n 0, 1) := by decide +kernel
theorem dX11_row_29 : decode cX11_row 29 = .ok (.getfield 49, 3) := by decide +kernel
theorem dX11_row_32 : decode cX11_row 32 = .ok (.iload_n 1, 1) := by decide +kernel
theorem dX11_row_33 : decode cX11_row 33 = .ok (.invokevirtual 279, 3) := by decide +kernel
theorem dX11_row_36 : decode cX11_row 36 = .ok (.ireturn, 1) := by decide +kernel
theorem dX11_tape_0 : decode cX11_tape 0 = .ok (.aload_n 0, 1) := by decide +kernel
theorem dX11_tape_1 : decode cX11_tape 1 = .ok (.iload_n 1, 1) := by decide +kernel
theorem dX11_tape_2 : decode cX11_tape 2 = .ok (.invokevirtual 282, 3) := by decide +kernel
theorem dX11_tape_5 : decode cX11_tape 5 = .ok (.ifCond .eq 22, 3) := by decide +kernel
theorem dX11_tape_8 : decode cX11_tape 8 = .ok (.iload_n 2, 1) := by decide +kernel
theorem dX11_tape_9 : decode cX11_tape 9 = .ok (.iconst 0, 1) := by decide +kernel
theorem dX11_tape_10 : decode cX11_tape 10 = .ok (.aload_n 0, 1) := by decide +kernel
theorem dX11_tape_11 : decode cX11_tape 11 = .ok (.getfield 49, 3) := by decide +kernel
theorem dX11_tape_14 : decode cX11_tape 14 = .ok (.getfield 285, 3) := by decide +kernel
theorem dX11_tape_17 : decode cX11_tape 17 = .ok (.iload_n 1, 1) := by decide +kernel
theorem dX11_tape_18 : decode cX11_tape 18 = .ok (.iaload, 1) := by decide +kernel
theorem dX11_tape_19 : decode cX11_tape 19 = .ok (.iconst 1, 1) := by decide +kernel
theorem dX11_tape_20 : decode cX11_tape 20 = .ok (.isub, 1) := by decide +kernel
theorem dX11_tape_21 : decode cX11_tape 21 = .ok (.invokestatic 71, 3) := by decide +kernel
theorem dX11_tape_24 : decode cX11_tape 24 = .ok (.ifCond .ne 6, 3) := by decide +kernel
theorem dX11_tape_27 : decode cX11_tape 27 = .ok (.bipush (-2), 2) := by decide +kernel
theorem dX11_tape_29 : decode cX11_tape 29 = .ok (.ireturn, 1) := by decide +kernel
theorem dX11_tape_30 : decode cX11_tape 30 = .ok (.iload_n 3, 1) := by decide +kernel
theorem dX11_tape_31 : decode cX11_tape 31 = .ok (.iconst 0, 1) := by decide +kernel
theorem dX11_tape_32 : decode cX11_tape 32 = .ok (.iconst 2, 1) := by decide +kernel
theorem dX11_tape_33 : decode cX11_tape 33 = .ok (.invokestatic 71, 3) := by decide +kernel
theorem dX11_tape_36 : decode cX11_tape 36 = .ok (.ifCond .ne 6, 3) := by decide +kernel
theorem dX11_tape_39 : decode cX11_tape 39 = .ok (.bipush (-3), 2) := by decide +kernel
theorem dX11_tape_41 : decode cX11_tape 41 = .ok (.ireturn, 1) := by decide +kernel
theorem dX11_tape_42 : decode cX11_tape 42 = .ok (.aload_n 0, 1) := by decide +kernel
theorem dX11_tape_43 : decode cX11_tape 43 = .ok (.getfield 49, 3) := by decide +kernel
theorem dX11_tape_46 : decode cX11_tape 46 = .ok (.getfield 286, 3) := by decide +kernel
theorem dX11_tape_49 : decode cX11_tape 49 = .ok (.iload_n 1, 1) := by decide +kernel
theorem dX11_tape_50 : decode cX11_tape 50 = .ok (.aaload, 1) := by decide +kernel
theorem dX11_tape_51 : decode cX11_tape 51 = .ok (.iload_n 2, 1) := by decide +kernel
theorem dX11_tape_52 : decode cX11_tape 52 = .ok (.iaload, 1) := by decide +kernel
theorem dX11_tape_53 : decode cX11_tape 53 = .ok (.istore 4, 2) := by decide +kernel
theorem dX11_tape_55 : decode cX11_tape 55 = .ok (.aload_n 0, 1) := by decide +kernel
theorem dX11_tape_56 : decode cX11_tape 56 = .ok (.getfield 49, 3) := by decide +kernel
theorem dX11_tape_59 : decode cX11_tape 59 = .ok (.getfield 286, 3) := by decide +kernel
theorem dX11_tape_62 : decode cX11_tape 62 = .ok (.iload_n 1, 1) := by decide +kernel
theorem dX11_tape_63 : decode cX11_tape 63 = .ok (.aaload, 1) := by decide +kernel
theorem dX11_tape_64 : decode cX11_tape 64 = .ok (.iload_n 2, 1) := by decide +kernel
theorem dX11_tape_65 : decode cX11_tape 65 = .ok (.iload_n 3, 1) := by decide +kernel
theorem dX11_tape_66 : decode cX11_tape 66 = .ok (.iastore, 1) := by decide +kernel
theorem dX11_tape_67 : decode cX11_tape 67 = .ok (.iload 4, 2) := by decide +kernel
theorem dX11_tape_69 : decode cX11_tape 69 = .ok (.ireturn, 1) := by decide +kernel
theorem dX11_clerk_0 : decode cX11_clerk 0 = .ok (.aload_n 0, 1) := by decide +kernel
theorem dX11_clerk_1 : decode cX11_clerk 1 = .ok (.iload_n 1, 1) := by decide +kernel
theorem dX11_clerk_2 : decode cX11_clerk 2 = .ok (.invokevirtual 282, 3) := by decide +kernel
theorem dX11_clerk_5 : decode cX11_clerk 5 = .ok (.ifCond .eq 32, 3) := by decide +kernel
theorem dX11_clerk_8 : decode cX11_clerk 8 = .ok (.iload_n 2, 1) := by decide +kernel
theorem dX11_clerk_9 : decode cX11_clerk 9 = .ok (.iconst 0, 1) := by decide +kernel
theorem dX11_clerk_10 : decode cX11_clerk 10 = .ok (.aload_n 0, 1) := by decide +kernel
theorem dX11_clerk_11 : decode cX11_clerk 11 = .ok (.getfield 49, 3) := by decide +kernel
theorem dX11_clerk_14 : decode cX11_clerk 14 = .ok (.getfield 285, 3) := by decide +kernel
theorem dX11_clerk_17 : decode cX11_clerk 17 = .ok (.iload_n 1, 1) := by decide +kernel
theorem dX11_clerk_18 : decode cX11_clerk 18 = .ok (.iaload, 1) := by decide +kernel
theorem dX11_clerk_19 : decode cX11_clerk 19 = .ok (.iconst 2, 1) := by decide +kernel
theorem dX11_clerk_20 : decode cX11_clerk 20 = .ok (.isub, 1) := by decide +kernel
theorem dX11_clerk_21 : decode cX11_clerk 21 = .ok (.invokestatic 71, 3) := by decide +kernel
theorem dX11_clerk_24 : decode cX11_clerk 24 = .ok (.ifCond .eq 13, 3) := by decide +kernel
theorem dX11_clerk_27 : decode cX11_clerk 27 = .ok (.iload_n 3, 1) := by decide +kernel
theorem dX11_clerk_28 : decode cX11_clerk 28 = .ok (.iconst 0, 1) := by decide +kernel
theorem dX11_clerk_29 : decode cX11_clerk 29 = .ok (.bipush 7, 2) := by decide +kernel
theorem dX11_clerk_31 : decode cX11_clerk 31 = .ok (.invokestatic 71, 3) := by decide +kernel
theorem dX11_clerk_34 : decode cX11_clerk 34 = .ok (.ifCond .ne 6, 3) := by decide +kernel
theorem dX11_clerk_37 : decode cX11_clerk 37 = .ok (.bipush (-2), 2) := by decide +kernel
theorem dX11_clerk_39 : decode cX11_clerk 39 = .ok (.ireturn, 1) := by decide +kernel
theorem dX11_clerk_40 : decode cX11_clerk 40 = .ok (.aload_n 0, 1) := by decide +kernel
theorem dX11_clerk_41 : decode cX11_clerk 41 = .ok (.getfield 49, 3) := by decide +kernel
theorem dX11_clerk_44 : decode cX11_clerk 44 = .ok (.getfield 290, 3) := by decide +kernel
theorem dX11_clerk_47 : decode cX11_clerk 47 = .ok (.iload_n 1, 1) := by decide +kernel
theorem dX11_clerk_48 : decode cX11_clerk 48 = .ok (.aaload, 1) := by decide +kernel
theorem dX11_clerk_49 : decode cX11_clerk 49 = .ok (.iload_n 2, 1) := by decide +kernel
theorem dX11_clerk_50 : decode cX11_clerk 50 = .ok (.iaload, 1) := by decide +kernel
theorem dX11_clerk_51 : decode cX11_clerk 51 = .ok (.istore 4, 2) := by decide +kernel
theorem dX11_clerk_53 : decode cX11_clerk 53 = .ok (.aload_n 0, 1) := by decide +kernel
theorem dX11_clerk_54 : decode cX11_clerk 54 = .ok (.getfield 49, 3) := by decide +kernel
theorem dX11_clerk_57 : decode cX11_clerk 57 = .ok (.getfield 290, 3) := by decide +kernel
theorem dX11_clerk_60 : decode cX11_clerk 60 = .ok (.iload_n 1, 1) := by decide +kernel
theorem dX11_clerk_61 : decode cX11_clerk 61 = .ok (.aaload, 1) := by decide +kernel
theorem dX11_clerk_62 : decode cX11_clerk 62 = .ok (.iload_n 2, 1) := by decide +kernel
theorem dX11_clerk_63 : decode cX11_clerk 63 = .ok (.iload_n 3, 1) := by decide +kernel
theorem dX11_clerk_64 : decode cX11_clerk 64 = .ok (.iastore, 1) := by decide +kernel
theorem dX11_clerk_65 : decode cX11_clerk 65 = .ok (.iload 4, 2) := by decide +kernel
theorem dX11_clerk_67 : decode cX11_clerk 67 = .ok (.ireturn, 1) := by decide +kernel
theorem dX11_lead_0 : decode cX11_lead 0 = .ok (.aload_n 0, 1) := by decide +kernel
theorem dX11_lead_1 : decode cX11_lead 1 = .ok (.iload_n 1, 1) := by decide +kernel
theorem dX11_lead_2 : decode cX11_lead 2 = .ok (.invokevirtual 282, 3) := by decide +kernel
theorem dX11_lead_5 : decode cX11_lead 5 = .ok (.ifCond .ne 6, 3) := by decide +kernel
theorem dX11_lead_8 : decode cX11_lead 8 = .ok (.bipush (-2), 2) := by decide +kernel
theorem dX11_lead_10 : decode cX11_lead 10 = .ok (.ireturn, 1) := by decide +kernel
theorem dX11_lead_11 : decode cX11_lead 11 = .ok (.aload_n 0, 1) := by decide +kernel
theorem dX11_lead_12 : decode cX11_lead 12 = .ok (.getfield 49, 3) := by decide +kernel
theorem dX11_lead_15 : decode cX11_lead 15 = .ok (.iload_n 1, 1) := by decide +kernel
theorem dX11_lead_16 : decode cX11_lead 16 = .ok (.invokevirtual 293, 3) := by decide +kernel
theorem dX11_lead_19 : decode cX11_lead 19 = .ok (.ifCond .eq 6, 3) := by decide +kernel
theorem dX11_lead_22 : decode cX11_lead 22 = .ok (.bipush (-4), 2) := by decide +kernel
theorem dX11_lead_24 : decode cX11_lead 24 = .ok (.ireturn, 1) := by decide +kernel
theorem dX11_lead_25 : decode cX11_lead 25 = .ok (.aload_n 0, 1) := by decide +kernel
theorem dX11_lead_26 : decode cX11_lead 26 = .ok (.getfield 49, 3) := by decide +kernel
theorem dX11_lead_29 : decode cX11_lead 29 = .ok (.iload_n 1, 1) := by decide +kernel
theorem dX11_lead_30 : decode cX11_lead 30 = .ok (.invokevirtual 296, 3) := by decide +kernel
theorem dX11_lead_33 : decode cX11_lead 33 = .ok (.istore_n 2, 1) := by decide +kernel
theorem dX11_lead_34 : decode cX11_lead 34 = .ok (.iload_n 2, 1) := by decide +kernel
theorem dX11_lead_35 : decode cX11_lead 35 = .ok (.iconst (-1), 1) := by decide +kernel
theorem dX11_lead_36 : decode cX11_lead 36 = .ok (.if_icmp .ne 7, 3) := by decide +kernel
theorem dX11_lead_39 : decode cX11_lead 39 = .ok (.iconst (-1), 1) := by decide +kernel
theorem dX11_lead_40 : decode cX11_lead 40 = .ok (.goto 19, 3) := by decide +kernel
theorem dX11_lead_43 : decode cX11_lead 43 = .ok (.bipush 10, 2) := by decide +kernel
theorem dX11_lead_45 : decode cX11_lead 45 = .ok (.aload_n 0, 1) := by decide +kernel
theorem dX11_lead_46 : decode cX11_lead 46 = .ok (.getfield 49, 3) := by decide +kernel
theorem dX11_lead_49 : decode cX11_lead 49 = .ok (.iload_n 1, 1) := by decide +kernel
theorem dX11_lead_50 : decode cX11_lead 50 = .ok (.iload_n 2, 1) := by decide +kernel
theorem dX11_lead_51 : decode cX11_lead 51 = .ok (.invokevirtual 299, 3) := by decide +kernel
theorem dX11_lead_54 : decode cX11_lead 54 = .ok (.iconst 1, 1) := by decide +kernel
theorem dX11_lead_55 : decode cX11_lead 55 = .ok (.iadd, 1) := by decide +kernel
theorem dX11_lead_56 : decode cX11_lead 56 = .ok (.imul, 1) := by decide +kernel
theorem dX11_lead_57 : decode cX11_lead 57 = .ok (.iload_n 2, 1) := by decide +kernel
theorem dX11_lead_58 : decode cX11_lead 58 = .ok (.iadd, 1) := by decide +kernel
theorem dX11_lead_59 : decode cX11_lead 59 = .ok (.ireturn, 1) := by decide +kernel
theorem dX11_blamed_0 : decode cX11_blamed 0 = .ok (.aload_n 0, 1) := by decide +kernel
theorem dX11_blamed_1 : decode cX11_blamed 1 = .ok (.getfield 49, 3) := by decide +kernel
theorem dX11_blamed_4 : decode cX11_blamed 4 = .ok (.invokevirtual 302, 3) := by decide +kernel
theorem dX11_blamed_7 : decode cX11_blamed 7 = .ok (.ireturn, 1) := by decide +kernel
theorem dX11_load_0 : decode cX11_load 0 = .ok (.iload_n 1, 1) := by decide +kernel
theorem dX11_load_1 : decode cX11_load 1 = .ok (.iconst 0, 1) := by decide +kernel
theorem dX11_load_2 : decode cX11_load 2 = .ok (.iconst 2, 1) := by decide +kernel
theorem dX11_load_3 : decode cX11_load 3 = .ok (.invokestatic 71, 3) := by decide +kernel
theorem dX11_load_6 : decode cX11_load 6 = .ok (.ifCond .ne 6, 3) := by decide +kernel
theorem dX11_load_9 : decode cX11_load 9 = .ok (.bipush (-2), 2) := by decide +kernel
theorem dX11_load_11 : decode cX11_load 11 = .ok (.ireturn, 1) := by decide +kernel
theorem dX11_load_12 : decode cX11_load 12 = .ok (.iload_n 2, 1) := by decide +kernel
theorem dX11_load_13 : decode cX11_load 13 = .ok (.iconst 0, 1) := by decide +kernel
theorem dX11_load_14 : decode cX11_load 14 = .ok (.bipush 23, 2) := by decide +kernel
theorem dX11_load_16 : decode cX11_load 16 = .ok (.invokestatic 71, 3) := by decide +kernel
theorem dX11_load_19 : decode cX11_load 19 = .ok (.ifCond .eq 14, 3) := by decide +kernel
theorem dX11_load_22 : decode cX11_load 22 = .ok (.iload_n 3, 1) := by decide +kernel
theorem dX11_load_23 : decode cX11_load 23 = .ok (.iconst 0, 1) := by decide +kernel
theorem dX11_load_24 : decode cX11_load 24 = .ok (.sipush 999, 3) := by decide +kernel
theorem dX11_load_27 : decode cX11_load 27 = .ok (.invokestatic 71, 3) := by decide +kernel
theorem dX11_load_30 : decode cX11_load 30 = .ok (.ifCond .ne 6, 3) := by decide +kernel
theorem dX11_load_33 : decode cX11_load 33 = .ok (.bipush (-3), 2) := by decide +kernel
theorem dX11_load_35 : decode cX11_load 35 = .ok (.ireturn, 1) := by decide +kernel
theorem dX11_load_36 : decode cX11_load 36 = .ok (.aload_n 0, 1) := by decide +kernel
theorem dX11_load_37 : decode cX11_load 37 = .ok (.getfield 56, 3) := by decide +kernel
theorem dX11_load_40 : decode cX11_load 40 = .ok (.getfield 305, 3) := by decide +kernel
theorem dX11_load_43 : decode cX11_load 43 = .ok (.iload_n 1, 1) := by decide +kernel
theorem dX11_load_44 : decode cX11_load 44 = .ok (.bipush 24, 2) := by decide +kernel
theorem dX11_load_46 : decode cX11_load 46 = .ok (.imul, 1) := by decide +kernel
theorem dX11_load_47 : decode cX11_load 47 = .ok (.iload_n 2, 1) := by decide +kernel
theorem dX11_load_48 : decode cX11_load 48 = .ok (.iadd, 1) := by decide +kernel
theorem dX11_load_49 : decode cX11_load 49 = .ok (.iaload, 1) := by decide +kernel
theorem dX11_load_50 : decode cX11_load 50 = .ok (.istore 4, 2) := by decide +kernel
theorem dX11_load_52 : decode cX11_load 52 = .ok (.aload_n 0, 1) := by decide +kernel
theorem dX11_load_53 : decode cX11_load 53 = .ok (.getfield 56, 3) := by decide +kernel
theorem dX11_load_56 : decode cX11_load 56 = .ok (.getfield 305, 3) := by decide +kernel
theorem dX11_load_59 : decode cX11_load 59 = .ok (.iload_n 1, 1) := by decide +kernel
theorem dX11_load_60 : decode cX11_load 60 = .ok (.bipush 24, 2) := by decide +kernel
theorem dX11_load_62 : decode cX11_load 62 = .ok (.imul, 1) := by decide +kernel
theorem dX11_load_63 : decode cX11_load 63 = .ok (.iload_n 2, 1) := by decide +kernel
theorem dX11_load_64 : decode cX11_load 64 = .ok (.iadd, 1) := by decide +kernel
theorem dX11_load_65 : decode cX11_load 65 = .ok (.iload_n 3, 1) := by decide +kernel
theorem dX11_load_66 : decode cX11_load 66 = .ok (.iastore, 1) := by decide +kernel
theorem dX11_load_67 : decode cX11_load 67 = .ok (.aload_n 0, 1) := by decide +kernel
theorem dX11_load_68 : decode cX11_load 68 = .ok (.getfield 56, 3) := by decide +kernel
theorem dX11_load_71 : decode cX11_load 71 = .ok (.iconst 0, 1) := by decide +kernel
theorem dX11_load_72 : decode cX11_load 72 = .ok (.putfield 308, 3) := by decide +kernel
theorem dX11_load_75 : decode cX11_load 75 = .ok (.iload 4, 2) := by decide +kernel
theorem dX11_load_77 : decode cX11_load 77 = .ok (.ireturn, 1) := by decide +kernel
theorem dX11_set_0 : decode cX11_set 0 = .ok (.iload_n 1, 1) := by decide +kernel
theorem dX11_set_1 : decode cX11_set 1 = .ok (.ifCond .ne 22, 3) := by decide +kernel
theorem dX11_set_4 : decode cX11_set 4 = .ok (.iload_n 2, 1) := by decide +kernel
theorem dX11_set_5 : decode cX11_set 5 = .ok (.iconst 1, 1) := by decide +kernel
theorem dX11_set_6 : decode cX11_set 6 = .ok (.bipush 99, 2) := by decide +kernel
theorem dX11_set_8 : decode cX11_set 8 = .ok (.invokestatic 71, 3) := by decide +kernel
theorem dX11_set_11 : decode cX11_set 11 = .ok (.ifCond .eq 12, 3) := by decide +kernel
theorem dX11_set_14 : decode cX11_set 14 = .ok (.aload_n 0, 1) := by decide +kernel
theorem dX11_set_15 : decode cX11_set 15 = .ok (.getfield 56, 3) := by decide +kernel
theorem dX11_set_18 : decode cX11_set 18 = .ok (.iload_n 2, 1) := by decide +kernel
theorem dX11_set_19 : decode cX11_set 19 = .ok (.invokevirtual 312, 3) := by decide +kernel
theorem dX11_set_22 : decode cX11_set 22 = .ok (.ireturn, 1) := by decide +kernel
theorem dX11_set_23 : decode cX11_set 23 = .ok (.iload_n 1, 1) := by decide +kernel
theorem dX11_set_24 : decode cX11_set 24 = .ok (.iconst 1, 1) := by decide +kernel
theorem dX11_set_25 : decode cX11_set 25 = .ok (.if_icmp .ne 23, 3) := by decide +kernel
theorem dX11_set_28 : decode cX11_set 28 = .ok (.iload_n 2, 1) := by decide +kernel
theorem dX11_set_29 : decode cX11_set 29 = .ok (.iconst 0, 1) := by decide +kernel
theorem dX11_set_30 : decode cX11_set 30 = .ok (.sipush 9999, 3) := by decide +kernel
theorem dX11_set_33 : decode cX11_set 33 = .ok (.invokestatic 71, 3) := by decide +kernel
theorem dX11_set_36 : decode cX11_set 36 = .ok (.ifCond .eq 12, 3) := by decide +kernel
theorem dX11_set_39 : decode cX11_set 39 = .ok (.aload_n 0, 1) := by decide +kernel
theorem dX11_set_40 : decode cX11_set 40 = .ok (.getfield 56, 3) := by decide +kernel
theorem dX11_set_43 : decode cX11_set 43 = .ok (.iload_n 2, 1) := by decide +kernel
theorem dX11_set_44 : decode cX11_set 44 = .ok (.invokevirtual 315, 3) := by decide +kernel
theorem dX11_set_47 : decode cX11_set 47 = .ok (.ireturn, 1) := by decide +kernel
theorem dX11_set_48 : decode cX11_set 48 = .ok (.bipush (-3), 2) := by decide +kernel
theorem dX11_set_50 : decode cX11_set 50 = .ok (.ireturn, 1) := by decide +kernel
theorem dX11_fewest_0 : decode cX11_fewest 0 = .ok (.iload_n 1, 1) := by decide +kernel
theorem dX11_fewest_1 : decode cX11_fewest 1 = .ok (.iconst 0, 1) := by decide +kernel
theorem dX11_fewest_2 : decode cX11_fewest 2 = .ok (.iconst 3, 1) := by decide +kernel
theorem dX11_fewest_3 : decode cX11_fewest 3 = .ok (.invokestatic 71, 3) := by decide +kernel
theorem dX11_fewest_6 : decode cX11_fewest 6 = .ok (.ifCond .ne 6, 3) := by decide +kernel
theorem dX11_fewest_9 : decode cX11_fewest 9 = .ok (.bipush (-3), 2) := by decide +kernel
theorem dX11_fewest_11 : decode cX11_fewest 11 = .ok (.ireturn, 1) := by decide +kernel
theorem dX11_fewest_12 : decode cX11_fewest 12 = .ok (.aload_n 0, 1) := by decide +kernel
theorem dX11_fewest_13 : decode cX11_fewest 13 = .ok (.getfield 56, 3) := by decide +kernel
theorem dX11_fewest_16 : decode cX11_fewest 16 = .ok (.invokevirtual 318, 3) := by decide +kernel
theorem dX11_fewest_19 : decode cX11_fewest 19 = .ok (.aload_n 0, 1) := by decide +kernel
theorem dX11_fewest_20 : decode cX11_fewest 20 = .ok (.getfield 56, 3) := by decide +kernel
theorem dX11_fewest_23 : decode cX11_fewest 23 = .ok (.getfield 321, 3) := by decide +kernel
theorem dX11_fewest_26 : decode cX11_fewest 26 = .ok (.iconst (-1), 1) := by decide +kernel
theorem dX11_fewest_27 : decode cX11_fewest 27 = .ok (.if_icmp .ne 5, 3) := by decide +kernel
theorem dX11_fewest_30 : decode cX11_fewest 30 = .ok (.iconst (-1), 1) := by decide +kernel
theorem dX11_fewest_31 : decode cX11_fewest 31 = .ok (.ireturn, 1) := by decide +kernel
theorem dX11_fewest_32 : decode cX11_fewest 32 = .ok (.iload_n 1, 1) := by decide +kernel
theorem dX11_fewest_33 : decode cX11_fewest 33 = .ok (.ifCond .ne 13, 3) := by decide +kernel
theorem dX11_fewest_36 : decode cX11_fewest 36 = .ok (.aload_n 0, 1) := by decide +kernel
theorem dX11_fewest_37 : decode cX11_fewest 37 = .ok (.getfield 56, 3) := by decide +kernel
theorem dX11_fewest_40 : decode cX11_fewest 40 = .ok (.getfield 321, 3) := by decide +kernel
theorem dX11_fewest_43 : decode cX11_fewest 43 = .ok (.goto 14, 3) := by decide +kernel
theorem dX11_fewest_46 : decode cX11_fewest 46 = .ok (.aload_n 0, 1) := by decide +kernel
theorem dX11_fewest_47 : decode cX11_fewest 47 = .ok (.getfield 56, 3) := by decide +kernel
theorem dX11_fewest_50 : decode cX11_fewest 50 = .ok (.getfield 324, 3) := by decide +kernel
theorem dX11_fewest_53 : decode cX11_fewest 53 = .ok (.iload_n 1, 1) := by decide +kernel
theorem dX11_fewest_54 : decode cX11_fewest 54 = .ok (.iconst 1, 1) := by decide +kernel
theorem dX11_fewest_55 : decode cX11_fewest 55 = .ok (.isub, 1) := by decide +kernel
theorem dX11_fewest_56 : decode cX11_fewest 56 = .ok (.iaload, 1) := by decide +kernel
theorem dX11_fewest_57 : decode cX11_fewest 57 = .ok (.ireturn, 1) := by decide +kernel
theorem dX11_waits_0 : decode cX11_waits 0 = .ok (.iload_n 1, 1) := by decide +kernel
theorem dX11_waits_1 : decode cX11_waits 1 = .ok (.iconst 0, 1) := by decide +kernel
theorem dX11_waits_2 : decode cX11_waits 2 = .ok (.bipush 15, 2) := by decide +kernel
theorem dX11_waits_4 : decode cX11_waits 4 = .ok (.invokestatic 71, 3) := by decide +kernel
theorem dX11_waits_7 : decode cX11_waits 7 = .ok (.ifCond .eq 23, 3) := by decide +kernel
theorem dX11_waits_10 : decode cX11_waits 10 = .ok (.iload_n 2, 1) := by decide +kernel
theorem dX11_waits_11 : decode cX11_waits 11 = .ok (.iconst 0, 1) := by decide +kernel
theorem dX11_waits_12 : decode cX11_waits 12 = .ok (.bipush 15, 2) := by decide +kernel
theorem dX11_waits_14 : decode cX11_waits 14 = .ok (.invokestatic 71, 3) := by decide +kernel
theorem dX11_waits_17 : decode cX11_waits 17 = .ok (.ifCond .eq 13, 3) := by decide +kernel
theorem dX11_waits_20 : decode cX11_waits 20 = .ok (.iload_n 3, 1) := by decide +kernel
theorem dX11_waits_21 : decode cX11_waits 21 = .ok (.iconst 0, 1) := by decide +kernel
theorem dX11_waits_22 : decode cX11_waits 22 = .ok (.bipush 15, 2) := by decide +kernel
theorem dX11_waits_24 : decode cX11_waits 24 = .ok (.invokestatic 71, 3) := by decide +kernel
theorem dX11_waits_27 : decode cX11_waits 27 = .ok (.ifCond .ne 6, 3) := by decide +kernel
theorem dX11_waits_30 : decode cX11_waits 30 = .ok (.bipush (-3), 2) := by decide +kernel
theorem dX11_waits_32 : decode cX11_waits 32 = .ok (.ireturn, 1) := by decide +kernel
theorem dX11_waits_33 : decode cX11_waits 33 = .ok (.aload_n 0, 1) := by decide +kernel
theorem dX11_waits_34 : decode cX11_waits 34 = .ok (.getfield 56, 3) := by decide +kernel
theorem dX11_waits_37 : decode cX11_waits 37 = .ok (.iload_n 1, 1) := by decide +kernel
theorem dX11_waits_38 : decode cX11_waits 38 = .ok (.iload_n 2, 1) := by decide +kernel
theorem dX11_waits_39 : decode cX11_waits 39 = .ok (.iload_n 3, 1) := by decide +kernel
theorem dX11_waits_40 : decode cX11_waits 40 = .ok (.invokevirtual 327, 3) := by decide +kernel
theorem dX11_waits_43 : decode cX11_waits 43 = .ok (.ireturn, 1) := by decide +kernel
theorem dX11_door_0 : decode cX11_door 0 = .ok (.iload_n 1, 1) := by decide +kernel
theorem dX11_door_1 : decode cX11_door 1 = .ok (.iconst 0, 1) := by decide +kernel
theorem dX11_door_2 : decode cX11_door 2 = .ok (.bipush 20, 2) := by decide +kernel
theorem dX11_door_4 : decode cX11_door 4 = .ok (.invokestatic 71, 3) := by decide +kernel
theorem dX11_door_7 : decode cX11_door 7 = .ok (.ifCond .eq 24, 3) := by decide +kernel
theorem dX11_door_10 : decode cX11_door 10 = .ok (.iload_n 2, 1) := by decide +kernel
theorem dX11_door_11 : decode cX11_door 11 = .ok (.iconst 0, 1) := by decide +kernel
theorem dX11_door_12 : decode cX11_door 12 = .ok (.bipush 20, 2) := by decide +kernel
theorem dX11_door_14 : decode cX11_door 14 = .ok (.invokestatic 71, 3) := by decide +kernel
theorem dX11_door_17 : decode cX11_door 17 = .ok (.ifCond .eq 14, 3) := by decide +kernel
theorem dX11_door_20 : decode cX11_door 20 = .ok (.iload_n 3, 1) := by decide +kernel
theorem dX11_door_21 : decode cX11_door 21 = .ok (.iconst 0, 1) := by decide +kernel
theorem dX11_door_22 : decode cX11_door 22 = .ok (.sipush 200, 3) := by decide +kernel
theorem dX11_door_25 : decode cX11_door 25 = .ok (.invokestatic 71, 3) := by decide +kernel
theorem dX11_door_28 : decode cX11_door 28 = .ok (.ifCond .ne 6, 3) := by decide +kernel
theorem dX11_door_31 : decode cX11_door 31 = .ok (.bipush (-3), 2) := by decide +kernel
theorem dX11_door_33 : decode cX11_door 33 = .ok (.ireturn, 1) := by decide +kernel
theorem dX11_door_34 : decode cX11_door 34 = .ok (.aload_n 0, 1) := by decide +kernel
theorem dX11_door_35 : decode cX11_door 35 = .ok (.getfield 63, 3) := by decide +kernel
theorem dX11_door_38 : decode cX11_door 38 = .ok (.getfield 331, 3) := by decide +kernel
theorem dX11_door_41 : decode cX11_door 41 = .ok (.bipush 6, 2) := by decide +kernel
theorem dX11_door_43 : decode cX11_door 43 = .ok (.if_icmp .ne 6, 3) := by decide +kernel
theorem dX11_door_46 : decode cX11_door 46 = .ok (.bipush (-5), 2) := by decide +kernel
theorem dX11_door_48 : decode cX11_door 48 = .ok (.ireturn, 1) := by decide +kernel
theorem dX11_door_49 : decode cX11_door 49 = .ok (.aload_n 0, 1) := by decide +kernel
theorem dX11_door_50 : decode cX11_door 50 = .ok (.getfield 63, 3) := by decide +kernel
theorem dX11_door_53 : decode cX11_door 53 = .ok (.iload_n 1, 1) := by decide +kernel
theorem dX11_door_54 : decode cX11_door 54 = .ok (.iload_n 2, 1) := by decide +kernel
theorem dX11_door_55 : decode cX11_door 55 = .ok (.iload_n 3, 1) := by decide +kernel
theorem dX11_door_56 : decode cX11_door 56 = .ok (.invokevirtual 332, 3) := by decide +kernel
theorem dX11_door_59 : decode cX11_door 59 = .ok (.ireturn, 1) := by decide +kernel
theorem dX11_clear_0 : decode cX11_clear 0 = .ok (.aload_n 0, 1) := by decide +kernel
theorem dX11_clear_1 : decode cX11_clear 1 = .ok (.getfield 63, 3) := by decide +kernel
theorem dX11_clear_4 : decode cX11_clear 4 = .ok (.getfield 331, 3) := by decide +kernel
theorem dX11_clear_7 : decode cX11_clear 7 = .ok (.istore_n 1, 1) := by decide +kernel
theorem dX11_clear_8 : decode cX11_clear 8 = .ok (.aload_n 0, 1) := by decide +kernel
theorem dX11_clear_9 : decode cX11_clear 9 = .ok (.getfield 63, 3) := by decide +kernel
theorem dX11_clear_12 : decode cX11_clear 12 = .ok (.iconst 0, 1) := by decide +kernel
theorem dX11_clear_13 : decode cX11_clear 13 = .ok (.putfield 331, 3) := by decide +kernel
theorem dX11_clear_16 : decode cX11_clear 16 = .ok (.aload_n 0, 1) := by decide +kernel
theorem dX11_clear_17 : decode cX11_clear 17 = .ok (.getfield 63, 3) := by decide +kernel
theorem dX11_clear_20 : decode cX11_clear 20 = .ok (.iconst 0, 1) := by decide +kernel
theorem dX11_clear_21 : decode cX11_clear 21 = .ok (.putfield 335, 3) := by decide +kernel
theorem dX11_clear_24 : decode cX11_clear 24 = .ok (.iload_n 1, 1) := by decide +kernel
theorem dX11_clear_25 : decode cX11_clear 25 = .ok (.ireturn, 1) := by decide +kernel
theorem dX11_round_0 : decode cX11_round 0 = .ok (.iload_n 1, 1) := by decide +kernel
theorem dX11_round_1 : decode cX11_round 1 = .ok (.ifCond .ge 6, 3) := by decide +kernel
theorem dX11_round_4 : decode cX11_round 4 = .ok (.bipush (-3), 2) := by decide +kernel
theorem dX11_round_6 : decode cX11_round 6 = .ok (.ireturn, 1) := by decide +kernel
theorem dX11_round_7 : decode cX11_round 7 = .ok (.aload_n 0, 1) := by decide +kernel
theorem dX11_round_8 : decode cX11_round 8 = .ok (.getfield 63, 3) := by decide +kernel
theorem dX11_round_11 : decode cX11_round 11 = .ok (.invokevirtual 336, 3) := by decide +kernel
theorem dX11_round_14 : decode cX11_round 14 = .ok (.iload_n 1, 1) := by decide +kernel
theorem dX11_round_15 : decode cX11_round 15 = .ok (.ifCond .ne 11, 3) := by decide +kernel
theorem dX11_round_18 : decode cX11_round 18 = .ok (.aload_n 0, 1) := by decide +kernel
theorem dX11_round_19 : decode cX11_round 19 = .ok (.getfield 63, 3) := by decide +kernel
theorem dX11_round_22 : decode cX11_round 22 = .ok (.getfield 337, 3) := by decide +kernel
theorem dX11_round_25 : decode cX11_round 25 = .ok (.ireturn, 1) := by decide +kernel
theorem dX11_round_26 : decode cX11_round 26 = .ok (.iload_n 1, 1) := by decide +kernel
theorem dX11_round_27 : decode cX11_round 27 = .ok (.iconst 1, 1) := by decide +kernel
theorem dX11_round_28 : decode cX11_round 28 = .ok (.if_icmp .ne 11, 3) := by decide +kernel
theorem dX11_round_31 : decode cX11_round 31 = .ok (.aload_n 0, 1) := by decide +kernel
theorem dX11_round_32 : decode cX11_round 32 = .ok (.getfield 63, 3) := by decide +kernel
theorem dX11_round_35 : decode cX11_round 35 = .ok (.getfield 340, 3) := by decide +kernel
theorem dX11_round_38 : decode cX11_round 38 = .ok (.ireturn, 1) := by decide +kernel
theorem dX11_round_39 : decode cX11_round 39 = .ok (.iload_n 1, 1) := by decide +kernel
theorem dX11_round_40 : decode cX11_round 40 = .ok (.iconst 2, 1) := by decide +kernel
theorem dX11_round_41 : decode cX11_round 41 = .ok (.isub, 1) := by decide +kernel
theorem dX11_round_42 : decode cX11_round 42 = .ok (.aload_n 0, 1) := by decide +kernel
theorem dX11_round_43 : decode cX11_round 43 = .ok (.getfield 63, 3) := by decide +kernel
theorem dX11_round_46 : decode cX11_round 46 = .ok (.getfield 331, 3) := by decide +kernel
theorem dX11_round_49 : decode cX11_round 49 = .ok (.if_icmp .ge 17, 3) := by decide +kernel
theorem dX11_round_52 : decode cX11_round 52 = .ok (.aload_n 0, 1) := by decide +kernel
theorem dX11_round_53 : decode cX11_round 53 = .ok (.getfield 63, 3) := by decide +kernel
theorem dX11_round_56 : decode cX11_round 56 = .ok (.getfield 343, 3) := by decide +kernel
theorem dX11_round_59 : decode cX11_round 59 = .ok (.iload_n 1, 1) := by decide +kernel
theorem dX11_round_60 : decode cX11_round 60 = .ok (.iconst 2, 1) := by decide +kernel
theorem dX11_round_61 : decode cX11_round 61 = .ok (.isub, 1) := by decide +kernel
theorem dX11_round_62 : decode cX11_round 62 = .ok (.iaload, 1) := by decide +kernel
theorem dX11_round_63 : decode cX11_round 63 = .ok (.goto 4, 3) := by decide +kernel
theorem dX11_round_66 : decode cX11_round 66 = .ok (.iconst (-1), 1) := by decide +kernel
theorem dX11_round_67 : decode cX11_round 67 = .ok (.ireturn, 1) := by decide +kernel
theorem dX11_count_0 : decode cX11_count 0 = .ok (.iload_n 1, 1) := by decide +kernel
theorem dX11_count_1 : decode cX11_count 1 = .ok (.tableswitch 149 0 10 #[59, 67, 75, 83, 92, 101, 109, 117, 125, 133, 141], 59) := by decide +kernel
theorem dX11_count_60 : decode cX11_count 60 = .ok (.aload_n 0, 1) := by decide +kernel
theorem dX11_count_61 : decode cX11_count 61 = .ok (.getfield 28, 3) := by decide +kernel
theorem dX11_count_64 : decode cX11_count 64 = .ok (.getfield 105, 3) := by decide +kernel
theorem dX11_count_67 : decode cX11_count 67 = .ok (.ireturn, 1) := by decide +kernel
theorem dX11_count_68 : decode cX11_count 68 = .ok (.aload_n 0, 1) := by decide +kernel
theorem dX11_count_69 : decode cX11_count 69 = .ok (.getfield 10, 3) := by decide +kernel
theorem dX11_count_72 : decode cX11_count 72 = .ok (.getfield 86, 3) := by decide +kernel
theorem dX11_count_75 : decode cX11_count 75 = .ok (.ireturn, 1) := by decide +kernel
theorem dX11_count_76 : decode cX11_count 76 = .ok (.aload_n 0, 1) := by decide +kernel
theorem dX11_count_77 : decode cX11_count 77 = .ok (.getfield 28, 3) := by decide +kernel
theorem dX11_count_80 : decode cX11_count 80 = .ok (.getfield 111, 3) := by decide +kernel
theorem dX11_count_83 : decode cX11_count 83 = .ok (.ireturn, 1) := by decide +kernel
theorem dX11_count_84 : decode cX11_count 84 = .ok (.aload_n 0, 1) := by decide +kernel
theorem dX11_count_85 : decode cX11_count 85 = .ok (.getfield 28, 3) := by decide +kernel
theorem dX11_count_88 : decode cX11_count 88 = .ok (.iconst 2, 1) := by decide +kernel
theorem dX11_count_89 : decode cX11_count 89 = .ok (.invokevirtual 189, 3) := by decide +kernel
theorem dX11_count_92 : decode cX11_count 92 = .ok (.ireturn, 1) := by decide +kernel
theorem dX11_count_93 : decode cX11_count 93 = .ok (.aload_n 0, 1) := by decide +kernel
theorem dX11_count_94 : decode cX11_count 94 = .ok (.getfield 28, 3) := by decide +kernel
theorem dX11_count_97 : decode cX11_count 97 = .ok (.iconst 1, 1) := by decide +kernel
theorem dX11_count_98 : decode cX11_count 98 = .ok (.invokevirtual 189, 3) := by decide +kernel
theorem dX11_count_101 : decode cX11_count 101 = .ok (.ireturn, 1) := by decide +kernel
theorem dX11_count_102 : decode cX11_count 102 = .ok (.aload_n 0, 1) := by decide +kernel
theorem dX11_count_103 : decode cX11_count 103 = .ok (.getfield 28, 3) := by decide +kernel
theorem dX11_count_106 : decode cX11_count 106 = .ok (.invokevirtual 346, 3) := by decide +kernel
theorem dX11_count_109 : decode cX11_count 109 = .ok (.ireturn, 1) := by decide +kernel
theorem dX11_count_110 : decode cX11_count 110 = .ok (.aload_n 0, 1) := by decide +kernel
theorem dX11_count_111 : decode cX11_count 111 = .ok (.getfield 19, 3) := by decide +kernel
theorem dX11_count_114 : decode cX11_count 114 = .ok (.getfield 211, 3) := by decide +kernel
theorem dX11_count_117 : decode cX11_count 117 = .ok (.ireturn, 1) := by decide +kernel
theorem dX11_count_118 : decode cX11_count 118 = .ok (.aload_n 0, 1) := by decide +kernel
theorem dX11_count_119 : decode cX11_count 119 = .ok (.getfield 35, 3) := by decide +kernel
theorem dX11_count_122 : decode cX11_count 122 = .ok (.getfield 196, 3) := by decide +kernel
theorem dX11_count_125 : decode cX11_count 125 = .ok (.ireturn, 1) := by decide +kernel
theorem dX11_count_126 : decode cX11_count 126 = .ok (.aload_n 0, 1) := by decide +kernel
theorem dX11_count_127 : decode cX11_count 127 = .ok (.getfield 49, 3) := by decide +kernel
theorem dX11_count_130 : decode cX11_count 130 = .ok (.getfield 278, 3) := by decide +kernel
theorem dX11_count_133 : decode cX11_count 133 = .ok (.ireturn, 1) := by decide +kernel
theorem dX11_count_134 : decode cX11_count 134 = .ok (.aload_n 0, 1) := by decide +kernel
theorem dX11_count_135 : decode cX11_count 135 = .ok (.getfield 63, 3) := by decide +kernel
theorem dX11_count_138 : decode cX11_count 138 = .ok (.getfield 331, 3) := by decide +kernel
theorem dX11_count_141 : decode cX11_count 141 = .ok (.ireturn, 1) := by decide +kernel
theorem dX11_count_142 : decode cX11_count 142 = .ok (.aload_n 0, 1) := by decide +kernel
theorem dX11_count_143 : decode cX11_count 143 = .ok (.getfield 42, 3) := by decide +kernel
theorem dX11_count_146 : decode cX11_count 146 = .ok (.invokevirtual 271, 3) := by decide +kernel
theorem dX11_count_149 : decode cX11_count 149 = .ok (.ireturn, 1) := by decide +kernel
theorem dX11_count_150 : decode cX11_count 150 = .ok (.bipush (-3), 2) := by decide +kernel
theorem dX11_count_152 : decode cX11_count 152 = .ok (.ireturn, 1) := by decide +kernel
theorem dX11_stopWire_0 : decode cX11_stopWire 0 = .ok (.aload_n 0, 1) := by decide +kernel
theorem dX11_stopWire_1 : decode cX11_stopWire 1 = .ok (.iload_n 2, 1) := by decide +kernel
theorem dX11_stopWire_2 : decode cX11_stopWire 2 = .ok (.invokevirtual 156, 3) := by decide +kernel
theorem dX11_stopWire_5 : decode cX11_stopWire 5 = .ok (.ifCond .ne 6, 3) := by decide +kernel
theorem dX11_stopWire_8 : decode cX11_stopWire 8 = .ok (.bipush (-2), 2) := by decide +kernel
theorem dX11_stopWire_10 : decode cX11_stopWire 10 = .ok (.ireturn, 1) := by decide +kernel
theorem dX11_stopWire_11 : decode cX11_stopWire 11 = .ok (.iload_n 3, 1) := by decide +kernel
theorem dX11_stopWire_12 : decode cX11_stopWire 12 = .ok (.aload_n 0, 1) := by decide +kernel
theorem dX11_stopWire_13 : decode cX11_stopWire 13 = .ok (.getfield 28, 3) := by decide +kernel
theorem dX11_stopWire_16 : decode cX11_stopWire 16 = .ok (.getfield 105, 3) := by decide +kernel
theorem dX11_stopWire_19 : decode cX11_stopWire 19 = .ok (.sipush 9000, 3) := by decide +kernel
theorem dX11_stopWire_22 : decode cX11_stopWire 22 = .ok (.invokestatic 71, 3) := by decide +kernel
theorem dX11_stopWire_25 : decode cX11_stopWire 25 = .ok (.ifCond .eq 15, 3) := by decide +kernel
theorem dX11_stopWire_28 : decode cX11_stopWire 28 = .ok (.iload 4, 2) := by decide +kernel
theorem dX11_stopWire_30 : decode cX11_stopWire 30 = .ok (.iload_n 3, 1) := by decide +kernel
theorem dX11_stopWire_31 : decode cX11_stopWire 31 = .ok (.sipush 9000, 3) := by decide +kernel
theorem dX11_stopWire_34 : decode cX11_stopWire 34 = .ok (.invokestatic 71, 3) := by decide +kernel
theorem dX11_stopWire_37 : decode cX11_stopWire 37 = .ok (.ifCond .ne 6, 3) := by decide +kernel
theorem dX11_stopWire_40 : decode cX11_stopWire 40 = .ok (.bipush (-3), 2) := by decide +kernel
theorem dX11_stopWire_42 : decode cX11_stopWire 42 = .ok (.ireturn, 1) := by decide +kernel
theorem dX11_stopWire_43 : decode cX11_stopWire 43 = .ok (.aload_n 1, 1) := by decide +kernel
theorem dX11_stopWire_44 : decode cX11_stopWire 44 = .ok (.getfield 349, 3) := by decide +kernel
theorem dX11_stopWire_47 : decode cX11_stopWire 47 = .ok (.aload_n 1, 1) := by decide +kernel
theorem dX11_stopWire_48 : decode cX11_stopWire 48 = .ok (.getfield 352, 3) := by decide +kernel
theorem dX11_stopWire_51 : decode cX11_stopWire 51 = .ok (.arraylength, 1) := by decide +kernel
theorem dX11_stopWire_52 : decode cX11_stopWire 52 = .ok (.if_icmp .ne 6, 3) := by decide +kernel
theorem dX11_stopWire_55 : decode cX11_stopWire 55 = .ok (.bipush (-5), 2) := by decide +kernel
theorem dX11_stopWire_57 : decode cX11_stopWire 57 = .ok (.ireturn, 1) := by decide +kernel
theorem dX11_stopWire_58 : decode cX11_stopWire 58 = .ok (.aload_n 1, 1) := by decide +kernel
theorem dX11_stopWire_59 : decode cX11_stopWire 59 = .ok (.iload_n 2, 1) := by decide +kernel
theorem dX11_stopWire_60 : decode cX11_stopWire 60 = .ok (.iload_n 3, 1) := by decide +kernel
theorem dX11_stopWire_61 : decode cX11_stopWire 61 = .ok (.iload 4, 2) := by decide +kernel
theorem dX11_stopWire_63 : decode cX11_stopWire 63 = .ok (.invokevirtual 354, 3) := by decide +kernel
theorem dX11_stopWire_66 : decode cX11_stopWire 66 = .ok (.ireturn, 1) := by decide +kernel
theorem dX11_isWire_0 : decode cX11_isWire 0 = .ok (.iload_n 1, 1) := by decide +kernel
theorem dX11_isWire_1 : decode cX11_isWire 1 = .ok (.iconst 0, 1) := by decide +kernel
theorem dX11_isWire_2 : decode cX11_isWire 2 = .ok (.aload_n 0, 1) := by decide +kernel
theorem dX11_isWire_3 : decode cX11_isWire 3 = .ok (.getfield 10, 3) := by decide +kernel
theorem dX11_isWire_6 : decode cX11_isWire 6 = .ok (.getfield 86, 3) := by decide +kernel
theorem dX11_isWire_9 : decode cX11_isWire 9 = .ok (.iconst 1, 1) := by decide +kernel
theorem dX11_isWire_10 : decode cX11_isWire 10 = .ok (.isub, 1) := by decide +kernel
theorem dX11_isWire_11 : decode cX11_isWire 11 = .ok (.invokestatic 71, 3) := by decide +kernel
theorem dX11_isWire_14 : decode cX11_isWire 14 = .ok (.ireturn, 1) := by decide +kernel
theorem dX11_isMessage_0 : decode cX11_isMessage 0 = .ok (.iload_n 1, 1) := by decide +kernel
theorem dX11_isMessage_1 : decode cX11_isMessage 1 = .ok (.iconst 0, 1) := by decide +kernel
theorem dX11_isMessage_2 : decode cX11_isMessage 2 = .ok (.aload_n 0, 1) := by decide +kernel
theorem dX11_isMessage_3 : decode cX11_isMessage 3 = .ok (.getfield 28, 3) := by decide +kernel
theorem dX11_isMessage_6 : decode cX11_isMessage 6 = .ok (.getfield 111, 3) := by decide +kernel
theorem dX11_isMessage_9 : decode cX11_isMessage 9 = .ok (.iconst 1, 1) := by decide +kernel
theorem dX11_isMessage_10 : decode cX11_isMessage 10 = .ok (.isub, 1) := by decide +kernel
theorem dX11_isMessage_11 : decode cX11_isMessage 11 = .ok (.invokestatic 71, 3) := by decide +kernel
theorem dX11_isMessage_14 : decode cX11_isMessage 14 = .ok (.ireturn, 1) := by decide +kernel
theorem dX11_isRow_0 : decode cX11_isRow 0 = .ok (.iload_n 1, 1) := by decide +kernel
theorem dX11_isRow_1 : decode cX11_isRow 1 = .ok (.iconst 0, 1) := by decide +kernel
theorem dX11_isRow_2 : decode cX11_isRow 2 = .ok (.aload_n 0, 1) := by decide +kernel
theorem dX11_isRow_3 : decode cX11_isRow 3 = .ok (.getfield 49, 3) := by decide +kernel
theorem dX11_isRow_6 : decode cX11_isRow 6 = .ok (.getfield 278, 3) := by decide +kernel
theorem dX11_isRow_9 : decode cX11_isRow 9 = .ok (.iconst 1, 1) := by decide +kernel
theorem dX11_isRow_10 : decode cX11_isRow 10 = .ok (.isub, 1) := by decide +kernel
theorem dX11_isRow_11 : decode cX11_isRow 11 = .ok (.invokestatic 71, 3) := by decide +kernel
theorem dX11_isRow_14 : decode cX11_isRow 14 = .ok (.ireturn, 1) := by decide +kernel
theorem dX11_isOffice_0 : decode cX11_isOffice 0 = .ok (.iload_n 0, 1) := by decide +kernel
theorem dX11_isOffice_1 : decode cX11_isOffice 1 = .ok (.iconst 0, 1) := by decide +kernel
theorem dX11_isOffice_2 : decode cX11_isOffice 2 = .ok (.bipush 7, 2) := by decide +kernel
theorem dX11_isOffice_4 : decode cX11_isOffice 4 = .ok (.invokestatic 71, 3) := by decide +kernel
theorem dX11_isOffice_7 : decode cX11_isOffice 7 = .ok (.ireturn, 1) := by decide +kernel
theorem dX11_isWithin_0 : decode cX11_isWithin 0 = .ok (.iload_n 0, 1) := by decide +kernel
theorem dX11_isWithin_1 : decode cX11_isWithin 1 = .ok (.iload_n 1, 1) := by decide +kernel
theorem dX11_isWithin_2 : decode cX11_isWithin 2 = .ok (.if_icmp .lt 12, 3) := by decide +kernel
theorem dX11_isWithin_5 : decode cX11_isWithin 5 = .ok (.iload_n 0, 1) := by decide +kernel
theorem dX11_isWithin_6 : decode cX11_isWithin 6 = .ok (.iload_n 2, 1) := by decide +kernel
theorem dX11_isWithin_7 : decode cX11_isWithin 7 = .ok (.if_icmp .gt 7, 3) := by decide +kernel
theorem dX11_isWithin_10 : decode cX11_isWithin 10 = .ok (.iconst 1, 1) := by decide +kernel
theorem dX11_isWithin_11 : decode cX11_isWithin 11 = .ok (.goto 4, 3) := by decide +kernel
theorem dX11_isWithin_14 : decode cX11_isWithin 14 = .ok (.iconst 0, 1) := by decide +kernel
theorem dX11_isWithin_15 : decode cX11_isWithin 15 = .ok (.ireturn, 1) := by decide +kernel
theorem dX11_isIn_0 : decode cX11_isIn 0 = .ok (.iload_n 0, 1) := by decide +kernel
theorem dX11_isIn_1 : decode cX11_isIn 1 = .ok (.iload_n 1, 1) := by decide +kernel
theorem dX11_isIn_2 : decode cX11_isIn 2 = .ok (.ishr, 1) := by decide +kernel
theorem dX11_isIn_3 : decode cX11_isIn 3 = .ok (.iconst 1, 1) := by decide +kernel
theorem dX11_isIn_4 : decode cX11_isIn 4 = .ok (.iand, 1) := by decide +kernel
theorem dX11_isIn_5 : decode cX11_isIn 5 = .ok (.ifCond .eq 7, 3) := by decide +kernel
theorem dX11_isIn_8 : decode cX11_isIn 8 = .ok (.iconst 1, 1) := by decide +kernel
theorem dX11_isIn_9 : decode cX11_isIn 9 = .ok (.goto 4, 3) := by decide +kernel
theorem dX11_isIn_12 : decode cX11_isIn 12 = .ok (.iconst 0, 1) := by decide +kernel
theorem dX11_isIn_13 : decode cX11_isIn 13 = .ok (.ireturn, 1) := by decide +kernel
theorem dX11_byteOf_0 : decode cX11_byteOf 0 = .ok (.lload_n 0, 1) := by decide +kernel
theorem dX11_byteOf_1 : decode cX11_byteOf 1 = .ok (.bipush 8, 2) := by decide +kernel
theorem dX11_byteOf_3 : decode cX11_byteOf 3 = .ok (.iload_n 2, 1) := by decide +kernel
theorem dX11_byteOf_4 : decode cX11_byteOf 4 = .ok (.imul, 1) := by decide +kernel
theorem dX11_byteOf_5 : decode cX11_byteOf 5 = .ok (.lshr, 1) := by decide +kernel
theorem dX11_byteOf_6 : decode cX11_byteOf 6 = .ok (.ldc2_w 355, 3) := by decide +kernel
theorem dX11_byteOf_9 : decode cX11_byteOf 9 = .ok (.land, 1) := by decide +kernel
theorem dX11_byteOf_10 : decode cX11_byteOf 10 = .ok (.l2i, 1) := by decide +kernel
theorem dX11_byteOf_11 : decode cX11_byteOf 11 = .ok (.ireturn, 1) := by decide +kernel
theorem dX11_isWord_0 : decode cX11_isWord 0 = .ok (.iload_n 2, 1) := by decide +kernel
theorem dX11_isWord_1 : decode cX11_isWord 1 = .ok (.iconst 1, 1) := by decide +kernel
theorem dX11_isWord_2 : decode cX11_isWord 2 = .ok (.bipush 8, 2) := by decide +kernel
theorem dX11_isWord_4 : decode cX11_isWord 4 = .ok (.invokestatic 71, 3) := by decide +kernel
theorem dX11_isWord_7 : decode cX11_isWord 7 = .ok (.ifCond .ne 5, 3) := by decide +kernel
theorem dX11_isWord_10 : decode cX11_isWord 10 = .ok (.iconst 0, 1) := by decide +kernel
theorem dX11_isWord_11 : decode cX11_isWord 11 = .ok (.ireturn, 1) := by decide +kernel
theorem dX11_isWord_12 : decode cX11_isWord 12 = .ok (.iconst 0, 1) := by decide +kernel
theorem dX11_isWord_13 : decode cX11_isWord 13 = .ok (.istore_n 3, 1) := by decide +kernel
theorem dX11_isWord_14 : decode cX11_isWord 14 = .ok (.iload_n 3, 1) := by decide +kernel
theorem dX11_isWord_15 : decode cX11_isWord 15 = .ok (.iload_n 2, 1) := by decide +kernel
theorem dX11_isWord_16 : decode cX11_isWord 16 = .ok (.if_icmp .ge 26, 3) := by decide +kernel
theorem dX11_isWord_19 : decode cX11_isWord 19 = .ok (.lload_n 0, 1) := by decide +kernel
theorem dX11_isWord_20 : decode cX11_isWord 20 = .ok (.iload_n 3, 1) := by decide +kernel
theorem dX11_isWord_21 : decode cX11_isWord 21 = .ok (.invokestatic 357, 3) := by decide +kernel
theorem dX11_isWord_24 : decode cX11_isWord 24 = .ok (.bipush 97, 2) := by decide +kernel
theorem dX11_isWord_26 : decode cX11_isWord 26 = .ok (.bipush 122, 2) := by decide +kernel
theorem dX11_isWord_28 : decode cX11_isWord 28 = .ok (.invokestatic 71, 3) := by decide +kernel
theorem dX11_isWord_31 : decode cX11_isWord 31 = .ok (.ifCond .ne 5, 3) := by decide +kernel
theorem dX11_isWord_34 : decode cX11_isWord 34 = .ok (.iconst 0, 1) := by decide +kernel
theorem dX11_isWord_35 : decode cX11_isWord 35 = .ok (.ireturn, 1) := by decide +kernel
theorem dX11_isWord_36 : decode cX11_isWord 36 = .ok (.iinc 3 1, 3) := by decide +kernel
theorem dX11_isWord_39 : decode cX11_isWord 39 = .ok (.goto (-25), 3) := by decide +kernel
theorem dX11_isWord_42 : decode cX11_isWord 42 = .ok (.iconst 1, 1) := by decide +kernel
theorem dX11_isWord_43 : decode cX11_isWord 43 = .ok (.ireturn, 1) := by decide +kernel
theorem dX11_hourOf_0 : decode cX11_hourOf 0 = .ok (.iload_n 0, 1) := by decide +kernel
theorem dX11_hourOf_1 : decode cX11_hourOf 1 = .ok (.sipush 1440, 3) := by decide +kernel
theorem dX11_hourOf_4 : decode cX11_hourOf 4 = .ok (.irem, 1) := by decide +kernel
theorem dX11_hourOf_5 : decode cX11_hourOf 5 = .ok (.bipush 60, 2) := by decide +kernel
theorem dX11_hourOf_7 : decode cX11_hourOf 7 = .ok (.idiv, 1) := by decide +kernel
theorem dX11_hourOf_8 : decode cX11_hourOf 8 = .ok (.ireturn, 1) := by decide +kernel
theorem dX11_mostKindTold_0 : decode cX11_mostKindTold 0 = .ok (.iload_n 0, 1) := by decide +kernel
theorem dX11_mostKindTold_1 : decode cX11_mostKindTold 1 = .ok (.iconst 5, 1) := by decide +kernel
theorem dX11_mostKindTold_2 : decode cX11_mostKindTold 2 = .ok (.if_icmp .ne 6, 3) := by decide +kernel
theorem dX11_mostKindTold_5 : decode cX11_mostKindTold 5 = .ok (.bipush 23, 2) := by decide +kernel
theorem dX11_mostKindTold_7 : decode cX11_mostKindTold 7 = .ok (.ireturn, 1) := by decide +kernel
theorem dX11_mostKindTold_8 : decode cX11_mostKindTold 8 = .ok (.iload_n 0, 1) := by decide +kernel
theorem dX11_mostKindTold_9 : decode cX11_mostKindTold 9 = .ok (.iconst 2, 1) := by decide +kernel
theorem dX11_mostKindTold_10 : decode cX11_mostKindTold 10 = .ok (.if_icmp .gt 7, 3) := by decide +kernel
theorem dX11_mostKindTold_13 : decode cX11_mostKindTold 13 = .ok (.iconst 4, 1) := by decide +kernel
theorem dX11_mostKindTold_14 : decode cX11_mostKindTold 14 = .ok (.goto 4, 3) := by decide +kernel
theorem dX11_mostKindTold_17 : decode cX11_mostKindTold 17 = .ok (.iconst 0, 1) := by decide +kernel
theorem dX11_mostKindTold_18 : decode cX11_mostKindTold 18 = .ok (.ireturn, 1) := by decide +kernel
theorem dL_law_0 : decode cL_law 0 = .ok (.new 7, 3) := by decide +kernel
theorem dL_law_3 : decode cL_law 3 = .ok (.dup, 1) := by decide +kernel
theorem dL_law_4 : decode cL_law 4 = .ok (.invokespecial 9, 3) := by decide +kernel
theorem dL_law_7 : decode cL_law 7 = .ok (.astore_n 1, 1) := by decide +kernel
theorem dL_law_8 : decode cL_law 8 = .ok (.new 10, 3) := by decide +kernel
theorem dL_law_11 : decode cL_law 11 = .ok (.dup, 1) := by decide +kernel
theorem dL_law_12 : decode cL_law 12 = .ok (.invokespecial 12, 3) := by decide +kernel
theorem dL_law_15 : decode cL_law 15 = .ok (.astore_n 2, 1) := by decide +kernel
theorem dL_law_16 : decode cL_law 16 = .ok (.iconst 0, 1) := by decide +kernel
theorem dL_law_17 : decode cL_law 17 = .ok (.istore_n 3, 1) := by decide +kernel
theorem dL_law_18 : decode cL_law 18 = .ok (.iload_n 3, 1) := by decide +kernel
theorem dL_law_19 : decode cL_law 19 = .ok (.aload_n 0, 1) := by decide +kernel
theorem dL_law_20 : decode cL_law 20 = .ok (.arraylength, 1) := by decide +kernel
theorem dL_law_21 : decode cL_law 21 = .ok (.bipush 6, 2) := by decide +kernel
theorem dL_law_23 : decode cL_law 23 = .ok (.isub, 1) := by decide +kernel
theorem dL_law_24 : decode cL_law 24 = .ok (.if_icmp .gt 1498, 3) := by decide +kernel
theorem dL_law_27 : decode cL_law 27 = .ok (.aload_n 0, 1) := by decide +kernel
theorem dL_law_28 : decode cL_law 28 = .ok (.iload_n 3, 1) := by decide +kernel
theorem dL_law_29 : decode cL_law 29 = .ok (.iaload, 1) := by decide +kernel
theorem dL_law_30 : decode cL_law 30 = .ok (.bipush 63, 2) := by decide +kernel
theorem dL_law_32 : decode cL_law 32 = .ok (.iand, 1) := by decide +kernel
theorem dL_law_33 : decode cL_law 33 = .ok (.tableswitch 1483 0 35 #[159, 202, 271, 314, 357, 410, 433, 466, 489, 522, 585, 618, 681, 694, 707, 720, 743, 776, 809, 852, 875, 948, 1021, 1094, 1117, 1160, 1203, 1226, 1239, 1282, 1315, 1338, 1381, 1424, 1437, 1460], 159) := by decide +kernel
theorem dL_law_192 : decode cL_law 192 = .ok (.aload_n 1, 1) := by decide +kernel
theorem dL_law_193 : decode cL_law 193 = .ok (.aload_n 0, 1) := by decide +kernel
theorem dL_law_194 : decode cL_law 194 = .ok (.iload_n 3, 1) := by decide +kernel
theorem dL_law_195 : decode cL_law 195 = .ok (.iconst 1, 1) := by decide +kernel
theorem dL_law_196 : decode cL_law 196 = .ok (.iadd, 1) := by decide +kernel
theorem dL_law_197 : decode cL_law 197 = .ok (.iaload, 1) := by decide +kernel
theorem dL_law_198 : decode cL_law 198 = .ok (.aload_n 0, 1) := by decide +kernel
theorem dL_law_199 : decode cL_law 199 = .ok (.iload_n 3, 1) := by decide +kernel
theorem dL_law_200 : decode cL_law 200 = .ok (.iconst 2, 1) := by decide +kernel
theorem dL_law_201 : decode cL_law 201 = .ok (.iadd, 1) := by decide +kernel
theorem dL_law_202 : decode cL_law 202 = .ok (.iaload, 1) := by decide +kernel
theorem dL_law_203 : decode cL_law 203 = .ok (.aload_n 0, 1) := by decide +kernel
theorem dL_law_204 : decode cL_law 204 = .ok (.iload_n 3, 1) := by decide +kernel
theorem dL_law_205 : decode cL_law 205 = .ok (.iconst 3, 1) := by decide +kernel
theorem dL_law_206 : decode cL_law 206 = .ok (.iadd, 1) := by decide +kernel
theorem dL_law_207 : decode cL_law 207 = .ok (.iaload, 1) := by decide +kernel
theorem dL_law_208 : decode cL_law 208 = .ok (.invokevirtual 13, 3) := by decide +kernel
theorem dL_law_211 : decode cL_law 211 = .ok (.aload_n 2, 1) := by decide +kernel
theorem dL_law_212 : decode cL_law 212 = .ok (.aload_n 0, 1) := by decide +kernel
theorem dL_law_213 : decode cL_law 213 = .ok (.iload_n 3, 1) := by decide +kernel
theorem dL_law_214 : decode cL_law 214 = .ok (.iconst 1, 1) := by decide +kernel
theorem dL_law_215 : decode cL_law 215 = .ok (.iadd, 1) := by decide +kernel
theorem dL_law_216 : decode cL_law 216 = .ok (.iaload, 1) := by decide +kernel
theorem dL_law_217 : decode cL_law 217 = .ok (.aload_n 0, 1) := by decide +kernel
theorem dL_law_218 : decode cL_law 218 = .ok (.iload_n 3, 1) := by decide +kernel
theorem dL_law_219 : decode cL_law 219 = .ok (.iconst 2, 1) := by decide +kernel
theorem dL_law_220 : decode cL_law 220 = .ok (.iadd, 1) := by decide +kernel
theorem dL_law_221 : decode cL_law 221 = .ok (.iaload, 1) := by decide +kernel
theorem dL_law_222 : decode cL_law 222 = .ok (.aload_n 0, 1) := by decide +kernel
theorem dL_law_223 : decode cL_law 223 = .ok (.iload_n 3, 1) := by decide +kernel
theorem dL_law_224 : decode cL_law 224 = .ok (.iconst 3, 1) := by decide +kernel
theorem dL_law_225 : decode cL_law 225 = .ok (.iadd, 1) := by decide +kernel
theorem dL_law_226 : decode cL_law 226 = .ok (.iaload, 1) := by decide +kernel
theorem dL_law_227 : decode cL_law 227 = .ok (.invokevirtual 17, 3) := by decide +kernel
theorem dL_law_230 : decode cL_law 230 = .ok (.if_icmp .eq 1286, 3) := by decide +kernel
theorem dL_law_233 : decode cL_law 233 = .ok (.iconst 0, 1) := by decide +kernel
theorem dL_law_234 : decode cL_law 234 = .ok (.ireturn, 1) := by decide +kernel
theorem dL_law_235 : decode cL_law 235 = .ok (.aload_n 1, 1) := by decide +kernel
theorem dL_law_236 : decode cL_law 236 = .ok (.aload_n 0, 1) := by decide +kernel
theorem dL_law_237 : decode cL_law 237 = .ok (.iload_n 3, 1) := by decide +kernel
theorem dL_law_238 : decode cL_law 238 = .ok (.iconst 1, 1) := by decide +kernel
theorem dL_law_239 : decode cL_law 239 = .ok (.iadd, 1) := by decide +kernel
theorem dL_law_240 : decode cL_law 240 = .ok (.iaload, 1) := by decide +kernel
theorem dL_law_241 : decode cL_law 241 = .ok (.aload_n 0, 1) := by decide +kernel
theorem dL_law_242 : decode cL_law 242 = .ok (.iload_n 3, 1) := by decide +kernel
theorem dL_law_243 : decode cL_law 243 = .ok (.iconst 2, 1) := by decide +kernel
theorem dL_law_244 : decode cL_law 244 = .ok (.iadd, 1) := by decide +kernel
theorem dL_law_245 : decode cL_law 245 = .ok (.iaload, 1) := by decide +kernel
theorem dL_law_246 : decode cL_law 246 = .ok (.aload_n 0, 1) := by decide +kernel
theorem dL_law_247 : decode cL_law 247 = .ok (.iload_n 3, 1) := by decide +kernel
theorem dL_law_248 : decode cL_law 248 = .ok (.iconst 3, 1) := by decide +kernel
theorem dL_law_249 : decode cL_law 249 = .ok (.iadd, 1) := by decide +kernel
theorem dL_law_250 : decode cL_law 250 = .ok (.iaload, 1) := by decide +kernel
theorem dL_law_251 : decode cL_law 251 = .ok (.aload_n 0, 1) := by decide +kernel
theorem dL_law_252 : decode cL_law 252 = .ok (.iload_n 3, 1) := by decide +kernel
theorem dL_law_253 : decode cL_law 253 = .ok (.iconst 4, 1) := by decide +kernel
theorem dL_law_254 : decode cL_law 254 = .ok (.iadd, 1) := by decide +kernel
theorem dL_law_255 : decode cL_law 255 = .ok (.iaload, 1) := by decide +kernel
theorem dL_law_256 : decode cL_law 256 = .ok (.ifCond .eq 7, 3) := by decide +kernel
theorem dL_law_259 : decode cL_law 259 = .ok (.iconst 1, 1) := by decide +kernel
theorem dL_law_260 : decode cL_law 260 = .ok (.goto 4, 3) := by decide +kernel
theorem dL_law_263 : decode cL_law 263 = .ok (.iconst 0, 1) := by decide +kernel
theorem dL_law_264 : decode cL_law 264 = .ok (.invokevirtual 18, 3) := by decide +kernel
theorem dL_law_267 : decode cL_law 267 = .ok (.aload_n 2, 1) := by decide +kernel
theorem dL_law_268 : decode cL_law 268 = .ok (.aload_n 0, 1) := by decide +kernel
theorem dL_law_269 : decode cL_law 269 = .ok (.iload_n 3, 1) := by decide +kernel
theorem dL_law_270 : decode cL_law 270 = .ok (.iconst 1, 1) := by decide +kernel
theorem dL_law_271 : decode cL_law 271 = .ok (.iadd, 1) := by decide +kernel
theorem dL_law_272 : decode cL_law 272 = .ok (.iaload, 1) := by decide +kernel
theorem dL_law_273 : decode cL_law 273 = .ok (.aload_n 0, 1) := by decide +kernel
theorem dL_law_274 : decode cL_law 274 = .ok (.iload_n 3, 1) := by decide +kernel
theorem dL_law_275 : decode cL_law 275 = .ok (.iconst 2, 1) := by decide +kernel
theorem dL_law_276 : decode cL_law 276 = .ok (.iadd, 1) := by decide +kernel
theorem dL_law_277 : decode cL_law 277 = .ok (.iaload, 1) := by decide +kernel
theorem dL_law_278 : decode cL_law 278 = .ok (.aload_n 0, 1) := by decide +kernel
theorem dL_law_279 : decode cL_law 279 = .ok (.iload_n 3, 1) := by decide +kernel
theorem dL_law_280 : decode cL_law 280 = .ok (.iconst 3, 1) := by decide +kernel
theorem dL_law_281 : decode cL_law 281 = .ok (.iadd, 1) := by decide +kernel
theorem dL_law_282 : decode cL_law 282 = .ok (.iaload, 1) := by decide +kernel
theorem dL_law_283 : decode cL_law 283 = .ok (.aload_n 0, 1) := by decide +kernel
theorem dL_law_284 : decode cL_law 284 = .ok (.iload_n 3, 1) := by decide +kernel
theorem dL_law_285 : decode cL_law 285 = .ok (.iconst 4, 1) := by decide +kernel
theorem dL_law_286 : decode cL_law 286 = .ok (.iadd, 1) := by decide +kernel
theorem dL_law_287 : decode cL_law 287 = .ok (.iaload, 1) := by decide +kernel
theorem dL_law_288 : decode cL_law 288 = .ok (.ifCond .eq 7, 3) := by decide +kernel
theorem dL_law_291 : decode cL_law 291 = .ok (.iconst 1, 1) := by decide +kernel
theorem dL_law_292 : decode cL_law 292 = .ok (.goto 4, 3) := by decide +kernel
theorem dL_law_295 : decode cL_law 295 = .ok (.iconst 0, 1) := by decide +kernel
theorem dL_law_296 : decode cL_law 296 = .ok (.invokevirtual 22, 3) := by decide +kernel
theorem dL_law_299 : decode cL_law 299 = .ok (.if_icmp .eq 1217, 3) := by decide +kernel
theorem dL_law_302 : decode cL_law 302 = .ok (.iconst 0, 1) := by decide +kernel
theorem dL_law_303 : decode cL_law 303 = .ok (.ireturn, 1) := by decide +kernel
theorem dL_law_304 : decode cL_law 304 = .ok (.aload_n 1, 1) := by decide +kernel
theorem dL_law_305 : decode cL_law 305 = .ok (.aload_n 0, 1) := by decide +kernel
theorem dL_law_306 : decode cL_law 306 = .ok (.iload_n 3, 1) := by decide +kernel
theorem dL_law_307 : decode cL_law 307 = .ok (.iconst 1, 1) := by decide +kernel
theorem dL_law_308 : decode cL_law 308 = .ok (.iadd, 1) := by decide +kernel
theorem dL_law_309 : decode cL_law 309 = .ok (.iaload, 1) := by decide +kernel
theorem dL_law_310 : decode cL_law 310 = .ok (.aload_n 0, 1) := by decide +kernel
theorem dL_law_311 : decode cL_law 311 = .ok (.iload_n 3, 1) := by decide +kernel
theorem dL_law_312 : decode cL_law 312 = .ok (.iconst 2, 1) := by decide +kernel
theorem dL_law_313 : decode cL_law 313 = .ok (.iadd, 1) := by decide +kernel
theorem dL_law_314 : decode cL_law 314 = .ok (.iaload, 1) := by decide +kernel
theorem dL_law_315 : decode cL_law 315 = .ok (.aload_n 0, 1) := by decide +kernel
theorem dL_law_316 : decode cL_law 316 = .ok (.iload_n 3, 1) := by decide +kernel
theorem dL_law_317 : decode cL_law 317 = .ok (.iconst 3, 1) := by decide +kernel
theorem dL_law_318 : decode cL_law 318 = .ok (.iadd, 1) := by decide +kernel
theorem dL_law_319 : decode cL_law 319 = .ok (.iaload, 1) := by decide +kernel
theorem dL_law_320 : decode cL_law 320 = .ok (.invokevirtual 23, 3) := by decide +kernel
theorem dL_law_323 : decode cL_law 323 = .ok (.aload_n 2, 1) := by decide +kernel
theorem dL_law_324 : decode cL_law 324 = .ok (.aload_n 0, 1) := by decide +kernel
theorem dL_law_325 : decode cL_law 325 = .ok (.iload_n 3, 1) := by decide +kernel
theorem dL_law_326 : decode cL_law 326 = .ok (.iconst 1, 1) := by decide +kernel
theorem dL_law_327 : decode cL_law 327 = .ok (.iadd, 1) := by decide +kernel
theorem dL_law_328 : decode cL_law 328 = .ok (.iaload, 1) := by decide +kernel
theorem dL_law_329 : decode cL_law 329 = .ok (.aload_n 0, 1) := by decide +kernel
theorem dL_law_330 : decode cL_law 330 = .ok (.iload_n 3, 1) := by decide +kernel
theorem dL_law_331 : decode cL_law 331 = .ok (.iconst 2, 1) := by decide +kernel
theorem dL_law_332 : decode cL_law 332 = .ok (.iadd, 1) := by decide +kernel
theorem dL_law_333 : decode cL_law 333 = .ok (.iaload, 1) := by decide +kernel
theorem dL_law_334 : decode cL_law 334 = .ok (.aload_n 0, 1) := by decide +kernel
theorem dL_law_335 : decode cL_law 335 = .ok (.iload_n 3, 1) := by decide +kernel
theorem dL_law_336 : decode cL_law 336 = .ok (.iconst 3, 1) := by decide +kernel
theorem dL_law_337 : decode cL_law 337 = .ok (.iadd, 1) := by decide +kernel
theorem dL_law_338 : decode cL_law 338 = .ok (.iaload, 1) := by decide +kernel
theorem dL_law_339 : decode cL_law 339 = .ok (.invokevirtual 26, 3) := by decide +kernel
theorem dL_law_342 : decode cL_law 342 = .ok (.if_icmp .eq 1174, 3) := by decide +kernel
theorem dL_law_345 : decode cL_law 345 = .ok (.iconst 0, 1) := by decide +kernel
theorem dL_law_346 : decode cL_law 346 = .ok (.ireturn, 1) := by decide +kernel
theorem dL_law_347 : decode cL_law 347 = .ok (.aload_n 1, 1) := by decide +kernel
theorem dL_law_348 : decode cL_law 348 = .ok (.aload_n 0, 1) := by decide +kernel
theorem dL_law_349 : decode cL_law 349 = .ok (.iload_n 3, 1) := by decide +kernel
theorem dL_law_350 : decode cL_law 350 = .ok (.iconst 1, 1) := by decide +kernel
theorem dL_law_351 : decode cL_law 351 = .ok (.iadd, 1) := by decide +kernel
theorem dL_law_352 : decode cL_law 352 = .ok (.iaload, 1) := by decide +kernel
theorem dL_law_353 : decode cL_law 353 = .ok (.aload_n 0, 1) := by decide +kernel
theorem dL_law_354 : decode cL_law 354 = .ok (.iload_n 3, 1) := by decide +kernel
theorem dL_law_355 : decode cL_law 355 = .ok (.iconst 2, 1) := by decide +kernel
theorem dL_law_356 : decode cL_law 356 = .ok (.iadd, 1) := by decide +kernel
theorem dL_law_357 : decode cL_law 357 = .ok (.iaload, 1) := by decide +kernel
theorem dL_law_358 : decode cL_law 358 = .ok (.aload_n 0, 1) := by decide +kernel
theorem dL_law_359 : decode cL_law 359 = .ok (.iload_n 3, 1) := by decide +kernel
theorem dL_law_360 : decode cL_law 360 = .ok (.iconst 3, 1) := by decide +kernel
theorem dL_law_361 : decode cL_law 361 = .ok (.iadd, 1) := by decide +kernel
theorem dL_law_362 : decode cL_law 362 = .ok (.iaload, 1) := by decide +kernel
theorem dL_law_363 : decode cL_law 363 = .ok (.invokevirtual 27, 3) := by decide +kernel
theorem dL_law_366 : decode cL_law 366 = .ok (.aload_n 2, 1) := by decide +kernel
theorem dL_law_367 : decode cL_law 367 = .ok (.aload_n 0, 1) := by decide +kernel
theorem dL_law_368 : decode cL_law 368 = .ok (.iload_n 3, 1) := by decide +kernel
theorem dL_law_369 : decode cL_law 369 = .ok (.iconst 1, 1) := by decide +kernel
theorem dL_law_370 : decode cL_law 370 = .ok (.iadd, 1) := by decide +kernel
theorem dL_law_371 : decode cL_law 371 = .ok (.iaload, 1) := by decide +kernel
theorem dL_law_372 : decode cL_law 372 = .ok (.aload_n 0, 1) := by decide +kernel
theorem dL_law_373 : decode cL_law 373 = .ok (.iload_n 3, 1) := by decide +kernel
theorem dL_law_374 : decode cL_law 374 = .ok (.iconst 2, 1) := by decide +kernel
theorem dL_law_375 : decode cL_law 375 = .ok (.iadd, 1) := by decide +kernel
theorem dL_law_376 : decode cL_law 376 = .ok (.iaload, 1) := by decide +kernel
theorem dL_law_377 : decode cL_law 377 = .ok (.aload_n 0, 1) := by decide +kernel
theorem dL_law_378 : decode cL_law 378 = .ok (.iload_n 3, 1) := by decide +kernel
theorem dL_law_379 : decode cL_law 379 = .ok (.iconst 3, 1) := by decide +kernel
theorem dL_law_380 : decode cL_law 380 = .ok (.iadd, 1) := by decide +kernel
theorem dL_law_381 : decode cL_law 381 = .ok (.iaload, 1) := by decide +kernel
theorem dL_law_382 : decode cL_law 382 = .ok (.invokevirtual 30, 3) := by decide +kernel
theorem dL_law_385 : decode cL_law 385 = .ok (.if_icmp .eq 1131, 3) := by decide +kernel
theorem dL_law_388 : decode cL_law 388 = .ok (.iconst 0, 1) := by decide +kernel
theorem dL_law_389 : decode cL_law 389 = .ok (.ireturn, 1) := by decide +kernel
theorem dL_law_390 : decode cL_law 390 = .ok (.aload_n 1, 1) := by decide +kernel
theorem dL_law_391 : decode cL_law 391 = .ok (.aload_n 0, 1) := by decide +kernel
theorem dL_law_392 : decode cL_law 392 = .ok (.iload_n 3, 1) := by decide +kernel
theorem dL_law_393 : decode cL_law 393 = .ok (.iconst 1, 1) := by decide +kernel
theorem dL_law_394 : decode cL_law 394 = .ok (.iadd, 1) := by decide +kernel
theorem dL_law_395 : decode cL_law 395 = .ok (.iaload, 1) := by decide +kernel
theorem dL_law_396 : decode cL_law 396 = .ok (.aload_n 0, 1) := by decide +kernel
theorem dL_law_397 : decode cL_law 397 = .ok (.iload_n 3, 1) := by decide +kernel
theorem dL_law_398 : decode cL_law 398 = .ok (.iconst 2, 1) := by decide +kernel
theorem dL_law_399 : decode cL_law 399 = .ok (.iadd, 1) := by decide +kernel
theorem dL_law_400 : decode cL_law 400 = .ok (.iaload, 1) := by decide +kernel
theorem dL_law_401 : decode cL_law 401 = .ok (.aload_n 0, 1) := by decide +kernel
theorem dL_law_402 : decode cL_law 402 = .ok (.iload_n 3, 1) := by decide +kernel
theorem dL_law_403 : decode cL_law 403 = .ok (.iconst 3, 1) := by decide +kernel
theorem dL_law_404 : decode cL_law 404 = .ok (.iadd, 1) := by decide +kernel
theorem dL_law_405 : decode cL_law 405 = .ok (.iaload, 1) := by decide +kernel
theorem dL_law_406 : decode cL_law 406 = .ok (.aload_n 0, 1) := by decide +kernel
theorem dL_law_407 : decode cL_law 407 = .ok (.iload_n 3, 1) := by decide +kernel
theorem dL_law_408 : decode cL_law 408 = .ok (.iconst 4, 1) := by decide +kernel
theorem dL_law_409 : decode cL_law 409 = .ok (.iadd, 1) := by decide +kernel
theorem dL_law_410 : decode cL_law 410 = .ok (.iaload, 1) := by decide +kernel
theorem dL_law_411 : decode cL_law 411 = .ok (.invokevirtual 31, 3) := by decide +kernel
theorem dL_law_414 : decode cL_law 414 = .ok (.aload_n 2, 1) := by decide +kernel
theorem dL_law_415 : decode cL_law 415 = .ok (.aload_n 0, 1) := by decide +kernel
theorem dL_law_416 : decode cL_law 416 = .ok (.iload_n 3, 1) := by decide +kernel
theorem dL_law_417 : decode cL_law 417 = .ok (.iconst 1, 1) := by decide +kernel
theorem dL_law_418 : decode cL_law 418 = .ok (.iadd, 1) := by decide +kernel
theorem dL_law_419 : decode cL_law 419 = .ok (.iaload, 1) := by decide +kernel
theorem dL_law_420 : decode cL_law 420 = .ok (.aload_n 0, 1) := by decide +kernel
theorem dL_law_421 : decode cL_law 421 = .ok (.iload_n 3, 1) := by decide +kernel
theorem dL_law_422 : decode cL_law 422 = .ok (.iconst 2, 1) := by decide +kernel
theorem dL_law_423 : decode cL_law 423 = .ok (.iadd, 1) := by decide +kernel
theorem dL_law_424 : decode cL_law 424 = .ok (.iaload, 1) := by decide +kernel
theorem dL_law_425 : decode cL_law 425 = .ok (.aload_n 0, 1) := by decide +kernel
theorem dL_law_426 : decode cL_law 426 = .ok (.iload_n 3, 1) := by decide +kernel
theorem dL_law_427 : decode cL_law 427 = .ok (.iconst 3, 1) := by decide +kernel
theorem dL_law_428 : decode cL_law 428 = .ok (.iadd, 1) := by decide +kernel
theorem dL_law_429 : decode cL_law 429 = .ok (.iaload, 1) := by decide +kernel
theorem dL_law_430 : decode cL_law 430 = .ok (.aload_n 0, 1) := by decide +kernel
theorem dL_law_431 : decode cL_law 431 = .ok (.iload_n 3, 1) := by decide +kernel
theorem dL_law_432 : decode cL_law 432 = .ok (.iconst 4, 1) := by decide +kernel
theorem dL_law_433 : decode cL_law 433 = .ok (.iadd, 1) := by decide +kernel
theorem dL_law_434 : decode cL_law 434 = .ok (.iaload, 1) := by decide +kernel
theorem dL_law_435 : decode cL_law 435 = .ok (.invokevirtual 35, 3) := by decide +kernel
theorem dL_law_438 : decode cL_law 438 = .ok (.if_icmp .eq 1078, 3) := by decide +kernel
theorem dL_law_441 : decode cL_law 441 = .ok (.iconst 0, 1) := by decide +kernel
theorem dL_law_442 : decode cL_law 442 = .ok (.ireturn, 1) := by decide +kernel
theorem dL_law_443 : decode cL_law 443 = .ok (.aload_n 1, 1) := by decide +kernel
theorem dL_law_444 : decode cL_law 444 = .ok (.aload_n 0, 1) := by decide +kernel
theorem dL_law_445 : decode cL_law 445 = .ok (.iload_n 3, 1) := by decide +kernel
theorem dL_law_446 : decode cL_law 446 = .ok (.iconst 1, 1) := by decide +kernel
theorem dL_law_447 : decode cL_law 447 = .ok (.iadd, 1) := by decide +kernel
theorem dL_law_448 : decode cL_law 448 = .ok (.iaload, 1) := by decide +kernel
theorem dL_law_449 : decode cL_law 449 = .ok (.invokevirtual 36, 3) := by decide +kernel
theorem dL_law_452 : decode cL_law 452 = .ok (.aload_n 2, 1) := by decide +kernel
theorem dL_law_453 : decode cL_law 453 = .ok (.aload_n 0, 1) := by decide +kernel
theorem dL_law_454 : decode cL_law 454 = .ok (.iload_n 3, 1) := by decide +kernel
theorem dL_law_455 : decode cL_law 455 = .ok (.iconst 1, 1) := by decide +kernel
theorem dL_law_456 : decode cL_law 456 = .ok (.iadd, 1) := by decide +kernel
theorem dL_law_457 : decode cL_law 457 = .ok (.iaload, 1) := by decide +kernel
theorem dL_law_458 : decode cL_law 458 = .ok (.invokevirtual 40, 3) := by decide +kernel
theorem dL_law_461 : decode cL_law 461 = .ok (.if_icmp .eq 1055, 3) := by decide +kernel
theorem dL_law_464 : decode cL_law 464 = .ok (.iconst 0, 1) := by decide +kernel
theorem dL_law_465 : decode cL_law 465 = .ok (.ireturn, 1) := by decide +kernel
theorem dL_law_466 : decode cL_law 466 = .ok (.aload_n 1, 1) := by decide +kernel
theorem dL_law_467 : decode cL_law 467 = .ok (.aload_n 0, 1) := by decide +kernel
theorem dL_law_468 : decode cL_law 468 = .ok (.iload_n 3, 1) := by decide +kernel
theorem dL_law_469 : decode cL_law 469 = .ok (.iconst 1, 1) := by decide +kernel
theorem dL_law_470 : decode cL_law 470 = .ok (.iadd, 1) := by decide +kernel
theorem dL_law_471 : decode cL_law 471 = .ok (.iaload, 1) := by decide +kernel
theorem dL_law_472 : decode cL_law 472 = .ok (.aload_n 0, 1) := by decide +kernel
theorem dL_law_473 : decode cL_law 473 = .ok (.iload_n 3, 1) := by decide +kernel
theorem dL_law_474 : decode cL_law 474 = .ok (.iconst 2, 1) := by decide +kernel
theorem dL_law_475 : decode cL_law 475 = .ok (.iadd, 1) := by decide +kernel
theorem dL_law_476 : decode cL_law 476 = .ok (.iaload, 1) := by decide +kernel
theorem dL_law_477 : decode cL_law 477 = .ok (.invokevirtual 41, 3) := by decide +kernel
theorem dL_law_480 : decode cL_law 480 = .ok (.aload_n 2, 1) := by decide +kernel
theorem dL_law_481 : decode cL_law 481 = .ok (.aload_n 0, 1) := by decide +kernel
theorem dL_law_482 : decode cL_law 482 = .ok (.iload_n 3, 1) := by decide +kernel
theorem dL_law_483 : decode cL_law 483 = .ok (.iconst 1, 1) := by decide +kernel
theorem dL_law_484 : decode cL_law 484 = .ok (.iadd, 1) := by decide +kernel
theorem dL_law_485 : decode cL_law 485 = .ok (.iaload, 1) := by decide +kernel
theorem dL_law_486 : decode cL_law 486 = .ok (.aload_n 0, 1) := by decide +kernel
theorem dL_law_487 : decode cL_law 487 = .ok (.iload_n 3, 1) := by decide +kernel
theorem dL_law_488 : decode cL_law 488 = .ok (.iconst 2, 1) := by decide +kernel
theorem dL_law_489 : decode cL_law 489 = .ok (.iadd, 1) := by decide +kernel
theorem dL_law_490 : decode cL_law 490 = .ok (.iaload, 1) := by decide +kernel
theorem dL_law_491 : decode cL_law 491 = .ok (.invokevirtual 45, 3) := by decide +kernel
theorem dL_law_494 : decode cL_law 494 = .ok (.if_icmp .eq 1022, 3) := by decide +kernel
theorem dL_law_497 : decode cL_law 497 = .ok (.iconst 0, 1) := by decide +kernel
theorem dL_law_498 : decode cL_law 498 = .ok (.ireturn, 1) := by decide +kernel
theorem dL_law_499 : decode cL_law 499 = .ok (.aload_n 1, 1) := by decide +kernel
theorem dL_law_500 : decode cL_law 500 = .ok (.aload_n 0, 1) := by decide +kernel
theorem dL_law_501 : decode cL_law 501 = .ok (.iload_n 3, 1) := by decide +kernel
theorem dL_law_502 : decode cL_law 502 = .ok (.iconst 1, 1) := by decide +kernel
theorem dL_law_503 : decode cL_law 503 = .ok (.iadd, 1) := by decide +kernel
theorem dL_law_504 : decode cL_law 504 = .ok (.iaload, 1) := by decide +kernel
theorem dL_law_505 : decode cL_law 505 = .ok (.invokevirtual 46, 3) := by decide +kernel
theorem dL_law_508 : decode cL_law 508 = .ok (.aload_n 2, 1) := by decide +kernel
theorem dL_law_509 : decode cL_law 509 = .ok (.aload_n 0, 1) := by decide +kernel
theorem dL_law_510 : decode cL_law 510 = .ok (.iload_n 3, 1) := by decide +kernel
theorem dL_law_511 : decode cL_law 511 = .ok (.iconst 1, 1) := by decide +kernel
theorem dL_law_512 : decode cL_law 512 = .ok (.iadd, 1) := by decide +kernel
theorem dL_law_513 : decode cL_law 513 = .ok (.iaload, 1) := by decide +kernel
theorem dL_law_514 : decode cL_law 514 = .ok (.invokevirtual 49, 3) := by decide +kernel
theorem dL_law_517 : decode cL_law 517 = .ok (.if_icmp .eq 999, 3) := by decide +kernel
theorem dL_law_520 : decode cL_law 520 = .ok (.iconst 0, 1) := by decide +kernel
theorem dL_law_521 : decode cL_law 521 = .ok (.ireturn, 1) := by decide +kernel
theorem dL_law_522 : decode cL_law 522 = .ok (.aload_n 1, 1) := by decide +kernel
theorem dL_law_523 : decode cL_law 523 = .ok (.aload_n 0, 1) := by decide +kernel
theorem dL_law_524 : decode cL_law 524 = .ok (.iload_n 3, 1) := by decide +kernel
theorem dL_law_525 : decode cL_law 525 = .ok (.iconst 1, 1) := by decide +kernel
theorem dL_law_526 : decode cL_law 526 = .ok (.iadd, 1) := by decide +kernel
theorem dL_law_527 : decode cL_law 527 = .ok (.iaload, 1) := by decide +kernel
theorem dL_law_528 : decode cL_law 528 = .ok (.aload_n 0, 1) := by decide +kernel
theorem dL_law_529 : decode cL_law 529 = .ok (.iload_n 3, 1) := by decide +kernel
theorem dL_law_530 : decode cL_law 530 = .ok (.iconst 2, 1) := by decide +kernel
theorem dL_law_531 : decode cL_law 531 = .ok (.iadd, 1) := by decide +kernel
theorem dL_law_532 : decode cL_law 532 = .ok (.iaload, 1) := by decide +kernel
theorem dL_law_533 : decode cL_law 533 = .ok (.invokevirtual 50, 3) := by decide +kernel
theorem dL_law_536 : decode cL_law 536 = .ok (.aload_n 2, 1) := by decide +kernel
theorem dL_law_537 : decode cL_law 537 = .ok (.aload_n 0, 1) := by decide +kernel
theorem dL_law_538 : decode cL_law 538 = .ok (.iload_n 3, 1) := by decide +kernel
theorem dL_law_539 : decode cL_law 539 = .ok (.iconst 1, 1) := by decide +kernel
theorem dL_law_540 : decode cL_law 540 = .ok (.iadd, 1) := by decide +kernel
theorem dL_law_541 : decode cL_law 541 = .ok (.iaload, 1) := by decide +kernel
theorem dL_law_542 : decode cL_law 542 = .ok (.aload_n 0, 1) := by decide +kernel
theorem dL_law_543 : decode cL_law 543 = .ok (.iload_n 3, 1) := by decide +kernel
theorem dL_law_544 : decode cL_law 544 = .ok (.iconst 2, 1) := by decide +kernel
theorem dL_law_545 : decode cL_law 545 = .ok (.iadd, 1) := by decide +kernel
theorem dL_law_546 : decode cL_law 546 = .ok (.iaload, 1) := by decide +kernel
theorem dL_law_547 : decode cL_law 547 = .ok (.invokevirtual 53, 3) := by decide +kernel
theorem dL_law_550 : decode cL_law 550 = .ok (.if_icmp .eq 966, 3) := by decide +kernel
theorem dL_law_553 : decode cL_law 553 = .ok (.iconst 0, 1) := by decide +kernel
theorem dL_law_554 : decode cL_law 554 = .ok (.ireturn, 1) := by decide +kernel
theorem dL_law_555 : decode cL_law 555 = .ok (.aload_n 1, 1) := by decide +kernel
theorem dL_law_556 : decode cL_law 556 = .ok (.aload_n 0, 1) := by decide +kernel
theorem dL_law_557 : decode cL_law 557 = .ok (.iload_n 3, 1) := by decide +kernel
theorem dL_law_558 : decode cL_law 558 = .ok (.iconst 1, 1) := by decide +kernel
theorem dL_law_559 : decode cL_law 559 = .ok (.iadd, 1) := by decide +kernel
theorem dL_law_560 : decode cL_law 560 = .ok (.iaload, 1) := by decide +kernel
theorem dL_law_561 : decode cL_law 561 = .ok (.aload_n 0, 1) := by decide +kernel
theorem dL_law_562 : decode cL_law 562 = .ok (.iload_n 3, 1) := by decide +kernel
theorem dL_law_563 : decode cL_law 563 = .ok (.iconst 2, 1) := by decide +kernel
theorem dL_law_564 : decode cL_law 564 = .ok (.iadd, 1) := by decide +kernel
theorem dL_law_565 : decode cL_law 565 = .ok (.iaload, 1) := by decide +kernel
theorem dL_law_566 : decode cL_law 566 = .ok (.aload_n 0, 1) := by decide +kernel
theorem dL_law_567 : decode cL_law 567 = .ok (.iload_n 3, 1) := by decide +kernel
theorem dL_law_568 : decode cL_law 568 = .ok (.iconst 3, 1) := by decide +kernel
theorem dL_law_569 : decode cL_law 569 = .ok (.iadd, 1) := by decide +kernel
theorem dL_law_570 : decode cL_law 570 = .ok (.iaload, 1) := by decide +kernel
theorem dL_law_571 : decode cL_law 571 = .ok (.aload_n 0, 1) := by decide +kernel
theorem dL_law_572 : decode cL_law 572 = .ok (.iload_n 3, 1) := by decide +kernel
theorem dL_law_573 : decode cL_law 573 = .ok (.iconst 4, 1) := by decide +kernel
theorem dL_law_574 : decode cL_law 574 = .ok (.iadd, 1) := by decide +kernel
theorem dL_law_575 : decode cL_law 575 = .ok (.iaload, 1) := by decide +kernel
theorem dL_law_576 : decode cL_law 576 = .ok (.aload_n 0, 1) := by decide +kernel
theorem dL_law_577 : decode cL_law 577 = .ok (.iload_n 3, 1) := by decide +kernel
theorem dL_law_578 : decode cL_law 578 = .ok (.iconst 5, 1) := by decide +kernel
theorem dL_law_579 : decode cL_law 579 = .ok (.iadd, 1) := by decide +kernel
theorem dL_law_580 : decode cL_law 580 = .ok (.iaload, 1) := by decide +kernel
theorem dL_law_581 : decode cL_law 581 = .ok (.invokevirtual 54, 3) := by decide +kernel
theorem dL_law_584 : decode cL_law 584 = .ok (.aload_n 2, 1) := by decide +kernel
theorem dL_law_585 : decode cL_law 585 = .ok (.aload_n 0, 1) := by decide +kernel
theorem dL_law_586 : decode cL_law 586 = .ok (.iload_n 3, 1) := by decide +kernel
theorem dL_law_587 : decode cL_law 587 = .ok (.iconst 1, 1) := by decide +kernel
theorem dL_law_588 : decode cL_law 588 = .ok (.iadd, 1) := by decide +kernel
theorem dL_law_589 : decode cL_law 589 = .ok (.iaload, 1) := by decide +kernel
theorem dL_law_590 : decode cL_law 590 = .ok (.aload_n 0, 1) := by decide +kernel
theorem dL_law_591 : decode cL_law 591 = .ok (.iload_n 3, 1) := by decide +kernel
theorem dL_law_592 : decode cL_law 592 = .ok (.iconst 2, 1) := by decide +kernel
theorem dL_law_593 : decode cL_law 593 = .ok (.iadd, 1) := by decide +kernel
theorem dL_law_594 : decode cL_law 594 = .ok (.iaload, 1) := by decide +kernel
theorem dL_law_595 : decode cL_law 595 = .ok (.aload_n 0, 1) := by decide +kernel
theorem dL_law_596 : decode cL_law 596 = .ok (.iload_n 3, 1) := by decide +kernel
theorem dL_law_597 : decode cL_law 597 = .ok (.iconst 3, 1) := by decide +kernel
theorem dL_law_598 : decode cL_law 598 = .ok (.iadd, 1) := by decide +kernel
theorem dL_law_599 : decode cL_law 599 = .ok (.iaload, 1) := by decide +kernel
theorem dL_law_600 : decode cL_law 600 = .ok (.aload_n 0, 1) := by decide +kernel
theorem dL_law_601 : decode cL_law 601 = .ok (.iload_n 3, 1) := by decide +kernel
theorem dL_law_602 : decode cL_law 602 = .ok (.iconst 4, 1) := by decide +kernel
theorem dL_law_603 : decode cL_law 603 = .ok (.iadd, 1) := by decide +kernel
theorem dL_law_604 : decode cL_law 604 = .ok (.iaload, 1) := by decide +kernel
theorem dL_law_605 : decode cL_law 605 = .ok (.aload_n 0, 1) := by decide +kernel
theorem dL_law_606 : decode cL_law 606 = .ok (.iload_n 3, 1) := by decide +kernel
theorem dL_law_607 : decode cL_law 607 = .ok (.iconst 5, 1) := by decide +kernel
theorem dL_law_608 : decode cL_law 608 = .ok (.iadd, 1) := by decide +kernel
theorem dL_law_609 : decode cL_law 609 = .ok (.iaload, 1) := by decide +kernel
theorem dL_law_610 : decode cL_law 610 = .ok (.invokevirtual 58, 3) := by decide +kernel
theorem dL_law_613 : decode cL_law 613 = .ok (.if_icmp .eq 903, 3) := by decide +kernel
theorem dL_law_616 : decode cL_law 616 = .ok (.iconst 0, 1) := by decide +kernel
theorem dL_law_617 : decode cL_law 617 = .ok (.ireturn, 1) := by decide +kernel
theorem dL_law_618 : decode cL_law 618 = .ok (.aload_n 1, 1) := by decide +kernel
theorem dL_law_619 : decode cL_law 619 = .ok (.aload_n 0, 1) := by decide +kernel
theorem dL_law_620 : decode cL_law 620 = .ok (.iload_n 3, 1) := by decide +kernel
theorem dL_law_621 : decode cL_law 621 = .ok (.iconst 1, 1) := by decide +kernel
theorem dL_law_622 : decode cL_law 622 = .ok (.iadd, 1) := by decide +kernel
theorem dL_law_623 : decode cL_law 623 = .ok (.iaload, 1) := by decide +kernel
theorem dL_law_624 : decode cL_law 624 = .ok (.aload_n 0, 1) := by decide +kernel
theorem dL_law_625 : decode cL_law 625 = .ok (.iload_n 3, 1) := by decide +kernel
theorem dL_law_626 : decode cL_law 626 = .ok (.iconst 2, 1) := by decide +kernel
theorem dL_law_627 : decode cL_law 627 = .ok (.iadd, 1) := by decide +kernel
theorem dL_law_628 : decode cL_law 628 = .ok (.iaload, 1) := by decide +kernel
theorem dL_law_629 : decode cL_law 629 = .ok (.invokevirtual 59, 3) := by decide +kernel
theorem dL_law_632 : decode cL_law 632 = .ok (.aload_n 2, 1) := by decide +kernel
theorem dL_law_633 : decode cL_law 633 = .ok (.aload_n 0, 1) := by decide +kernel
theorem dL_law_634 : decode cL_law 634 = .ok (.iload_n 3, 1) := by decide +kernel
theorem dL_law_635 : decode cL_law 635 = .ok (.iconst 1, 1) := by decide +kernel
theorem dL_law_636 : decode cL_law 636 = .ok (.iadd, 1) := by decide +kernel
theorem dL_law_637 : decode cL_law 637 = .ok (.iaload, 1) := by decide +kernel
theorem dL_law_638 : decode cL_law 638 = .ok (.aload_n 0, 1) := by decide +kernel
theorem dL_law_639 : decode cL_law 639 = .ok (.iload_n 3, 1) := by decide +kernel
theorem dL_law_640 : decode cL_law 640 = .ok (.iconst 2, 1) := by decide +kernel
theorem dL_law_641 : decode cL_law 641 = .ok (.iadd, 1) := by decide +kernel
theorem dL_law_642 : decode cL_law 642 = .ok (.iaload, 1) := by decide +kernel
theorem dL_law_643 : decode cL_law 643 = .ok (.invokevirtual 62, 3) := by decide +kernel
theorem dL_law_646 : decode cL_law 646 = .ok (.if_icmp .eq 870, 3) := by decide +kernel
theorem dL_law_649 : decode cL_law 649 = .ok (.iconst 0, 1) := by decide +kernel
theorem dL_law_650 : decode cL_law 650 = .ok (.ireturn, 1) := by decide +kernel
theorem dL_law_651 : decode cL_law 651 = .ok (.aload_n 1, 1) := by decide +kernel
theorem dL_law_652 : decode cL_law 652 = .ok (.aload_n 0, 1) := by decide +kernel
theorem dL_law_653 : decode cL_law 653 = .ok (.iload_n 3, 1) := by decide +kernel
theorem dL_law_654 : decode cL_law 654 = .ok (.iconst 1, 1) := by decide +kernel
theorem dL_law_655 : decode cL_law 655 = .ok (.iadd, 1) := by decide +kernel
theorem dL_law_656 : decode cL_law 656 = .ok (.iaload, 1) := by decide +kernel
theorem dL_law_657 : decode cL_law 657 = .ok (.i2l, 1) := by decide +kernel
theorem dL_law_658 : decode cL_law 658 = .ok (.bipush 32, 2) := by decide +kernel
theorem dL_law_660 : decode cL_law 660 = .ok (.lshl, 1) := by decide +kernel
theorem dL_law_661 : decode cL_law 661 = .ok (.aload_n 0, 1) := by decide +kernel
theorem dL_law_662 : decode cL_law 662 = .ok (.iload_n 3, 1) := by decide +kernel
theorem dL_law_663 : decode cL_law 663 = .ok (.iconst 2, 1) := by decide +kernel
theorem dL_law_664 : decode cL_law 664 = .ok (.iadd, 1) := by decide +kernel
theorem dL_law_665 : decode cL_law 665 = .ok (.iaload, 1) := by decide +kernel
theorem dL_law_666 : decode cL_law 666 = .ok (.i2l, 1) := by decide +kernel
theorem dL_law_667 : decode cL_law 667 = .ok (.ldc2_w 63, 3) := by decide +kernel
theorem dL_law_670 : decode cL_law 670 = .ok (.land, 1) := by decide +kernel
theorem dL_law_671 : decode cL_law 671 = .ok (.lor, 1) := by decide +kernel
theorem dL_law_672 : decode cL_law 672 = .ok (.aload_n 0, 1) := by decide +kernel
theorem dL_law_673 : decode cL_law 673 = .ok (.iload_n 3, 1) := by decide +kernel
theorem dL_law_674 : decode cL_law 674 = .ok (.iconst 3, 1) := by decide +kernel
theorem dL_law_675 : decode cL_law 675 = .ok (.iadd, 1) := by decide +kernel
theorem dL_law_676 : decode cL_law 676 = .ok (.iaload, 1) := by decide +kernel
theorem dL_law_677 : decode cL_law 677 = .ok (.invokevirtual 65, 3) := by decide +kernel
theorem dL_law_680 : decode cL_law 680 = .ok (.aload_n 2, 1) := by decide +kernel
theorem dL_law_681 : decode cL_law 681 = .ok (.aload_n 0, 1) := by decide +kernel
theorem dL_law_682 : decode cL_law 682 = .ok (.iload_n 3, 1) := by decide +kernel
theorem dL_law_683 : decode cL_law 683 = .ok (.iconst 1, 1) := by decide +kernel
theorem dL_law_684 : decode cL_law 684 = .ok (.iadd, 1) := by decide +kernel
theorem dL_law_685 : decode cL_law 685 = .ok (.iaload, 1) := by decide +kernel
theorem dL_law_686 : decode cL_law 686 = .ok (.i2l, 1) := by decide +kernel
theorem dL_law_687 : decode cL_law 687 = .ok (.bipush 32, 2) := by decide +kernel
theorem dL_law_689 : decode cL_law 689 = .ok (.lshl, 1) := by decide +kernel
theorem dL_law_690 : decode cL_law 690 = .ok (.aload_n 0, 1) := by decide +kernel
theorem dL_law_691 : decode cL_law 691 = .ok (.iload_n 3, 1) := by decide +kernel
theorem dL_law_692 : decode cL_law 692 = .ok (.iconst 2, 1) := by decide +kernel
theorem dL_law_693 : decode cL_law 693 = .ok (.iadd, 1) := by decide +kernel
theorem dL_law_694 : decode cL_law 694 = .ok (.iaload, 1) := by decide +kernel
theorem dL_law_695 : decode cL_law 695 = .ok (.i2l, 1) := by decide +kernel
theorem dL_law_696 : decode cL_law 696 = .ok (.ldc2_w 63, 3) := by decide +kernel
theorem dL_law_699 : decode cL_law 699 = .ok (.land, 1) := by decide +kernel
theorem dL_law_700 : decode cL_law 700 = .ok (.lor, 1) := by decide +kernel
theorem dL_law_701 : decode cL_law 701 = .ok (.aload_n 0, 1) := by decide +kernel
theorem dL_law_702 : decode cL_law 702 = .ok (.iload_n 3, 1) := by decide +kernel
theorem dL_law_703 : decode cL_law 703 = .ok (.iconst 3, 1) := by decide +kernel
theorem dL_law_704 : decode cL_law 704 = .ok (.iadd, 1) := by decide +kernel
theorem dL_law_705 : decode cL_law 705 = .ok (.iaload, 1) := by decide +kernel
theorem dL_law_706 : decode cL_law 706 = .ok (.invokevirtual 69, 3) := by decide +kernel
theorem dL_law_709 : decode cL_law 709 = .ok (.if_icmp .eq 807, 3) := by decide +kernel
theorem dL_law_712 : decode cL_law 712 = .ok (.iconst 0, 1) := by decide +kernel
theorem dL_law_713 : decode cL_law 713 = .ok (.ireturn, 1) := by decide +kernel
theorem dL_law_714 : decode cL_law 714 = .ok (.aload_n 1, 1) := by decide +kernel
theorem dL_law_715 : decode cL_law 715 = .ok (.invokevirtual 70, 3) := by decide +kernel
theorem dL_law_718 : decode cL_law 718 = .ok (.aload_n 2, 1) := by decide +kernel
theorem dL_law_719 : decode cL_law 719 = .ok (.invokevirtual 74, 3) := by decide +kernel
theorem dL_law_722 : decode cL_law 722 = .ok (.if_icmp .eq 794, 3) := by decide +kernel
theorem dL_law_725 : decode cL_law 725 = .ok (.iconst 0, 1) := by decide +kernel
theorem dL_law_726 : decode cL_law 726 = .ok (.ireturn, 1) := by decide +kernel
theorem dL_law_727 : decode cL_law 727 = .ok (.aload_n 1, 1) := by decide +kernel
theorem dL_law_728 : decode cL_law 728 = .ok (.invokevirtual 75, 3) := by decide +kernel
theorem dL_law_731 : decode cL_law 731 = .ok (.aload_n 2, 1) := by decide +kernel
theorem dL_law_732 : decode cL_law 732 = .ok (.invokevirtual 78, 3) := by decide +kernel
theorem dL_law_735 : decode cL_law 735 = .ok (.if_icmp .eq 781, 3) := by decide +kernel
theorem dL_law_738 : decode cL_law 738 = .ok (.iconst 0, 1) := by decide +kernel
theorem dL_law_739 : decode cL_law 739 = .ok (.ireturn, 1) := by decide +kernel
theorem dL_law_740 : decode cL_law 740 = .ok (.aload_n 1, 1) := by decide +kernel
theorem dL_law_741 : decode cL_law 741 = .ok (.invokevirtual 79, 3) := by decide +kernel
theorem dL_law_744 : decode cL_law 744 = .ok (.aload_n 2, 1) := by decide +kernel
theorem dL_law_745 : decode cL_law 745 = .ok (.invokevirtual 82, 3) := by decide +kernel
theorem dL_law_748 : decode cL_law 748 = .ok (.if_icmp .eq 768, 3) := by decide +kernel
theorem dL_law_751 : decode cL_law 751 = .ok (.iconst 0, 1) := by decide +kernel
theorem dL_law_752 : decode cL_law 752 = .ok (.ireturn, 1) := by decide +kernel
theorem dL_law_753 : decode cL_law 753 = .ok (.aload_n 1, 1) := by decide +kernel
theorem dL_law_754 : decode cL_law 754 = .ok (.aload_n 0, 1) := by decide +kernel
theorem dL_law_755 : decode cL_law 755 = .ok (.iload_n 3, 1) := by decide +kernel
theorem dL_law_756 : decode cL_law 756 = .ok (.iconst 1, 1) := by decide +kernel
theorem dL_law_757 : decode cL_law 757 = .ok (.iadd, 1) := by decide +kernel
theorem dL_law_758 : decode cL_law 758 = .ok (.iaload, 1) := by decide +kernel
theorem dL_law_759 : decode cL_law 759 = .ok (.invokevirtual 83, 3) := by decide +kernel
theorem dL_law_762 : decode cL_law 762 = .ok (.aload_n 2, 1) := by decide +kernel
theorem dL_law_763 : decode cL_law 763 = .ok (.aload_n 0, 1) := by decide +kernel
theorem dL_law_764 : decode cL_law 764 = .ok (.iload_n 3, 1) := by decide +kernel
theorem dL_law_765 : decode cL_law 765 = .ok (.iconst 1, 1) := by decide +kernel
theorem dL_law_766 : decode cL_law 766 = .ok (.iadd, 1) := by decide +kernel
theorem dL_law_767 : decode cL_law 767 = .ok (.iaload, 1) := by decide +kernel
theorem dL_law_768 : decode cL_law 768 = .ok (.invokevirtual 86, 3) := by decide +kernel
theorem dL_law_771 : decode cL_law 771 = .ok (.if_icmp .eq 745, 3) := by decide +kernel
theorem dL_law_774 : decode cL_law 774 = .ok (.iconst 0, 1) := by decide +kernel
theorem dL_law_775 : decode cL_law 775 = .ok (.ireturn, 1) := by decide +kernel
theorem dL_law_776 : decode cL_law 776 = .ok (.aload_n 1, 1) := by decide +kernel
theorem dL_law_777 : decode cL_law 777 = .ok (.aload_n 0, 1) := by decide +kernel
theorem dL_law_778 : decode cL_law 778 = .ok (.iload_n 3, 1) := by decide +kernel
theorem dL_law_779 : decode cL_law 779 = .ok (.iconst 1, 1) := by decide +kernel
theorem dL_law_780 : decode cL_law 780 = .ok (.iadd, 1) := by decide +kernel
theorem dL_law_781 : decode cL_law 781 = .ok (.iaload, 1) := by decide +kernel
theorem dL_law_782 : decode cL_law 782 = .ok (.aload_n 0, 1) := by decide +kernel
theorem dL_law_783 : decode cL_law 783 = .ok (.iload_n 3, 1) := by decide +kernel
theorem dL_law_784 : decode cL_law 784 = .ok (.iconst 2, 1) := by decide +kernel
theorem dL_law_785 : decode cL_law 785 = .ok (.iadd, 1) := by decide +kernel
theorem dL_law_786 : decode cL_law 786 = .ok (.iaload, 1) := by decide +kernel
theorem dL_law_787 : decode cL_law 787 = .ok (.invokevirtual 87, 3) := by decide +kernel
theorem dL_law_790 : decode cL_law 790 = .ok (.aload_n 2, 1) := by decide +kernel
theorem dL_law_791 : decode cL_law 791 = .ok (.aload_n 0, 1) := by decide +kernel
theorem dL_law_792 : decode cL_law 792 = .ok (.iload_n 3, 1) := by decide +kernel
theorem dL_law_793 : decode cL_law 793 = .ok (.iconst 1, 1) := by decide +kernel
theorem dL_law_794 : decode cL_law 794 = .ok (.iadd, 1) := by decide +kernel
theorem dL_law_795 : decode cL_law 795 = .ok (.iaload, 1) := by decide +kernel
theorem dL_law_796 : decode cL_law 796 = .ok (.aload_n 0, 1) := by decide +kernel
theorem dL_law_797 : decode cL_law 797 = .ok (.iload_n 3, 1) := by decide +kernel
theorem dL_law_798 : decode cL_law 798 = .ok (.iconst 2, 1) := by decide +kernel
theorem dL_law_799 : decode cL_law 799 = .ok (.iadd, 1) := by decide +kernel
theorem dL_law_800 : decode cL_law 800 = .ok (.iaload, 1) := by decide +kernel
theorem dL_law_801 : decode cL_law 801 = .ok (.invokevirtual 90, 3) := by decide +kernel
theorem dL_law_804 : decode cL_law 804 = .ok (.if_icmp .eq 712, 3) := by decide +kernel
theorem dL_law_807 : decode cL_law 807 = .ok (.iconst 0, 1) := by decide +kernel
theorem dL_law_808 : decode cL_law 808 = .ok (.ireturn, 1) := by decide +kernel
theorem dL_law_809 : decode cL_law 809 = .ok (.aload_n 1, 1) := by decide +kernel
theorem dL_law_810 : decode cL_law 810 = .ok (.aload_n 0, 1) := by decide +kernel
theorem dL_law_811 : decode cL_law 811 = .ok (.iload_n 3, 1) := by decide +kernel
theorem dL_law_812 : decode cL_law 812 = .ok (.iconst 1, 1) := by decide +kernel
theorem dL_law_813 : decode cL_law 813 = .ok (.iadd, 1) := by decide +kernel
theorem dL_law_814 : decode cL_law 814 = .ok (.iaload, 1) := by decide +kernel
theorem dL_law_815 : decode cL_law 815 = .ok (.aload_n 0, 1) := by decide +kernel
theorem dL_law_816 : decode cL_law 816 = .ok (.iload_n 3, 1) := by decide +kernel
theorem dL_law_817 : decode cL_law 817 = .ok (.iconst 2, 1) := by decide +kernel
theorem dL_law_818 : decode cL_law 818 = .ok (.iadd, 1) := by decide +kernel
theorem dL_law_819 : decode cL_law 819 = .ok (.iaload, 1) := by decide +kernel
theorem dL_law_820 : decode cL_law 820 = .ok (.invokevirtual 91, 3) := by decide +kernel
theorem dL_law_823 : decode cL_law 823 = .ok (.aload_n 2, 1) := by decide +kernel
theorem dL_law_824 : decode cL_law 824 = .ok (.aload_n 0, 1) := by decide +kernel
theorem dL_law_825 : decode cL_law 825 = .ok (.iload_n 3, 1) := by decide +kernel
theorem dL_law_826 : decode cL_law 826 = .ok (.iconst 1, 1) := by decide +kernel
theorem dL_law_827 : decode cL_law 827 = .ok (.iadd, 1) := by decide +kernel
theorem dL_law_828 : decode cL_law 828 = .ok (.iaload, 1) := by decide +kernel
theorem dL_law_829 : decode cL_law 829 = .ok (.aload_n 0, 1) := by decide +kernel
theorem dL_law_830 : decode cL_law 830 = .ok (.iload_n 3, 1) := by decide +kernel
theorem dL_law_831 : decode cL_law 831 = .ok (.iconst 2, 1) := by decide +kernel
theorem dL_law_832 : decode cL_law 832 = .ok (.iadd, 1) := by decide +kernel
theorem dL_law_833 : decode cL_law 833 = .ok (.iaload, 1) := by decide +kernel
theorem dL_law_834 : decode cL_law 834 = .ok (.invokevirtual 94, 3) := by decide +kernel
theorem dL_law_837 : decode cL_law 837 = .ok (.if_icmp .eq 679, 3) := by decide +kernel
theorem dL_law_840 : decode cL_law 840 = .ok (.iconst 0, 1) := by decide +kernel
theorem dL_law_841 : decode cL_law 841 = .ok (.ireturn, 1) := by decide +kernel
theorem dL_law_842 : decode cL_law 842 = .ok (.aload_n 1, 1) := by decide +kernel
theorem dL_law_843 : decode cL_law 843 = .ok (.aload_n 0, 1) := by decide +kernel
theorem dL_law_844 : decode cL_law 844 = .ok (.iload_n 3, 1) := by decide +kernel
theorem dL_law_845 : decode cL_law 845 = .ok (.iconst 1, 1) := by decide +kernel
theorem dL_law_846 : decode cL_law 846 = .ok (.iadd, 1) := by decide +kernel
theorem dL_law_847 : decode cL_law 847 = .ok (.iaload, 1) := by decide +kernel
theorem dL_law_848 : decode cL_law 848 = .ok (.aload_n 0, 1) := by decide +kernel
theorem dL_law_849 : decode cL_law 849 = .ok (.iload_n 3, 1) := by decide +kernel
theorem dL_law_850 : decode cL_law 850 = .ok (.iconst 2, 1) := by decide +kernel
theorem dL_law_851 : decode cL_law 851 = .ok (.iadd, 1) := by decide +kernel
theorem dL_law_852 : decode cL_law 852 = .ok (.iaload, 1) := by decide +kernel
theorem dL_law_853 : decode cL_law 853 = .ok (.aload_n 0, 1) := by decide +kernel
theorem dL_law_854 : decode cL_law 854 = .ok (.iload_n 3, 1) := by decide +kernel
theorem dL_law_855 : decode cL_law 855 = .ok (.iconst 3, 1) := by decide +kernel
theorem dL_law_856 : decode cL_law 856 = .ok (.iadd, 1) := by decide +kernel
theorem dL_law_857 : decode cL_law 857 = .ok (.iaload, 1) := by decide +kernel
theorem dL_law_858 : decode cL_law 858 = .ok (.invokevirtual 95, 3) := by decide +kernel
theorem dL_law_861 : decode cL_law 861 = .ok (.aload_n 2, 1) := by decide +kernel
theorem dL_law_862 : decode cL_law 862 = .ok (.aload_n 0, 1) := by decide +kernel
theorem dL_law_863 : decode cL_law 863 = .ok (.iload_n 3, 1) := by decide +kernel
theorem dL_law_864 : decode cL_law 864 = .ok (.iconst 1, 1) := by decide +kernel
theorem dL_law_865 : decode cL_law 865 = .ok (.iadd, 1) := by decide +kernel
theorem dL_law_866 : decode cL_law 866 = .ok (.iaload, 1) := by decide +kernel
theorem dL_law_867 : decode cL_law 867 = .ok (.aload_n 0, 1) := by decide +kernel
theorem dL_law_868 : decode cL_law 868 = .ok (.iload_n 3, 1) := by decide +kernel
theorem dL_law_869 : decode cL_law 869 = .ok (.iconst 2, 1) := by decide +kernel
theorem dL_law_870 : decode cL_law 870 = .ok (.iadd, 1) := by decide +kernel
theorem dL_law_871 : decode cL_law 871 = .ok (.iaload, 1) := by decide +kernel
theorem dL_law_872 : decode cL_law 872 = .ok (.aload_n 0, 1) := by decide +kernel
theorem dL_law_873 : decode cL_law 873 = .ok (.iload_n 3, 1) := by decide +kernel
theorem dL_law_874 : decode cL_law 874 = .ok (.iconst 3, 1) := by decide +kernel
theorem dL_law_875 : decode cL_law 875 = .ok (.iadd, 1) := by decide +kernel
theorem dL_law_876 : decode cL_law 876 = .ok (.iaload, 1) := by decide +kernel
theorem dL_law_877 : decode cL_law 877 = .ok (.invokevirtual 98, 3) := by decide +kernel
theorem dL_law_880 : decode cL_law 880 = .ok (.if_icmp .eq 636, 3) := by decide +kernel
theorem dL_law_883 : decode cL_law 883 = .ok (.iconst 0, 1) := by decide +kernel
theorem dL_law_884 : decode cL_law 884 = .ok (.ireturn, 1) := by decide +kernel
theorem dL_law_885 : decode cL_law 885 = .ok (.aload_n 1, 1) := by decide +kernel
theorem dL_law_886 : decode cL_law 886 = .ok (.aload_n 0, 1) := by decide +kernel
theorem dL_law_887 : decode cL_law 887 = .ok (.iload_n 3, 1) := by decide +kernel
theorem dL_law_888 : decode cL_law 888 = .ok (.iconst 1, 1) := by decide +kernel
theorem dL_law_889 : decode cL_law 889 = .ok (.iadd, 1) := by decide +kernel
theorem dL_law_890 : decode cL_law 890 = .ok (.iaload, 1) := by decide +kernel
theorem dL_law_891 : decode cL_law 891 = .ok (.invokevirtual 99, 3) := by decide +kernel
theorem dL_law_894 : decode cL_law 894 = .ok (.aload_n 2, 1) := by decide +kernel
theorem dL_law_895 : decode cL_law 895 = .ok (.aload_n 0, 1) := by decide +kernel
theorem dL_law_896 : decode cL_law 896 = .ok (.iload_n 3, 1) := by decide +kernel
theorem dL_law_897 : decode cL_law 897 = .ok (.iconst 1, 1) := by decide +kernel
theorem dL_law_898 : decode cL_law 898 = .ok (.iadd, 1) := by decide +kernel
theorem dL_law_899 : decode cL_law 899 = .ok (.iaload, 1) := by decide +kernel
theorem dL_law_900 : decode cL_law 900 = .ok (.invokevirtual 102, 3) := by decide +kernel
theorem dL_law_903 : decode cL_law 903 = .ok (.if_icmp .eq 613, 3) := by decide +kernel
theorem dL_law_906 : decode cL_law 906 = .ok (.iconst 0, 1) := by decide +kernel
theorem dL_law_907 : decode cL_law 907 = .ok (.ireturn, 1) := by decide +kernel
theorem dL_law_908 : decode cL_law 908 = .ok (.aload_n 1, 1) := by decide +kernel
theorem dL_law_909 : decode cL_law 909 = .ok (.aload_n 0, 1) := by decide +kernel
theorem dL_law_910 : decode cL_law 910 = .ok (.iload_n 3, 1) := by decide +kernel
theorem dL_law_911 : decode cL_law 911 = .ok (.iconst 1, 1) := by decide +kernel
theorem dL_law_912 : decode cL_law 912 = .ok (.iadd, 1) := by decide +kernel
theorem dL_law_913 : decode cL_law 913 = .ok (.iaload, 1) := by decide +kernel
theorem dL_law_914 : decode cL_law 914 = .ok (.aload_n 0, 1) := by decide +kernel
theorem dL_law_915 : decode cL_law 915 = .ok (.iload_n 3, 1) := by decide +kernel
theorem dL_law_916 : decode cL_law 916 = .ok (.iconst 2, 1) := by decide +kernel
theorem dL_law_917 : decode cL_law 917 = .ok (.iadd, 1) := by decide +kernel
theorem dL_law_918 : decode cL_law 918 = .ok (.iaload, 1) := by decide +kernel
theorem dL_law_919 : decode cL_law 919 = .ok (.i2l, 1) := by decide +kernel
theorem dL_law_920 : decode cL_law 920 = .ok (.bipush 32, 2) := by decide +kernel
theorem dL_law_922 : decode cL_law 922 = .ok (.lshl, 1) := by decide +kernel
theorem dL_law_923 : decode cL_law 923 = .ok (.aload_n 0, 1) := by decide +kernel
theorem dL_law_924 : decode cL_law 924 = .ok (.iload_n 3, 1) := by decide +kernel
theorem dL_law_925 : decode cL_law 925 = .ok (.iconst 3, 1) := by decide +kernel
theorem dL_law_926 : decode cL_law 926 = .ok (.iadd, 1) := by decide +kernel
theorem dL_law_927 : decode cL_law 927 = .ok (.iaload, 1) := by decide +kernel
theorem dL_law_928 : decode cL_law 928 = .ok (.i2l, 1) := by decide +kernel
theorem dL_law_929 : decode cL_law 929 = .ok (.ldc2_w 63, 3) := by decide +kernel
theorem dL_law_932 : decode cL_law 932 = .ok (.land, 1) := by decide +kernel
theorem dL_law_933 : decode cL_law 933 = .ok (.lor, 1) := by decide +kernel
theorem dL_law_934 : decode cL_law 934 = .ok (.aload_n 0, 1) := by decide +kernel
theorem dL_law_935 : decode cL_law 935 = .ok (.iload_n 3, 1) := by decide +kernel
theorem dL_law_936 : decode cL_law 936 = .ok (.iconst 4, 1) := by decide +kernel
theorem dL_law_937 : decode cL_law 937 = .ok (.iadd, 1) := by decide +kernel
theorem dL_law_938 : decode cL_law 938 = .ok (.iaload, 1) := by decide +kernel
theorem dL_law_939 : decode cL_law 939 = .ok (.invokevirtual 103, 3) := by decide +kernel
theorem dL_law_942 : decode cL_law 942 = .ok (.aload_n 2, 1) := by decide +kernel
theorem dL_law_943 : decode cL_law 943 = .ok (.aload_n 0, 1) := by decide +kernel
theorem dL_law_944 : decode cL_law 944 = .ok (.iload_n 3, 1) := by decide +kernel
theorem dL_law_945 : decode cL_law 945 = .ok (.iconst 1, 1) := by decide +kernel
theorem dL_law_946 : decode cL_law 946 = .ok (.iadd, 1) := by decide +kernel
theorem dL_law_947 : decode cL_law 947 = .ok (.iaload, 1) := by decide +kernel
theorem dL_law_948 : decode cL_law 948 = .ok (.aload_n 0, 1) := by decide +kernel
theorem dL_law_949 : decode cL_law 949 = .ok (.iload_n 3, 1) := by decide +kernel
theorem dL_law_950 : decode cL_law 950 = .ok (.iconst 2, 1) := by decide +kernel
theorem dL_law_951 : decode cL_law 951 = .ok (.iadd, 1) := by decide +kernel
theorem dL_law_952 : decode cL_law 952 = .ok (.iaload, 1) := by decide +kernel
theorem dL_law_953 : decode cL_law 953 = .ok (.i2l, 1) := by decide +kernel
theorem dL_law_954 : decode cL_law 954 = .ok (.bipush 32, 2) := by decide +kernel
theorem dL_law_956 : decode cL_law 956 = .ok (.lshl, 1) := by decide +kernel
theorem dL_law_957 : decode cL_law 957 = .ok (.aload_n 0, 1) := by decide +kernel
theorem dL_law_958 : decode cL_law 958 = .ok (.iload_n 3, 1) := by decide +kernel
theorem dL_law_959 : decode cL_law 959 = .ok (.iconst 3, 1) := by decide +kernel
theorem dL_law_960 : decode cL_law 960 = .ok (.iadd, 1) := by decide +kernel
theorem dL_law_961 : decode cL_law 961 = .ok (.iaload, 1) := by decide +kernel
theorem dL_law_962 : decode cL_law 962 = .ok (.i2l, 1) := by decide +kernel
theorem dL_law_963 : decode cL_law 963 = .ok (.ldc2_w 63, 3) := by decide +kernel
theorem dL_law_966 : decode cL_law 966 = .ok (.land, 1) := by decide +kernel
theorem dL_law_967 : decode cL_law 967 = .ok (.lor, 1) := by decide +kernel
theorem dL_law_968 : decode cL_law 968 = .ok (.aload_n 0, 1) := by decide +kernel
theorem dL_law_969 : decode cL_law 969 = .ok (.iload_n 3, 1) := by decide +kernel
theorem dL_law_970 : decode cL_law 970 = .ok (.iconst 4, 1) := by decide +kernel
theorem dL_law_971 : decode cL_law 971 = .ok (.iadd, 1) := by decide +kernel
theorem dL_law_972 : decode cL_law 972 = .ok (.iaload, 1) := by decide +kernel
theorem dL_law_973 : decode cL_law 973 = .ok (.invokevirtual 107, 3) := by decide +kernel
theorem dL_law_976 : decode cL_law 976 = .ok (.if_icmp .eq 540, 3) := by decide +kernel
theorem dL_law_979 : decode cL_law 979 = .ok (.iconst 0, 1) := by decide +kernel
theorem dL_law_980 : decode cL_law 980 = .ok (.ireturn, 1) := by decide +kernel
theorem dL_law_981 : decode cL_law 981 = .ok (.aload_n 1, 1) := by decide +kernel
theorem dL_law_982 : decode cL_law 982 = .ok (.aload_n 0, 1) := by decide +kernel
theorem dL_law_983 : decode cL_law 983 = .ok (.iload_n 3, 1) := by decide +kernel
theorem dL_law_984 : decode cL_law 984 = .ok (.iconst 1, 1) := by decide +kernel
theorem dL_law_985 : decode cL_law 985 = .ok (.iadd, 1) := by decide +kernel
theorem dL_law_986 : decode cL_law 986 = .ok (.iaload, 1) := by decide +kernel
theorem dL_law_987 : decode cL_law 987 = .ok (.aload_n 0, 1) := by decide +kernel
theorem dL_law_988 : decode cL_law 988 = .ok (.iload_n 3, 1) := by decide +kernel
theorem dL_law_989 : decode cL_law 989 = .ok (.iconst 2, 1) := by decide +kernel
theorem dL_law_990 : decode cL_law 990 = .ok (.iadd, 1) := by decide +kernel
theorem dL_law_991 : decode cL_law 991 = .ok (.iaload, 1) := by decide +kernel
theorem dL_law_992 : decode cL_law 992 = .ok (.i2l, 1) := by decide +kernel
theorem dL_law_993 : decode cL_law 993 = .ok (.bipush 32, 2) := by decide +kernel
theorem dL_law_995 : decode cL_law 995 = .ok (.lshl, 1) := by decide +kernel
theorem dL_law_996 : decode cL_law 996 = .ok (.aload_n 0, 1) := by decide +kernel
theorem dL_law_997 : decode cL_law 997 = .ok (.iload_n 3, 1) := by decide +kernel
theorem dL_law_998 : decode cL_law 998 = .ok (.iconst 3, 1) := by decide +kernel
theorem dL_law_999 : decode cL_law 999 = .ok (.iadd, 1) := by decide +kernel
theorem dL_law_1000 : decode cL_law 1000 = .ok (.iaload, 1) := by decide +kernel
theorem dL_law_1001 : decode cL_law 1001 = .ok (.i2l, 1) := by decide +kernel
theorem dL_law_1002 : decode cL_law 1002 = .ok (.ldc2_w 63, 3) := by decide +kernel
theorem dL_law_1005 : decode cL_law 1005 = .ok (.land, 1) := by decide +kernel
theorem dL_law_1006 : decode cL_law 1006 = .ok (.lor, 1) := by decide +kernel
theorem dL_law_1007 : decode cL_law 1007 = .ok (.aload_n 0, 1) := by decide +kernel
theorem dL_law_1008 : decode cL_law 1008 = .ok (.iload_n 3, 1) := by decide +kernel
theorem dL_law_1009 : decode cL_law 1009 = .ok (.iconst 4, 1) := by decide +kernel
theorem dL_law_1010 : decode cL_law 1010 = .ok (.iadd, 1) := by decide +kernel
theorem dL_law_1011 : decode cL_law 1011 = .ok (.iaload, 1) := by decide +kernel
theorem dL_law_1012 : decode cL_law 1012 = .ok (.invokevirtual 108, 3) := by decide +kernel
theorem dL_law_1015 : decode cL_law 1015 = .ok (.aload_n 2, 1) := by decide +kernel
theorem dL_law_1016 : decode cL_law 1016 = .ok (.aload_n 0, 1) := by decide +kernel
theorem dL_law_1017 : decode cL_law 1017 = .ok (.iload_n 3, 1) := by decide +kernel
theorem dL_law_1018 : decode cL_law 1018 = .ok (.iconst 1, 1) := by decide +kernel
theorem dL_law_1019 : decode cL_law 1019 = .ok (.iadd, 1) := by decide +kernel
theorem dL_law_1020 : decode cL_law 1020 = .ok (.iaload, 1) := by decide +kernel
theorem dL_law_1021 : decode cL_law 1021 = .ok (.aload_n 0, 1) := by decide +kernel
theorem dL_law_1022 : decode cL_law 1022 = .ok (.iload_n 3, 1) := by decide +kernel
theorem dL_law_1023 : decode cL_law 1023 = .ok (.iconst 2, 1) := by decide +kernel
theorem dL_law_1024 : decode cL_law 1024 = .ok (.iadd, 1) := by decide +kernel
theorem dL_law_1025 : decode cL_law 1025 = .ok (.iaload, 1) := by decide +kernel
theorem dL_law_1026 : decode cL_law 1026 = .ok (.i2l, 1) := by decide +kernel
theorem dL_law_1027 : decode cL_law 1027 = .ok (.bipush 32, 2) := by decide +kernel
theorem dL_law_1029 : decode cL_law 1029 = .ok (.lshl, 1) := by decide +kernel
theorem dL_law_1030 : decode cL_law 1030 = .ok (.aload_n 0, 1) := by decide +kernel
theorem dL_law_1031 : decode cL_law 1031 = .ok (.iload_n 3, 1) := by decide +kernel
theorem dL_law_1032 : decode cL_law 1032 = .ok (.iconst 3, 1) := by decide +kernel
theorem dL_law_1033 : decode cL_law 1033 = .ok (.iadd, 1) := by decide +kernel
theorem dL_law_1034 : decode cL_law 1034 = .ok (.iaload, 1) := by decide +kernel
theorem dL_law_1035 : decode cL_law 1035 = .ok (.i2l, 1) := by decide +kernel
theorem dL_law_1036 : decode cL_law 1036 = .ok (.ldc2_w 63, 3) := by decide +kernel
theorem dL_law_1039 : decode cL_law 1039 = .ok (.land, 1) := by decide +kernel
theorem dL_law_1040 : decode cL_law 1040 = .ok (.lor, 1) := by decide +kernel
theorem dL_law_1041 : decode cL_law 1041 = .ok (.aload_n 0, 1) := by decide +kernel
theorem dL_law_1042 : decode cL_law 1042 = .ok (.iload_n 3, 1) := by decide +kernel
theorem dL_law_1043 : decode cL_law 1043 = .ok (.iconst 4, 1) := by decide +kernel
theorem dL_law_1044 : decode cL_law 1044 = .ok (.iadd, 1) := by decide +kernel
theorem dL_law_1045 : decode cL_law 1045 = .ok (.iaload, 1) := by decide +kernel
theorem dL_law_1046 : decode cL_law 1046 = .ok (.invokevirtual 111, 3) := by decide +kernel
theorem dL_law_1049 : decode cL_law 1049 = .ok (.if_icmp .eq 467, 3) := by decide +kernel
theorem dL_law_1052 : decode cL_law 1052 = .ok (.iconst 0, 1) := by decide +kernel
theorem dL_law_1053 : decode cL_law 1053 = .ok (.ireturn, 1) := by decide +kernel
theorem dL_law_1054 : decode cL_law 1054 = .ok (.aload_n 1, 1) := by decide +kernel
theorem dL_law_1055 : decode cL_law 1055 = .ok (.aload_n 0, 1) := by decide +kernel
theorem dL_law_1056 : decode cL_law 1056 = .ok (.iload_n 3, 1) := by decide +kernel
theorem dL_law_1057 : decode cL_law 1057 = .ok (.iconst 1, 1) := by decide +kernel
theorem dL_law_1058 : decode cL_law 1058 = .ok (.iadd, 1) := by decide +kernel
theorem dL_law_1059 : decode cL_law 1059 = .ok (.iaload, 1) := by decide +kernel
theorem dL_law_1060 : decode cL_law 1060 = .ok (.i2l, 1) := by decide +kernel
theorem dL_law_1061 : decode cL_law 1061 = .ok (.bipush 32, 2) := by decide +kernel
theorem dL_law_1063 : decode cL_law 1063 = .ok (.lshl, 1) := by decide +kernel
theorem dL_law_1064 : decode cL_law 1064 = .ok (.aload_n 0, 1) := by decide +kernel
theorem dL_law_1065 : decode cL_law 1065 = .ok (.iload_n 3, 1) := by decide +kernel
theorem dL_law_1066 : decode cL_law 1066 = .ok (.iconst 2, 1) := by decide +kernel
theorem dL_law_1067 : decode cL_law 1067 = .ok (.iadd, 1) := by decide +kernel
theorem dL_law_1068 : decode cL_law 1068 = .ok (.iaload, 1) := by decide +kernel
theorem dL_law_1069 : decode cL_law 1069 = .ok (.i2l, 1) := by decide +kernel
theorem dL_law_1070 : decode cL_law 1070 = .ok (.ldc2_w 63, 3) := by decide +kernel
theorem dL_law_1073 : decode cL_law 1073 = .ok (.land, 1) := by decide +kernel
theorem dL_law_1074 : decode cL_law 1074 = .ok (.lor, 1) := by decide +kernel
theorem dL_law_1075 : decode cL_law 1075 = .ok (.aload_n 0, 1) := by decide +kernel
theorem dL_law_1076 : decode cL_law 1076 = .ok (.iload_n 3, 1) := by decide +kernel
theorem dL_law_1077 : decode cL_law 1077 = .ok (.iconst 3, 1) := by decide +kernel
theorem dL_law_1078 : decode cL_law 1078 = .ok (.iadd, 1) := by decide +kernel
theorem dL_law_1079 : decode cL_law 1079 = .ok (.iaload, 1) := by decide +kernel
theorem dL_law_1080 : decode cL_law 1080 = .ok (.aload_n 0, 1) := by decide +kernel
theorem dL_law_1081 : decode cL_law 1081 = .ok (.iload_n 3, 1) := by decide +kernel
theorem dL_law_1082 : decode cL_law 1082 = .ok (.iconst 4, 1) := by decide +kernel
theorem dL_law_1083 : decode cL_law 1083 = .ok (.iadd, 1) := by decide +kernel
theorem dL_law_1084 : decode cL_law 1084 = .ok (.iaload, 1) := by decide +kernel
theorem dL_law_1085 : decode cL_law 1085 = .ok (.invokevirtual 112, 3) := by decide +kernel
theorem dL_law_1088 : decode cL_law 1088 = .ok (.aload_n 2, 1) := by decide +kernel
theorem dL_law_1089 : decode cL_law 1089 = .ok (.aload_n 0, 1) := by decide +kernel
theorem dL_law_1090 : decode cL_law 1090 = .ok (.iload_n 3, 1) := by decide +kernel
theorem dL_law_1091 : decode cL_law 1091 = .ok (.iconst 1, 1) := by decide +kernel
theorem dL_law_1092 : decode cL_law 1092 = .ok (.iadd, 1) := by decide +kernel
theorem dL_law_1093 : decode cL_law 1093 = .ok (.iaload, 1) := by decide +kernel
theorem dL_law_1094 : decode cL_law 1094 = .ok (.i2l, 1) := by decide +kernel
theorem dL_law_1095 : decode cL_law 1095 = .ok (.bipush 32, 2) := by decide +kernel
theorem dL_law_1097 : decode cL_law 1097 = .ok (.lshl, 1) := by decide +kernel
theorem dL_law_1098 : decode cL_law 1098 = .ok (.aload_n 0, 1) := by decide +kernel
theorem dL_law_1099 : decode cL_law 1099 = .ok (.iload_n 3, 1) := by decide +kernel
theorem dL_law_1100 : decode cL_law 1100 = .ok (.iconst 2, 1) := by decide +kernel
theorem dL_law_1101 : decode cL_law 1101 = .ok (.iadd, 1) := by decide +kernel
theorem dL_law_1102 : decode cL_law 1102 = .ok (.iaload, 1) := by decide +kernel
theorem dL_law_1103 : decode cL_law 1103 = .ok (.i2l, 1) := by decide +kernel
theorem dL_law_1104 : decode cL_law 1104 = .ok (.ldc2_w 63, 3) := by decide +kernel
theorem dL_law_1107 : decode cL_law 1107 = .ok (.land, 1) := by decide +kernel
theorem dL_law_1108 : decode cL_law 1108 = .ok (.lor, 1) := by decide +kernel
theorem dL_law_1109 : decode cL_law 1109 = .ok (.aload_n 0, 1) := by decide +kernel
theorem dL_law_1110 : decode cL_law 1110 = .ok (.iload_n 3, 1) := by decide +kernel
theorem dL_law_1111 : decode cL_law 1111 = .ok (.iconst 3, 1) := by decide +kernel
theorem dL_law_1112 : decode cL_law 1112 = .ok (.iadd, 1) := by decide +kernel
theorem dL_law_1113 : decode cL_law 1113 = .ok (.iaload, 1) := by decide +kernel
theorem dL_law_1114 : decode cL_law 1114 = .ok (.aload_n 0, 1) := by decide +kernel
theorem dL_law_1115 : decode cL_law 1115 = .ok (.iload_n 3, 1) := by decide +kernel
theorem dL_law_1116 : decode cL_law 1116 = .ok (.iconst 4, 1) := by decide +kernel
theorem dL_law_1117 : decode cL_law 1117 = .ok (.iadd, 1) := by decide +kernel
theorem dL_law_1118 : decode cL_law 1118 = .ok (.iaload, 1) := by decide +kernel
theorem dL_law_1119 : decode cL_law 1119 = .ok (.invokevirtual 116, 3) := by decide +kernel
theorem dL_law_1122 : decode cL_law 1122 = .ok (.if_icmp .eq 394, 3) := by decide +kernel
theorem dL_law_1125 : decode cL_law 1125 = .ok (.iconst 0, 1) := by decide +kernel
theorem dL_law_1126 : decode cL_law 1126 = .ok (.ireturn, 1) := by decide +kernel
theorem dL_law_1127 : decode cL_law 1127 = .ok (.aload_n 1, 1) := by decide +kernel
theorem dL_law_1128 : decode cL_law 1128 = .ok (.aload_n 0, 1) := by decide +kernel
theorem dL_law_1129 : decode cL_law 1129 = .ok (.iload_n 3, 1) := by decide +kernel
theorem dL_law_1130 : decode cL_law 1130 = .ok (.iconst 1, 1) := by decide +kernel
theorem dL_law_1131 : decode cL_law 1131 = .ok (.iadd, 1) := by decide +kernel
theorem dL_law_1132 : decode cL_law 1132 = .ok (.iaload, 1) := by decide +kernel
theorem dL_law_1133 : decode cL_law 1133 = .ok (.invokevirtual 117, 3) := by decide +kernel
theorem dL_law_1136 : decode cL_law 1136 = .ok (.aload_n 2, 1) := by decide +kernel
theorem dL_law_1137 : decode cL_law 1137 = .ok (.aload_n 0, 1) := by decide +kernel
theorem dL_law_1138 : decode cL_law 1138 = .ok (.iload_n 3, 1) := by decide +kernel
theorem dL_law_1139 : decode cL_law 1139 = .ok (.iconst 1, 1) := by decide +kernel
theorem dL_law_1140 : decode cL_law 1140 = .ok (.iadd, 1) := by decide +kernel
theorem dL_law_1141 : decode cL_law 1141 = .ok (.iaload, 1) := by decide +kernel
theorem dL_law_1142 : decode cL_law 1142 = .ok (.invokevirtual 120, 3) := by decide +kernel
theorem dL_law_1145 : decode cL_law 1145 = .ok (.if_icmp .eq 371, 3) := by decide +kernel
theorem dL_law_1148 : decode cL_law 1148 = .ok (.iconst 0, 1) := by decide +kernel
theorem dL_law_1149 : decode cL_law 1149 = .ok (.ireturn, 1) := by decide +kernel
theorem dL_law_1150 : decode cL_law 1150 = .ok (.aload_n 1, 1) := by decide +kernel
theorem dL_law_1151 : decode cL_law 1151 = .ok (.aload_n 0, 1) := by decide +kernel
theorem dL_law_1152 : decode cL_law 1152 = .ok (.iload_n 3, 1) := by decide +kernel
theorem dL_law_1153 : decode cL_law 1153 = .ok (.iconst 1, 1) := by decide +kernel
theorem dL_law_1154 : decode cL_law 1154 = .ok (.iadd, 1) := by decide +kernel
theorem dL_law_1155 : decode cL_law 1155 = .ok (.iaload, 1) := by decide +kernel
theorem dL_law_1156 : decode cL_law 1156 = .ok (.aload_n 0, 1) := by decide +kernel
theorem dL_law_1157 : decode cL_law 1157 = .ok (.iload_n 3, 1) := by decide +kernel
theorem dL_law_1158 : decode cL_law 1158 = .ok (.iconst 2, 1) := by decide +kernel
theorem dL_law_1159 : decode cL_law 1159 = .ok (.iadd, 1) := by decide +kernel
theorem dL_law_1160 : decode cL_law 1160 = .ok (.iaload, 1) := by decide +kernel
theorem dL_law_1161 : decode cL_law 1161 = .ok (.aload_n 0, 1) := by decide +kernel
theorem dL_law_1162 : decode cL_law 1162 = .ok (.iload_n 3, 1) := by decide +kernel
theorem dL_law_1163 : decode cL_law 1163 = .ok (.iconst 3, 1) := by decide +kernel
theorem dL_law_1164 : decode cL_law 1164 = .ok (.iadd, 1) := by decide +kernel
theorem dL_law_1165 : decode cL_law 1165 = .ok (.iaload, 1) := by decide +kernel
theorem dL_law_1166 : decode cL_law 1166 = .ok (.invokevirtual 121, 3) := by decide +kernel
theorem dL_law_1169 : decode cL_law 1169 = .ok (.aload_n 2, 1) := by decide +kernel
theorem dL_law_1170 : decode cL_law 1170 = .ok (.aload_n 0, 1) := by decide +kernel
theorem dL_law_1171 : decode cL_law 1171 = .ok (.iload_n 3, 1) := by decide +kernel
theorem dL_law_1172 : decode cL_law 1172 = .ok (.iconst 1, 1) := by decide +kernel
theorem dL_law_1173 : decode cL_law 1173 = .ok (.iadd, 1) := by decide +kernel
theorem dL_law_1174 : decode cL_law 1174 = .ok (.iaload, 1) := by decide +kernel
theorem dL_law_1175 : decode cL_law 1175 = .ok (.aload_n 0, 1) := by decide +kernel
theorem dL_law_1176 : decode cL_law 1176 = .ok (.iload_n 3, 1) := by decide +kernel
theorem dL_law_1177 : decode cL_law 1177 = .ok (.iconst 2, 1) := by decide +kernel
theorem dL_law_1178 : decode cL_law 1178 = .ok (.iadd, 1) := by decide +kernel
theorem dL_law_1179 : decode cL_law 1179 = .ok (.iaload, 1) := by decide +kernel
theorem dL_law_1180 : decode cL_law 1180 = .ok (.aload_n 0, 1) := by decide +kernel
theorem dL_law_1181 : decode cL_law 1181 = .ok (.iload_n 3, 1) := by decide +kernel
theorem dL_law_1182 : decode cL_law 1182 = .ok (.iconst 3, 1) := by decide +kernel
theorem dL_law_1183 : decode cL_law 1183 = .ok (.iadd, 1) := by decide +kernel
theorem dL_law_1184 : decode cL_law 1184 = .ok (.iaload, 1) := by decide +kernel
theorem dL_law_1185 : decode cL_law 1185 = .ok (.invokevirtual 124, 3) := by decide +kernel
theorem dL_law_1188 : decode cL_law 1188 = .ok (.if_icmp .eq 328, 3) := by decide +kernel
theorem dL_law_1191 : decode cL_law 1191 = .ok (.iconst 0, 1) := by decide +kernel
theorem dL_law_1192 : decode cL_law 1192 = .ok (.ireturn, 1) := by decide +kernel
theorem dL_law_1193 : decode cL_law 1193 = .ok (.aload_n 1, 1) := by decide +kernel
theorem dL_law_1194 : decode cL_law 1194 = .ok (.aload_n 0, 1) := by decide +kernel
theorem dL_law_1195 : decode cL_law 1195 = .ok (.iload_n 3, 1) := by decide +kernel
theorem dL_law_1196 : decode cL_law 1196 = .ok (.iconst 1, 1) := by decide +kernel
theorem dL_law_1197 : decode cL_law 1197 = .ok (.iadd, 1) := by decide +kernel
theorem dL_law_1198 : decode cL_law 1198 = .ok (.iaload, 1) := by decide +kernel
theorem dL_law_1199 : decode cL_law 1199 = .ok (.aload_n 0, 1) := by decide +kernel
theorem dL_law_1200 : decode cL_law 1200 = .ok (.iload_n 3, 1) := by decide +kernel
theorem dL_law_1201 : decode cL_law 1201 = .ok (.iconst 2, 1) := by decide +kernel
theorem dL_law_1202 : decode cL_law 1202 = .ok (.iadd, 1) := by decide +kernel
theorem dL_law_1203 : decode cL_law 1203 = .ok (.iaload, 1) := by decide +kernel
theorem dL_law_1204 : decode cL_law 1204 = .ok (.aload_n 0, 1) := by decide +kernel
theorem dL_law_1205 : decode cL_law 1205 = .ok (.iload_n 3, 1) := by decide +kernel
theorem dL_law_1206 : decode cL_law 1206 = .ok (.iconst 3, 1) := by decide +kernel
theorem dL_law_1207 : decode cL_law 1207 = .ok (.iadd, 1) := by decide +kernel
theorem dL_law_1208 : decode cL_law 1208 = .ok (.iaload, 1) := by decide +kernel
theorem dL_law_1209 : decode cL_law 1209 = .ok (.invokevirtual 125, 3) := by decide +kernel
theorem dL_law_1212 : decode cL_law 1212 = .ok (.aload_n 2, 1) := by decide +kernel
theorem dL_law_1213 : decode cL_law 1213 = .ok (.aload_n 0, 1) := by decide +kernel
theorem dL_law_1214 : decode cL_law 1214 = .ok (.iload_n 3, 1) := by decide +kernel
theorem dL_law_1215 : decode cL_law 1215 = .ok (.iconst 1, 1) := by decide +kernel
theorem dL_law_1216 : decode cL_law 1216 = .ok (.iadd, 1) := by decide +kernel
theorem dL_law_1217 : decode cL_law 1217 = .ok (.iaload, 1) := by decide +kernel
theorem dL_law_1218 : decode cL_law 1218 = .ok (.aload_n 0, 1) := by decide +kernel
theorem dL_law_1219 : decode cL_law 1219 = .ok (.iload_n 3, 1) := by decide +kernel
theorem dL_law_1220 : decode cL_law 1220 = .ok (.iconst 2, 1) := by decide +kernel
theorem dL_law_1221 : decode cL_law 1221 = .ok (.iadd, 1) := by decide +kernel
theorem dL_law_1222 : decode cL_law 1222 = .ok (.iaload, 1) := by decide +kernel
theorem dL_law_1223 : decode cL_law 1223 = .ok (.aload_n 0, 1) := by decide +kernel
theorem dL_law_1224 : decode cL_law 1224 = .ok (.iload_n 3, 1) := by decide +kernel
theorem dL_law_1225 : decode cL_law 1225 = .ok (.iconst 3, 1) := by decide +kernel
theorem dL_law_1226 : decode cL_law 1226 = .ok (.iadd, 1) := by decide +kernel
theorem dL_law_1227 : decode cL_law 1227 = .ok (.iaload, 1) := by decide +kernel
theorem dL_law_1228 : decode cL_law 1228 = .ok (.invokevirtual 128, 3) := by decide +kernel
theorem dL_law_1231 : decode cL_law 1231 = .ok (.if_icmp .eq 285, 3) := by decide +kernel
theorem dL_law_1234 : decode cL_law 1234 = .ok (.iconst 0, 1) := by decide +kernel
theorem dL_law_1235 : decode cL_law 1235 = .ok (.ireturn, 1) := by decide +kernel
theorem dL_law_1236 : decode cL_law 1236 = .ok (.aload_n 1, 1) := by decide +kernel
theorem dL_law_1237 : decode cL_law 1237 = .ok (.aload_n 0, 1) := by decide +kernel
theorem dL_law_1238 : decode cL_law 1238 = .ok (.iload_n 3, 1) := by decide +kernel
theorem dL_law_1239 : decode cL_law 1239 = .ok (.iconst 1, 1) := by decide +kernel
theorem dL_law_1240 : decode cL_law 1240 = .ok (.iadd, 1) := by decide +kernel
theorem dL_law_1241 : decode cL_law 1241 = .ok (.iaload, 1) := by decide +kernel
theorem dL_law_1242 : decode cL_law 1242 = .ok (.invokevirtual 129, 3) := by decide +kernel
theorem dL_law_1245 : decode cL_law 1245 = .ok (.aload_n 2, 1) := by decide +kernel
theorem dL_law_1246 : decode cL_law 1246 = .ok (.aload_n 0, 1) := by decide +kernel
theorem dL_law_1247 : decode cL_law 1247 = .ok (.iload_n 3, 1) := by decide +kernel
theorem dL_law_1248 : decode cL_law 1248 = .ok (.iconst 1, 1) := by decide +kernel
theorem dL_law_1249 : decode cL_law 1249 = .ok (.iadd, 1) := by decide +kernel
theorem dL_law_1250 : decode cL_law 1250 = .ok (.iaload, 1) := by decide +kernel
theorem dL_law_1251 : decode cL_law 1251 = .ok (.invokevirtual 132, 3) := by decide +kernel
theorem dL_law_1254 : decode cL_law 1254 = .ok (.if_icmp .eq 262, 3) := by decide +kernel
theorem dL_law_1257 : decode cL_law 1257 = .ok (.iconst 0, 1) := by decide +kernel
theorem dL_law_1258 : decode cL_law 1258 = .ok (.ireturn, 1) := by decide +kernel
theorem dL_law_1259 : decode cL_law 1259 = .ok (.aload_n 1, 1) := by decide +kernel
theorem dL_law_1260 : decode cL_law 1260 = .ok (.invokevirtual 133, 3) := by decide +kernel
theorem dL_law_1263 : decode cL_law 1263 = .ok (.aload_n 2, 1) := by decide +kernel
theorem dL_law_1264 : decode cL_law 1264 = .ok (.invokevirtual 136, 3) := by decide +kernel
theorem dL_law_1267 : decode cL_law 1267 = .ok (.if_icmp .eq 249, 3) := by decide +kernel
theorem dL_law_1270 : decode cL_law 1270 = .ok (.iconst 0, 1) := by decide +kernel
theorem dL_law_1271 : decode cL_law 1271 = .ok (.ireturn, 1) := by decide +kernel
theorem dL_law_1272 : decode cL_law 1272 = .ok (.aload_n 1, 1) := by decide +kernel
theorem dL_law_1273 : decode cL_law 1273 = .ok (.aload_n 0, 1) := by decide +kernel
theorem dL_law_1274 : decode cL_law 1274 = .ok (.iload_n 3, 1) := by decide +kernel
theorem dL_law_1275 : decode cL_law 1275 = .ok (.iconst 1, 1) := by decide +kernel
theorem dL_law_1276 : decode cL_law 1276 = .ok (.iadd, 1) := by decide +kernel
theorem dL_law_1277 : decode cL_law 1277 = .ok (.iaload, 1) := by decide +kernel
theorem dL_law_1278 : decode cL_law 1278 = .ok (.aload_n 0, 1) := by decide +kernel
theorem dL_law_1279 : decode cL_law 1279 = .ok (.iload_n 3, 1) := by decide +kernel
theorem dL_law_1280 : decode cL_law 1280 = .ok (.iconst 2, 1) := by decide +kernel
theorem dL_law_1281 : decode cL_law 1281 = .ok (.iadd, 1) := by decide +kernel
theorem dL_law_1282 : decode cL_law 1282 = .ok (.iaload, 1) := by decide +kernel
theorem dL_law_1283 : decode cL_law 1283 = .ok (.aload_n 0, 1) := by decide +kernel
theorem dL_law_1284 : decode cL_law 1284 = .ok (.iload_n 3, 1) := by decide +kernel
theorem dL_law_1285 : decode cL_law 1285 = .ok (.iconst 3, 1) := by decide +kernel
theorem dL_law_1286 : decode cL_law 1286 = .ok (.iadd, 1) := by decide +kernel
theorem dL_law_1287 : decode cL_law 1287 = .ok (.iaload, 1) := by decide +kernel
theorem dL_law_1288 : decode cL_law 1288 = .ok (.invokevirtual 137, 3) := by decide +kernel
theorem dL_law_1291 : decode cL_law 1291 = .ok (.aload_n 2, 1) := by decide +kernel
theorem dL_law_1292 : decode cL_law 1292 = .ok (.aload_n 0, 1) := by decide +kernel
theorem dL_law_1293 : decode cL_law 1293 = .ok (.iload_n 3, 1) := by decide +kernel
theorem dL_law_1294 : decode cL_law 1294 = .ok (.iconst 1, 1) := by decide +kernel
theorem dL_law_1295 : decode cL_law 1295 = .ok (.iadd, 1) := by decide +kernel
theorem dL_law_1296 : decode cL_law 1296 = .ok (.iaload, 1) := by decide +kernel
theorem dL_law_1297 : decode cL_law 1297 = .ok (.aload_n 0, 1) := by decide +kernel
theorem dL_law_1298 : decode cL_law 1298 = .ok (.iload_n 3, 1) := by decide +kernel
theorem dL_law_1299 : decode cL_law 1299 = .ok (.iconst 2, 1) := by decide +kernel
theorem dL_law_1300 : decode cL_law 1300 = .ok (.iadd, 1) := by decide +kernel
theorem dL_law_1301 : decode cL_law 1301 = .ok (.iaload, 1) := by decide +kernel
theorem dL_law_1302 : decode cL_law 1302 = .ok (.aload_n 0, 1) := by decide +kernel
theorem dL_law_1303 : decode cL_law 1303 = .ok (.iload_n 3, 1) := by decide +kernel
theorem dL_law_1304 : decode cL_law 1304 = .ok (.iconst 3, 1) := by decide +kernel
theorem dL_law_1305 : decode cL_law 1305 = .ok (.iadd, 1) := by decide +kernel
theorem dL_law_1306 : decode cL_law 1306 = .ok (.iaload, 1) := by decide +kernel
theorem dL_law_1307 : decode cL_law 1307 = .ok (.invokevirtual 140, 3) := by decide +kernel
theorem dL_law_1310 : decode cL_law 1310 = .ok (.if_icmp .eq 206, 3) := by decide +kernel
theorem dL_law_1313 : decode cL_law 1313 = .ok (.iconst 0, 1) := by decide +kernel
theorem dL_law_1314 : decode cL_law 1314 = .ok (.ireturn, 1) := by decide +kernel
theorem dL_law_1315 : decode cL_law 1315 = .ok (.aload_n 1, 1) := by decide +kernel
theorem dL_law_1316 : decode cL_law 1316 = .ok (.aload_n 0, 1) := by decide +kernel
theorem dL_law_1317 : decode cL_law 1317 = .ok (.iload_n 3, 1) := by decide +kernel
theorem dL_law_1318 : decode cL_law 1318 = .ok (.iconst 1, 1) := by decide +kernel
theorem dL_law_1319 : decode cL_law 1319 = .ok (.iadd, 1) := by decide +kernel
theorem dL_law_1320 : decode cL_law 1320 = .ok (.iaload, 1) := by decide +kernel
theorem dL_law_1321 : decode cL_law 1321 = .ok (.aload_n 0, 1) := by decide +kernel
theorem dL_law_1322 : decode cL_law 1322 = .ok (.iload_n 3, 1) := by decide +kernel
theorem dL_law_1323 : decode cL_law 1323 = .ok (.iconst 2, 1) := by decide +kernel
theorem dL_law_1324 : decode cL_law 1324 = .ok (.iadd, 1) := by decide +kernel
theorem dL_law_1325 : decode cL_law 1325 = .ok (.iaload, 1) := by decide +kernel
theorem dL_law_1326 : decode cL_law 1326 = .ok (.invokevirtual 141, 3) := by decide +kernel
theorem dL_law_1329 : decode cL_law 1329 = .ok (.aload_n 2, 1) := by decide +kernel
theorem dL_law_1330 : decode cL_law 1330 = .ok (.aload_n 0, 1) := by decide +kernel
theorem dL_law_1331 : decode cL_law 1331 = .ok (.iload_n 3, 1) := by decide +kernel
theorem dL_law_1332 : decode cL_law 1332 = .ok (.iconst 1, 1) := by decide +kernel
theorem dL_law_1333 : decode cL_law 1333 = .ok (.iadd, 1) := by decide +kernel
theorem dL_law_1334 : decode cL_law 1334 = .ok (.iaload, 1) := by decide +kernel
theorem dL_law_1335 : decode cL_law 1335 = .ok (.aload_n 0, 1) := by decide +kernel
theorem dL_law_1336 : decode cL_law 1336 = .ok (.iload_n 3, 1) := by decide +kernel
theorem dL_law_1337 : decode cL_law 1337 = .ok (.iconst 2, 1) := by decide +kernel
theorem dL_law_1338 : decode cL_law 1338 = .ok (.iadd, 1) := by decide +kernel
theorem dL_law_1339 : decode cL_law 1339 = .ok (.iaload, 1) := by decide +kernel
theorem dL_law_1340 : decode cL_law 1340 = .ok (.invokevirtual 144, 3) := by decide +kernel
theorem dL_law_1343 : decode cL_law 1343 = .ok (.if_icmp .eq 173, 3) := by decide +kernel
theorem dL_law_1346 : decode cL_law 1346 = .ok (.iconst 0, 1) := by decide +kernel
theorem dL_law_1347 : decode cL_law 1347 = .ok (.ireturn, 1) := by decide +kernel
theorem dL_law_1348 : decode cL_law 1348 = .ok (.aload_n 1, 1) := by decide +kernel
theorem dL_law_1349 : decode cL_law 1349 = .ok (.aload_n 0, 1) := by decide +kernel
theorem dL_law_1350 : decode cL_law 1350 = .ok (.iload_n 3, 1) := by decide +kernel
theorem dL_law_1351 : decode cL_law 1351 = .ok (.iconst 1, 1) := by decide +kernel
theorem dL_law_1352 : decode cL_law 1352 = .ok (.iadd, 1) := by decide +kernel
theorem dL_law_1353 : decode cL_law 1353 = .ok (.iaload, 1) := by decide +kernel
theorem dL_law_1354 : decode cL_law 1354 = .ok (.invokevirtual 145, 3) := by decide +kernel
theorem dL_law_1357 : decode cL_law 1357 = .ok (.aload_n 2, 1) := by decide +kernel
theorem dL_law_1358 : decode cL_law 1358 = .ok (.aload_n 0, 1) := by decide +kernel
theorem dL_law_1359 : decode cL_law 1359 = .ok (.iload_n 3, 1) := by decide +kernel
theorem dL_law_1360 : decode cL_law 1360 = .ok (.iconst 1, 1) := by decide +kernel
theorem dL_law_1361 : decode cL_law 1361 = .ok (.iadd, 1) := by decide +kernel
theorem dL_law_1362 : decode cL_law 1362 = .ok (.iaload, 1) := by decide +kernel
theorem dL_law_1363 : decode cL_law 1363 = .ok (.invokevirtual 148, 3) := by decide +kernel
theorem dL_law_1366 : decode cL_law 1366 = .ok (.if_icmp .eq 150, 3) := by decide +kernel
theorem dL_law_1369 : decode cL_law 1369 = .ok (.iconst 0, 1) := by decide +kernel
theorem dL_law_1370 : decode cL_law 1370 = .ok (.ireturn, 1) := by decide +kernel
theorem dL_law_1371 : decode cL_law 1371 = .ok (.aload_n 1, 1) := by decide +kernel
theorem dL_law_1372 : decode cL_law 1372 = .ok (.aload_n 0, 1) := by decide +kernel
theorem dL_law_1373 : decode cL_law 1373 = .ok (.iload_n 3, 1) := by decide +kernel
theorem dL_law_1374 : decode cL_law 1374 = .ok (.iconst 1, 1) := by decide +kernel
theorem dL_law_1375 : decode cL_law 1375 = .ok (.iadd, 1) := by decide +kernel
theorem dL_law_1376 : decode cL_law 1376 = .ok (.iaload, 1) := by decide +kernel
theorem dL_law_1377 : decode cL_law 1377 = .ok (.aload_n 0, 1) := by decide +kernel
theorem dL_law_1378 : decode cL_law 1378 = .ok (.iload_n 3, 1) := by decide +kernel
theorem dL_law_1379 : decode cL_law 1379 = .ok (.iconst 2, 1) := by decide +kernel
theorem dL_law_1380 : decode cL_law 1380 = .ok (.iadd, 1) := by decide +kernel
theorem dL_law_1381 : decode cL_law 1381 = .ok (.iaload, 1) := by decide +kernel
theorem dL_law_1382 : decode cL_law 1382 = .ok (.aload_n 0, 1) := by decide +kernel
theorem dL_law_1383 : decode cL_law 1383 = .ok (.iload_n 3, 1) := by decide +kernel
theorem dL_law_1384 : decode cL_law 1384 = .ok (.iconst 3, 1) := by decide +kernel
theorem dL_law_1385 : decode cL_law 1385 = .ok (.iadd, 1) := by decide +kernel
theorem dL_law_1386 : decode cL_law 1386 = .ok (.iaload, 1) := by decide +kernel
theorem dL_law_1387 : decode cL_law 1387 = .ok (.invokevirtual 149, 3) := by decide +kernel
theorem dL_law_1390 : decode cL_law 1390 = .ok (.aload_n 2, 1) := by decide +kernel
theorem dL_law_1391 : decode cL_law 1391 = .ok (.aload_n 0, 1) := by decide +kernel
theorem dL_law_1392 : decode cL_law 1392 = .ok (.iload_n 3, 1) := by decide +kernel
theorem dL_law_1393 : decode cL_law 1393 = .ok (.iconst 1, 1) := by decide +kernel
theorem dL_law_1394 : decode cL_law 1394 = .ok (.iadd, 1) := by decide +kernel
theorem dL_law_1395 : decode cL_law 1395 = .ok (.iaload, 1) := by decide +kernel
theorem dL_law_1396 : decode cL_law 1396 = .ok (.aload_n 0, 1) := by decide +kernel
theorem dL_law_1397 : decode cL_law 1397 = .ok (.iload_n 3, 1) := by decide +kernel
theorem dL_law_1398 : decode cL_law 1398 = .ok (.iconst 2, 1) := by decide +kernel
theorem dL_law_1399 : decode cL_law 1399 = .ok (.iadd, 1) := by decide +kernel
theorem dL_law_1400 : decode cL_law 1400 = .ok (.iaload, 1) := by decide +kernel
theorem dL_law_1401 : decode cL_law 1401 = .ok (.aload_n 0, 1) := by decide +kernel
theorem dL_law_1402 : decode cL_law 1402 = .ok (.iload_n 3, 1) := by decide +kernel
theorem dL_law_1403 : decode cL_law 1403 = .ok (.iconst 3, 1) := by decide +kernel
theorem dL_law_1404 : decode cL_law 1404 = .ok (.iadd, 1) := by decide +kernel
theorem dL_law_1405 : decode cL_law 1405 = .ok (.iaload, 1) := by decide +kernel
theorem dL_law_1406 : decode cL_law 1406 = .ok (.invokevirtual 152, 3) := by decide +kernel
theorem dL_law_1409 : decode cL_law 1409 = .ok (.if_icmp .eq 107, 3) := by decide +kernel
theorem dL_law_1412 : decode cL_law 1412 = .ok (.iconst 0, 1) := by decide +kernel
theorem dL_law_1413 : decode cL_law 1413 = .ok (.ireturn, 1) := by decide +kernel
theorem dL_law_1414 : decode cL_law 1414 = .ok (.aload_n 1, 1) := by decide +kernel
theorem dL_law_1415 : decode cL_law 1415 = .ok (.aload_n 0, 1) := by decide +kernel
theorem dL_law_1416 : decode cL_law 1416 = .ok (.iload_n 3, 1) := by decide +kernel
theorem dL_law_1417 : decode cL_law 1417 = .ok (.iconst 1, 1) := by decide +kernel
theorem dL_law_1418 : decode cL_law 1418 = .ok (.iadd, 1) := by decide +kernel
theorem dL_law_1419 : decode cL_law 1419 = .ok (.iaload, 1) := by decide +kernel
theorem dL_law_1420 : decode cL_law 1420 = .ok (.aload_n 0, 1) := by decide +kernel
theorem dL_law_1421 : decode cL_law 1421 = .ok (.iload_n 3, 1) := by decide +kernel
theorem dL_law_1422 : decode cL_law 1422 = .ok (.iconst 2, 1) := by decide +kernel
theorem dL_law_1423 : decode cL_law 1423 = .ok (.iadd, 1) := by decide +kernel
theorem dL_law_1424 : decode cL_law 1424 = .ok (.iaload, 1) := by decide +kernel
theorem dL_law_1425 : decode cL_law 1425 = .ok (.aload_n 0, 1) := by decide +kernel
theorem dL_law_1426 : decode cL_law 1426 = .ok (.iload_n 3, 1) := by decide +kernel
theorem dL_law_1427 : decode cL_law 1427 = .ok (.iconst 3, 1) := by decide +kernel
theorem dL_law_1428 : decode cL_law 1428 = .ok (.iadd, 1) := by decide +kernel
theorem dL_law_1429 : decode cL_law 1429 = .ok (.iaload, 1) := by decide +kernel
theorem dL_law_1430 : decode cL_law 1430 = .ok (.invokevirtual 153, 3) := by decide +kernel
theorem dL_law_1433 : decode cL_law 1433 = .ok (.aload_n 2, 1) := by decide +kernel
theorem dL_law_1434 : decode cL_law 1434 = .ok (.aload_n 0, 1) := by decide +kernel
theorem dL_law_1435 : decode cL_law 1435 = .ok (.iload_n 3, 1) := by decide +kernel
theorem dL_law_1436 : decode cL_law 1436 = .ok (.iconst 1, 1) := by decide +kernel
theorem dL_law_1437 : decode cL_law 1437 = .ok (.iadd, 1) := by decide +kernel
theorem dL_law_1438 : decode cL_law 1438 = .ok (.iaload, 1) := by decide +kernel
theorem dL_law_1439 : decode cL_law 1439 = .ok (.aload_n 0, 1) := by decide +kernel
theorem dL_law_1440 : decode cL_law 1440 = .ok (.iload_n 3, 1) := by decide +kernel
theorem dL_law_1441 : decode cL_law 1441 = .ok (.iconst 2, 1) := by decide +kernel
theorem dL_law_1442 : decode cL_law 1442 = .ok (.iadd, 1) := by decide +kernel
theorem dL_law_1443 : decode cL_law 1443 = .ok (.iaload, 1) := by decide +kernel
theorem dL_law_1444 : decode cL_law 1444 = .ok (.aload_n 0, 1) := by decide +kernel
theorem dL_law_1445 : decode cL_law 1445 = .ok (.iload_n 3, 1) := by decide +kernel
theorem dL_law_1446 : decode cL_law 1446 = .ok (.iconst 3, 1) := by decide +kernel
theorem dL_law_1447 : decode cL_law 1447 = .ok (.iadd, 1) := by decide +kernel
theorem dL_law_1448 : decode cL_law 1448 = .ok (.iaload, 1) := by decide +kernel
theorem dL_law_1449 : decode cL_law 1449 = .ok (.invokevirtual 156, 3) := by decide +kernel
theorem dL_law_1452 : decode cL_law 1452 = .ok (.if_icmp .eq 64, 3) := by decide +kernel
theorem dL_law_1455 : decode cL_law 1455 = .ok (.iconst 0, 1) := by decide +kernel
theorem dL_law_1456 : decode cL_law 1456 = .ok (.ireturn, 1) := by decide +kernel
theorem dL_law_1457 : decode cL_law 1457 = .ok (.aload_n 1, 1) := by decide +kernel
theorem dL_law_1458 : decode cL_law 1458 = .ok (.invokevirtual 157, 3) := by decide +kernel
theorem dL_law_1461 : decode cL_law 1461 = .ok (.aload_n 2, 1) := by decide +kernel
theorem dL_law_1462 : decode cL_law 1462 = .ok (.invokevirtual 160, 3) := by decide +kernel
theorem dL_law_1465 : decode cL_law 1465 = .ok (.if_icmp .eq 51, 3) := by decide +kernel
theorem dL_law_1468 : decode cL_law 1468 = .ok (.iconst 0, 1) := by decide +kernel
theorem dL_law_1469 : decode cL_law 1469 = .ok (.ireturn, 1) := by decide +kernel
theorem dL_law_1470 : decode cL_law 1470 = .ok (.aload_n 1, 1) := by decide +kernel
theorem dL_law_1471 : decode cL_law 1471 = .ok (.aload_n 0, 1) := by decide +kernel
theorem dL_law_1472 : decode cL_law 1472 = .ok (.iload_n 3, 1) := by decide +kernel
theorem dL_law_1473 : decode cL_law 1473 = .ok (.iconst 1, 1) := by decide +kernel
theorem dL_law_1474 : decode cL_law 1474 = .ok (.iadd, 1) := by decide +kernel
theorem dL_law_1475 : decode cL_law 1475 = .ok (.iaload, 1) := by decide +kernel
theorem dL_law_1476 : decode cL_law 1476 = .ok (.invokevirtual 161, 3) := by decide +kernel
theorem dL_law_1479 : decode cL_law 1479 = .ok (.aload_n 2, 1) := by decide +kernel
theorem dL_law_1480 : decode cL_law 1480 = .ok (.aload_n 0, 1) := by decide +kernel
theorem dL_law_1481 : decode cL_law 1481 = .ok (.iload_n 3, 1) := by decide +kernel
theorem dL_law_1482 : decode cL_law 1482 = .ok (.iconst 1, 1) := by decide +kernel
theorem dL_law_1483 : decode cL_law 1483 = .ok (.iadd, 1) := by decide +kernel
theorem dL_law_1484 : decode cL_law 1484 = .ok (.iaload, 1) := by decide +kernel
theorem dL_law_1485 : decode cL_law 1485 = .ok (.invokevirtual 164, 3) := by decide +kernel
theorem dL_law_1488 : decode cL_law 1488 = .ok (.if_icmp .eq 28, 3) := by decide +kernel
theorem dL_law_1491 : decode cL_law 1491 = .ok (.iconst 0, 1) := by decide +kernel
theorem dL_law_1492 : decode cL_law 1492 = .ok (.ireturn, 1) := by decide +kernel
theorem dL_law_1493 : decode cL_law 1493 = .ok (.aload_n 1, 1) := by decide +kernel
theorem dL_law_1494 : decode cL_law 1494 = .ok (.aload_n 0, 1) := by decide +kernel
theorem dL_law_1495 : decode cL_law 1495 = .ok (.iload_n 3, 1) := by decide +kernel
theorem dL_law_1496 : decode cL_law 1496 = .ok (.iconst 1, 1) := by decide +kernel
theorem dL_law_1497 : decode cL_law 1497 = .ok (.iadd, 1) := by decide +kernel
theorem dL_law_1498 : decode cL_law 1498 = .ok (.iaload, 1) := by decide +kernel
theorem dL_law_1499 : decode cL_law 1499 = .ok (.invokevirtual 165, 3) := by decide +kernel
theorem dL_law_1502 : decode cL_law 1502 = .ok (.aload_n 2, 1) := by decide +kernel
theorem dL_law_1503 : decode cL_law 1503 = .ok (.aload_n 0, 1) := by decide +kernel
theorem dL_law_1504 : decode cL_law 1504 = .ok (.iload_n 3, 1) := by decide +kernel
theorem dL_law_1505 : decode cL_law 1505 = .ok (.iconst 1, 1) := by decide +kernel
theorem dL_law_1506 : decode cL_law 1506 = .ok (.iadd, 1) := by decide +kernel
theorem dL_law_1507 : decode cL_law 1507 = .ok (.iaload, 1) := by decide +kernel
theorem dL_law_1508 : decode cL_law 1508 = .ok (.invokevirtual 168, 3) := by decide +kernel
theorem dL_law_1511 : decode cL_law 1511 = .ok (.if_icmp .eq 5, 3) := by decide +kernel
theorem dL_law_1514 : decode cL_law 1514 = .ok (.iconst 0, 1) := by decide +kernel
theorem dL_law_1515 : decode cL_law 1515 = .ok (.ireturn, 1) := by decide +kernel
theorem dL_law_1516 : decode cL_law 1516 = .ok (.iinc 3 6, 3) := by decide +kernel
theorem dL_law_1519 : decode cL_law 1519 = .ok (.goto (-1501), 3) := by decide +kernel
theorem dL_law_1522 : decode cL_law 1522 = .ok (.iconst 1, 1) := by decide +kernel
theorem dL_law_1523 : decode cL_law 1523 = .ok (.ireturn, 1) := by decide +kernel
