theorem dX0_init_0 : decode cX0_init 0 = .ok (.aload_n 0, 1) := by decide +kernel
theorem dX0_init_1 : decode cX0_init 1 = .ok (.invokespecial 3, 3) := by decide +kernel
theorem dX0_init_4 : decode cX0_init 4 = .ok (.aload_n 0, 1) := by decide +kernel
theorem dX0_init_5 : decode cX0_init 5 = .ok (.bipush 6, 2) := by decide +kernel
theorem dX0_init_7 : decode cX0_init 7 = .ok (.putfield 9, 3) := by decide +kernel
theorem dX0_init_10 : decode cX0_init 10 = .ok (.aload_n 0, 1) := by decide +kernel
theorem dX0_init_11 : decode cX0_init 11 = .ok (.iconst 0, 1) := by decide +kernel
theorem dX0_init_12 : decode cX0_init 12 = .ok (.putfield 15, 3) := by decide +kernel
theorem dX0_init_15 : decode cX0_init 15 = .ok (.aload_n 0, 1) := by decide +kernel
theorem dX0_init_16 : decode cX0_init 16 = .ok (.iconst 2, 1) := by decide +kernel
theorem dX0_init_17 : decode cX0_init 17 = .ok (.putfield 18, 3) := by decide +kernel
theorem dX0_init_20 : decode cX0_init 20 = .ok (.aload_n 0, 1) := by decide +kernel
theorem dX0_init_21 : decode cX0_init 21 = .ok (.iconst 0, 1) := by decide +kernel
theorem dX0_init_22 : decode cX0_init 22 = .ok (.putfield 21, 3) := by decide +kernel
theorem dX0_init_25 : decode cX0_init 25 = .ok (.aload_n 0, 1) := by decide +kernel
theorem dX0_init_26 : decode cX0_init 26 = .ok (.iconst 1, 1) := by decide +kernel
theorem dX0_init_27 : decode cX0_init 27 = .ok (.putfield 24, 3) := by decide +kernel
theorem dX0_init_30 : decode cX0_init 30 = .ok (.aload_n 0, 1) := by decide +kernel
theorem dX0_init_31 : decode cX0_init 31 = .ok (.lconst 0, 1) := by decide +kernel
theorem dX0_init_32 : decode cX0_init 32 = .ok (.putfield 27, 3) := by decide +kernel
theorem dX0_init_35 : decode cX0_init 35 = .ok (.aload_n 0, 1) := by decide +kernel
theorem dX0_init_36 : decode cX0_init 36 = .ok (.iconst 0, 1) := by decide +kernel
theorem dX0_init_37 : decode cX0_init 37 = .ok (.putfield 31, 3) := by decide +kernel
theorem dX0_init_40 : decode cX0_init 40 = .ok (.aload_n 0, 1) := by decide +kernel
theorem dX0_init_41 : decode cX0_init 41 = .ok (.iconst 5, 1) := by decide +kernel
theorem dX0_init_42 : decode cX0_init 42 = .ok (.newarray .int, 2) := by decide +kernel
theorem dX0_init_44 : decode cX0_init 44 = .ok (.putfield 34, 3) := by decide +kernel
theorem dX0_init_47 : decode cX0_init 47 = .ok (.aload_n 0, 1) := by decide +kernel
theorem dX0_init_48 : decode cX0_init 48 = .ok (.iconst 5, 1) := by decide +kernel
theorem dX0_init_49 : decode cX0_init 49 = .ok (.newarray .int, 2) := by decide +kernel
theorem dX0_init_51 : decode cX0_init 51 = .ok (.putfield 38, 3) := by decide +kernel
theorem dX0_init_54 : decode cX0_init 54 = .ok (.aload_n 0, 1) := by decide +kernel
theorem dX0_init_55 : decode cX0_init 55 = .ok (.new 41, 3) := by decide +kernel
theorem dX0_init_58 : decode cX0_init 58 = .ok (.dup, 1) := by decide +kernel
theorem dX0_init_59 : decode cX0_init 59 = .ok (.invokespecial 43, 3) := by decide +kernel
theorem dX0_init_62 : decode cX0_init 62 = .ok (.putfield 44, 3) := by decide +kernel
theorem dX0_init_65 : decode cX0_init 65 = .ok (.return_, 1) := by decide +kernel
theorem dX0_setTo_0 : decode cX0_setTo 0 = .ok (.aload_n 0, 1) := by decide +kernel
theorem dX0_setTo_1 : decode cX0_setTo 1 = .ok (.aload_n 1, 1) := by decide +kernel
theorem dX0_setTo_2 : decode cX0_setTo 2 = .ok (.getfield 9, 3) := by decide +kernel
theorem dX0_setTo_5 : decode cX0_setTo 5 = .ok (.putfield 9, 3) := by decide +kernel
theorem dX0_setTo_8 : decode cX0_setTo 8 = .ok (.aload_n 0, 1) := by decide +kernel
theorem dX0_setTo_9 : decode cX0_setTo 9 = .ok (.aload_n 1, 1) := by decide +kernel
theorem dX0_setTo_10 : decode cX0_setTo 10 = .ok (.getfield 15, 3) := by decide +kernel
theorem dX0_setTo_13 : decode cX0_setTo 13 = .ok (.putfield 15, 3) := by decide +kernel
theorem dX0_setTo_16 : decode cX0_setTo 16 = .ok (.aload_n 0, 1) := by decide +kernel
theorem dX0_setTo_17 : decode cX0_setTo 17 = .ok (.aload_n 1, 1) := by decide +kernel
theorem dX0_setTo_18 : decode cX0_setTo 18 = .ok (.getfield 18, 3) := by decide +kernel
theorem dX0_setTo_21 : decode cX0_setTo 21 = .ok (.putfield 18, 3) := by decide +kernel
theorem dX0_setTo_24 : decode cX0_setTo 24 = .ok (.aload_n 0, 1) := by decide +kernel
theorem dX0_setTo_25 : decode cX0_setTo 25 = .ok (.aload_n 1, 1) := by decide +kernel
theorem dX0_setTo_26 : decode cX0_setTo 26 = .ok (.getfield 21, 3) := by decide +kernel
theorem dX0_setTo_29 : decode cX0_setTo 29 = .ok (.putfield 21, 3) := by decide +kernel
theorem dX0_setTo_32 : decode cX0_setTo 32 = .ok (.aload_n 0, 1) := by decide +kernel
theorem dX0_setTo_33 : decode cX0_setTo 33 = .ok (.aload_n 1, 1) := by decide +kernel
theorem dX0_setTo_34 : decode cX0_setTo 34 = .ok (.getfield 24, 3) := by decide +kernel
theorem dX0_setTo_37 : decode cX0_setTo 37 = .ok (.putfield 24, 3) := by decide +kernel
theorem dX0_setTo_40 : decode cX0_setTo 40 = .ok (.aload_n 0, 1) := by decide +kernel
theorem dX0_setTo_41 : decode cX0_setTo 41 = .ok (.aload_n 1, 1) := by decide +kernel
theorem dX0_setTo_42 : decode cX0_setTo 42 = .ok (.getfield 27, 3) := by decide +kernel
theorem dX0_setTo_45 : decode cX0_setTo 45 = .ok (.putfield 27, 3) := by decide +kernel
theorem dX0_setTo_48 : decode cX0_setTo 48 = .ok (.aload_n 0, 1) := by decide +kernel
theorem dX0_setTo_49 : decode cX0_setTo 49 = .ok (.aload_n 1, 1) := by decide +kernel
theorem dX0_setTo_50 : decode cX0_setTo 50 = .ok (.getfield 31, 3) := by decide +kernel
theorem dX0_setTo_53 : decode cX0_setTo 53 = .ok (.putfield 31, 3) := by decide +kernel
theorem dX0_setTo_56 : decode cX0_setTo 56 = .ok (.aload_n 1, 1) := by decide +kernel
theorem dX0_setTo_57 : decode cX0_setTo 57 = .ok (.getfield 34, 3) := by decide +kernel
theorem dX0_setTo_60 : decode cX0_setTo 60 = .ok (.iconst 0, 1) := by decide +kernel
theorem dX0_setTo_61 : decode cX0_setTo 61 = .ok (.aload_n 0, 1) := by decide +kernel
theorem dX0_setTo_62 : decode cX0_setTo 62 = .ok (.getfield 34, 3) := by decide +kernel
theorem dX0_setTo_65 : decode cX0_setTo 65 = .ok (.iconst 0, 1) := by decide +kernel
theorem dX0_setTo_66 : decode cX0_setTo 66 = .ok (.iconst 5, 1) := by decide +kernel
theorem dX0_setTo_67 : decode cX0_setTo 67 = .ok (.invokestatic 48, 3) := by decide +kernel
theorem dX0_setTo_70 : decode cX0_setTo 70 = .ok (.aload_n 1, 1) := by decide +kernel
theorem dX0_setTo_71 : decode cX0_setTo 71 = .ok (.getfield 38, 3) := by decide +kernel
theorem dX0_setTo_74 : decode cX0_setTo 74 = .ok (.iconst 0, 1) := by decide +kernel
theorem dX0_setTo_75 : decode cX0_setTo 75 = .ok (.aload_n 0, 1) := by decide +kernel
theorem dX0_setTo_76 : decode cX0_setTo 76 = .ok (.getfield 38, 3) := by decide +kernel
theorem dX0_setTo_79 : decode cX0_setTo 79 = .ok (.iconst 0, 1) := by decide +kernel
theorem dX0_setTo_80 : decode cX0_setTo 80 = .ok (.iconst 5, 1) := by decide +kernel
theorem dX0_setTo_81 : decode cX0_setTo 81 = .ok (.invokestatic 48, 3) := by decide +kernel
theorem dX0_setTo_84 : decode cX0_setTo 84 = .ok (.aload_n 0, 1) := by decide +kernel
theorem dX0_setTo_85 : decode cX0_setTo 85 = .ok (.getfield 44, 3) := by decide +kernel
theorem dX0_setTo_88 : decode cX0_setTo 88 = .ok (.aload_n 1, 1) := by decide +kernel
theorem dX0_setTo_89 : decode cX0_setTo 89 = .ok (.getfield 44, 3) := by decide +kernel
theorem dX0_setTo_92 : decode cX0_setTo 92 = .ok (.invokevirtual 54, 3) := by decide +kernel
theorem dX0_setTo_95 : decode cX0_setTo 95 = .ok (.return_, 1) := by decide +kernel
theorem dX0_isCell_0 : decode cX0_isCell 0 = .ok (.iload_n 1, 1) := by decide +kernel
theorem dX0_isCell_1 : decode cX0_isCell 1 = .ok (.ifCond .lt 29, 3) := by decide +kernel
theorem dX0_isCell_4 : decode cX0_isCell 4 = .ok (.iload_n 1, 1) := by decide +kernel
theorem dX0_isCell_5 : decode cX0_isCell 5 = .ok (.bipush 10, 2) := by decide +kernel
theorem dX0_isCell_7 : decode cX0_isCell 7 = .ok (.idiv, 1) := by decide +kernel
theorem dX0_isCell_8 : decode cX0_isCell 8 = .ok (.aload_n 0, 1) := by decide +kernel
theorem dX0_isCell_9 : decode cX0_isCell 9 = .ok (.getfield 9, 3) := by decide +kernel
theorem dX0_isCell_12 : decode cX0_isCell 12 = .ok (.if_icmp .ge 18, 3) := by decide +kernel
theorem dX0_isCell_15 : decode cX0_isCell 15 = .ok (.iload_n 1, 1) := by decide +kernel
theorem dX0_isCell_16 : decode cX0_isCell 16 = .ok (.bipush 10, 2) := by decide +kernel
theorem dX0_isCell_18 : decode cX0_isCell 18 = .ok (.irem, 1) := by decide +kernel
theorem dX0_isCell_19 : decode cX0_isCell 19 = .ok (.aload_n 0, 1) := by decide +kernel
theorem dX0_isCell_20 : decode cX0_isCell 20 = .ok (.getfield 9, 3) := by decide +kernel
theorem dX0_isCell_23 : decode cX0_isCell 23 = .ok (.if_icmp .ge 7, 3) := by decide +kernel
theorem dX0_isCell_26 : decode cX0_isCell 26 = .ok (.iconst 1, 1) := by decide +kernel
theorem dX0_isCell_27 : decode cX0_isCell 27 = .ok (.goto 4, 3) := by decide +kernel
theorem dX0_isCell_30 : decode cX0_isCell 30 = .ok (.iconst 0, 1) := by decide +kernel
theorem dX0_isCell_31 : decode cX0_isCell 31 = .ok (.ireturn, 1) := by decide +kernel
theorem dX0_isWall_0 : decode cX0_isWall 0 = .ok (.aload_n 0, 1) := by decide +kernel
theorem dX0_isWall_1 : decode cX0_isWall 1 = .ok (.getfield 27, 3) := by decide +kernel
theorem dX0_isWall_4 : decode cX0_isWall 4 = .ok (.iload_n 1, 1) := by decide +kernel
theorem dX0_isWall_5 : decode cX0_isWall 5 = .ok (.invokestatic 58, 3) := by decide +kernel
theorem dX0_isWall_8 : decode cX0_isWall 8 = .ok (.land, 1) := by decide +kernel
theorem dX0_isWall_9 : decode cX0_isWall 9 = .ok (.lconst 0, 1) := by decide +kernel
theorem dX0_isWall_10 : decode cX0_isWall 10 = .ok (.lcmp, 1) := by decide +kernel
theorem dX0_isWall_11 : decode cX0_isWall 11 = .ok (.ifCond .eq 7, 3) := by decide +kernel
theorem dX0_isWall_14 : decode cX0_isWall 14 = .ok (.iconst 1, 1) := by decide +kernel
theorem dX0_isWall_15 : decode cX0_isWall 15 = .ok (.goto 4, 3) := by decide +kernel
theorem dX0_isWall_18 : decode cX0_isWall 18 = .ok (.iconst 0, 1) := by decide +kernel
theorem dX0_isWall_19 : decode cX0_isWall 19 = .ok (.ireturn, 1) := by decide +kernel
theorem dX0_setWall_0 : decode cX0_setWall 0 = .ok (.aload_n 0, 1) := by decide +kernel
theorem dX0_setWall_1 : decode cX0_setWall 1 = .ok (.iload_n 2, 1) := by decide +kernel
theorem dX0_setWall_2 : decode cX0_setWall 2 = .ok (.ifCond .eq 15, 3) := by decide +kernel
theorem dX0_setWall_5 : decode cX0_setWall 5 = .ok (.aload_n 0, 1) := by decide +kernel
theorem dX0_setWall_6 : decode cX0_setWall 6 = .ok (.getfield 27, 3) := by decide +kernel
theorem dX0_setWall_9 : decode cX0_setWall 9 = .ok (.iload_n 1, 1) := by decide +kernel
theorem dX0_setWall_10 : decode cX0_setWall 10 = .ok (.invokestatic 58, 3) := by decide +kernel
theorem dX0_setWall_13 : decode cX0_setWall 13 = .ok (.lor, 1) := by decide +kernel
theorem dX0_setWall_14 : decode cX0_setWall 14 = .ok (.goto 16, 3) := by decide +kernel
theorem dX0_setWall_17 : decode cX0_setWall 17 = .ok (.aload_n 0, 1) := by decide +kernel
theorem dX0_setWall_18 : decode cX0_setWall 18 = .ok (.getfield 27, 3) := by decide +kernel
theorem dX0_setWall_21 : decode cX0_setWall 21 = .ok (.iload_n 1, 1) := by decide +kernel
theorem dX0_setWall_22 : decode cX0_setWall 22 = .ok (.invokestatic 58, 3) := by decide +kernel
theorem dX0_setWall_25 : decode cX0_setWall 25 = .ok (.ldc2_w 62, 3) := by decide +kernel
theorem dX0_setWall_28 : decode cX0_setWall 28 = .ok (.lxor, 1) := by decide +kernel
theorem dX0_setWall_29 : decode cX0_setWall 29 = .ok (.land, 1) := by decide +kernel
theorem dX0_setWall_30 : decode cX0_setWall 30 = .ok (.putfield 27, 3) := by decide +kernel
theorem dX0_setWall_33 : decode cX0_setWall 33 = .ok (.return_, 1) := by decide +kernel
theorem dX0_isOpen_0 : decode cX0_isOpen 0 = .ok (.aload_n 0, 1) := by decide +kernel
theorem dX0_isOpen_1 : decode cX0_isOpen 1 = .ok (.iload_n 1, 1) := by decide +kernel
theorem dX0_isOpen_2 : decode cX0_isOpen 2 = .ok (.invokevirtual 64, 3) := by decide +kernel
theorem dX0_isOpen_5 : decode cX0_isOpen 5 = .ok (.ifCond .eq 21, 3) := by decide +kernel
theorem dX0_isOpen_8 : decode cX0_isOpen 8 = .ok (.aload_n 0, 1) := by decide +kernel
theorem dX0_isOpen_9 : decode cX0_isOpen 9 = .ok (.getfield 27, 3) := by decide +kernel
theorem dX0_isOpen_12 : decode cX0_isOpen 12 = .ok (.iload_n 1, 1) := by decide +kernel
theorem dX0_isOpen_13 : decode cX0_isOpen 13 = .ok (.invokestatic 58, 3) := by decide +kernel
theorem dX0_isOpen_16 : decode cX0_isOpen 16 = .ok (.land, 1) := by decide +kernel
theorem dX0_isOpen_17 : decode cX0_isOpen 17 = .ok (.lconst 0, 1) := by decide +kernel
theorem dX0_isOpen_18 : decode cX0_isOpen 18 = .ok (.lcmp, 1) := by decide +kernel
theorem dX0_isOpen_19 : decode cX0_isOpen 19 = .ok (.ifCond .ne 7, 3) := by decide +kernel
theorem dX0_isOpen_22 : decode cX0_isOpen 22 = .ok (.iconst 1, 1) := by decide +kernel
theorem dX0_isOpen_23 : decode cX0_isOpen 23 = .ok (.goto 4, 3) := by decide +kernel
theorem dX0_isOpen_26 : decode cX0_isOpen 26 = .ok (.iconst 0, 1) := by decide +kernel
theorem dX0_isOpen_27 : decode cX0_isOpen 27 = .ok (.ireturn, 1) := by decide +kernel
theorem dX0_mayBeDogs_0 : decode cX0_mayBeDogs 0 = .ok (.iload_n 1, 1) := by decide +kernel
theorem dX0_mayBeDogs_1 : decode cX0_mayBeDogs 1 = .ok (.aload_n 0, 1) := by decide +kernel
theorem dX0_mayBeDogs_2 : decode cX0_mayBeDogs 2 = .ok (.getfield 15, 3) := by decide +kernel
theorem dX0_mayBeDogs_5 : decode cX0_mayBeDogs 5 = .ok (.if_icmp .eq 15, 3) := by decide +kernel
theorem dX0_mayBeDogs_8 : decode cX0_mayBeDogs 8 = .ok (.aload_n 0, 1) := by decide +kernel
theorem dX0_mayBeDogs_9 : decode cX0_mayBeDogs 9 = .ok (.iload_n 1, 1) := by decide +kernel
theorem dX0_mayBeDogs_10 : decode cX0_mayBeDogs 10 = .ok (.invokevirtual 68, 3) := by decide +kernel
theorem dX0_mayBeDogs_13 : decode cX0_mayBeDogs 13 = .ok (.ifCond .eq 7, 3) := by decide +kernel
theorem dX0_mayBeDogs_16 : decode cX0_mayBeDogs 16 = .ok (.iconst 1, 1) := by decide +kernel
theorem dX0_mayBeDogs_17 : decode cX0_mayBeDogs 17 = .ok (.goto 4, 3) := by decide +kernel
theorem dX0_mayBeDogs_20 : decode cX0_mayBeDogs 20 = .ok (.iconst 0, 1) := by decide +kernel
theorem dX0_mayBeDogs_21 : decode cX0_mayBeDogs 21 = .ok (.ireturn, 1) := by decide +kernel
theorem dX0_mayBeWall_0 : decode cX0_mayBeWall 0 = .ok (.aload_n 0, 1) := by decide +kernel
theorem dX0_mayBeWall_1 : decode cX0_mayBeWall 1 = .ok (.iload_n 1, 1) := by decide +kernel
theorem dX0_mayBeWall_2 : decode cX0_mayBeWall 2 = .ok (.invokevirtual 64, 3) := by decide +kernel
theorem dX0_mayBeWall_5 : decode cX0_mayBeWall 5 = .ok (.ifCond .eq 34, 3) := by decide +kernel
theorem dX0_mayBeWall_8 : decode cX0_mayBeWall 8 = .ok (.iload_n 1, 1) := by decide +kernel
theorem dX0_mayBeWall_9 : decode cX0_mayBeWall 9 = .ok (.aload_n 0, 1) := by decide +kernel
theorem dX0_mayBeWall_10 : decode cX0_mayBeWall 10 = .ok (.getfield 15, 3) := by decide +kernel
theorem dX0_mayBeWall_13 : decode cX0_mayBeWall 13 = .ok (.if_icmp .eq 26, 3) := by decide +kernel
theorem dX0_mayBeWall_16 : decode cX0_mayBeWall 16 = .ok (.iload_n 1, 1) := by decide +kernel
theorem dX0_mayBeWall_17 : decode cX0_mayBeWall 17 = .ok (.aload_n 0, 1) := by decide +kernel
theorem dX0_mayBeWall_18 : decode cX0_mayBeWall 18 = .ok (.getfield 44, 3) := by decide +kernel
theorem dX0_mayBeWall_21 : decode cX0_mayBeWall 21 = .ok (.getfield 71, 3) := by decide +kernel
theorem dX0_mayBeWall_24 : decode cX0_mayBeWall 24 = .ok (.if_icmp .eq 15, 3) := by decide +kernel
theorem dX0_mayBeWall_27 : decode cX0_mayBeWall 27 = .ok (.aload_n 0, 1) := by decide +kernel
theorem dX0_mayBeWall_28 : decode cX0_mayBeWall 28 = .ok (.iload_n 1, 1) := by decide +kernel
theorem dX0_mayBeWall_29 : decode cX0_mayBeWall 29 = .ok (.invokevirtual 74, 3) := by decide +kernel
theorem dX0_mayBeWall_32 : decode cX0_mayBeWall 32 = .ok (.ifCond .ne 7, 3) := by decide +kernel
theorem dX0_mayBeWall_35 : decode cX0_mayBeWall 35 = .ok (.iconst 1, 1) := by decide +kernel
theorem dX0_mayBeWall_36 : decode cX0_mayBeWall 36 = .ok (.goto 4, 3) := by decide +kernel
theorem dX0_mayBeWall_39 : decode cX0_mayBeWall 39 = .ok (.iconst 0, 1) := by decide +kernel
theorem dX0_mayBeWall_40 : decode cX0_mayBeWall 40 = .ok (.ireturn, 1) := by decide +kernel
theorem dX0_mayBePen_0 : decode cX0_mayBePen 0 = .ok (.aload_n 0, 1) := by decide +kernel
theorem dX0_mayBePen_1 : decode cX0_mayBePen 1 = .ok (.iload_n 1, 1) := by decide +kernel
theorem dX0_mayBePen_2 : decode cX0_mayBePen 2 = .ok (.invokevirtual 68, 3) := by decide +kernel
theorem dX0_mayBePen_5 : decode cX0_mayBePen 5 = .ok (.ifCond .eq 37, 3) := by decide +kernel
theorem dX0_mayBePen_8 : decode cX0_mayBePen 8 = .ok (.iload_n 1, 1) := by decide +kernel
theorem dX0_mayBePen_9 : decode cX0_mayBePen 9 = .ok (.aload_n 0, 1) := by decide +kernel
theorem dX0_mayBePen_10 : decode cX0_mayBePen 10 = .ok (.getfield 44, 3) := by decide +kernel
theorem dX0_mayBePen_13 : decode cX0_mayBePen 13 = .ok (.getfield 71, 3) := by decide +kernel
theorem dX0_mayBePen_16 : decode cX0_mayBePen 16 = .ok (.if_icmp .eq 26, 3) := by decide +kernel
theorem dX0_mayBePen_19 : decode cX0_mayBePen 19 = .ok (.aload_n 0, 1) := by decide +kernel
theorem dX0_mayBePen_20 : decode cX0_mayBePen 20 = .ok (.iload_n 1, 1) := by decide +kernel
theorem dX0_mayBePen_21 : decode cX0_mayBePen 21 = .ok (.invokevirtual 74, 3) := by decide +kernel
theorem dX0_mayBePen_24 : decode cX0_mayBePen 24 = .ok (.ifCond .ne 18, 3) := by decide +kernel
theorem dX0_mayBePen_27 : decode cX0_mayBePen 27 = .ok (.aload_n 0, 1) := by decide +kernel
theorem dX0_mayBePen_28 : decode cX0_mayBePen 28 = .ok (.aload_n 0, 1) := by decide +kernel
theorem dX0_mayBePen_29 : decode cX0_mayBePen 29 = .ok (.getfield 15, 3) := by decide +kernel
theorem dX0_mayBePen_32 : decode cX0_mayBePen 32 = .ok (.invokevirtual 74, 3) := by decide +kernel
theorem dX0_mayBePen_35 : decode cX0_mayBePen 35 = .ok (.ifCond .ne 7, 3) := by decide +kernel
theorem dX0_mayBePen_38 : decode cX0_mayBePen 38 = .ok (.iconst 1, 1) := by decide +kernel
theorem dX0_mayBePen_39 : decode cX0_mayBePen 39 = .ok (.goto 4, 3) := by decide +kernel
theorem dX0_mayBePen_42 : decode cX0_mayBePen 42 = .ok (.iconst 0, 1) := by decide +kernel
theorem dX0_mayBePen_43 : decode cX0_mayBePen 43 = .ok (.ireturn, 1) := by decide +kernel
theorem dX0_isEwe_0 : decode cX0_isEwe 0 = .ok (.iload_n 1, 1) := by decide +kernel
theorem dX0_isEwe_1 : decode cX0_isEwe 1 = .ok (.ifCond .lt 15, 3) := by decide +kernel
theorem dX0_isEwe_4 : decode cX0_isEwe 4 = .ok (.iload_n 1, 1) := by decide +kernel
theorem dX0_isEwe_5 : decode cX0_isEwe 5 = .ok (.aload_n 0, 1) := by decide +kernel
theorem dX0_isEwe_6 : decode cX0_isEwe 6 = .ok (.getfield 31, 3) := by decide +kernel
theorem dX0_isEwe_9 : decode cX0_isEwe 9 = .ok (.if_icmp .ge 7, 3) := by decide +kernel
theorem dX0_isEwe_12 : decode cX0_isEwe 12 = .ok (.iconst 1, 1) := by decide +kernel
theorem dX0_isEwe_13 : decode cX0_isEwe 13 = .ok (.goto 4, 3) := by decide +kernel
theorem dX0_isEwe_16 : decode cX0_isEwe 16 = .ok (.iconst 0, 1) := by decide +kernel
theorem dX0_isEwe_17 : decode cX0_isEwe 17 = .ok (.ireturn, 1) := by decide +kernel
theorem dX0_hasEweAt_0 : decode cX0_hasEweAt 0 = .ok (.iconst 0, 1) := by decide +kernel
theorem dX0_hasEweAt_1 : decode cX0_hasEweAt 1 = .ok (.istore_n 2, 1) := by decide +kernel
theorem dX0_hasEweAt_2 : decode cX0_hasEweAt 2 = .ok (.iload_n 2, 1) := by decide +kernel
theorem dX0_hasEweAt_3 : decode cX0_hasEweAt 3 = .ok (.aload_n 0, 1) := by decide +kernel
theorem dX0_hasEweAt_4 : decode cX0_hasEweAt 4 = .ok (.getfield 31, 3) := by decide +kernel
theorem dX0_hasEweAt_7 : decode cX0_hasEweAt 7 = .ok (.if_icmp .ge 24, 3) := by decide +kernel
theorem dX0_hasEweAt_10 : decode cX0_hasEweAt 10 = .ok (.aload_n 0, 1) := by decide +kernel
theorem dX0_hasEweAt_11 : decode cX0_hasEweAt 11 = .ok (.getfield 44, 3) := by decide +kernel
theorem dX0_hasEweAt_14 : decode cX0_hasEweAt 14 = .ok (.getfield 77, 3) := by decide +kernel
theorem dX0_hasEweAt_17 : decode cX0_hasEweAt 17 = .ok (.iload_n 2, 1) := by decide +kernel
theorem dX0_hasEweAt_18 : decode cX0_hasEweAt 18 = .ok (.iaload, 1) := by decide +kernel
theorem dX0_hasEweAt_19 : decode cX0_hasEweAt 19 = .ok (.iload_n 1, 1) := by decide +kernel
theorem dX0_hasEweAt_20 : decode cX0_hasEweAt 20 = .ok (.if_icmp .ne 5, 3) := by decide +kernel
theorem dX0_hasEweAt_23 : decode cX0_hasEweAt 23 = .ok (.iconst 1, 1) := by decide +kernel
theorem dX0_hasEweAt_24 : decode cX0_hasEweAt 24 = .ok (.ireturn, 1) := by decide +kernel
theorem dX0_hasEweAt_25 : decode cX0_hasEweAt 25 = .ok (.iinc 2 1, 3) := by decide +kernel
theorem dX0_hasEweAt_28 : decode cX0_hasEweAt 28 = .ok (.goto (-26), 3) := by decide +kernel
theorem dX0_hasEweAt_31 : decode cX0_hasEweAt 31 = .ok (.iconst 0, 1) := by decide +kernel
theorem dX0_hasEweAt_32 : decode cX0_hasEweAt 32 = .ok (.ireturn, 1) := by decide +kernel
theorem dX0_addEwe_0 : decode cX0_addEwe 0 = .ok (.aload_n 0, 1) := by decide +kernel
theorem dX0_addEwe_1 : decode cX0_addEwe 1 = .ok (.getfield 31, 3) := by decide +kernel
theorem dX0_addEwe_4 : decode cX0_addEwe 4 = .ok (.istore 4, 2) := by decide +kernel
theorem dX0_addEwe_6 : decode cX0_addEwe 6 = .ok (.aload_n 0, 1) := by decide +kernel
theorem dX0_addEwe_7 : decode cX0_addEwe 7 = .ok (.getfield 34, 3) := by decide +kernel
theorem dX0_addEwe_10 : decode cX0_addEwe 10 = .ok (.iload 4, 2) := by decide +kernel
theorem dX0_addEwe_12 : decode cX0_addEwe 12 = .ok (.iload_n 1, 1) := by decide +kernel
theorem dX0_addEwe_13 : decode cX0_addEwe 13 = .ok (.iastore, 1) := by decide +kernel
theorem dX0_addEwe_14 : decode cX0_addEwe 14 = .ok (.aload_n 0, 1) := by decide +kernel
theorem dX0_addEwe_15 : decode cX0_addEwe 15 = .ok (.getfield 38, 3) := by decide +kernel
theorem dX0_addEwe_18 : decode cX0_addEwe 18 = .ok (.iload 4, 2) := by decide +kernel
theorem dX0_addEwe_20 : decode cX0_addEwe 20 = .ok (.iload_n 2, 1) := by decide +kernel
theorem dX0_addEwe_21 : decode cX0_addEwe 21 = .ok (.iastore, 1) := by decide +kernel
theorem dX0_addEwe_22 : decode cX0_addEwe 22 = .ok (.aload_n 0, 1) := by decide +kernel
theorem dX0_addEwe_23 : decode cX0_addEwe 23 = .ok (.getfield 44, 3) := by decide +kernel
theorem dX0_addEwe_26 : decode cX0_addEwe 26 = .ok (.getfield 77, 3) := by decide +kernel
theorem dX0_addEwe_29 : decode cX0_addEwe 29 = .ok (.iload 4, 2) := by decide +kernel
theorem dX0_addEwe_31 : decode cX0_addEwe 31 = .ok (.iload_n 3, 1) := by decide +kernel
theorem dX0_addEwe_32 : decode cX0_addEwe 32 = .ok (.iastore, 1) := by decide +kernel
theorem dX0_addEwe_33 : decode cX0_addEwe 33 = .ok (.aload_n 0, 1) := by decide +kernel
theorem dX0_addEwe_34 : decode cX0_addEwe 34 = .ok (.dup, 1) := by decide +kernel
theorem dX0_addEwe_35 : decode cX0_addEwe 35 = .ok (.getfield 31, 3) := by decide +kernel
theorem dX0_addEwe_38 : decode cX0_addEwe 38 = .ok (.iconst 1, 1) := by decide +kernel
theorem dX0_addEwe_39 : decode cX0_addEwe 39 = .ok (.iadd, 1) := by decide +kernel
theorem dX0_addEwe_40 : decode cX0_addEwe 40 = .ok (.putfield 31, 3) := by decide +kernel
theorem dX0_addEwe_43 : decode cX0_addEwe 43 = .ok (.iload 4, 2) := by decide +kernel
theorem dX0_addEwe_45 : decode cX0_addEwe 45 = .ok (.ireturn, 1) := by decide +kernel
theorem dX0_isIn_0 : decode cX0_isIn 0 = .ok (.aload_n 1, 1) := by decide +kernel
theorem dX0_isIn_1 : decode cX0_isIn 1 = .ok (.getfield 77, 3) := by decide +kernel
theorem dX0_isIn_4 : decode cX0_isIn 4 = .ok (.iload_n 2, 1) := by decide +kernel
theorem dX0_isIn_5 : decode cX0_isIn 5 = .ok (.iaload, 1) := by decide +kernel
theorem dX0_isIn_6 : decode cX0_isIn 6 = .ok (.aload_n 0, 1) := by decide +kernel
theorem dX0_isIn_7 : decode cX0_isIn 7 = .ok (.getfield 15, 3) := by decide +kernel
theorem dX0_isIn_10 : decode cX0_isIn 10 = .ok (.if_icmp .ne 7, 3) := by decide +kernel
theorem dX0_isIn_13 : decode cX0_isIn 13 = .ok (.iconst 1, 1) := by decide +kernel
theorem dX0_isIn_14 : decode cX0_isIn 14 = .ok (.goto 4, 3) := by decide +kernel
theorem dX0_isIn_17 : decode cX0_isIn 17 = .ok (.iconst 0, 1) := by decide +kernel
theorem dX0_isIn_18 : decode cX0_isIn 18 = .ok (.ireturn, 1) := by decide +kernel
theorem dX0_countIn_0 : decode cX0_countIn 0 = .ok (.aload_n 0, 1) := by decide +kernel
theorem dX0_countIn_1 : decode cX0_countIn 1 = .ok (.aload_n 1, 1) := by decide +kernel
theorem dX0_countIn_2 : decode cX0_countIn 2 = .ok (.iconst 0, 1) := by decide +kernel
theorem dX0_countIn_3 : decode cX0_countIn 3 = .ok (.invokevirtual 80, 3) := by decide +kernel
theorem dX0_countIn_6 : decode cX0_countIn 6 = .ok (.ireturn, 1) := by decide +kernel
theorem dX0_countWithin_0 : decode cX0_countWithin 0 = .ok (.iconst 0, 1) := by decide +kernel
theorem dX0_countWithin_1 : decode cX0_countWithin 1 = .ok (.istore_n 3, 1) := by decide +kernel
theorem dX0_countWithin_2 : decode cX0_countWithin 2 = .ok (.iconst 0, 1) := by decide +kernel
theorem dX0_countWithin_3 : decode cX0_countWithin 3 = .ok (.istore 4, 2) := by decide +kernel
theorem dX0_countWithin_5 : decode cX0_countWithin 5 = .ok (.iload 4, 2) := by decide +kernel
theorem dX0_countWithin_7 : decode cX0_countWithin 7 = .ok (.aload_n 0, 1) := by decide +kernel
theorem dX0_countWithin_8 : decode cX0_countWithin 8 = .ok (.getfield 31, 3) := by decide +kernel
theorem dX0_countWithin_11 : decode cX0_countWithin 11 = .ok (.if_icmp .ge 42, 3) := by decide +kernel
theorem dX0_countWithin_14 : decode cX0_countWithin 14 = .ok (.aload_n 1, 1) := by decide +kernel
theorem dX0_countWithin_15 : decode cX0_countWithin 15 = .ok (.getfield 77, 3) := by decide +kernel
theorem dX0_countWithin_18 : decode cX0_countWithin 18 = .ok (.iload 4, 2) := by decide +kernel
theorem dX0_countWithin_20 : decode cX0_countWithin 20 = .ok (.iaload, 1) := by decide +kernel
theorem dX0_countWithin_21 : decode cX0_countWithin 21 = .ok (.aload_n 0, 1) := by decide +kernel
theorem dX0_countWithin_22 : decode cX0_countWithin 22 = .ok (.getfield 15, 3) := by decide +kernel
theorem dX0_countWithin_25 : decode cX0_countWithin 25 = .ok (.invokestatic 84, 3) := by decide +kernel
theorem dX0_countWithin_28 : decode cX0_countWithin 28 = .ok (.iload_n 2, 1) := by decide +kernel
theorem dX0_countWithin_29 : decode cX0_countWithin 29 = .ok (.getstatic 88, 3) := by decide +kernel
theorem dX0_countWithin_32 : decode cX0_countWithin 32 = .ok (.aload_n 0, 1) := by decide +kernel
theorem dX0_countWithin_33 : decode cX0_countWithin 33 = .ok (.getfield 34, 3) := by decide +kernel
theorem dX0_countWithin_36 : decode cX0_countWithin 36 = .ok (.iload 4, 2) := by decide +kernel
theorem dX0_countWithin_38 : decode cX0_countWithin 38 = .ok (.iaload, 1) := by decide +kernel
theorem dX0_countWithin_39 : decode cX0_countWithin 39 = .ok (.iaload, 1) := by decide +kernel
theorem dX0_countWithin_40 : decode cX0_countWithin 40 = .ok (.imul, 1) := by decide +kernel
theorem dX0_countWithin_41 : decode cX0_countWithin 41 = .ok (.if_icmp .gt 6, 3) := by decide +kernel
theorem dX0_countWithin_44 : decode cX0_countWithin 44 = .ok (.iinc 3 1, 3) := by decide +kernel
theorem dX0_countWithin_47 : decode cX0_countWithin 47 = .ok (.iinc 4 1, 3) := by decide +kernel
theorem dX0_countWithin_50 : decode cX0_countWithin 50 = .ok (.goto (-45), 3) := by decide +kernel
theorem dX0_countWithin_53 : decode cX0_countWithin 53 = .ok (.iload_n 3, 1) := by decide +kernel
theorem dX0_countWithin_54 : decode cX0_countWithin 54 = .ok (.ireturn, 1) := by decide +kernel
theorem dX0_stepsToPen_0 : decode cX0_stepsToPen 0 = .ok (.iconst 0, 1) := by decide +kernel
theorem dX0_stepsToPen_1 : decode cX0_stepsToPen 1 = .ok (.istore_n 2, 1) := by decide +kernel
theorem dX0_stepsToPen_2 : decode cX0_stepsToPen 2 = .ok (.iconst 0, 1) := by decide +kernel
theorem dX0_stepsToPen_3 : decode cX0_stepsToPen 3 = .ok (.istore_n 3, 1) := by decide +kernel
theorem dX0_stepsToPen_4 : decode cX0_stepsToPen 4 = .ok (.iload_n 3, 1) := by decide +kernel
theorem dX0_stepsToPen_5 : decode cX0_stepsToPen 5 = .ok (.aload_n 0, 1) := by decide +kernel
theorem dX0_stepsToPen_6 : decode cX0_stepsToPen 6 = .ok (.getfield 31, 3) := by decide +kernel
theorem dX0_stepsToPen_9 : decode cX0_stepsToPen 9 = .ok (.if_icmp .ge 25, 3) := by decide +kernel
theorem dX0_stepsToPen_12 : decode cX0_stepsToPen 12 = .ok (.iload_n 2, 1) := by decide +kernel
theorem dX0_stepsToPen_13 : decode cX0_stepsToPen 13 = .ok (.aload_n 1, 1) := by decide +kernel
theorem dX0_stepsToPen_14 : decode cX0_stepsToPen 14 = .ok (.getfield 77, 3) := by decide +kernel
theorem dX0_stepsToPen_17 : decode cX0_stepsToPen 17 = .ok (.iload_n 3, 1) := by decide +kernel
theorem dX0_stepsToPen_18 : decode cX0_stepsToPen 18 = .ok (.iaload, 1) := by decide +kernel
theorem dX0_stepsToPen_19 : decode cX0_stepsToPen 19 = .ok (.aload_n 0, 1) := by decide +kernel
theorem dX0_stepsToPen_20 : decode cX0_stepsToPen 20 = .ok (.getfield 15, 3) := by decide +kernel
theorem dX0_stepsToPen_23 : decode cX0_stepsToPen 23 = .ok (.invokestatic 84, 3) := by decide +kernel
theorem dX0_stepsToPen_26 : decode cX0_stepsToPen 26 = .ok (.iadd, 1) := by decide +kernel
theorem dX0_stepsToPen_27 : decode cX0_stepsToPen 27 = .ok (.istore_n 2, 1) := by decide +kernel
theorem dX0_stepsToPen_28 : decode cX0_stepsToPen 28 = .ok (.iinc 3 1, 3) := by decide +kernel
theorem dX0_stepsToPen_31 : decode cX0_stepsToPen 31 = .ok (.goto (-27), 3) := by decide +kernel
theorem dX0_stepsToPen_34 : decode cX0_stepsToPen 34 = .ok (.iload_n 2, 1) := by decide +kernel
theorem dX0_stepsToPen_35 : decode cX0_stepsToPen 35 = .ok (.ireturn, 1) := by decide +kernel
theorem dX0_canDo_0 : decode cX0_canDo 0 = .ok (.iload_n 2, 1) := by decide +kernel
theorem dX0_canDo_1 : decode cX0_canDo 1 = .ok (.ifCond .eq 17, 3) := by decide +kernel
theorem dX0_canDo_4 : decode cX0_canDo 4 = .ok (.aload_n 0, 1) := by decide +kernel
theorem dX0_canDo_5 : decode cX0_canDo 5 = .ok (.iload_n 1, 1) := by decide +kernel
theorem dX0_canDo_6 : decode cX0_canDo 6 = .ok (.getstatic 91, 3) := by decide +kernel
theorem dX0_canDo_9 : decode cX0_canDo 9 = .ok (.iload_n 2, 1) := by decide +kernel
theorem dX0_canDo_10 : decode cX0_canDo 10 = .ok (.iaload, 1) := by decide +kernel
theorem dX0_canDo_11 : decode cX0_canDo 11 = .ok (.iadd, 1) := by decide +kernel
theorem dX0_canDo_12 : decode cX0_canDo 12 = .ok (.invokevirtual 94, 3) := by decide +kernel
theorem dX0_canDo_15 : decode cX0_canDo 15 = .ok (.ifCond .eq 7, 3) := by decide +kernel
theorem dX0_canDo_18 : decode cX0_canDo 18 = .ok (.iconst 1, 1) := by decide +kernel
theorem dX0_canDo_19 : decode cX0_canDo 19 = .ok (.goto 4, 3) := by decide +kernel
theorem dX0_canDo_22 : decode cX0_canDo 22 = .ok (.iconst 0, 1) := by decide +kernel
theorem dX0_canDo_23 : decode cX0_canDo 23 = .ok (.ireturn, 1) := by decide +kernel
theorem dX0_takeTurn_0 : decode cX0_takeTurn 0 = .ok (.aload_n 0, 1) := by decide +kernel
theorem dX0_takeTurn_1 : decode cX0_takeTurn 1 = .ok (.aload_n 1, 1) := by decide +kernel
theorem dX0_takeTurn_2 : decode cX0_takeTurn 2 = .ok (.getfield 71, 3) := by decide +kernel
theorem dX0_takeTurn_5 : decode cX0_takeTurn 5 = .ok (.iload_n 2, 1) := by decide +kernel
theorem dX0_takeTurn_6 : decode cX0_takeTurn 6 = .ok (.invokevirtual 97, 3) := by decide +kernel
theorem dX0_takeTurn_9 : decode cX0_takeTurn 9 = .ok (.ifCond .eq 17, 3) := by decide +kernel
theorem dX0_takeTurn_12 : decode cX0_takeTurn 12 = .ok (.aload_n 1, 1) := by decide +kernel
theorem dX0_takeTurn_13 : decode cX0_takeTurn 13 = .ok (.dup, 1) := by decide +kernel
theorem dX0_takeTurn_14 : decode cX0_takeTurn 14 = .ok (.getfield 71, 3) := by decide +kernel
theorem dX0_takeTurn_17 : decode cX0_takeTurn 17 = .ok (.getstatic 91, 3) := by decide +kernel
theorem dX0_takeTurn_20 : decode cX0_takeTurn 20 = .ok (.iload_n 2, 1) := by decide +kernel
theorem dX0_takeTurn_21 : decode cX0_takeTurn 21 = .ok (.iaload, 1) := by decide +kernel
theorem dX0_takeTurn_22 : decode cX0_takeTurn 22 = .ok (.iadd, 1) := by decide +kernel
theorem dX0_takeTurn_23 : decode cX0_takeTurn 23 = .ok (.putfield 71, 3) := by decide +kernel
theorem dX0_takeTurn_26 : decode cX0_takeTurn 26 = .ok (.aload_n 1, 1) := by decide +kernel
theorem dX0_takeTurn_27 : decode cX0_takeTurn 27 = .ok (.iload_n 2, 1) := by decide +kernel
theorem dX0_takeTurn_28 : decode cX0_takeTurn 28 = .ok (.putfield 101, 3) := by decide +kernel
theorem dX0_takeTurn_31 : decode cX0_takeTurn 31 = .ok (.iconst 0, 1) := by decide +kernel
theorem dX0_takeTurn_32 : decode cX0_takeTurn 32 = .ok (.istore_n 3, 1) := by decide +kernel
theorem dX0_takeTurn_33 : decode cX0_takeTurn 33 = .ok (.iload_n 3, 1) := by decide +kernel
theorem dX0_takeTurn_34 : decode cX0_takeTurn 34 = .ok (.aload_n 0, 1) := by decide +kernel
theorem dX0_takeTurn_35 : decode cX0_takeTurn 35 = .ok (.getfield 31, 3) := by decide +kernel
theorem dX0_takeTurn_38 : decode cX0_takeTurn 38 = .ok (.if_icmp .ge 27, 3) := by decide +kernel
theorem dX0_takeTurn_41 : decode cX0_takeTurn 41 = .ok (.aload_n 1, 1) := by decide +kernel
theorem dX0_takeTurn_42 : decode cX0_takeTurn 42 = .ok (.getfield 77, 3) := by decide +kernel
theorem dX0_takeTurn_45 : decode cX0_takeTurn 45 = .ok (.iload_n 3, 1) := by decide +kernel
theorem dX0_takeTurn_46 : decode cX0_takeTurn 46 = .ok (.aload_n 0, 1) := by decide +kernel
theorem dX0_takeTurn_47 : decode cX0_takeTurn 47 = .ok (.aload_n 1, 1) := by decide +kernel
theorem dX0_takeTurn_48 : decode cX0_takeTurn 48 = .ok (.iload_n 3, 1) := by decide +kernel
theorem dX0_takeTurn_49 : decode cX0_takeTurn 49 = .ok (.aload_n 0, 1) := by decide +kernel
theorem dX0_takeTurn_50 : decode cX0_takeTurn 50 = .ok (.getfield 34, 3) := by decide +kernel
theorem dX0_takeTurn_53 : decode cX0_takeTurn 53 = .ok (.iload_n 3, 1) := by decide +kernel
theorem dX0_takeTurn_54 : decode cX0_takeTurn 54 = .ok (.iaload, 1) := by decide +kernel
theorem dX0_takeTurn_55 : decode cX0_takeTurn 55 = .ok (.invokevirtual 104, 3) := by decide +kernel
theorem dX0_takeTurn_58 : decode cX0_takeTurn 58 = .ok (.iastore, 1) := by decide +kernel
theorem dX0_takeTurn_59 : decode cX0_takeTurn 59 = .ok (.iinc 3 1, 3) := by decide +kernel
theorem dX0_takeTurn_62 : decode cX0_takeTurn 62 = .ok (.goto (-29), 3) := by decide +kernel
theorem dX0_takeTurn_65 : decode cX0_takeTurn 65 = .ok (.return_, 1) := by decide +kernel
theorem dX0_goalOf_0 : decode cX0_goalOf 0 = .ok (.aload_n 1, 1) := by decide +kernel
theorem dX0_goalOf_1 : decode cX0_goalOf 1 = .ok (.getfield 77, 3) := by decide +kernel
theorem dX0_goalOf_4 : decode cX0_goalOf 4 = .ok (.iload_n 2, 1) := by decide +kernel
theorem dX0_goalOf_5 : decode cX0_goalOf 5 = .ok (.iaload, 1) := by decide +kernel
theorem dX0_goalOf_6 : decode cX0_goalOf 6 = .ok (.istore 4, 2) := by decide +kernel
theorem dX0_goalOf_8 : decode cX0_goalOf 8 = .ok (.iload_n 3, 1) := by decide +kernel
theorem dX0_goalOf_9 : decode cX0_goalOf 9 = .ok (.iconst 5, 1) := by decide +kernel
theorem dX0_goalOf_10 : decode cX0_goalOf 10 = .ok (.if_icmp .ne 12, 3) := by decide +kernel
theorem dX0_goalOf_13 : decode cX0_goalOf 13 = .ok (.aload_n 0, 1) := by decide +kernel
theorem dX0_goalOf_14 : decode cX0_goalOf 14 = .ok (.getfield 38, 3) := by decide +kernel
theorem dX0_goalOf_17 : decode cX0_goalOf 17 = .ok (.iload_n 2, 1) := by decide +kernel
theorem dX0_goalOf_18 : decode cX0_goalOf 18 = .ok (.iaload, 1) := by decide +kernel
theorem dX0_goalOf_19 : decode cX0_goalOf 19 = .ok (.goto 8, 3) := by decide +kernel
theorem dX0_goalOf_22 : decode cX0_goalOf 22 = .ok (.getstatic 108, 3) := by decide +kernel
theorem dX0_goalOf_25 : decode cX0_goalOf 25 = .ok (.iload_n 3, 1) := by decide +kernel
theorem dX0_goalOf_26 : decode cX0_goalOf 26 = .ok (.iaload, 1) := by decide +kernel
theorem dX0_goalOf_27 : decode cX0_goalOf 27 = .ok (.istore 5, 2) := by decide +kernel
theorem dX0_goalOf_29 : decode cX0_goalOf 29 = .ok (.iload_n 3, 1) := by decide +kernel
theorem dX0_goalOf_30 : decode cX0_goalOf 30 = .ok (.iconst 5, 1) := by decide +kernel
theorem dX0_goalOf_31 : decode cX0_goalOf 31 = .ok (.if_icmp .ne 10, 3) := by decide +kernel
theorem dX0_goalOf_34 : decode cX0_goalOf 34 = .ok (.aload_n 0, 1) := by decide +kernel
theorem dX0_goalOf_35 : decode cX0_goalOf 35 = .ok (.getfield 15, 3) := by decide +kernel
theorem dX0_goalOf_38 : decode cX0_goalOf 38 = .ok (.goto 9, 3) := by decide +kernel
theorem dX0_goalOf_41 : decode cX0_goalOf 41 = .ok (.aload_n 0, 1) := by decide +kernel
theorem dX0_goalOf_42 : decode cX0_goalOf 42 = .ok (.aload_n 1, 1) := by decide +kernel
theorem dX0_goalOf_43 : decode cX0_goalOf 43 = .ok (.iload_n 2, 1) := by decide +kernel
theorem dX0_goalOf_44 : decode cX0_goalOf 44 = .ok (.invokevirtual 111, 3) := by decide +kernel
theorem dX0_goalOf_47 : decode cX0_goalOf 47 = .ok (.istore 6, 2) := by decide +kernel
theorem dX0_goalOf_49 : decode cX0_goalOf 49 = .ok (.iconst 0, 1) := by decide +kernel
theorem dX0_goalOf_50 : decode cX0_goalOf 50 = .ok (.istore 7, 2) := by decide +kernel
theorem dX0_goalOf_52 : decode cX0_goalOf 52 = .ok (.iload 7, 2) := by decide +kernel
theorem dX0_goalOf_54 : decode cX0_goalOf 54 = .ok (.getstatic 88, 3) := by decide +kernel
theorem dX0_goalOf_57 : decode cX0_goalOf 57 = .ok (.iload_n 3, 1) := by decide +kernel
theorem dX0_goalOf_58 : decode cX0_goalOf 58 = .ok (.iaload, 1) := by decide +kernel
theorem dX0_goalOf_59 : decode cX0_goalOf 59 = .ok (.if_icmp .ge 60, 3) := by decide +kernel
theorem dX0_goalOf_62 : decode cX0_goalOf 62 = .ok (.iload 4, 2) := by decide +kernel
theorem dX0_goalOf_64 : decode cX0_goalOf 64 = .ok (.aload_n 0, 1) := by decide +kernel
theorem dX0_goalOf_65 : decode cX0_goalOf 65 = .ok (.getfield 15, 3) := by decide +kernel
theorem dX0_goalOf_68 : decode cX0_goalOf 68 = .ok (.if_icmp .eq 51, 3) := by decide +kernel
theorem dX0_goalOf_71 : decode cX0_goalOf 71 = .ok (.iload 4, 2) := by decide +kernel
theorem dX0_goalOf_73 : decode cX0_goalOf 73 = .ok (.aload_n 1, 1) := by decide +kernel
theorem dX0_goalOf_74 : decode cX0_goalOf 74 = .ok (.getfield 71, 3) := by decide +kernel
theorem dX0_goalOf_77 : decode cX0_goalOf 77 = .ok (.invokestatic 84, 3) := by decide +kernel
theorem dX0_goalOf_80 : decode cX0_goalOf 80 = .ok (.istore 8, 2) := by decide +kernel
theorem dX0_goalOf_82 : decode cX0_goalOf 82 = .ok (.iload 8, 2) := by decide +kernel
theorem dX0_goalOf_84 : decode cX0_goalOf 84 = .ok (.iload 5, 2) := by decide +kernel
theorem dX0_goalOf_86 : decode cX0_goalOf 86 = .ok (.if_icmp .gt 27, 3) := by decide +kernel
theorem dX0_goalOf_89 : decode cX0_goalOf 89 = .ok (.iload 8, 2) := by decide +kernel
theorem dX0_goalOf_91 : decode cX0_goalOf 91 = .ok (.getstatic 114, 3) := by decide +kernel
theorem dX0_goalOf_94 : decode cX0_goalOf 94 = .ok (.iload_n 3, 1) := by decide +kernel
theorem dX0_goalOf_95 : decode cX0_goalOf 95 = .ok (.iaload, 1) := by decide +kernel
theorem dX0_goalOf_96 : decode cX0_goalOf 96 = .ok (.if_icmp .le 17, 3) := by decide +kernel
theorem dX0_goalOf_99 : decode cX0_goalOf 99 = .ok (.aload_n 0, 1) := by decide +kernel
theorem dX0_goalOf_100 : decode cX0_goalOf 100 = .ok (.iload 4, 2) := by decide +kernel
theorem dX0_goalOf_102 : decode cX0_goalOf 102 = .ok (.aload_n 1, 1) := by decide +kernel
theorem dX0_goalOf_103 : decode cX0_goalOf 103 = .ok (.getfield 71, 3) := by decide +kernel
theorem dX0_goalOf_106 : decode cX0_goalOf 106 = .ok (.iload 6, 2) := by decide +kernel
theorem dX0_goalOf_108 : decode cX0_goalOf 108 = .ok (.invokevirtual 117, 3) := by decide +kernel
theorem dX0_goalOf_111 : decode cX0_goalOf 111 = .ok (.istore 4, 2) := by decide +kernel
theorem dX0_goalOf_113 : decode cX0_goalOf 113 = .ok (.iinc 7 1, 3) := by decide +kernel
theorem dX0_goalOf_116 : decode cX0_goalOf 116 = .ok (.goto (-64), 3) := by decide +kernel
theorem dX0_goalOf_119 : decode cX0_goalOf 119 = .ok (.iload 4, 2) := by decide +kernel
theorem dX0_goalOf_121 : decode cX0_goalOf 121 = .ok (.ireturn, 1) := by decide +kernel
theorem dX0_leaderOf_0 : decode cX0_leaderOf 0 = .ok (.iconst 0, 1) := by decide +kernel
theorem dX0_leaderOf_1 : decode cX0_leaderOf 1 = .ok (.istore_n 3, 1) := by decide +kernel
theorem dX0_leaderOf_2 : decode cX0_leaderOf 2 = .ok (.iload_n 3, 1) := by decide +kernel
theorem dX0_leaderOf_3 : decode cX0_leaderOf 3 = .ok (.aload_n 0, 1) := by decide +kernel
theorem dX0_leaderOf_4 : decode cX0_leaderOf 4 = .ok (.getfield 31, 3) := by decide +kernel
theorem dX0_leaderOf_7 : decode cX0_leaderOf 7 = .ok (.if_icmp .ge 44, 3) := by decide +kernel
theorem dX0_leaderOf_10 : decode cX0_leaderOf 10 = .ok (.iload_n 3, 1) := by decide +kernel
theorem dX0_leaderOf_11 : decode cX0_leaderOf 11 = .ok (.iload_n 2, 1) := by decide +kernel
theorem dX0_leaderOf_12 : decode cX0_leaderOf 12 = .ok (.if_icmp .eq 33, 3) := by decide +kernel
theorem dX0_leaderOf_15 : decode cX0_leaderOf 15 = .ok (.aload_n 0, 1) := by decide +kernel
theorem dX0_leaderOf_16 : decode cX0_leaderOf 16 = .ok (.getfield 34, 3) := by decide +kernel
theorem dX0_leaderOf_19 : decode cX0_leaderOf 19 = .ok (.iload_n 3, 1) := by decide +kernel
theorem dX0_leaderOf_20 : decode cX0_leaderOf 20 = .ok (.iaload, 1) := by decide +kernel
theorem dX0_leaderOf_21 : decode cX0_leaderOf 21 = .ok (.iconst 5, 1) := by decide +kernel
theorem dX0_leaderOf_22 : decode cX0_leaderOf 22 = .ok (.if_icmp .ne 23, 3) := by decide +kernel
theorem dX0_leaderOf_25 : decode cX0_leaderOf 25 = .ok (.aload_n 1, 1) := by decide +kernel
theorem dX0_leaderOf_26 : decode cX0_leaderOf 26 = .ok (.getfield 77, 3) := by decide +kernel
theorem dX0_leaderOf_29 : decode cX0_leaderOf 29 = .ok (.iload_n 3, 1) := by decide +kernel
theorem dX0_leaderOf_30 : decode cX0_leaderOf 30 = .ok (.iaload, 1) := by decide +kernel
theorem dX0_leaderOf_31 : decode cX0_leaderOf 31 = .ok (.aload_n 0, 1) := by decide +kernel
theorem dX0_leaderOf_32 : decode cX0_leaderOf 32 = .ok (.getfield 15, 3) := by decide +kernel
theorem dX0_leaderOf_35 : decode cX0_leaderOf 35 = .ok (.if_icmp .eq 10, 3) := by decide +kernel
theorem dX0_leaderOf_38 : decode cX0_leaderOf 38 = .ok (.aload_n 1, 1) := by decide +kernel
theorem dX0_leaderOf_39 : decode cX0_leaderOf 39 = .ok (.getfield 77, 3) := by decide +kernel
theorem dX0_leaderOf_42 : decode cX0_leaderOf 42 = .ok (.iload_n 3, 1) := by decide +kernel
theorem dX0_leaderOf_43 : decode cX0_leaderOf 43 = .ok (.iaload, 1) := by decide +kernel
theorem dX0_leaderOf_44 : decode cX0_leaderOf 44 = .ok (.ireturn, 1) := by decide +kernel
theorem dX0_leaderOf_45 : decode cX0_leaderOf 45 = .ok (.iinc 3 1, 3) := by decide +kernel
theorem dX0_leaderOf_48 : decode cX0_leaderOf 48 = .ok (.goto (-46), 3) := by decide +kernel
theorem dX0_leaderOf_51 : decode cX0_leaderOf 51 = .ok (.iconst (-1), 1) := by decide +kernel
theorem dX0_leaderOf_52 : decode cX0_leaderOf 52 = .ok (.ireturn, 1) := by decide +kernel
theorem dX0_nextFrom_0 : decode cX0_nextFrom 0 = .ok (.iload_n 1, 1) := by decide +kernel
theorem dX0_nextFrom_1 : decode cX0_nextFrom 1 = .ok (.iload_n 2, 1) := by decide +kernel
theorem dX0_nextFrom_2 : decode cX0_nextFrom 2 = .ok (.invokestatic 84, 3) := by decide +kernel
theorem dX0_nextFrom_5 : decode cX0_nextFrom 5 = .ok (.istore 4, 2) := by decide +kernel
theorem dX0_nextFrom_7 : decode cX0_nextFrom 7 = .ok (.iload_n 1, 1) := by decide +kernel
theorem dX0_nextFrom_8 : decode cX0_nextFrom 8 = .ok (.istore 5, 2) := by decide +kernel
theorem dX0_nextFrom_10 : decode cX0_nextFrom 10 = .ok (.iconst 0, 1) := by decide +kernel
theorem dX0_nextFrom_11 : decode cX0_nextFrom 11 = .ok (.istore 6, 2) := by decide +kernel
theorem dX0_nextFrom_13 : decode cX0_nextFrom 13 = .ok (.iconst 1, 1) := by decide +kernel
theorem dX0_nextFrom_14 : decode cX0_nextFrom 14 = .ok (.istore 7, 2) := by decide +kernel
theorem dX0_nextFrom_16 : decode cX0_nextFrom 16 = .ok (.iload 7, 2) := by decide +kernel
theorem dX0_nextFrom_18 : decode cX0_nextFrom 18 = .ok (.iconst 5, 1) := by decide +kernel
theorem dX0_nextFrom_19 : decode cX0_nextFrom 19 = .ok (.if_icmp .ge 77, 3) := by decide +kernel
theorem dX0_nextFrom_22 : decode cX0_nextFrom 22 = .ok (.iload_n 1, 1) := by decide +kernel
theorem dX0_nextFrom_23 : decode cX0_nextFrom 23 = .ok (.getstatic 91, 3) := by decide +kernel
theorem dX0_nextFrom_26 : decode cX0_nextFrom 26 = .ok (.iload 7, 2) := by decide +kernel
theorem dX0_nextFrom_28 : decode cX0_nextFrom 28 = .ok (.iaload, 1) := by decide +kernel
theorem dX0_nextFrom_29 : decode cX0_nextFrom 29 = .ok (.iadd, 1) := by decide +kernel
theorem dX0_nextFrom_30 : decode cX0_nextFrom 30 = .ok (.istore 8, 2) := by decide +kernel
theorem dX0_nextFrom_32 : decode cX0_nextFrom 32 = .ok (.aload_n 0, 1) := by decide +kernel
theorem dX0_nextFrom_33 : decode cX0_nextFrom 33 = .ok (.iload 8, 2) := by decide +kernel
theorem dX0_nextFrom_35 : decode cX0_nextFrom 35 = .ok (.invokevirtual 68, 3) := by decide +kernel
theorem dX0_nextFrom_38 : decode cX0_nextFrom 38 = .ok (.ifCond .eq 52, 3) := by decide +kernel
theorem dX0_nextFrom_41 : decode cX0_nextFrom 41 = .ok (.iload 8, 2) := by decide +kernel
theorem dX0_nextFrom_43 : decode cX0_nextFrom 43 = .ok (.iload_n 2, 1) := by decide +kernel
theorem dX0_nextFrom_44 : decode cX0_nextFrom 44 = .ok (.invokestatic 84, 3) := by decide +kernel
theorem dX0_nextFrom_47 : decode cX0_nextFrom 47 = .ok (.iload 4, 2) := by decide +kernel
theorem dX0_nextFrom_49 : decode cX0_nextFrom 49 = .ok (.if_icmp .le 41, 3) := by decide +kernel
theorem dX0_nextFrom_52 : decode cX0_nextFrom 52 = .ok (.iload_n 3, 1) := by decide +kernel
theorem dX0_nextFrom_53 : decode cX0_nextFrom 53 = .ok (.iconst (-1), 1) := by decide +kernel
theorem dX0_nextFrom_54 : decode cX0_nextFrom 54 = .ok (.if_icmp .ne 7, 3) := by decide +kernel
theorem dX0_nextFrom_57 : decode cX0_nextFrom 57 = .ok (.iconst 0, 1) := by decide +kernel
theorem dX0_nextFrom_58 : decode cX0_nextFrom 58 = .ok (.goto 9, 3) := by decide +kernel
theorem dX0_nextFrom_61 : decode cX0_nextFrom 61 = .ok (.iload 8, 2) := by decide +kernel
theorem dX0_nextFrom_63 : decode cX0_nextFrom 63 = .ok (.iload_n 3, 1) := by decide +kernel
theorem dX0_nextFrom_64 : decode cX0_nextFrom 64 = .ok (.invokestatic 84, 3) := by decide +kernel
theorem dX0_nextFrom_67 : decode cX0_nextFrom 67 = .ok (.istore 9, 2) := by decide +kernel
theorem dX0_nextFrom_69 : decode cX0_nextFrom 69 = .ok (.iload 5, 2) := by decide +kernel
theorem dX0_nextFrom_71 : decode cX0_nextFrom 71 = .ok (.iload_n 1, 1) := by decide +kernel
theorem dX0_nextFrom_72 : decode cX0_nextFrom 72 = .ok (.if_icmp .eq 10, 3) := by decide +kernel
theorem dX0_nextFrom_75 : decode cX0_nextFrom 75 = .ok (.iload 9, 2) := by decide +kernel
theorem dX0_nextFrom_77 : decode cX0_nextFrom 77 = .ok (.iload 6, 2) := by decide +kernel
theorem dX0_nextFrom_79 : decode cX0_nextFrom 79 = .ok (.if_icmp .ge 11, 3) := by decide +kernel
theorem dX0_nextFrom_82 : decode cX0_nextFrom 82 = .ok (.iload 8, 2) := by decide +kernel
theorem dX0_nextFrom_84 : decode cX0_nextFrom 84 = .ok (.istore 5, 2) := by decide +kernel
theorem dX0_nextFrom_86 : decode cX0_nextFrom 86 = .ok (.iload 9, 2) := by decide +kernel
theorem dX0_nextFrom_88 : decode cX0_nextFrom 88 = .ok (.istore 6, 2) := by decide +kernel
theorem dX0_nextFrom_90 : decode cX0_nextFrom 90 = .ok (.iinc 7 1, 3) := by decide +kernel
theorem dX0_nextFrom_93 : decode cX0_nextFrom 93 = .ok (.goto (-77), 3) := by decide +kernel
theorem dX0_nextFrom_96 : decode cX0_nextFrom 96 = .ok (.iload 5, 2) := by decide +kernel
theorem dX0_nextFrom_98 : decode cX0_nextFrom 98 = .ok (.ireturn, 1) := by decide +kernel
theorem dX0_wouldGo_0 : decode cX0_wouldGo 0 = .ok (.aload_n 0, 1) := by decide +kernel
theorem dX0_wouldGo_1 : decode cX0_wouldGo 1 = .ok (.aload_n 1, 1) := by decide +kernel
theorem dX0_wouldGo_2 : decode cX0_wouldGo 2 = .ok (.iload_n 2, 1) := by decide +kernel
theorem dX0_wouldGo_3 : decode cX0_wouldGo 3 = .ok (.aload_n 0, 1) := by decide +kernel
theorem dX0_wouldGo_4 : decode cX0_wouldGo 4 = .ok (.getfield 34, 3) := by decide +kernel
theorem dX0_wouldGo_7 : decode cX0_wouldGo 7 = .ok (.iload_n 2, 1) := by decide +kernel
theorem dX0_wouldGo_8 : decode cX0_wouldGo 8 = .ok (.iaload, 1) := by decide +kernel
theorem dX0_wouldGo_9 : decode cX0_wouldGo 9 = .ok (.invokevirtual 104, 3) := by decide +kernel
theorem dX0_wouldGo_12 : decode cX0_wouldGo 12 = .ok (.aload_n 1, 1) := by decide +kernel
theorem dX0_wouldGo_13 : decode cX0_wouldGo 13 = .ok (.getfield 77, 3) := by decide +kernel
theorem dX0_wouldGo_16 : decode cX0_wouldGo 16 = .ok (.iload_n 2, 1) := by decide +kernel
theorem dX0_wouldGo_17 : decode cX0_wouldGo 17 = .ok (.iaload, 1) := by decide +kernel
theorem dX0_wouldGo_18 : decode cX0_wouldGo 18 = .ok (.if_icmp .eq 7, 3) := by decide +kernel
theorem dX0_wouldGo_21 : decode cX0_wouldGo 21 = .ok (.iconst 1, 1) := by decide +kernel
theorem dX0_wouldGo_22 : decode cX0_wouldGo 22 = .ok (.goto 4, 3) := by decide +kernel
theorem dX0_wouldGo_25 : decode cX0_wouldGo 25 = .ok (.iconst 0, 1) := by decide +kernel
theorem dX0_wouldGo_26 : decode cX0_wouldGo 26 = .ok (.ireturn, 1) := by decide +kernel
theorem dX0_moved_0 : decode cX0_moved 0 = .ok (.iconst 0, 1) := by decide +kernel
theorem dX0_moved_1 : decode cX0_moved 1 = .ok (.istore_n 2, 1) := by decide +kernel
theorem dX0_moved_2 : decode cX0_moved 2 = .ok (.iconst 0, 1) := by decide +kernel
theorem dX0_moved_3 : decode cX0_moved 3 = .ok (.istore_n 3, 1) := by decide +kernel
theorem dX0_moved_4 : decode cX0_moved 4 = .ok (.iload_n 3, 1) := by decide +kernel
theorem dX0_moved_5 : decode cX0_moved 5 = .ok (.aload_n 0, 1) := by decide +kernel
theorem dX0_moved_6 : decode cX0_moved 6 = .ok (.getfield 31, 3) := by decide +kernel
theorem dX0_moved_9 : decode cX0_moved 9 = .ok (.if_icmp .ge 24, 3) := by decide +kernel
theorem dX0_moved_12 : decode cX0_moved 12 = .ok (.aload_n 0, 1) := by decide +kernel
theorem dX0_moved_13 : decode cX0_moved 13 = .ok (.aload_n 1, 1) := by decide +kernel
theorem dX0_moved_14 : decode cX0_moved 14 = .ok (.iload_n 3, 1) := by decide +kernel
theorem dX0_moved_15 : decode cX0_moved 15 = .ok (.invokevirtual 121, 3) := by decide +kernel
theorem dX0_moved_18 : decode cX0_moved 18 = .ok (.ifCond .eq 9, 3) := by decide +kernel
theorem dX0_moved_21 : decode cX0_moved 21 = .ok (.iload_n 2, 1) := by decide +kernel
theorem dX0_moved_22 : decode cX0_moved 22 = .ok (.iconst 1, 1) := by decide +kernel
theorem dX0_moved_23 : decode cX0_moved 23 = .ok (.iload_n 3, 1) := by decide +kernel
theorem dX0_moved_24 : decode cX0_moved 24 = .ok (.ishl, 1) := by decide +kernel
theorem dX0_moved_25 : decode cX0_moved 25 = .ok (.ior, 1) := by decide +kernel
theorem dX0_moved_26 : decode cX0_moved 26 = .ok (.istore_n 2, 1) := by decide +kernel
theorem dX0_moved_27 : decode cX0_moved 27 = .ok (.iinc 3 1, 3) := by decide +kernel
theorem dX0_moved_30 : decode cX0_moved 30 = .ok (.goto (-26), 3) := by decide +kernel
theorem dX0_moved_33 : decode cX0_moved 33 = .ok (.iload_n 2, 1) := by decide +kernel
theorem dX0_moved_34 : decode cX0_moved 34 = .ok (.ireturn, 1) := by decide +kernel
theorem dX0_notIn_0 : decode cX0_notIn 0 = .ok (.iconst 0, 1) := by decide +kernel
theorem dX0_notIn_1 : decode cX0_notIn 1 = .ok (.istore_n 1, 1) := by decide +kernel
theorem dX0_notIn_2 : decode cX0_notIn 2 = .ok (.iconst 0, 1) := by decide +kernel
theorem dX0_notIn_3 : decode cX0_notIn 3 = .ok (.istore_n 2, 1) := by decide +kernel
theorem dX0_notIn_4 : decode cX0_notIn 4 = .ok (.iload_n 2, 1) := by decide +kernel
theorem dX0_notIn_5 : decode cX0_notIn 5 = .ok (.aload_n 0, 1) := by decide +kernel
theorem dX0_notIn_6 : decode cX0_notIn 6 = .ok (.getfield 31, 3) := by decide +kernel
theorem dX0_notIn_9 : decode cX0_notIn 9 = .ok (.if_icmp .ge 27, 3) := by decide +kernel
theorem dX0_notIn_12 : decode cX0_notIn 12 = .ok (.aload_n 0, 1) := by decide +kernel
theorem dX0_notIn_13 : decode cX0_notIn 13 = .ok (.aload_n 0, 1) := by decide +kernel
theorem dX0_notIn_14 : decode cX0_notIn 14 = .ok (.getfield 44, 3) := by decide +kernel
theorem dX0_notIn_17 : decode cX0_notIn 17 = .ok (.iload_n 2, 1) := by decide +kernel
theorem dX0_notIn_18 : decode cX0_notIn 18 = .ok (.invokevirtual 125, 3) := by decide +kernel
theorem dX0_notIn_21 : decode cX0_notIn 21 = .ok (.ifCond .ne 9, 3) := by decide +kernel
theorem dX0_notIn_24 : decode cX0_notIn 24 = .ok (.iload_n 1, 1) := by decide +kernel
theorem dX0_notIn_25 : decode cX0_notIn 25 = .ok (.iconst 1, 1) := by decide +kernel
theorem dX0_notIn_26 : decode cX0_notIn 26 = .ok (.iload_n 2, 1) := by decide +kernel
theorem dX0_notIn_27 : decode cX0_notIn 27 = .ok (.ishl, 1) := by decide +kernel
theorem dX0_notIn_28 : decode cX0_notIn 28 = .ok (.ior, 1) := by decide +kernel
theorem dX0_notIn_29 : decode cX0_notIn 29 = .ok (.istore_n 1, 1) := by decide +kernel
theorem dX0_notIn_30 : decode cX0_notIn 30 = .ok (.iinc 2 1, 3) := by decide +kernel
theorem dX0_notIn_33 : decode cX0_notIn 33 = .ok (.goto (-29), 3) := by decide +kernel
theorem dX0_notIn_36 : decode cX0_notIn 36 = .ok (.iload_n 1, 1) := by decide +kernel
theorem dX0_notIn_37 : decode cX0_notIn 37 = .ok (.ireturn, 1) := by decide +kernel
theorem dX0_farthestFrom_0 : decode cX0_farthestFrom 0 = .ok (.iconst 0, 1) := by decide +kernel
theorem dX0_farthestFrom_1 : decode cX0_farthestFrom 1 = .ok (.istore_n 3, 1) := by decide +kernel
theorem dX0_farthestFrom_2 : decode cX0_farthestFrom 2 = .ok (.iconst 0, 1) := by decide +kernel
theorem dX0_farthestFrom_3 : decode cX0_farthestFrom 3 = .ok (.istore 4, 2) := by decide +kernel
theorem dX0_farthestFrom_5 : decode cX0_farthestFrom 5 = .ok (.iload 4, 2) := by decide +kernel
theorem dX0_farthestFrom_7 : decode cX0_farthestFrom 7 = .ok (.aload_n 0, 1) := by decide +kernel
theorem dX0_farthestFrom_8 : decode cX0_farthestFrom 8 = .ok (.getfield 31, 3) := by decide +kernel
theorem dX0_farthestFrom_11 : decode cX0_farthestFrom 11 = .ok (.if_icmp .ge 40, 3) := by decide +kernel
theorem dX0_farthestFrom_14 : decode cX0_farthestFrom 14 = .ok (.aload_n 0, 1) := by decide +kernel
theorem dX0_farthestFrom_15 : decode cX0_farthestFrom 15 = .ok (.aload_n 1, 1) := by decide +kernel
theorem dX0_farthestFrom_16 : decode cX0_farthestFrom 16 = .ok (.iload 4, 2) := by decide +kernel
theorem dX0_farthestFrom_18 : decode cX0_farthestFrom 18 = .ok (.invokevirtual 125, 3) := by decide +kernel
theorem dX0_farthestFrom_21 : decode cX0_farthestFrom 21 = .ok (.ifCond .ne 24, 3) := by decide +kernel
theorem dX0_farthestFrom_24 : decode cX0_farthestFrom 24 = .ok (.iload_n 3, 1) := by decide +kernel
theorem dX0_farthestFrom_25 : decode cX0_farthestFrom 25 = .ok (.aload_n 1, 1) := by decide +kernel
theorem dX0_farthestFrom_26 : decode cX0_farthestFrom 26 = .ok (.getfield 77, 3) := by decide +kernel
theorem dX0_farthestFrom_29 : decode cX0_farthestFrom 29 = .ok (.iload 4, 2) := by decide +kernel
theorem dX0_farthestFrom_31 : decode cX0_farthestFrom 31 = .ok (.iaload, 1) := by decide +kernel
theorem dX0_farthestFrom_32 : decode cX0_farthestFrom 32 = .ok (.aload_n 1, 1) := by decide +kernel
theorem dX0_farthestFrom_33 : decode cX0_farthestFrom 33 = .ok (.getfield 77, 3) := by decide +kernel
theorem dX0_farthestFrom_36 : decode cX0_farthestFrom 36 = .ok (.iload_n 2, 1) := by decide +kernel
theorem dX0_farthestFrom_37 : decode cX0_farthestFrom 37 = .ok (.iaload, 1) := by decide +kernel
theorem dX0_farthestFrom_38 : decode cX0_farthestFrom 38 = .ok (.invokestatic 84, 3) := by decide +kernel
theorem dX0_farthestFrom_41 : decode cX0_farthestFrom 41 = .ok (.invokestatic 128, 3) := by decide +kernel
theorem dX0_farthestFrom_44 : decode cX0_farthestFrom 44 = .ok (.istore_n 3, 1) := by decide +kernel
theorem dX0_farthestFrom_45 : decode cX0_farthestFrom 45 = .ok (.iinc 4 1, 3) := by decide +kernel
theorem dX0_farthestFrom_48 : decode cX0_farthestFrom 48 = .ok (.goto (-43), 3) := by decide +kernel
theorem dX0_farthestFrom_51 : decode cX0_farthestFrom 51 = .ok (.iload_n 3, 1) := by decide +kernel
theorem dX0_farthestFrom_52 : decode cX0_farthestFrom 52 = .ok (.ireturn, 1) := by decide +kernel
theorem dX0_apart_0 : decode cX0_apart 0 = .ok (.iconst 0, 1) := by decide +kernel
theorem dX0_apart_1 : decode cX0_apart 1 = .ok (.istore_n 2, 1) := by decide +kernel
theorem dX0_apart_2 : decode cX0_apart 2 = .ok (.iconst 0, 1) := by decide +kernel
theorem dX0_apart_3 : decode cX0_apart 3 = .ok (.istore_n 3, 1) := by decide +kernel
theorem dX0_apart_4 : decode cX0_apart 4 = .ok (.iload_n 3, 1) := by decide +kernel
theorem dX0_apart_5 : decode cX0_apart 5 = .ok (.aload_n 0, 1) := by decide +kernel
theorem dX0_apart_6 : decode cX0_apart 6 = .ok (.getfield 31, 3) := by decide +kernel
theorem dX0_apart_9 : decode cX0_apart 9 = .ok (.if_icmp .ge 29, 3) := by decide +kernel
theorem dX0_apart_12 : decode cX0_apart 12 = .ok (.aload_n 0, 1) := by decide +kernel
theorem dX0_apart_13 : decode cX0_apart 13 = .ok (.aload_n 1, 1) := by decide +kernel
theorem dX0_apart_14 : decode cX0_apart 14 = .ok (.iload_n 3, 1) := by decide +kernel
theorem dX0_apart_15 : decode cX0_apart 15 = .ok (.invokevirtual 125, 3) := by decide +kernel
theorem dX0_apart_18 : decode cX0_apart 18 = .ok (.ifCond .ne 14, 3) := by decide +kernel
theorem dX0_apart_21 : decode cX0_apart 21 = .ok (.iload_n 2, 1) := by decide +kernel
theorem dX0_apart_22 : decode cX0_apart 22 = .ok (.aload_n 0, 1) := by decide +kernel
theorem dX0_apart_23 : decode cX0_apart 23 = .ok (.aload_n 1, 1) := by decide +kernel
theorem dX0_apart_24 : decode cX0_apart 24 = .ok (.iload_n 3, 1) := by decide +kernel
theorem dX0_apart_25 : decode cX0_apart 25 = .ok (.invokevirtual 133, 3) := by decide +kernel
theorem dX0_apart_28 : decode cX0_apart 28 = .ok (.invokestatic 128, 3) := by decide +kernel
theorem dX0_apart_31 : decode cX0_apart 31 = .ok (.istore_n 2, 1) := by decide +kernel
theorem dX0_apart_32 : decode cX0_apart 32 = .ok (.iinc 3 1, 3) := by decide +kernel
theorem dX0_apart_35 : decode cX0_apart 35 = .ok (.goto (-31), 3) := by decide +kernel
theorem dX0_apart_38 : decode cX0_apart 38 = .ok (.iload_n 2, 1) := by decide +kernel
theorem dX0_apart_39 : decode cX0_apart 39 = .ok (.ireturn, 1) := by decide +kernel
theorem dX0_flock_0 : decode cX0_flock 0 = .ok (.iconst 0, 1) := by decide +kernel
theorem dX0_flock_1 : decode cX0_flock 1 = .ok (.istore_n 1, 1) := by decide +kernel
theorem dX0_flock_2 : decode cX0_flock 2 = .ok (.iconst 0, 1) := by decide +kernel
theorem dX0_flock_3 : decode cX0_flock 3 = .ok (.istore_n 2, 1) := by decide +kernel
theorem dX0_flock_4 : decode cX0_flock 4 = .ok (.iload_n 2, 1) := by decide +kernel
theorem dX0_flock_5 : decode cX0_flock 5 = .ok (.aload_n 0, 1) := by decide +kernel
theorem dX0_flock_6 : decode cX0_flock 6 = .ok (.getfield 31, 3) := by decide +kernel
theorem dX0_flock_9 : decode cX0_flock 9 = .ok (.if_icmp .ge 40, 3) := by decide +kernel
theorem dX0_flock_12 : decode cX0_flock 12 = .ok (.aload_n 0, 1) := by decide +kernel
theorem dX0_flock_13 : decode cX0_flock 13 = .ok (.aload_n 0, 1) := by decide +kernel
theorem dX0_flock_14 : decode cX0_flock 14 = .ok (.getfield 44, 3) := by decide +kernel
theorem dX0_flock_17 : decode cX0_flock 17 = .ok (.iload_n 2, 1) := by decide +kernel
theorem dX0_flock_18 : decode cX0_flock 18 = .ok (.invokevirtual 125, 3) := by decide +kernel
theorem dX0_flock_21 : decode cX0_flock 21 = .ok (.ifCond .ne 22, 3) := by decide +kernel
theorem dX0_flock_24 : decode cX0_flock 24 = .ok (.aload_n 0, 1) := by decide +kernel
theorem dX0_flock_25 : decode cX0_flock 25 = .ok (.aload_n 0, 1) := by decide +kernel
theorem dX0_flock_26 : decode cX0_flock 26 = .ok (.getfield 44, 3) := by decide +kernel
theorem dX0_flock_29 : decode cX0_flock 29 = .ok (.iload_n 2, 1) := by decide +kernel
theorem dX0_flock_30 : decode cX0_flock 30 = .ok (.invokevirtual 133, 3) := by decide +kernel
theorem dX0_flock_33 : decode cX0_flock 33 = .ok (.iconst 2, 1) := by decide +kernel
theorem dX0_flock_34 : decode cX0_flock 34 = .ok (.if_icmp .le 9, 3) := by decide +kernel
theorem dX0_flock_37 : decode cX0_flock 37 = .ok (.iload_n 1, 1) := by decide +kernel
theorem dX0_flock_38 : decode cX0_flock 38 = .ok (.iconst 1, 1) := by decide +kernel
theorem dX0_flock_39 : decode cX0_flock 39 = .ok (.iload_n 2, 1) := by decide +kernel
theorem dX0_flock_40 : decode cX0_flock 40 = .ok (.ishl, 1) := by decide +kernel
theorem dX0_flock_41 : decode cX0_flock 41 = .ok (.ior, 1) := by decide +kernel
theorem dX0_flock_42 : decode cX0_flock 42 = .ok (.istore_n 1, 1) := by decide +kernel
theorem dX0_flock_43 : decode cX0_flock 43 = .ok (.iinc 2 1, 3) := by decide +kernel
theorem dX0_flock_46 : decode cX0_flock 46 = .ok (.goto (-42), 3) := by decide +kernel
theorem dX0_flock_49 : decode cX0_flock 49 = .ok (.iload_n 1, 1) := by decide +kernel
theorem dX0_flock_50 : decode cX0_flock 50 = .ok (.ireturn, 1) := by decide +kernel
theorem dX0_nearest_0 : decode cX0_nearest 0 = .ok (.iconst (-1), 1) := by decide +kernel
theorem dX0_nearest_1 : decode cX0_nearest 1 = .ok (.istore_n 1, 1) := by decide +kernel
theorem dX0_nearest_2 : decode cX0_nearest 2 = .ok (.iconst 0, 1) := by decide +kernel
theorem dX0_nearest_3 : decode cX0_nearest 3 = .ok (.istore_n 2, 1) := by decide +kernel
theorem dX0_nearest_4 : decode cX0_nearest 4 = .ok (.iconst 0, 1) := by decide +kernel
theorem dX0_nearest_5 : decode cX0_nearest 5 = .ok (.istore_n 3, 1) := by decide +kernel
theorem dX0_nearest_6 : decode cX0_nearest 6 = .ok (.iload_n 3, 1) := by decide +kernel
theorem dX0_nearest_7 : decode cX0_nearest 7 = .ok (.aload_n 0, 1) := by decide +kernel
theorem dX0_nearest_8 : decode cX0_nearest 8 = .ok (.getfield 31, 3) := by decide +kernel
theorem dX0_nearest_11 : decode cX0_nearest 11 = .ok (.if_icmp .ge 58, 3) := by decide +kernel
theorem dX0_nearest_14 : decode cX0_nearest 14 = .ok (.aload_n 0, 1) := by decide +kernel
theorem dX0_nearest_15 : decode cX0_nearest 15 = .ok (.getfield 44, 3) := by decide +kernel
theorem dX0_nearest_18 : decode cX0_nearest 18 = .ok (.getfield 77, 3) := by decide +kernel
theorem dX0_nearest_21 : decode cX0_nearest 21 = .ok (.iload_n 3, 1) := by decide +kernel
theorem dX0_nearest_22 : decode cX0_nearest 22 = .ok (.iaload, 1) := by decide +kernel
theorem dX0_nearest_23 : decode cX0_nearest 23 = .ok (.aload_n 0, 1) := by decide +kernel
theorem dX0_nearest_24 : decode cX0_nearest 24 = .ok (.getfield 44, 3) := by decide +kernel
theorem dX0_nearest_27 : decode cX0_nearest 27 = .ok (.getfield 71, 3) := by decide +kernel
theorem dX0_nearest_30 : decode cX0_nearest 30 = .ok (.invokestatic 84, 3) := by decide +kernel
theorem dX0_nearest_33 : decode cX0_nearest 33 = .ok (.istore 4, 2) := by decide +kernel
theorem dX0_nearest_35 : decode cX0_nearest 35 = .ok (.aload_n 0, 1) := by decide +kernel
theorem dX0_nearest_36 : decode cX0_nearest 36 = .ok (.aload_n 0, 1) := by decide +kernel
theorem dX0_nearest_37 : decode cX0_nearest 37 = .ok (.getfield 44, 3) := by decide +kernel
theorem dX0_nearest_40 : decode cX0_nearest 40 = .ok (.iload_n 3, 1) := by decide +kernel
theorem dX0_nearest_41 : decode cX0_nearest 41 = .ok (.invokevirtual 125, 3) := by decide +kernel
theorem dX0_nearest_44 : decode cX0_nearest 44 = .ok (.ifCond .ne 19, 3) := by decide +kernel
theorem dX0_nearest_47 : decode cX0_nearest 47 = .ok (.iload_n 1, 1) := by decide +kernel
theorem dX0_nearest_48 : decode cX0_nearest 48 = .ok (.iconst (-1), 1) := by decide +kernel
theorem dX0_nearest_49 : decode cX0_nearest 49 = .ok (.if_icmp .eq 9, 3) := by decide +kernel
theorem dX0_nearest_52 : decode cX0_nearest 52 = .ok (.iload 4, 2) := by decide +kernel
theorem dX0_nearest_54 : decode cX0_nearest 54 = .ok (.iload_n 2, 1) := by decide +kernel
theorem dX0_nearest_55 : decode cX0_nearest 55 = .ok (.if_icmp .ge 8, 3) := by decide +kernel
theorem dX0_nearest_58 : decode cX0_nearest 58 = .ok (.iload_n 3, 1) := by decide +kernel
theorem dX0_nearest_59 : decode cX0_nearest 59 = .ok (.istore_n 1, 1) := by decide +kernel
theorem dX0_nearest_60 : decode cX0_nearest 60 = .ok (.iload 4, 2) := by decide +kernel
theorem dX0_nearest_62 : decode cX0_nearest 62 = .ok (.istore_n 2, 1) := by decide +kernel
theorem dX0_nearest_63 : decode cX0_nearest 63 = .ok (.iinc 3 1, 3) := by decide +kernel
theorem dX0_nearest_66 : decode cX0_nearest 66 = .ok (.goto (-60), 3) := by decide +kernel
theorem dX0_nearest_69 : decode cX0_nearest 69 = .ok (.iload_n 1, 1) := by decide +kernel
theorem dX0_nearest_70 : decode cX0_nearest 70 = .ok (.ireturn, 1) := by decide +kernel
theorem dX0_draw_0 : decode cX0_draw 0 = .ok (.aload_n 0, 1) := by decide +kernel
theorem dX0_draw_1 : decode cX0_draw 1 = .ok (.aload_n 0, 1) := by decide +kernel
theorem dX0_draw_2 : decode cX0_draw 2 = .ok (.getfield 24, 3) := by decide +kernel
theorem dX0_draw_5 : decode cX0_draw 5 = .ok (.ldc 136, 2) := by decide +kernel
theorem dX0_draw_7 : decode cX0_draw 7 = .ok (.imul, 1) := by decide +kernel
theorem dX0_draw_8 : decode cX0_draw 8 = .ok (.sipush 12345, 3) := by decide +kernel
theorem dX0_draw_11 : decode cX0_draw 11 = .ok (.iadd, 1) := by decide +kernel
theorem dX0_draw_12 : decode cX0_draw 12 = .ok (.putfield 24, 3) := by decide +kernel
theorem dX0_draw_15 : decode cX0_draw 15 = .ok (.iload_n 1, 1) := by decide +kernel
theorem dX0_draw_16 : decode cX0_draw 16 = .ok (.iconst 1, 1) := by decide +kernel
theorem dX0_draw_17 : decode cX0_draw 17 = .ok (.if_icmp .ge 7, 3) := by decide +kernel
theorem dX0_draw_20 : decode cX0_draw 20 = .ok (.iconst 0, 1) := by decide +kernel
theorem dX0_draw_21 : decode cX0_draw 21 = .ok (.goto 12, 3) := by decide +kernel
theorem dX0_draw_24 : decode cX0_draw 24 = .ok (.aload_n 0, 1) := by decide +kernel
theorem dX0_draw_25 : decode cX0_draw 25 = .ok (.getfield 24, 3) := by decide +kernel
theorem dX0_draw_28 : decode cX0_draw 28 = .ok (.bipush 16, 2) := by decide +kernel
theorem dX0_draw_30 : decode cX0_draw 30 = .ok (.iushr, 1) := by decide +kernel
theorem dX0_draw_31 : decode cX0_draw 31 = .ok (.iload_n 1, 1) := by decide +kernel
theorem dX0_draw_32 : decode cX0_draw 32 = .ok (.irem, 1) := by decide +kernel
theorem dX0_draw_33 : decode cX0_draw 33 = .ok (.ireturn, 1) := by decide +kernel
theorem dX0_eweBits_0 : decode cX0_eweBits 0 = .ok (.lconst 0, 1) := by decide +kernel
theorem dX0_eweBits_1 : decode cX0_eweBits 1 = .ok (.lstore_n 1, 1) := by decide +kernel
theorem dX0_eweBits_2 : decode cX0_eweBits 2 = .ok (.iconst 0, 1) := by decide +kernel
theorem dX0_eweBits_3 : decode cX0_eweBits 3 = .ok (.istore_n 3, 1) := by decide +kernel
theorem dX0_eweBits_4 : decode cX0_eweBits 4 = .ok (.iload_n 3, 1) := by decide +kernel
theorem dX0_eweBits_5 : decode cX0_eweBits 5 = .ok (.aload_n 0, 1) := by decide +kernel
theorem dX0_eweBits_6 : decode cX0_eweBits 6 = .ok (.getfield 31, 3) := by decide +kernel
theorem dX0_eweBits_9 : decode cX0_eweBits 9 = .ok (.if_icmp .ge 24, 3) := by decide +kernel
theorem dX0_eweBits_12 : decode cX0_eweBits 12 = .ok (.lload_n 1, 1) := by decide +kernel
theorem dX0_eweBits_13 : decode cX0_eweBits 13 = .ok (.aload_n 0, 1) := by decide +kernel
theorem dX0_eweBits_14 : decode cX0_eweBits 14 = .ok (.getfield 44, 3) := by decide +kernel
theorem dX0_eweBits_17 : decode cX0_eweBits 17 = .ok (.getfield 77, 3) := by decide +kernel
theorem dX0_eweBits_20 : decode cX0_eweBits 20 = .ok (.iload_n 3, 1) := by decide +kernel
theorem dX0_eweBits_21 : decode cX0_eweBits 21 = .ok (.iaload, 1) := by decide +kernel
theorem dX0_eweBits_22 : decode cX0_eweBits 22 = .ok (.invokestatic 58, 3) := by decide +kernel
theorem dX0_eweBits_25 : decode cX0_eweBits 25 = .ok (.lor, 1) := by decide +kernel
theorem dX0_eweBits_26 : decode cX0_eweBits 26 = .ok (.lstore_n 1, 1) := by decide +kernel
theorem dX0_eweBits_27 : decode cX0_eweBits 27 = .ok (.iinc 3 1, 3) := by decide +kernel
theorem dX0_eweBits_30 : decode cX0_eweBits 30 = .ok (.goto (-26), 3) := by decide +kernel
theorem dX0_eweBits_33 : decode cX0_eweBits 33 = .ok (.lload_n 1, 1) := by decide +kernel
theorem dX0_eweBits_34 : decode cX0_eweBits 34 = .ok (.lreturn, 1) := by decide +kernel
theorem dX0_dogsGround_0 : decode cX0_dogsGround 0 = .ok (.lconst 0, 1) := by decide +kernel
theorem dX0_dogsGround_1 : decode cX0_dogsGround 1 = .ok (.lstore_n 1, 1) := by decide +kernel
theorem dX0_dogsGround_2 : decode cX0_dogsGround 2 = .ok (.iconst 0, 1) := by decide +kernel
theorem dX0_dogsGround_3 : decode cX0_dogsGround 3 = .ok (.istore_n 3, 1) := by decide +kernel
theorem dX0_dogsGround_4 : decode cX0_dogsGround 4 = .ok (.iload_n 3, 1) := by decide +kernel
theorem dX0_dogsGround_5 : decode cX0_dogsGround 5 = .ok (.bipush 67, 2) := by decide +kernel
theorem dX0_dogsGround_7 : decode cX0_dogsGround 7 = .ok (.if_icmp .ge 24, 3) := by decide +kernel
theorem dX0_dogsGround_10 : decode cX0_dogsGround 10 = .ok (.aload_n 0, 1) := by decide +kernel
theorem dX0_dogsGround_11 : decode cX0_dogsGround 11 = .ok (.iload_n 3, 1) := by decide +kernel
theorem dX0_dogsGround_12 : decode cX0_dogsGround 12 = .ok (.invokevirtual 94, 3) := by decide +kernel
theorem dX0_dogsGround_15 : decode cX0_dogsGround 15 = .ok (.ifCond .eq 10, 3) := by decide +kernel
theorem dX0_dogsGround_18 : decode cX0_dogsGround 18 = .ok (.lload_n 1, 1) := by decide +kernel
theorem dX0_dogsGround_19 : decode cX0_dogsGround 19 = .ok (.iload_n 3, 1) := by decide +kernel
theorem dX0_dogsGround_20 : decode cX0_dogsGround 20 = .ok (.invokestatic 58, 3) := by decide +kernel
theorem dX0_dogsGround_23 : decode cX0_dogsGround 23 = .ok (.lor, 1) := by decide +kernel
theorem dX0_dogsGround_24 : decode cX0_dogsGround 24 = .ok (.lstore_n 1, 1) := by decide +kernel
theorem dX0_dogsGround_25 : decode cX0_dogsGround 25 = .ok (.iinc 3 1, 3) := by decide +kernel
theorem dX0_dogsGround_28 : decode cX0_dogsGround 28 = .ok (.goto (-24), 3) := by decide +kernel
theorem dX0_dogsGround_31 : decode cX0_dogsGround 31 = .ok (.lload_n 1, 1) := by decide +kernel
theorem dX0_dogsGround_32 : decode cX0_dogsGround 32 = .ok (.lreturn, 1) := by decide +kernel
theorem dX0_rowBits_0 : decode cX0_rowBits 0 = .ok (.ldc2_w 137, 3) := by decide +kernel
theorem dX0_rowBits_3 : decode cX0_rowBits 3 = .ok (.bipush 8, 2) := by decide +kernel
theorem dX0_rowBits_5 : decode cX0_rowBits 5 = .ok (.iload_n 0, 1) := by decide +kernel
theorem dX0_rowBits_6 : decode cX0_rowBits 6 = .ok (.imul, 1) := by decide +kernel
theorem dX0_rowBits_7 : decode cX0_rowBits 7 = .ok (.lshl, 1) := by decide +kernel
theorem dX0_rowBits_8 : decode cX0_rowBits 8 = .ok (.lreturn, 1) := by decide +kernel
theorem dX0_columnBits_0 : decode cX0_columnBits 0 = .ok (.ldc2_w 139, 3) := by decide +kernel
theorem dX0_columnBits_3 : decode cX0_columnBits 3 = .ok (.iload_n 0, 1) := by decide +kernel
theorem dX0_columnBits_4 : decode cX0_columnBits 4 = .ok (.lshl, 1) := by decide +kernel
theorem dX0_columnBits_5 : decode cX0_columnBits 5 = .ok (.lreturn, 1) := by decide +kernel
theorem dX0_spread_0 : decode cX0_spread 0 = .ok (.lload_n 0, 1) := by decide +kernel
theorem dX0_spread_1 : decode cX0_spread 1 = .ok (.bipush 8, 2) := by decide +kernel
theorem dX0_spread_3 : decode cX0_spread 3 = .ok (.lshl, 1) := by decide +kernel
theorem dX0_spread_4 : decode cX0_spread 4 = .ok (.lload_n 0, 1) := by decide +kernel
theorem dX0_spread_5 : decode cX0_spread 5 = .ok (.bipush 8, 2) := by decide +kernel
theorem dX0_spread_7 : decode cX0_spread 7 = .ok (.lushr, 1) := by decide +kernel
theorem dX0_spread_8 : decode cX0_spread 8 = .ok (.lor, 1) := by decide +kernel
theorem dX0_spread_9 : decode cX0_spread 9 = .ok (.lload_n 0, 1) := by decide +kernel
theorem dX0_spread_10 : decode cX0_spread 10 = .ok (.iconst 1, 1) := by decide +kernel
theorem dX0_spread_11 : decode cX0_spread 11 = .ok (.lshl, 1) := by decide +kernel
theorem dX0_spread_12 : decode cX0_spread 12 = .ok (.lor, 1) := by decide +kernel
theorem dX0_spread_13 : decode cX0_spread 13 = .ok (.lload_n 0, 1) := by decide +kernel
theorem dX0_spread_14 : decode cX0_spread 14 = .ok (.iconst 1, 1) := by decide +kernel
theorem dX0_spread_15 : decode cX0_spread 15 = .ok (.lushr, 1) := by decide +kernel
theorem dX0_spread_16 : decode cX0_spread 16 = .ok (.lor, 1) := by decide +kernel
theorem dX0_spread_17 : decode cX0_spread 17 = .ok (.lstore 4, 2) := by decide +kernel
theorem dX0_spread_19 : decode cX0_spread 19 = .ok (.lload_n 0, 1) := by decide +kernel
theorem dX0_spread_20 : decode cX0_spread 20 = .ok (.lload 4, 2) := by decide +kernel
theorem dX0_spread_22 : decode cX0_spread 22 = .ok (.lload_n 2, 1) := by decide +kernel
theorem dX0_spread_23 : decode cX0_spread 23 = .ok (.land, 1) := by decide +kernel
theorem dX0_spread_24 : decode cX0_spread 24 = .ok (.lor, 1) := by decide +kernel
theorem dX0_spread_25 : decode cX0_spread 25 = .ok (.lreturn, 1) := by decide +kernel
theorem dX1_init_0 : decode cX1_init 0 = .ok (.aload_n 0, 1) := by decide +kernel
theorem dX1_init_1 : decode cX1_init 1 = .ok (.invokespecial 3, 3) := by decide +kernel
theorem dX1_init_4 : decode cX1_init 4 = .ok (.aload_n 0, 1) := by decide +kernel
theorem dX1_init_5 : decode cX1_init 5 = .ok (.bipush 7, 2) := by decide +kernel
theorem dX1_init_7 : decode cX1_init 7 = .ok (.anewarray 9, 3) := by decide +kernel
theorem dX1_init_10 : decode cX1_init 10 = .ok (.putfield 11, 3) := by decide +kernel
theorem dX1_init_13 : decode cX1_init 13 = .ok (.iconst 0, 1) := by decide +kernel
theorem dX1_init_14 : decode cX1_init 14 = .ok (.istore_n 1, 1) := by decide +kernel
theorem dX1_init_15 : decode cX1_init 15 = .ok (.iload_n 1, 1) := by decide +kernel
theorem dX1_init_16 : decode cX1_init 16 = .ok (.bipush 6, 2) := by decide +kernel
theorem dX1_init_18 : decode cX1_init 18 = .ok (.if_icmp .gt 22, 3) := by decide +kernel
theorem dX1_init_21 : decode cX1_init 21 = .ok (.aload_n 0, 1) := by decide +kernel
theorem dX1_init_22 : decode cX1_init 22 = .ok (.getfield 11, 3) := by decide +kernel
theorem dX1_init_25 : decode cX1_init 25 = .ok (.iload_n 1, 1) := by decide +kernel
theorem dX1_init_26 : decode cX1_init 26 = .ok (.new 9, 3) := by decide +kernel
theorem dX1_init_29 : decode cX1_init 29 = .ok (.dup, 1) := by decide +kernel
theorem dX1_init_30 : decode cX1_init 30 = .ok (.invokespecial 17, 3) := by decide +kernel
theorem dX1_init_33 : decode cX1_init 33 = .ok (.aastore, 1) := by decide +kernel
theorem dX1_init_34 : decode cX1_init 34 = .ok (.iinc 1 1, 3) := by decide +kernel
theorem dX1_init_37 : decode cX1_init 37 = .ok (.goto (-22), 3) := by decide +kernel
theorem dX1_init_40 : decode cX1_init 40 = .ok (.aload_n 0, 1) := by decide +kernel
theorem dX1_init_41 : decode cX1_init 41 = .ok (.bipush 6, 2) := by decide +kernel
theorem dX1_init_43 : decode cX1_init 43 = .ok (.newarray .int, 2) := by decide +kernel
theorem dX1_init_45 : decode cX1_init 45 = .ok (.putfield 18, 3) := by decide +kernel
theorem dX1_init_48 : decode cX1_init 48 = .ok (.aload_n 0, 1) := by decide +kernel
theorem dX1_init_49 : decode cX1_init 49 = .ok (.bipush 6, 2) := by decide +kernel
theorem dX1_init_51 : decode cX1_init 51 = .ok (.newarray .int, 2) := by decide +kernel
theorem dX1_init_53 : decode cX1_init 53 = .ok (.putfield 22, 3) := by decide +kernel
theorem dX1_init_56 : decode cX1_init 56 = .ok (.aload_n 0, 1) := by decide +kernel
theorem dX1_init_57 : decode cX1_init 57 = .ok (.iconst (-1), 1) := by decide +kernel
theorem dX1_init_58 : decode cX1_init 58 = .ok (.putfield 25, 3) := by decide +kernel
theorem dX1_init_61 : decode cX1_init 61 = .ok (.aload_n 0, 1) := by decide +kernel
theorem dX1_init_62 : decode cX1_init 62 = .ok (.bipush 67, 2) := by decide +kernel
theorem dX1_init_64 : decode cX1_init 64 = .ok (.newarray .int, 2) := by decide +kernel
theorem dX1_init_66 : decode cX1_init 66 = .ok (.putfield 29, 3) := by decide +kernel
theorem dX1_init_69 : decode cX1_init 69 = .ok (.aload_n 0, 1) := by decide +kernel
theorem dX1_init_70 : decode cX1_init 70 = .ok (.bipush 67, 2) := by decide +kernel
theorem dX1_init_72 : decode cX1_init 72 = .ok (.newarray .int, 2) := by decide +kernel
theorem dX1_init_74 : decode cX1_init 74 = .ok (.putfield 32, 3) := by decide +kernel
theorem dX1_init_77 : decode cX1_init 77 = .ok (.return_, 1) := by decide +kernel
theorem dX1_tryCommand_0 : decode cX1_tryCommand 0 = .ok (.aload_n 1, 1) := by decide +kernel
theorem dX1_tryCommand_1 : decode cX1_tryCommand 1 = .ok (.aload_n 0, 1) := by decide +kernel
theorem dX1_tryCommand_2 : decode cX1_tryCommand 2 = .ok (.getfield 11, 3) := by decide +kernel
theorem dX1_tryCommand_5 : decode cX1_tryCommand 5 = .ok (.iload_n 2, 1) := by decide +kernel
theorem dX1_tryCommand_6 : decode cX1_tryCommand 6 = .ok (.aaload, 1) := by decide +kernel
theorem dX1_tryCommand_7 : decode cX1_tryCommand 7 = .ok (.getfield 35, 3) := by decide +kernel
theorem dX1_tryCommand_10 : decode cX1_tryCommand 10 = .ok (.iload_n 3, 1) := by decide +kernel
theorem dX1_tryCommand_11 : decode cX1_tryCommand 11 = .ok (.invokevirtual 38, 3) := by decide +kernel
theorem dX1_tryCommand_14 : decode cX1_tryCommand 14 = .ok (.ifCond .ne 5, 3) := by decide +kernel
theorem dX1_tryCommand_17 : decode cX1_tryCommand 17 = .ok (.iconst 0, 1) := by decide +kernel
theorem dX1_tryCommand_18 : decode cX1_tryCommand 18 = .ok (.ireturn, 1) := by decide +kernel
theorem dX1_tryCommand_19 : decode cX1_tryCommand 19 = .ok (.aload_n 0, 1) := by decide +kernel
theorem dX1_tryCommand_20 : decode cX1_tryCommand 20 = .ok (.getfield 18, 3) := by decide +kernel
theorem dX1_tryCommand_23 : decode cX1_tryCommand 23 = .ok (.iload_n 2, 1) := by decide +kernel
theorem dX1_tryCommand_24 : decode cX1_tryCommand 24 = .ok (.iload_n 3, 1) := by decide +kernel
theorem dX1_tryCommand_25 : decode cX1_tryCommand 25 = .ok (.iastore, 1) := by decide +kernel
theorem dX1_tryCommand_26 : decode cX1_tryCommand 26 = .ok (.aload_n 0, 1) := by decide +kernel
theorem dX1_tryCommand_27 : decode cX1_tryCommand 27 = .ok (.getfield 11, 3) := by decide +kernel
theorem dX1_tryCommand_30 : decode cX1_tryCommand 30 = .ok (.iload_n 2, 1) := by decide +kernel
theorem dX1_tryCommand_31 : decode cX1_tryCommand 31 = .ok (.iconst 1, 1) := by decide +kernel
theorem dX1_tryCommand_32 : decode cX1_tryCommand 32 = .ok (.iadd, 1) := by decide +kernel
theorem dX1_tryCommand_33 : decode cX1_tryCommand 33 = .ok (.aaload, 1) := by decide +kernel
theorem dX1_tryCommand_34 : decode cX1_tryCommand 34 = .ok (.aload_n 0, 1) := by decide +kernel
theorem dX1_tryCommand_35 : decode cX1_tryCommand 35 = .ok (.getfield 11, 3) := by decide +kernel
theorem dX1_tryCommand_38 : decode cX1_tryCommand 38 = .ok (.iload_n 2, 1) := by decide +kernel
theorem dX1_tryCommand_39 : decode cX1_tryCommand 39 = .ok (.aaload, 1) := by decide +kernel
theorem dX1_tryCommand_40 : decode cX1_tryCommand 40 = .ok (.invokevirtual 44, 3) := by decide +kernel
theorem dX1_tryCommand_43 : decode cX1_tryCommand 43 = .ok (.aload_n 1, 1) := by decide +kernel
theorem dX1_tryCommand_44 : decode cX1_tryCommand 44 = .ok (.aload_n 0, 1) := by decide +kernel
theorem dX1_tryCommand_45 : decode cX1_tryCommand 45 = .ok (.getfield 11, 3) := by decide +kernel
theorem dX1_tryCommand_48 : decode cX1_tryCommand 48 = .ok (.iload_n 2, 1) := by decide +kernel
theorem dX1_tryCommand_49 : decode cX1_tryCommand 49 = .ok (.iconst 1, 1) := by decide +kernel
theorem dX1_tryCommand_50 : decode cX1_tryCommand 50 = .ok (.iadd, 1) := by decide +kernel
theorem dX1_tryCommand_51 : decode cX1_tryCommand 51 = .ok (.aaload, 1) := by decide +kernel
theorem dX1_tryCommand_52 : decode cX1_tryCommand 52 = .ok (.iload_n 3, 1) := by decide +kernel
theorem dX1_tryCommand_53 : decode cX1_tryCommand 53 = .ok (.invokevirtual 48, 3) := by decide +kernel
theorem dX1_tryCommand_56 : decode cX1_tryCommand 56 = .ok (.iconst 1, 1) := by decide +kernel
theorem dX1_tryCommand_57 : decode cX1_tryCommand 57 = .ok (.ireturn, 1) := by decide +kernel
theorem dX1_bringsAll_0 : decode cX1_bringsAll 0 = .ok (.iload_n 2, 1) := by decide +kernel
theorem dX1_bringsAll_1 : decode cX1_bringsAll 1 = .ok (.bipush 6, 2) := by decide +kernel
theorem dX1_bringsAll_3 : decode cX1_bringsAll 3 = .ok (.if_icmp .gt 23, 3) := by decide +kernel
theorem dX1_bringsAll_6 : decode cX1_bringsAll 6 = .ok (.aload_n 1, 1) := by decide +kernel
theorem dX1_bringsAll_7 : decode cX1_bringsAll 7 = .ok (.aload_n 0, 1) := by decide +kernel
theorem dX1_bringsAll_8 : decode cX1_bringsAll 8 = .ok (.getfield 11, 3) := by decide +kernel
theorem dX1_bringsAll_11 : decode cX1_bringsAll 11 = .ok (.iload_n 2, 1) := by decide +kernel
theorem dX1_bringsAll_12 : decode cX1_bringsAll 12 = .ok (.aaload, 1) := by decide +kernel
theorem dX1_bringsAll_13 : decode cX1_bringsAll 13 = .ok (.iload_n 3, 1) := by decide +kernel
theorem dX1_bringsAll_14 : decode cX1_bringsAll 14 = .ok (.iload_n 2, 1) := by decide +kernel
theorem dX1_bringsAll_15 : decode cX1_bringsAll 15 = .ok (.isub, 1) := by decide +kernel
theorem dX1_bringsAll_16 : decode cX1_bringsAll 16 = .ok (.invokevirtual 52, 3) := by decide +kernel
theorem dX1_bringsAll_19 : decode cX1_bringsAll 19 = .ok (.aload_n 1, 1) := by decide +kernel
theorem dX1_bringsAll_20 : decode cX1_bringsAll 20 = .ok (.getfield 56, 3) := by decide +kernel
theorem dX1_bringsAll_23 : decode cX1_bringsAll 23 = .ok (.if_icmp .ge 5, 3) := by decide +kernel
theorem dX1_bringsAll_26 : decode cX1_bringsAll 26 = .ok (.iconst 0, 1) := by decide +kernel
theorem dX1_bringsAll_27 : decode cX1_bringsAll 27 = .ok (.ireturn, 1) := by decide +kernel
theorem dX1_bringsAll_28 : decode cX1_bringsAll 28 = .ok (.iload_n 2, 1) := by decide +kernel
theorem dX1_bringsAll_29 : decode cX1_bringsAll 29 = .ok (.iload_n 3, 1) := by decide +kernel
theorem dX1_bringsAll_30 : decode cX1_bringsAll 30 = .ok (.if_icmp .lt 5, 3) := by decide +kernel
theorem dX1_bringsAll_33 : decode cX1_bringsAll 33 = .ok (.iconst 1, 1) := by decide +kernel
theorem dX1_bringsAll_34 : decode cX1_bringsAll 34 = .ok (.ireturn, 1) := by decide +kernel
theorem dX1_bringsAll_35 : decode cX1_bringsAll 35 = .ok (.iconst 0, 1) := by decide +kernel
theorem dX1_bringsAll_36 : decode cX1_bringsAll 36 = .ok (.istore 4, 2) := by decide +kernel
theorem dX1_bringsAll_38 : decode cX1_bringsAll 38 = .ok (.iload 4, 2) := by decide +kernel
theorem dX1_bringsAll_40 : decode cX1_bringsAll 40 = .ok (.iconst 5, 1) := by decide +kernel
theorem dX1_bringsAll_41 : decode cX1_bringsAll 41 = .ok (.if_icmp .ge 34, 3) := by decide +kernel
theorem dX1_bringsAll_44 : decode cX1_bringsAll 44 = .ok (.aload_n 0, 1) := by decide +kernel
theorem dX1_bringsAll_45 : decode cX1_bringsAll 45 = .ok (.aload_n 1, 1) := by decide +kernel
theorem dX1_bringsAll_46 : decode cX1_bringsAll 46 = .ok (.iload_n 2, 1) := by decide +kernel
theorem dX1_bringsAll_47 : decode cX1_bringsAll 47 = .ok (.iload 4, 2) := by decide +kernel
theorem dX1_bringsAll_49 : decode cX1_bringsAll 49 = .ok (.invokevirtual 59, 3) := by decide +kernel
theorem dX1_bringsAll_52 : decode cX1_bringsAll 52 = .ok (.ifCond .eq 17, 3) := by decide +kernel
theorem dX1_bringsAll_55 : decode cX1_bringsAll 55 = .ok (.aload_n 0, 1) := by decide +kernel
theorem dX1_bringsAll_56 : decode cX1_bringsAll 56 = .ok (.aload_n 1, 1) := by decide +kernel
theorem dX1_bringsAll_57 : decode cX1_bringsAll 57 = .ok (.iload_n 2, 1) := by decide +kernel
theorem dX1_bringsAll_58 : decode cX1_bringsAll 58 = .ok (.iconst 1, 1) := by decide +kernel
theorem dX1_bringsAll_59 : decode cX1_bringsAll 59 = .ok (.iadd, 1) := by decide +kernel
theorem dX1_bringsAll_60 : decode cX1_bringsAll 60 = .ok (.iload_n 3, 1) := by decide +kernel
theorem dX1_bringsAll_61 : decode cX1_bringsAll 61 = .ok (.invokestatic 63, 3) := by decide +kernel
theorem dX1_bringsAll_64 : decode cX1_bringsAll 64 = .ok (.ifCond .eq 5, 3) := by decide +kernel
theorem dX1_bringsAll_67 : decode cX1_bringsAll 67 = .ok (.iconst 1, 1) := by decide +kernel
theorem dX1_bringsAll_68 : decode cX1_bringsAll 68 = .ok (.ireturn, 1) := by decide +kernel
theorem dX1_bringsAll_69 : decode cX1_bringsAll 69 = .ok (.iinc 4 1, 3) := by decide +kernel
theorem dX1_bringsAll_72 : decode cX1_bringsAll 72 = .ok (.goto (-34), 3) := by decide +kernel
theorem dX1_bringsAll_75 : decode cX1_bringsAll 75 = .ok (.iconst 0, 1) := by decide +kernel
theorem dX1_bringsAll_76 : decode cX1_bringsAll 76 = .ok (.ireturn, 1) := by decide +kernel
theorem dX1_seekMost_0 : decode cX1_seekMost 0 = .ok (.iload_n 2, 1) := by decide +kernel
theorem dX1_seekMost_1 : decode cX1_seekMost 1 = .ok (.bipush 6, 2) := by decide +kernel
theorem dX1_seekMost_3 : decode cX1_seekMost 3 = .ok (.if_icmp .gt 23, 3) := by decide +kernel
theorem dX1_seekMost_6 : decode cX1_seekMost 6 = .ok (.aload_n 1, 1) := by decide +kernel
theorem dX1_seekMost_7 : decode cX1_seekMost 7 = .ok (.aload_n 0, 1) := by decide +kernel
theorem dX1_seekMost_8 : decode cX1_seekMost 8 = .ok (.getfield 11, 3) := by decide +kernel
theorem dX1_seekMost_11 : decode cX1_seekMost 11 = .ok (.iload_n 2, 1) := by decide +kernel
theorem dX1_seekMost_12 : decode cX1_seekMost 12 = .ok (.aaload, 1) := by decide +kernel
theorem dX1_seekMost_13 : decode cX1_seekMost 13 = .ok (.iload_n 3, 1) := by decide +kernel
theorem dX1_seekMost_14 : decode cX1_seekMost 14 = .ok (.iload_n 2, 1) := by decide +kernel
theorem dX1_seekMost_15 : decode cX1_seekMost 15 = .ok (.isub, 1) := by decide +kernel
theorem dX1_seekMost_16 : decode cX1_seekMost 16 = .ok (.invokevirtual 52, 3) := by decide +kernel
theorem dX1_seekMost_19 : decode cX1_seekMost 19 = .ok (.aload_n 0, 1) := by decide +kernel
theorem dX1_seekMost_20 : decode cX1_seekMost 20 = .ok (.getfield 25, 3) := by decide +kernel
theorem dX1_seekMost_23 : decode cX1_seekMost 23 = .ok (.if_icmp .gt 4, 3) := by decide +kernel
theorem dX1_seekMost_26 : decode cX1_seekMost 26 = .ok (.return_, 1) := by decide +kernel
theorem dX1_seekMost_27 : decode cX1_seekMost 27 = .ok (.iload_n 2, 1) := by decide +kernel
theorem dX1_seekMost_28 : decode cX1_seekMost 28 = .ok (.iload_n 3, 1) := by decide +kernel
theorem dX1_seekMost_29 : decode cX1_seekMost 29 = .ok (.if_icmp .lt 33, 3) := by decide +kernel
theorem dX1_seekMost_32 : decode cX1_seekMost 32 = .ok (.aload_n 0, 1) := by decide +kernel
theorem dX1_seekMost_33 : decode cX1_seekMost 33 = .ok (.aload_n 1, 1) := by decide +kernel
theorem dX1_seekMost_34 : decode cX1_seekMost 34 = .ok (.aload_n 0, 1) := by decide +kernel
theorem dX1_seekMost_35 : decode cX1_seekMost 35 = .ok (.getfield 11, 3) := by decide +kernel
theorem dX1_seekMost_38 : decode cX1_seekMost 38 = .ok (.iload_n 2, 1) := by decide +kernel
theorem dX1_seekMost_39 : decode cX1_seekMost 39 = .ok (.aaload, 1) := by decide +kernel
theorem dX1_seekMost_40 : decode cX1_seekMost 40 = .ok (.invokevirtual 67, 3) := by decide +kernel
theorem dX1_seekMost_43 : decode cX1_seekMost 43 = .ok (.putfield 25, 3) := by decide +kernel
theorem dX1_seekMost_46 : decode cX1_seekMost 46 = .ok (.aload_n 0, 1) := by decide +kernel
theorem dX1_seekMost_47 : decode cX1_seekMost 47 = .ok (.getfield 18, 3) := by decide +kernel
theorem dX1_seekMost_50 : decode cX1_seekMost 50 = .ok (.iconst 0, 1) := by decide +kernel
theorem dX1_seekMost_51 : decode cX1_seekMost 51 = .ok (.aload_n 0, 1) := by decide +kernel
theorem dX1_seekMost_52 : decode cX1_seekMost 52 = .ok (.getfield 22, 3) := by decide +kernel
theorem dX1_seekMost_55 : decode cX1_seekMost 55 = .ok (.iconst 0, 1) := by decide +kernel
theorem dX1_seekMost_56 : decode cX1_seekMost 56 = .ok (.bipush 6, 2) := by decide +kernel
theorem dX1_seekMost_58 : decode cX1_seekMost 58 = .ok (.invokestatic 71, 3) := by decide +kernel
theorem dX1_seekMost_61 : decode cX1_seekMost 61 = .ok (.return_, 1) := by decide +kernel
theorem dX1_seekMost_62 : decode cX1_seekMost 62 = .ok (.iconst 0, 1) := by decide +kernel
theorem dX1_seekMost_63 : decode cX1_seekMost 63 = .ok (.istore 4, 2) := by decide +kernel
theorem dX1_seekMost_65 : decode cX1_seekMost 65 = .ok (.iload 4, 2) := by decide +kernel
theorem dX1_seekMost_67 : decode cX1_seekMost 67 = .ok (.iconst 5, 1) := by decide +kernel
theorem dX1_seekMost_68 : decode cX1_seekMost 68 = .ok (.if_icmp .ge 29, 3) := by decide +kernel
theorem dX1_seekMost_71 : decode cX1_seekMost 71 = .ok (.aload_n 0, 1) := by decide +kernel
theorem dX1_seekMost_72 : decode cX1_seekMost 72 = .ok (.aload_n 1, 1) := by decide +kernel
theorem dX1_seekMost_73 : decode cX1_seekMost 73 = .ok (.iload_n 2, 1) := by decide +kernel
theorem dX1_seekMost_74 : decode cX1_seekMost 74 = .ok (.iload 4, 2) := by decide +kernel
theorem dX1_seekMost_76 : decode cX1_seekMost 76 = .ok (.invokevirtual 59, 3) := by decide +kernel
theorem dX1_seekMost_79 : decode cX1_seekMost 79 = .ok (.ifCond .eq 12, 3) := by decide +kernel
theorem dX1_seekMost_82 : decode cX1_seekMost 82 = .ok (.aload_n 0, 1) := by decide +kernel
theorem dX1_seekMost_83 : decode cX1_seekMost 83 = .ok (.aload_n 1, 1) := by decide +kernel
theorem dX1_seekMost_84 : decode cX1_seekMost 84 = .ok (.iload_n 2, 1) := by decide +kernel
theorem dX1_seekMost_85 : decode cX1_seekMost 85 = .ok (.iconst 1, 1) := by decide +kernel
theorem dX1_seekMost_86 : decode cX1_seekMost 86 = .ok (.iadd, 1) := by decide +kernel
theorem dX1_seekMost_87 : decode cX1_seekMost 87 = .ok (.iload_n 3, 1) := by decide +kernel
theorem dX1_seekMost_88 : decode cX1_seekMost 88 = .ok (.invokestatic 77, 3) := by decide +kernel
theorem dX1_seekMost_91 : decode cX1_seekMost 91 = .ok (.iinc 4 1, 3) := by decide +kernel
theorem dX1_seekMost_94 : decode cX1_seekMost 94 = .ok (.goto (-29), 3) := by decide +kernel
theorem dX1_seekMost_97 : decode cX1_seekMost 97 = .ok (.return_, 1) := by decide +kernel
theorem dX1_countRows_0 : decode cX1_countRows 0 = .ok (.iconst 0, 1) := by decide +kernel
theorem dX1_countRows_1 : decode cX1_countRows 1 = .ok (.istore_n 3, 1) := by decide +kernel
theorem dX1_countRows_2 : decode cX1_countRows 2 = .ok (.iload_n 3, 1) := by decide +kernel
theorem dX1_countRows_3 : decode cX1_countRows 3 = .ok (.bipush 67, 2) := by decide +kernel
theorem dX1_countRows_5 : decode cX1_countRows 5 = .ok (.if_icmp .ge 31, 3) := by decide +kernel
theorem dX1_countRows_8 : decode cX1_countRows 8 = .ok (.aload_n 0, 1) := by decide +kernel
theorem dX1_countRows_9 : decode cX1_countRows 9 = .ok (.getfield 29, 3) := by decide +kernel
theorem dX1_countRows_12 : decode cX1_countRows 12 = .ok (.iload_n 3, 1) := by decide +kernel
theorem dX1_countRows_13 : decode cX1_countRows 13 = .ok (.iload_n 3, 1) := by decide +kernel
theorem dX1_countRows_14 : decode cX1_countRows 14 = .ok (.aload_n 1, 1) := by decide +kernel
theorem dX1_countRows_15 : decode cX1_countRows 15 = .ok (.getfield 81, 3) := by decide +kernel
theorem dX1_countRows_18 : decode cX1_countRows 18 = .ok (.getfield 35, 3) := by decide +kernel
theorem dX1_countRows_21 : decode cX1_countRows 21 = .ok (.if_icmp .ne 7, 3) := by decide +kernel
theorem dX1_countRows_24 : decode cX1_countRows 24 = .ok (.iconst 1, 1) := by decide +kernel
theorem dX1_countRows_25 : decode cX1_countRows 25 = .ok (.goto 4, 3) := by decide +kernel
theorem dX1_countRows_28 : decode cX1_countRows 28 = .ok (.iconst 0, 1) := by decide +kernel
theorem dX1_countRows_29 : decode cX1_countRows 29 = .ok (.iastore, 1) := by decide +kernel
theorem dX1_countRows_30 : decode cX1_countRows 30 = .ok (.iinc 3 1, 3) := by decide +kernel
theorem dX1_countRows_33 : decode cX1_countRows 33 = .ok (.goto (-31), 3) := by decide +kernel
theorem dX1_countRows_36 : decode cX1_countRows 36 = .ok (.iconst 0, 1) := by decide +kernel
theorem dX1_countRows_37 : decode cX1_countRows 37 = .ok (.istore_n 3, 1) := by decide +kernel
theorem dX1_countRows_38 : decode cX1_countRows 38 = .ok (.iload_n 3, 1) := by decide +kernel
theorem dX1_countRows_39 : decode cX1_countRows 39 = .ok (.iload_n 2, 1) := by decide +kernel
theorem dX1_countRows_40 : decode cX1_countRows 40 = .ok (.if_icmp .ge 70, 3) := by decide +kernel
theorem dX1_countRows_43 : decode cX1_countRows 43 = .ok (.aload_n 0, 1) := by decide +kernel
theorem dX1_countRows_44 : decode cX1_countRows 44 = .ok (.getfield 32, 3) := by decide +kernel
theorem dX1_countRows_47 : decode cX1_countRows 47 = .ok (.iconst 0, 1) := by decide +kernel
theorem dX1_countRows_48 : decode cX1_countRows 48 = .ok (.invokestatic 85, 3) := by decide +kernel
theorem dX1_countRows_51 : decode cX1_countRows 51 = .ok (.iconst 0, 1) := by decide +kernel
theorem dX1_countRows_52 : decode cX1_countRows 52 = .ok (.istore 4, 2) := by decide +kernel
theorem dX1_countRows_54 : decode cX1_countRows 54 = .ok (.iload 4, 2) := by decide +kernel
theorem dX1_countRows_56 : decode cX1_countRows 56 = .ok (.bipush 67, 2) := by decide +kernel
theorem dX1_countRows_58 : decode cX1_countRows 58 = .ok (.if_icmp .ge 26, 3) := by decide +kernel
theorem dX1_countRows_61 : decode cX1_countRows 61 = .ok (.aload_n 0, 1) := by decide +kernel
theorem dX1_countRows_62 : decode cX1_countRows 62 = .ok (.getfield 29, 3) := by decide +kernel
theorem dX1_countRows_65 : decode cX1_countRows 65 = .ok (.iload 4, 2) := by decide +kernel
theorem dX1_countRows_67 : decode cX1_countRows 67 = .ok (.iaload, 1) := by decide +kernel
theorem dX1_countRows_68 : decode cX1_countRows 68 = .ok (.ifCond .le 10, 3) := by decide +kernel
theorem dX1_countRows_71 : decode cX1_countRows 71 = .ok (.aload_n 0, 1) := by decide +kernel
theorem dX1_countRows_72 : decode cX1_countRows 72 = .ok (.aload_n 1, 1) := by decide +kernel
theorem dX1_countRows_73 : decode cX1_countRows 73 = .ok (.iload 4, 2) := by decide +kernel
theorem dX1_countRows_75 : decode cX1_countRows 75 = .ok (.invokevirtual 91, 3) := by decide +kernel
theorem dX1_countRows_78 : decode cX1_countRows 78 = .ok (.iinc 4 1, 3) := by decide +kernel
theorem dX1_countRows_81 : decode cX1_countRows 81 = .ok (.goto (-27), 3) := by decide +kernel
theorem dX1_countRows_84 : decode cX1_countRows 84 = .ok (.aload_n 0, 1) := by decide +kernel
theorem dX1_countRows_85 : decode cX1_countRows 85 = .ok (.getfield 29, 3) := by decide +kernel
theorem dX1_countRows_88 : decode cX1_countRows 88 = .ok (.astore 4, 2) := by decide +kernel
theorem dX1_countRows_90 : decode cX1_countRows 90 = .ok (.aload_n 0, 1) := by decide +kernel
theorem dX1_countRows_91 : decode cX1_countRows 91 = .ok (.aload_n 0, 1) := by decide +kernel
theorem dX1_countRows_92 : decode cX1_countRows 92 = .ok (.getfield 32, 3) := by decide +kernel
theorem dX1_countRows_95 : decode cX1_countRows 95 = .ok (.putfield 29, 3) := by decide +kernel
theorem dX1_countRows_98 : decode cX1_countRows 98 = .ok (.aload_n 0, 1) := by decide +kernel
theorem dX1_countRows_99 : decode cX1_countRows 99 = .ok (.aload 4, 2) := by decide +kernel
theorem dX1_countRows_101 : decode cX1_countRows 101 = .ok (.putfield 32, 3) := by decide +kernel
theorem dX1_countRows_104 : decode cX1_countRows 104 = .ok (.iinc 3 1, 3) := by decide +kernel
theorem dX1_countRows_107 : decode cX1_countRows 107 = .ok (.goto (-69), 3) := by decide +kernel
theorem dX1_countRows_110 : decode cX1_countRows 110 = .ok (.iconst 0, 1) := by decide +kernel
theorem dX1_countRows_111 : decode cX1_countRows 111 = .ok (.istore_n 3, 1) := by decide +kernel
theorem dX1_countRows_112 : decode cX1_countRows 112 = .ok (.iconst 0, 1) := by decide +kernel
theorem dX1_countRows_113 : decode cX1_countRows 113 = .ok (.istore 4, 2) := by decide +kernel
theorem dX1_countRows_115 : decode cX1_countRows 115 = .ok (.iload 4, 2) := by decide +kernel
theorem dX1_countRows_117 : decode cX1_countRows 117 = .ok (.bipush 67, 2) := by decide +kernel
theorem dX1_countRows_119 : decode cX1_countRows 119 = .ok (.if_icmp .ge 19, 3) := by decide +kernel
theorem dX1_countRows_122 : decode cX1_countRows 122 = .ok (.iload_n 3, 1) := by decide +kernel
theorem dX1_countRows_123 : decode cX1_countRows 123 = .ok (.aload_n 0, 1) := by decide +kernel
theorem dX1_countRows_124 : decode cX1_countRows 124 = .ok (.getfield 29, 3) := by decide +kernel
theorem dX1_countRows_127 : decode cX1_countRows 127 = .ok (.iload 4, 2) := by decide +kernel
theorem dX1_countRows_129 : decode cX1_countRows 129 = .ok (.iaload, 1) := by decide +kernel
theorem dX1_countRows_130 : decode cX1_countRows 130 = .ok (.iadd, 1) := by decide +kernel
theorem dX1_countRows_131 : decode cX1_countRows 131 = .ok (.istore_n 3, 1) := by decide +kernel
theorem dX1_countRows_132 : decode cX1_countRows 132 = .ok (.iinc 4 1, 3) := by decide +kernel
theorem dX1_countRows_135 : decode cX1_countRows 135 = .ok (.goto (-20), 3) := by decide +kernel
theorem dX1_countRows_138 : decode cX1_countRows 138 = .ok (.iload_n 3, 1) := by decide +kernel
theorem dX1_countRows_139 : decode cX1_countRows 139 = .ok (.ireturn, 1) := by decide +kernel
theorem dX1_addRowsFrom_0 : decode cX1_addRowsFrom 0 = .ok (.iconst 0, 1) := by decide +kernel
theorem dX1_addRowsFrom_1 : decode cX1_addRowsFrom 1 = .ok (.istore_n 3, 1) := by decide +kernel
theorem dX1_addRowsFrom_2 : decode cX1_addRowsFrom 2 = .ok (.iload_n 3, 1) := by decide +kernel
theorem dX1_addRowsFrom_3 : decode cX1_addRowsFrom 3 = .ok (.iconst 5, 1) := by decide +kernel
theorem dX1_addRowsFrom_4 : decode cX1_addRowsFrom 4 = .ok (.if_icmp .ge 55, 3) := by decide +kernel
theorem dX1_addRowsFrom_7 : decode cX1_addRowsFrom 7 = .ok (.iload_n 2, 1) := by decide +kernel
theorem dX1_addRowsFrom_8 : decode cX1_addRowsFrom 8 = .ok (.getstatic 95, 3) := by decide +kernel
theorem dX1_addRowsFrom_11 : decode cX1_addRowsFrom 11 = .ok (.iload_n 3, 1) := by decide +kernel
theorem dX1_addRowsFrom_12 : decode cX1_addRowsFrom 12 = .ok (.iaload, 1) := by decide +kernel
theorem dX1_addRowsFrom_13 : decode cX1_addRowsFrom 13 = .ok (.iadd, 1) := by decide +kernel
theorem dX1_addRowsFrom_14 : decode cX1_addRowsFrom 14 = .ok (.istore 4, 2) := by decide +kernel
theorem dX1_addRowsFrom_16 : decode cX1_addRowsFrom 16 = .ok (.iload 4, 2) := by decide +kernel
theorem dX1_addRowsFrom_18 : decode cX1_addRowsFrom 18 = .ok (.ifCond .lt 35, 3) := by decide +kernel
theorem dX1_addRowsFrom_21 : decode cX1_addRowsFrom 21 = .ok (.iload 4, 2) := by decide +kernel
theorem dX1_addRowsFrom_23 : decode cX1_addRowsFrom 23 = .ok (.bipush 67, 2) := by decide +kernel
theorem dX1_addRowsFrom_25 : decode cX1_addRowsFrom 25 = .ok (.if_icmp .ge 28, 3) := by decide +kernel
theorem dX1_addRowsFrom_28 : decode cX1_addRowsFrom 28 = .ok (.aload_n 1, 1) := by decide +kernel
theorem dX1_addRowsFrom_29 : decode cX1_addRowsFrom 29 = .ok (.iload_n 2, 1) := by decide +kernel
theorem dX1_addRowsFrom_30 : decode cX1_addRowsFrom 30 = .ok (.iload_n 3, 1) := by decide +kernel
theorem dX1_addRowsFrom_31 : decode cX1_addRowsFrom 31 = .ok (.invokevirtual 38, 3) := by decide +kernel
theorem dX1_addRowsFrom_34 : decode cX1_addRowsFrom 34 = .ok (.ifCond .eq 19, 3) := by decide +kernel
theorem dX1_addRowsFrom_37 : decode cX1_addRowsFrom 37 = .ok (.aload_n 0, 1) := by decide +kernel
theorem dX1_addRowsFrom_38 : decode cX1_addRowsFrom 38 = .ok (.getfield 32, 3) := by decide +kernel
theorem dX1_addRowsFrom_41 : decode cX1_addRowsFrom 41 = .ok (.iload 4, 2) := by decide +kernel
theorem dX1_addRowsFrom_43 : decode cX1_addRowsFrom 43 = .ok (.dup2, 1) := by decide +kernel
theorem dX1_addRowsFrom_44 : decode cX1_addRowsFrom 44 = .ok (.iaload, 1) := by decide +kernel
theorem dX1_addRowsFrom_45 : decode cX1_addRowsFrom 45 = .ok (.aload_n 0, 1) := by decide +kernel
theorem dX1_addRowsFrom_46 : decode cX1_addRowsFrom 46 = .ok (.getfield 29, 3) := by decide +kernel
theorem dX1_addRowsFrom_49 : decode cX1_addRowsFrom 49 = .ok (.iload_n 2, 1) := by decide +kernel
theorem dX1_addRowsFrom_50 : decode cX1_addRowsFrom 50 = .ok (.iaload, 1) := by decide +kernel
theorem dX1_addRowsFrom_51 : decode cX1_addRowsFrom 51 = .ok (.iadd, 1) := by decide +kernel
theorem dX1_addRowsFrom_52 : decode cX1_addRowsFrom 52 = .ok (.iastore, 1) := by decide +kernel
theorem dX1_addRowsFrom_53 : decode cX1_addRowsFrom 53 = .ok (.iinc 3 1, 3) := by decide +kernel
theorem dX1_addRowsFrom_56 : decode cX1_addRowsFrom 56 = .ok (.goto (-54), 3) := by decide +kernel
theorem dX1_addRowsFrom_59 : decode cX1_addRowsFrom 59 = .ok (.return_, 1) := by decide +kernel
theorem dX2_init_0 : decode cX2_init 0 = .ok (.aload_n 0, 1) := by decide +kernel
theorem dX2_init_1 : decode cX2_init 1 = .ok (.invokespecial 3, 3) := by decide +kernel
theorem dX2_init_4 : decode cX2_init 4 = .ok (.aload_n 0, 1) := by decide +kernel
theorem dX2_init_5 : decode cX2_init 5 = .ok (.iconst (-1), 1) := by decide +kernel
theorem dX2_init_6 : decode cX2_init 6 = .ok (.putfield 9, 3) := by decide +kernel
theorem dX2_init_9 : decode cX2_init 9 = .ok (.aload_n 0, 1) := by decide +kernel
theorem dX2_init_10 : decode cX2_init 10 = .ok (.iconst 0, 1) := by decide +kernel
theorem dX2_init_11 : decode cX2_init 11 = .ok (.putfield 15, 3) := by decide +kernel
theorem dX2_init_14 : decode cX2_init 14 = .ok (.aload_n 0, 1) := by decide +kernel
theorem dX2_init_15 : decode cX2_init 15 = .ok (.bipush 40, 2) := by decide +kernel
theorem dX2_init_17 : decode cX2_init 17 = .ok (.newarray .long, 2) := by decide +kernel
theorem dX2_init_19 : decode cX2_init 19 = .ok (.putfield 18, 3) := by decide +kernel
theorem dX2_init_22 : decode cX2_init 22 = .ok (.return_, 1) := by decide +kernel
theorem dX2_hasEwe_0 : decode cX2_hasEwe 0 = .ok (.aload_n 0, 1) := by decide +kernel
theorem dX2_hasEwe_1 : decode cX2_hasEwe 1 = .ok (.getfield 9, 3) := by decide +kernel
theorem dX2_hasEwe_4 : decode cX2_hasEwe 4 = .ok (.bipush 10, 2) := by decide +kernel
theorem dX2_hasEwe_6 : decode cX2_hasEwe 6 = .ok (.if_icmp .lt 7, 3) := by decide +kernel
theorem dX2_hasEwe_9 : decode cX2_hasEwe 9 = .ok (.iconst 1, 1) := by decide +kernel
theorem dX2_hasEwe_10 : decode cX2_hasEwe 10 = .ok (.goto 4, 3) := by decide +kernel
theorem dX2_hasEwe_13 : decode cX2_hasEwe 13 = .ok (.iconst 0, 1) := by decide +kernel
theorem dX2_hasEwe_14 : decode cX2_hasEwe 14 = .ok (.ireturn, 1) := by decide +kernel
theorem dX2_hasRow_0 : decode cX2_hasRow 0 = .ok (.aload_n 0, 1) := by decide +kernel
theorem dX2_hasRow_1 : decode cX2_hasRow 1 = .ok (.getfield 9, 3) := by decide +kernel
theorem dX2_hasRow_4 : decode cX2_hasRow 4 = .ok (.ifCond .lt 15, 3) := by decide +kernel
theorem dX2_hasRow_7 : decode cX2_hasRow 7 = .ok (.aload_n 0, 1) := by decide +kernel
theorem dX2_hasRow_8 : decode cX2_hasRow 8 = .ok (.getfield 9, 3) := by decide +kernel
theorem dX2_hasRow_11 : decode cX2_hasRow 11 = .ok (.iconst 5, 1) := by decide +kernel
theorem dX2_hasRow_12 : decode cX2_hasRow 12 = .ok (.if_icmp .ge 7, 3) := by decide +kernel
theorem dX2_hasRow_15 : decode cX2_hasRow 15 = .ok (.iconst 1, 1) := by decide +kernel
theorem dX2_hasRow_16 : decode cX2_hasRow 16 = .ok (.goto 4, 3) := by decide +kernel
theorem dX2_hasRow_19 : decode cX2_hasRow 19 = .ok (.iconst 0, 1) := by decide +kernel
theorem dX2_hasRow_20 : decode cX2_hasRow 20 = .ok (.ireturn, 1) := by decide +kernel
theorem dX2_takeRow_0 : decode cX2_takeRow 0 = .ok (.aload_n 0, 1) := by decide +kernel
theorem dX2_takeRow_1 : decode cX2_takeRow 1 = .ok (.iload_n 1, 1) := by decide +kernel
theorem dX2_takeRow_2 : decode cX2_takeRow 2 = .ok (.putfield 9, 3) := by decide +kernel
theorem dX2_takeRow_5 : decode cX2_takeRow 5 = .ok (.aload_n 0, 1) := by decide +kernel
theorem dX2_takeRow_6 : decode cX2_takeRow 6 = .ok (.iload_n 2, 1) := by decide +kernel
theorem dX2_takeRow_7 : decode cX2_takeRow 7 = .ok (.putfield 15, 3) := by decide +kernel
theorem dX2_takeRow_10 : decode cX2_takeRow 10 = .ok (.aload_n 0, 1) := by decide +kernel
theorem dX2_takeRow_11 : decode cX2_takeRow 11 = .ok (.getfield 18, 3) := by decide +kernel
theorem dX2_takeRow_14 : decode cX2_takeRow 14 = .ok (.lconst 0, 1) := by decide +kernel
theorem dX2_takeRow_15 : decode cX2_takeRow 15 = .ok (.invokestatic 22, 3) := by decide +kernel
theorem dX2_takeRow_18 : decode cX2_takeRow 18 = .ok (.return_, 1) := by decide +kernel
theorem dX2_hasPart_0 : decode cX2_hasPart 0 = .ok (.iload_n 2, 1) := by decide +kernel
theorem dX2_hasPart_1 : decode cX2_hasPart 1 = .ok (.ifCond .lt 29, 3) := by decide +kernel
theorem dX2_hasPart_4 : decode cX2_hasPart 4 = .ok (.iload_n 2, 1) := by decide +kernel
theorem dX2_hasPart_5 : decode cX2_hasPart 5 = .ok (.aload_n 0, 1) := by decide +kernel
theorem dX2_hasPart_6 : decode cX2_hasPart 6 = .ok (.getfield 15, 3) := by decide +kernel
theorem dX2_hasPart_9 : decode cX2_hasPart 9 = .ok (.if_icmp .gt 21, 3) := by decide +kernel
theorem dX2_hasPart_12 : decode cX2_hasPart 12 = .ok (.iload_n 1, 1) := by decide +kernel
theorem dX2_hasPart_13 : decode cX2_hasPart 13 = .ok (.ifCond .lt 17, 3) := by decide +kernel
theorem dX2_hasPart_16 : decode cX2_hasPart 16 = .ok (.iload_n 1, 1) := by decide +kernel
theorem dX2_hasPart_17 : decode cX2_hasPart 17 = .ok (.aload_n 0, 1) := by decide +kernel
theorem dX2_hasPart_18 : decode cX2_hasPart 18 = .ok (.getfield 15, 3) := by decide +kernel
theorem dX2_hasPart_21 : decode cX2_hasPart 21 = .ok (.iload_n 2, 1) := by decide +kernel
theorem dX2_hasPart_22 : decode cX2_hasPart 22 = .ok (.isub, 1) := by decide +kernel
theorem dX2_hasPart_23 : decode cX2_hasPart 23 = .ok (.if_icmp .gt 7, 3) := by decide +kernel
theorem dX2_hasPart_26 : decode cX2_hasPart 26 = .ok (.iconst 1, 1) := by decide +kernel
theorem dX2_hasPart_27 : decode cX2_hasPart 27 = .ok (.goto 4, 3) := by decide +kernel
theorem dX2_hasPart_30 : decode cX2_hasPart 30 = .ok (.iconst 0, 1) := by decide +kernel
theorem dX2_hasPart_31 : decode cX2_hasPart 31 = .ok (.ireturn, 1) := by decide +kernel
theorem dX3_init_0 : decode cX3_init 0 = .ok (.aload_n 0, 1) := by decide +kernel
theorem dX3_init_1 : decode cX3_init 1 = .ok (.invokespecial 3, 3) := by decide +kernel
theorem dX3_init_4 : decode cX3_init 4 = .ok (.aload_n 0, 1) := by decide +kernel
theorem dX3_init_5 : decode cX3_init 5 = .ok (.bipush 55, 2) := by decide +kernel
theorem dX3_init_7 : decode cX3_init 7 = .ok (.putfield 9, 3) := by decide +kernel
theorem dX3_init_10 : decode cX3_init 10 = .ok (.aload_n 0, 1) := by decide +kernel
theorem dX3_init_11 : decode cX3_init 11 = .ok (.iconst 0, 1) := by decide +kernel
theorem dX3_init_12 : decode cX3_init 12 = .ok (.putfield 15, 3) := by decide +kernel
theorem dX3_init_15 : decode cX3_init 15 = .ok (.aload_n 0, 1) := by decide +kernel
theorem dX3_init_16 : decode cX3_init 16 = .ok (.iconst 5, 1) := by decide +kernel
theorem dX3_init_17 : decode cX3_init 17 = .ok (.newarray .int, 2) := by decide +kernel
theorem dX3_init_19 : decode cX3_init 19 = .ok (.putfield 18, 3) := by decide +kernel
theorem dX3_init_22 : decode cX3_init 22 = .ok (.return_, 1) := by decide +kernel
theorem dX3_setTo_0 : decode cX3_setTo 0 = .ok (.aload_n 0, 1) := by decide +kernel
theorem dX3_setTo_1 : decode cX3_setTo 1 = .ok (.aload_n 1, 1) := by decide +kernel
theorem dX3_setTo_2 : decode cX3_setTo 2 = .ok (.getfield 9, 3) := by decide +kernel
theorem dX3_setTo_5 : decode cX3_setTo 5 = .ok (.putfield 9, 3) := by decide +kernel
theorem dX3_setTo_8 : decode cX3_setTo 8 = .ok (.aload_n 0, 1) := by decide +kernel
theorem dX3_setTo_9 : decode cX3_setTo 9 = .ok (.aload_n 1, 1) := by decide +kernel
theorem dX3_setTo_10 : decode cX3_setTo 10 = .ok (.getfield 15, 3) := by decide +kernel
theorem dX3_setTo_13 : decode cX3_setTo 13 = .ok (.putfield 15, 3) := by decide +kernel
theorem dX3_setTo_16 : decode cX3_setTo 16 = .ok (.aload_n 1, 1) := by decide +kernel
theorem dX3_setTo_17 : decode cX3_setTo 17 = .ok (.getfield 18, 3) := by decide +kernel
theorem dX3_setTo_20 : decode cX3_setTo 20 = .ok (.iconst 0, 1) := by decide +kernel
theorem dX3_setTo_21 : decode cX3_setTo 21 = .ok (.aload_n 0, 1) := by decide +kernel
theorem dX3_setTo_22 : decode cX3_setTo 22 = .ok (.getfield 18, 3) := by decide +kernel
theorem dX3_setTo_25 : decode cX3_setTo 25 = .ok (.iconst 0, 1) := by decide +kernel
theorem dX3_setTo_26 : decode cX3_setTo 26 = .ok (.iconst 5, 1) := by decide +kernel
theorem dX3_setTo_27 : decode cX3_setTo 27 = .ok (.invokestatic 22, 3) := by decide +kernel
theorem dX3_setTo_30 : decode cX3_setTo 30 = .ok (.return_, 1) := by decide +kernel
theorem dX4_init_0 : decode cX4_init 0 = .ok (.aload_n 0, 1) := by decide +kernel
theorem dX4_init_1 : decode cX4_init 1 = .ok (.invokespecial 3, 3) := by decide +kernel
theorem dX4_init_4 : decode cX4_init 4 = .ok (.aload_n 0, 1) := by decide +kernel
theorem dX4_init_5 : decode cX4_init 5 = .ok (.sipush 250, 3) := by decide +kernel
theorem dX4_init_8 : decode cX4_init 8 = .ok (.newarray .int, 2) := by decide +kernel
theorem dX4_init_10 : decode cX4_init 10 = .ok (.putfield 9, 3) := by decide +kernel
theorem dX4_init_13 : decode cX4_init 13 = .ok (.aload_n 0, 1) := by decide +kernel
theorem dX4_init_14 : decode cX4_init 14 = .ok (.iconst 0, 1) := by decide +kernel
theorem dX4_init_15 : decode cX4_init 15 = .ok (.putfield 15, 3) := by decide +kernel
theorem dX4_init_18 : decode cX4_init 18 = .ok (.aload_n 0, 1) := by decide +kernel
theorem dX4_init_19 : decode cX4_init 19 = .ok (.new 19, 3) := by decide +kernel
theorem dX4_init_22 : decode cX4_init 22 = .ok (.dup, 1) := by decide +kernel
theorem dX4_init_23 : decode cX4_init 23 = .ok (.invokespecial 21, 3) := by decide +kernel
theorem dX4_init_26 : decode cX4_init 26 = .ok (.putfield 22, 3) := by decide +kernel
theorem dX4_init_29 : decode cX4_init 29 = .ok (.aload_n 0, 1) := by decide +kernel
theorem dX4_init_30 : decode cX4_init 30 = .ok (.iconst 0, 1) := by decide +kernel
theorem dX4_init_31 : decode cX4_init 31 = .ok (.putfield 26, 3) := by decide +kernel
theorem dX4_init_34 : decode cX4_init 34 = .ok (.aload_n 0, 1) := by decide +kernel
theorem dX4_init_35 : decode cX4_init 35 = .ok (.iconst 0, 1) := by decide +kernel
theorem dX4_init_36 : decode cX4_init 36 = .ok (.putfield 29, 3) := by decide +kernel
theorem dX4_init_39 : decode cX4_init 39 = .ok (.aload_n 0, 1) := by decide +kernel
theorem dX4_init_40 : decode cX4_init 40 = .ok (.iconst 0, 1) := by decide +kernel
theorem dX4_init_41 : decode cX4_init 41 = .ok (.putfield 32, 3) := by decide +kernel
theorem dX4_init_44 : decode cX4_init 44 = .ok (.return_, 1) := by decide +kernel
theorem dX4_readOnto_0 : decode cX4_readOnto 0 = .ok (.aload_n 0, 1) := by decide +kernel
theorem dX4_readOnto_1 : decode cX4_readOnto 1 = .ok (.getfield 22, 3) := by decide +kernel
theorem dX4_readOnto_4 : decode cX4_readOnto 4 = .ok (.aload_n 1, 1) := by decide +kernel
theorem dX4_readOnto_5 : decode cX4_readOnto 5 = .ok (.invokevirtual 35, 3) := by decide +kernel
theorem dX4_readOnto_8 : decode cX4_readOnto 8 = .ok (.aload_n 0, 1) := by decide +kernel
theorem dX4_readOnto_9 : decode cX4_readOnto 9 = .ok (.iconst 0, 1) := by decide +kernel
theorem dX4_readOnto_10 : decode cX4_readOnto 10 = .ok (.putfield 32, 3) := by decide +kernel
theorem dX4_readOnto_13 : decode cX4_readOnto 13 = .ok (.iconst 1, 1) := by decide +kernel
theorem dX4_readOnto_14 : decode cX4_readOnto 14 = .ok (.istore_n 2, 1) := by decide +kernel
theorem dX4_readOnto_15 : decode cX4_readOnto 15 = .ok (.iload_n 2, 1) := by decide +kernel
theorem dX4_readOnto_16 : decode cX4_readOnto 16 = .ok (.sipush 250, 3) := by decide +kernel
theorem dX4_readOnto_19 : decode cX4_readOnto 19 = .ok (.if_icmp .gt 47, 3) := by decide +kernel
theorem dX4_readOnto_22 : decode cX4_readOnto 22 = .ok (.aload_n 0, 1) := by decide +kernel
theorem dX4_readOnto_23 : decode cX4_readOnto 23 = .ok (.invokevirtual 39, 3) := by decide +kernel
theorem dX4_readOnto_26 : decode cX4_readOnto 26 = .ok (.aload_n 0, 1) := by decide +kernel
theorem dX4_readOnto_27 : decode cX4_readOnto 27 = .ok (.invokevirtual 42, 3) := by decide +kernel
theorem dX4_readOnto_30 : decode cX4_readOnto 30 = .ok (.ifCond .ne 6, 3) := by decide +kernel
theorem dX4_readOnto_33 : decode cX4_readOnto 33 = .ok (.goto 33, 3) := by decide +kernel
theorem dX4_readOnto_36 : decode cX4_readOnto 36 = .ok (.aload_n 0, 1) := by decide +kernel
theorem dX4_readOnto_37 : decode cX4_readOnto 37 = .ok (.invokevirtual 39, 3) := by decide +kernel
theorem dX4_readOnto_40 : decode cX4_readOnto 40 = .ok (.aload_n 0, 1) := by decide +kernel
theorem dX4_readOnto_41 : decode cX4_readOnto 41 = .ok (.getfield 26, 3) := by decide +kernel
theorem dX4_readOnto_44 : decode cX4_readOnto 44 = .ok (.ifCond .ne 5, 3) := by decide +kernel
theorem dX4_readOnto_47 : decode cX4_readOnto 47 = .ok (.iload_n 2, 1) := by decide +kernel
theorem dX4_readOnto_48 : decode cX4_readOnto 48 = .ok (.ireturn, 1) := by decide +kernel
theorem dX4_readOnto_49 : decode cX4_readOnto 49 = .ok (.aload_n 0, 1) := by decide +kernel
theorem dX4_readOnto_50 : decode cX4_readOnto 50 = .ok (.getfield 26, 3) := by decide +kernel
theorem dX4_readOnto_53 : decode cX4_readOnto 53 = .ok (.iconst 3, 1) := by decide +kernel
theorem dX4_readOnto_54 : decode cX4_readOnto 54 = .ok (.if_icmp .eq 6, 3) := by decide +kernel
theorem dX4_readOnto_57 : decode cX4_readOnto 57 = .ok (.goto 9, 3) := by decide +kernel
theorem dX4_readOnto_60 : decode cX4_readOnto 60 = .ok (.iinc 2 1, 3) := by decide +kernel
theorem dX4_readOnto_63 : decode cX4_readOnto 63 = .ok (.goto (-48), 3) := by decide +kernel
theorem dX4_readOnto_66 : decode cX4_readOnto 66 = .ok (.bipush (-20), 2) := by decide +kernel
theorem dX4_readOnto_68 : decode cX4_readOnto 68 = .ok (.aload_n 0, 1) := by decide +kernel
theorem dX4_readOnto_69 : decode cX4_readOnto 69 = .ok (.getfield 29, 3) := by decide +kernel
theorem dX4_readOnto_72 : decode cX4_readOnto 72 = .ok (.isub, 1) := by decide +kernel
theorem dX4_readOnto_73 : decode cX4_readOnto 73 = .ok (.ireturn, 1) := by decide +kernel
theorem dX4_readStatement_0 : decode cX4_readStatement 0 = .ok (.aload_n 0, 1) := by decide +kernel
theorem dX4_readStatement_1 : decode cX4_readStatement 1 = .ok (.getfield 26, 3) := by decide +kernel
theorem dX4_readStatement_4 : decode cX4_readStatement 4 = .ok (.iconst 1, 1) := by decide +kernel
theorem dX4_readStatement_5 : decode cX4_readStatement 5 = .ok (.if_icmp .eq 5, 3) := by decide +kernel
theorem dX4_readStatement_8 : decode cX4_readStatement 8 = .ok (.iconst 0, 1) := by decide +kernel
theorem dX4_readStatement_9 : decode cX4_readStatement 9 = .ok (.ireturn, 1) := by decide +kernel
theorem dX4_readStatement_10 : decode cX4_readStatement 10 = .ok (.aload_n 0, 1) := by decide +kernel
theorem dX4_readStatement_11 : decode cX4_readStatement 11 = .ok (.ldc 46, 2) := by decide +kernel
theorem dX4_readStatement_13 : decode cX4_readStatement 13 = .ok (.invokevirtual 48, 3) := by decide +kernel
theorem dX4_readStatement_16 : decode cX4_readStatement 16 = .ok (.ifCond .eq 8, 3) := by decide +kernel
theorem dX4_readStatement_19 : decode cX4_readStatement 19 = .ok (.aload_n 0, 1) := by decide +kernel
theorem dX4_readStatement_20 : decode cX4_readStatement 20 = .ok (.invokevirtual 52, 3) := by decide +kernel
theorem dX4_readStatement_23 : decode cX4_readStatement 23 = .ok (.ireturn, 1) := by decide +kernel
theorem dX4_readStatement_24 : decode cX4_readStatement 24 = .ok (.aload_n 0, 1) := by decide +kernel
theorem dX4_readStatement_25 : decode cX4_readStatement 25 = .ok (.ldc 55, 2) := by decide +kernel
theorem dX4_readStatement_27 : decode cX4_readStatement 27 = .ok (.invokevirtual 48, 3) := by decide +kernel
theorem dX4_readStatement_30 : decode cX4_readStatement 30 = .ok (.ifCond .eq 8, 3) := by decide +kernel
theorem dX4_readStatement_33 : decode cX4_readStatement 33 = .ok (.aload_n 0, 1) := by decide +kernel
theorem dX4_readStatement_34 : decode cX4_readStatement 34 = .ok (.invokevirtual 57, 3) := by decide +kernel
theorem dX4_readStatement_37 : decode cX4_readStatement 37 = .ok (.ireturn, 1) := by decide +kernel
theorem dX4_readStatement_38 : decode cX4_readStatement 38 = .ok (.aload_n 0, 1) := by decide +kernel
theorem dX4_readStatement_39 : decode cX4_readStatement 39 = .ok (.ldc 60, 2) := by decide +kernel
theorem dX4_readStatement_41 : decode cX4_readStatement 41 = .ok (.invokevirtual 48, 3) := by decide +kernel
theorem dX4_readStatement_44 : decode cX4_readStatement 44 = .ok (.ifCond .eq 8, 3) := by decide +kernel
theorem dX4_readStatement_47 : decode cX4_readStatement 47 = .ok (.aload_n 0, 1) := by decide +kernel
theorem dX4_readStatement_48 : decode cX4_readStatement 48 = .ok (.invokevirtual 62, 3) := by decide +kernel
theorem dX4_readStatement_51 : decode cX4_readStatement 51 = .ok (.ireturn, 1) := by decide +kernel
theorem dX4_readStatement_52 : decode cX4_readStatement 52 = .ok (.aload_n 0, 1) := by decide +kernel
theorem dX4_readStatement_53 : decode cX4_readStatement 53 = .ok (.ldc 65, 2) := by decide +kernel
theorem dX4_readStatement_55 : decode cX4_readStatement 55 = .ok (.invokevirtual 48, 3) := by decide +kernel
theorem dX4_readStatement_58 : decode cX4_readStatement 58 = .ok (.ifCond .eq 8, 3) := by decide +kernel
theorem dX4_readStatement_61 : decode cX4_readStatement 61 = .ok (.aload_n 0, 1) := by decide +kernel
theorem dX4_readStatement_62 : decode cX4_readStatement 62 = .ok (.invokevirtual 67, 3) := by decide +kernel
theorem dX4_readStatement_65 : decode cX4_readStatement 65 = .ok (.ireturn, 1) := by decide +kernel
theorem dX4_readStatement_66 : decode cX4_readStatement 66 = .ok (.aload_n 0, 1) := by decide +kernel
theorem dX4_readStatement_67 : decode cX4_readStatement 67 = .ok (.ldc 70, 2) := by decide +kernel
theorem dX4_readStatement_69 : decode cX4_readStatement 69 = .ok (.invokevirtual 48, 3) := by decide +kernel
theorem dX4_readStatement_72 : decode cX4_readStatement 72 = .ok (.ifCond .eq 8, 3) := by decide +kernel
theorem dX4_readStatement_75 : decode cX4_readStatement 75 = .ok (.aload_n 0, 1) := by decide +kernel
theorem dX4_readStatement_76 : decode cX4_readStatement 76 = .ok (.invokevirtual 72, 3) := by decide +kernel
theorem dX4_readStatement_79 : decode cX4_readStatement 79 = .ok (.ireturn, 1) := by decide +kernel
theorem dX4_readStatement_80 : decode cX4_readStatement 80 = .ok (.aload_n 0, 1) := by decide +kernel
theorem dX4_readStatement_81 : decode cX4_readStatement 81 = .ok (.ldc 75, 2) := by decide +kernel
theorem dX4_readStatement_83 : decode cX4_readStatement 83 = .ok (.invokevirtual 48, 3) := by decide +kernel
theorem dX4_readStatement_86 : decode cX4_readStatement 86 = .ok (.ifCond .eq 8, 3) := by decide +kernel
theorem dX4_readStatement_89 : decode cX4_readStatement 89 = .ok (.aload_n 0, 1) := by decide +kernel
theorem dX4_readStatement_90 : decode cX4_readStatement 90 = .ok (.invokevirtual 77, 3) := by decide +kernel
theorem dX4_readStatement_93 : decode cX4_readStatement 93 = .ok (.ireturn, 1) := by decide +kernel
theorem dX4_readStatement_94 : decode cX4_readStatement 94 = .ok (.aload_n 0, 1) := by decide +kernel
theorem dX4_readStatement_95 : decode cX4_readStatement 95 = .ok (.ldc 80, 2) := by decide +kernel
theorem dX4_readStatement_97 : decode cX4_readStatement 97 = .ok (.invokevirtual 48, 3) := by decide +kernel
theorem dX4_readStatement_100 : decode cX4_readStatement 100 = .ok (.ifCond .eq 14, 3) := by decide +kernel
theorem dX4_readStatement_103 : decode cX4_readStatement 103 = .ok (.aload_n 0, 1) := by decide +kernel
theorem dX4_readStatement_104 : decode cX4_readStatement 104 = .ok (.invokevirtual 82, 3) := by decide +kernel
theorem dX4_readStatement_107 : decode cX4_readStatement 107 = .ok (.ifCond .eq 7, 3) := by decide +kernel
theorem dX4_readStatement_110 : decode cX4_readStatement 110 = .ok (.iconst 1, 1) := by decide +kernel
theorem dX4_readStatement_111 : decode cX4_readStatement 111 = .ok (.goto 4, 3) := by decide +kernel
theorem dX4_readStatement_114 : decode cX4_readStatement 114 = .ok (.iconst 0, 1) := by decide +kernel
theorem dX4_readStatement_115 : decode cX4_readStatement 115 = .ok (.ireturn, 1) := by decide +kernel
theorem dX4_readSide_0 : decode cX4_readSide 0 = .ok (.aload_n 0, 1) := by decide +kernel
theorem dX4_readSide_1 : decode cX4_readSide 1 = .ok (.invokevirtual 85, 3) := by decide +kernel
theorem dX4_readSide_4 : decode cX4_readSide 4 = .ok (.istore_n 1, 1) := by decide +kernel
theorem dX4_readSide_5 : decode cX4_readSide 5 = .ok (.iload_n 1, 1) := by decide +kernel
theorem dX4_readSide_6 : decode cX4_readSide 6 = .ok (.aload_n 0, 1) := by decide +kernel
theorem dX4_readSide_7 : decode cX4_readSide 7 = .ok (.getfield 22, 3) := by decide +kernel
theorem dX4_readSide_10 : decode cX4_readSide 10 = .ok (.getfield 89, 3) := by decide +kernel
theorem dX4_readSide_13 : decode cX4_readSide 13 = .ok (.if_icmp .lt 9, 3) := by decide +kernel
theorem dX4_readSide_16 : decode cX4_readSide 16 = .ok (.iload_n 1, 1) := by decide +kernel
theorem dX4_readSide_17 : decode cX4_readSide 17 = .ok (.bipush 7, 2) := by decide +kernel
theorem dX4_readSide_19 : decode cX4_readSide 19 = .ok (.if_icmp .le 5, 3) := by decide +kernel
theorem dX4_readSide_22 : decode cX4_readSide 22 = .ok (.iconst 0, 1) := by decide +kernel
theorem dX4_readSide_23 : decode cX4_readSide 23 = .ok (.ireturn, 1) := by decide +kernel
theorem dX4_readSide_24 : decode cX4_readSide 24 = .ok (.aload_n 0, 1) := by decide +kernel
theorem dX4_readSide_25 : decode cX4_readSide 25 = .ok (.getfield 22, 3) := by decide +kernel
theorem dX4_readSide_28 : decode cX4_readSide 28 = .ok (.iload_n 1, 1) := by decide +kernel
theorem dX4_readSide_29 : decode cX4_readSide 29 = .ok (.putfield 89, 3) := by decide +kernel
theorem dX4_readSide_32 : decode cX4_readSide 32 = .ok (.iconst 1, 1) := by decide +kernel
theorem dX4_readSide_33 : decode cX4_readSide 33 = .ok (.ireturn, 1) := by decide +kernel
theorem dX4_readWall_0 : decode cX4_readWall 0 = .ok (.aload_n 0, 1) := by decide +kernel
theorem dX4_readWall_1 : decode cX4_readWall 1 = .ok (.invokevirtual 85, 3) := by decide +kernel
theorem dX4_readWall_4 : decode cX4_readWall 4 = .ok (.istore_n 1, 1) := by decide +kernel
theorem dX4_readWall_5 : decode cX4_readWall 5 = .ok (.aload_n 0, 1) := by decide +kernel
theorem dX4_readWall_6 : decode cX4_readWall 6 = .ok (.getfield 22, 3) := by decide +kernel
theorem dX4_readWall_9 : decode cX4_readWall 9 = .ok (.iload_n 1, 1) := by decide +kernel
theorem dX4_readWall_10 : decode cX4_readWall 10 = .ok (.invokevirtual 91, 3) := by decide +kernel
theorem dX4_readWall_13 : decode cX4_readWall 13 = .ok (.ifCond .ne 5, 3) := by decide +kernel
theorem dX4_readWall_16 : decode cX4_readWall 16 = .ok (.iconst 0, 1) := by decide +kernel
theorem dX4_readWall_17 : decode cX4_readWall 17 = .ok (.ireturn, 1) := by decide +kernel
theorem dX4_readWall_18 : decode cX4_readWall 18 = .ok (.aload_n 0, 1) := by decide +kernel
theorem dX4_readWall_19 : decode cX4_readWall 19 = .ok (.getfield 22, 3) := by decide +kernel
theorem dX4_readWall_22 : decode cX4_readWall 22 = .ok (.iload_n 1, 1) := by decide +kernel
theorem dX4_readWall_23 : decode cX4_readWall 23 = .ok (.iconst 1, 1) := by decide +kernel
theorem dX4_readWall_24 : decode cX4_readWall 24 = .ok (.invokevirtual 95, 3) := by decide +kernel
theorem dX4_readWall_27 : decode cX4_readWall 27 = .ok (.iconst 1, 1) := by decide +kernel
theorem dX4_readWall_28 : decode cX4_readWall 28 = .ok (.ireturn, 1) := by decide +kernel
theorem dX4_readGap_0 : decode cX4_readGap 0 = .ok (.aload_n 0, 1) := by decide +kernel
theorem dX4_readGap_1 : decode cX4_readGap 1 = .ok (.invokevirtual 85, 3) := by decide +kernel
theorem dX4_readGap_4 : decode cX4_readGap 4 = .ok (.istore_n 1, 1) := by decide +kernel
theorem dX4_readGap_5 : decode cX4_readGap 5 = .ok (.aload_n 0, 1) := by decide +kernel
theorem dX4_readGap_6 : decode cX4_readGap 6 = .ok (.getfield 22, 3) := by decide +kernel
theorem dX4_readGap_9 : decode cX4_readGap 9 = .ok (.iload_n 1, 1) := by decide +kernel
theorem dX4_readGap_10 : decode cX4_readGap 10 = .ok (.invokevirtual 99, 3) := by decide +kernel
theorem dX4_readGap_13 : decode cX4_readGap 13 = .ok (.ifCond .ne 5, 3) := by decide +kernel
theorem dX4_readGap_16 : decode cX4_readGap 16 = .ok (.iconst 0, 1) := by decide +kernel
theorem dX4_readGap_17 : decode cX4_readGap 17 = .ok (.ireturn, 1) := by decide +kernel
theorem dX4_readGap_18 : decode cX4_readGap 18 = .ok (.aload_n 0, 1) := by decide +kernel
theorem dX4_readGap_19 : decode cX4_readGap 19 = .ok (.getfield 22, 3) := by decide +kernel
theorem dX4_readGap_22 : decode cX4_readGap 22 = .ok (.iload_n 1, 1) := by decide +kernel
theorem dX4_readGap_23 : decode cX4_readGap 23 = .ok (.iconst 0, 1) := by decide +kernel
theorem dX4_readGap_24 : decode cX4_readGap 24 = .ok (.invokevirtual 95, 3) := by decide +kernel
theorem dX4_readGap_27 : decode cX4_readGap 27 = .ok (.iconst 1, 1) := by decide +kernel
theorem dX4_readGap_28 : decode cX4_readGap 28 = .ok (.ireturn, 1) := by decide +kernel
theorem dX4_readPen_0 : decode cX4_readPen 0 = .ok (.aload_n 0, 1) := by decide +kernel
theorem dX4_readPen_1 : decode cX4_readPen 1 = .ok (.invokevirtual 85, 3) := by decide +kernel
theorem dX4_readPen_4 : decode cX4_readPen 4 = .ok (.istore_n 1, 1) := by decide +kernel
theorem dX4_readPen_5 : decode cX4_readPen 5 = .ok (.aload_n 0, 1) := by decide +kernel
theorem dX4_readPen_6 : decode cX4_readPen 6 = .ok (.getfield 22, 3) := by decide +kernel
theorem dX4_readPen_9 : decode cX4_readPen 9 = .ok (.iload_n 1, 1) := by decide +kernel
theorem dX4_readPen_10 : decode cX4_readPen 10 = .ok (.invokevirtual 102, 3) := by decide +kernel
theorem dX4_readPen_13 : decode cX4_readPen 13 = .ok (.ifCond .ne 5, 3) := by decide +kernel
theorem dX4_readPen_16 : decode cX4_readPen 16 = .ok (.iconst 0, 1) := by decide +kernel
theorem dX4_readPen_17 : decode cX4_readPen 17 = .ok (.ireturn, 1) := by decide +kernel
theorem dX4_readPen_18 : decode cX4_readPen 18 = .ok (.aload_n 0, 1) := by decide +kernel
theorem dX4_readPen_19 : decode cX4_readPen 19 = .ok (.getfield 22, 3) := by decide +kernel
theorem dX4_readPen_22 : decode cX4_readPen 22 = .ok (.iload_n 1, 1) := by decide +kernel
theorem dX4_readPen_23 : decode cX4_readPen 23 = .ok (.putfield 105, 3) := by decide +kernel
theorem dX4_readPen_26 : decode cX4_readPen 26 = .ok (.iconst 1, 1) := by decide +kernel
theorem dX4_readPen_27 : decode cX4_readPen 27 = .ok (.ireturn, 1) := by decide +kernel
theorem dX4_readDog_0 : decode cX4_readDog 0 = .ok (.aload_n 0, 1) := by decide +kernel
theorem dX4_readDog_1 : decode cX4_readDog 1 = .ok (.invokevirtual 85, 3) := by decide +kernel
theorem dX4_readDog_4 : decode cX4_readDog 4 = .ok (.istore_n 1, 1) := by decide +kernel
theorem dX4_readDog_5 : decode cX4_readDog 5 = .ok (.aload_n 0, 1) := by decide +kernel
theorem dX4_readDog_6 : decode cX4_readDog 6 = .ok (.getfield 22, 3) := by decide +kernel
theorem dX4_readDog_9 : decode cX4_readDog 9 = .ok (.iload_n 1, 1) := by decide +kernel
theorem dX4_readDog_10 : decode cX4_readDog 10 = .ok (.invokevirtual 107, 3) := by decide +kernel
theorem dX4_readDog_13 : decode cX4_readDog 13 = .ok (.ifCond .ne 5, 3) := by decide +kernel
theorem dX4_readDog_16 : decode cX4_readDog 16 = .ok (.iconst 0, 1) := by decide +kernel
theorem dX4_readDog_17 : decode cX4_readDog 17 = .ok (.ireturn, 1) := by decide +kernel
theorem dX4_readDog_18 : decode cX4_readDog 18 = .ok (.aload_n 0, 1) := by decide +kernel
theorem dX4_readDog_19 : decode cX4_readDog 19 = .ok (.getfield 22, 3) := by decide +kernel
theorem dX4_readDog_22 : decode cX4_readDog 22 = .ok (.getfield 110, 3) := by decide +kernel
theorem dX4_readDog_25 : decode cX4_readDog 25 = .ok (.iload_n 1, 1) := by decide +kernel
theorem dX4_readDog_26 : decode cX4_readDog 26 = .ok (.putfield 114, 3) := by decide +kernel
theorem dX4_readDog_29 : decode cX4_readDog 29 = .ok (.iconst 1, 1) := by decide +kernel
theorem dX4_readDog_30 : decode cX4_readDog 30 = .ok (.ireturn, 1) := by decide +kernel
theorem dX4_readEwe_0 : decode cX4_readEwe 0 = .ok (.aload_n 0, 1) := by decide +kernel
theorem dX4_readEwe_1 : decode cX4_readEwe 1 = .ok (.getfield 22, 3) := by decide +kernel
theorem dX4_readEwe_4 : decode cX4_readEwe 4 = .ok (.getfield 118, 3) := by decide +kernel
theorem dX4_readEwe_7 : decode cX4_readEwe 7 = .ok (.iconst 5, 1) := by decide +kernel
theorem dX4_readEwe_8 : decode cX4_readEwe 8 = .ok (.if_icmp .lt 5, 3) := by decide +kernel
theorem dX4_readEwe_11 : decode cX4_readEwe 11 = .ok (.iconst 0, 1) := by decide +kernel
theorem dX4_readEwe_12 : decode cX4_readEwe 12 = .ok (.ireturn, 1) := by decide +kernel
theorem dX4_readEwe_13 : decode cX4_readEwe 13 = .ok (.aload_n 0, 1) := by decide +kernel
theorem dX4_readEwe_14 : decode cX4_readEwe 14 = .ok (.invokevirtual 85, 3) := by decide +kernel
theorem dX4_readEwe_17 : decode cX4_readEwe 17 = .ok (.istore_n 1, 1) := by decide +kernel
theorem dX4_readEwe_18 : decode cX4_readEwe 18 = .ok (.iload_n 1, 1) := by decide +kernel
theorem dX4_readEwe_19 : decode cX4_readEwe 19 = .ok (.invokestatic 121, 3) := by decide +kernel
theorem dX4_readEwe_22 : decode cX4_readEwe 22 = .ok (.ifCond .ne 5, 3) := by decide +kernel
theorem dX4_readEwe_25 : decode cX4_readEwe 25 = .ok (.iconst 0, 1) := by decide +kernel
theorem dX4_readEwe_26 : decode cX4_readEwe 26 = .ok (.ireturn, 1) := by decide +kernel
theorem dX4_readEwe_27 : decode cX4_readEwe 27 = .ok (.aload_n 0, 1) := by decide +kernel
theorem dX4_readEwe_28 : decode cX4_readEwe 28 = .ok (.invokevirtual 85, 3) := by decide +kernel
theorem dX4_readEwe_31 : decode cX4_readEwe 31 = .ok (.istore_n 2, 1) := by decide +kernel
theorem dX4_readEwe_32 : decode cX4_readEwe 32 = .ok (.iload_n 2, 1) := by decide +kernel
theorem dX4_readEwe_33 : decode cX4_readEwe 33 = .ok (.ifCond .lt 9, 3) := by decide +kernel
theorem dX4_readEwe_36 : decode cX4_readEwe 36 = .ok (.iload_n 2, 1) := by decide +kernel
theorem dX4_readEwe_37 : decode cX4_readEwe 37 = .ok (.bipush 9, 2) := by decide +kernel
theorem dX4_readEwe_39 : decode cX4_readEwe 39 = .ok (.if_icmp .le 5, 3) := by decide +kernel
theorem dX4_readEwe_42 : decode cX4_readEwe 42 = .ok (.iconst 0, 1) := by decide +kernel
theorem dX4_readEwe_43 : decode cX4_readEwe 43 = .ok (.ireturn, 1) := by decide +kernel
theorem dX4_readEwe_44 : decode cX4_readEwe 44 = .ok (.aload_n 0, 1) := by decide +kernel
theorem dX4_readEwe_45 : decode cX4_readEwe 45 = .ok (.invokevirtual 85, 3) := by decide +kernel
theorem dX4_readEwe_48 : decode cX4_readEwe 48 = .ok (.istore_n 3, 1) := by decide +kernel
theorem dX4_readEwe_49 : decode cX4_readEwe 49 = .ok (.aload_n 0, 1) := by decide +kernel
theorem dX4_readEwe_50 : decode cX4_readEwe 50 = .ok (.getfield 22, 3) := by decide +kernel
theorem dX4_readEwe_53 : decode cX4_readEwe 53 = .ok (.iload_n 3, 1) := by decide +kernel
theorem dX4_readEwe_54 : decode cX4_readEwe 54 = .ok (.invokevirtual 124, 3) := by decide +kernel
theorem dX4_readEwe_57 : decode cX4_readEwe 57 = .ok (.ifCond .ne 5, 3) := by decide +kernel
theorem dX4_readEwe_60 : decode cX4_readEwe 60 = .ok (.iconst 0, 1) := by decide +kernel
theorem dX4_readEwe_61 : decode cX4_readEwe 61 = .ok (.ireturn, 1) := by decide +kernel
theorem dX4_readEwe_62 : decode cX4_readEwe 62 = .ok (.aload_n 0, 1) := by decide +kernel
theorem dX4_readEwe_63 : decode cX4_readEwe 63 = .ok (.getfield 22, 3) := by decide +kernel
theorem dX4_readEwe_66 : decode cX4_readEwe 66 = .ok (.iload_n 1, 1) := by decide +kernel
theorem dX4_readEwe_67 : decode cX4_readEwe 67 = .ok (.iload_n 2, 1) := by decide +kernel
theorem dX4_readEwe_68 : decode cX4_readEwe 68 = .ok (.iload_n 3, 1) := by decide +kernel
theorem dX4_readEwe_69 : decode cX4_readEwe 69 = .ok (.invokevirtual 127, 3) := by decide +kernel
theorem dX4_readEwe_72 : decode cX4_readEwe 72 = .ok (.pop, 1) := by decide +kernel
theorem dX4_readEwe_73 : decode cX4_readEwe 73 = .ok (.iconst 1, 1) := by decide +kernel
theorem dX4_readEwe_74 : decode cX4_readEwe 74 = .ok (.ireturn, 1) := by decide +kernel
theorem dX4_readWind_0 : decode cX4_readWind 0 = .ok (.aload_n 0, 1) := by decide +kernel
theorem dX4_readWind_1 : decode cX4_readWind 1 = .ok (.invokevirtual 85, 3) := by decide +kernel
theorem dX4_readWind_4 : decode cX4_readWind 4 = .ok (.istore_n 1, 1) := by decide +kernel
theorem dX4_readWind_5 : decode cX4_readWind 5 = .ok (.iload_n 1, 1) := by decide +kernel
theorem dX4_readWind_6 : decode cX4_readWind 6 = .ok (.ifCond .lt 9, 3) := by decide +kernel
theorem dX4_readWind_9 : decode cX4_readWind 9 = .ok (.iload_n 1, 1) := by decide +kernel
theorem dX4_readWind_10 : decode cX4_readWind 10 = .ok (.bipush 12, 2) := by decide +kernel
theorem dX4_readWind_12 : decode cX4_readWind 12 = .ok (.if_icmp .le 5, 3) := by decide +kernel
theorem dX4_readWind_15 : decode cX4_readWind 15 = .ok (.iconst 0, 1) := by decide +kernel
theorem dX4_readWind_16 : decode cX4_readWind 16 = .ok (.ireturn, 1) := by decide +kernel
theorem dX4_readWind_17 : decode cX4_readWind 17 = .ok (.aload_n 0, 1) := by decide +kernel
theorem dX4_readWind_18 : decode cX4_readWind 18 = .ok (.getfield 22, 3) := by decide +kernel
theorem dX4_readWind_21 : decode cX4_readWind 21 = .ok (.iload_n 1, 1) := by decide +kernel
theorem dX4_readWind_22 : decode cX4_readWind 22 = .ok (.putfield 131, 3) := by decide +kernel
theorem dX4_readWind_25 : decode cX4_readWind 25 = .ok (.iconst 1, 1) := by decide +kernel
theorem dX4_readWind_26 : decode cX4_readWind 26 = .ok (.ireturn, 1) := by decide +kernel
theorem dX4_nextNumber_0 : decode cX4_nextNumber 0 = .ok (.aload_n 0, 1) := by decide +kernel
theorem dX4_nextNumber_1 : decode cX4_nextNumber 1 = .ok (.invokevirtual 39, 3) := by decide +kernel
theorem dX4_nextNumber_4 : decode cX4_nextNumber 4 = .ok (.aload_n 0, 1) := by decide +kernel
theorem dX4_nextNumber_5 : decode cX4_nextNumber 5 = .ok (.getfield 26, 3) := by decide +kernel
theorem dX4_nextNumber_8 : decode cX4_nextNumber 8 = .ok (.iconst 2, 1) := by decide +kernel
theorem dX4_nextNumber_9 : decode cX4_nextNumber 9 = .ok (.if_icmp .ne 16, 3) := by decide +kernel
theorem dX4_nextNumber_12 : decode cX4_nextNumber 12 = .ok (.aload_n 0, 1) := by decide +kernel
theorem dX4_nextNumber_13 : decode cX4_nextNumber 13 = .ok (.getfield 32, 3) := by decide +kernel
theorem dX4_nextNumber_16 : decode cX4_nextNumber 16 = .ok (.aload_n 0, 1) := by decide +kernel
theorem dX4_nextNumber_17 : decode cX4_nextNumber 17 = .ok (.getfield 29, 3) := by decide +kernel
theorem dX4_nextNumber_20 : decode cX4_nextNumber 20 = .ok (.isub, 1) := by decide +kernel
theorem dX4_nextNumber_21 : decode cX4_nextNumber 21 = .ok (.iconst 2, 1) := by decide +kernel
theorem dX4_nextNumber_22 : decode cX4_nextNumber 22 = .ok (.if_icmp .le 5, 3) := by decide +kernel
theorem dX4_nextNumber_25 : decode cX4_nextNumber 25 = .ok (.iconst (-1), 1) := by decide +kernel
theorem dX4_nextNumber_26 : decode cX4_nextNumber 26 = .ok (.ireturn, 1) := by decide +kernel
theorem dX4_nextNumber_27 : decode cX4_nextNumber 27 = .ok (.iconst 0, 1) := by decide +kernel
theorem dX4_nextNumber_28 : decode cX4_nextNumber 28 = .ok (.istore_n 1, 1) := by decide +kernel
theorem dX4_nextNumber_29 : decode cX4_nextNumber 29 = .ok (.aload_n 0, 1) := by decide +kernel
theorem dX4_nextNumber_30 : decode cX4_nextNumber 30 = .ok (.getfield 29, 3) := by decide +kernel
theorem dX4_nextNumber_33 : decode cX4_nextNumber 33 = .ok (.istore_n 2, 1) := by decide +kernel
theorem dX4_nextNumber_34 : decode cX4_nextNumber 34 = .ok (.iload_n 2, 1) := by decide +kernel
theorem dX4_nextNumber_35 : decode cX4_nextNumber 35 = .ok (.aload_n 0, 1) := by decide +kernel
theorem dX4_nextNumber_36 : decode cX4_nextNumber 36 = .ok (.getfield 32, 3) := by decide +kernel
theorem dX4_nextNumber_39 : decode cX4_nextNumber 39 = .ok (.if_icmp .ge 23, 3) := by decide +kernel
theorem dX4_nextNumber_42 : decode cX4_nextNumber 42 = .ok (.iload_n 1, 1) := by decide +kernel
theorem dX4_nextNumber_43 : decode cX4_nextNumber 43 = .ok (.bipush 10, 2) := by decide +kernel
theorem dX4_nextNumber_45 : decode cX4_nextNumber 45 = .ok (.imul, 1) := by decide +kernel
theorem dX4_nextNumber_46 : decode cX4_nextNumber 46 = .ok (.aload_n 0, 1) := by decide +kernel
theorem dX4_nextNumber_47 : decode cX4_nextNumber 47 = .ok (.iload_n 2, 1) := by decide +kernel
theorem dX4_nextNumber_48 : decode cX4_nextNumber 48 = .ok (.invokevirtual 133, 3) := by decide +kernel
theorem dX4_nextNumber_51 : decode cX4_nextNumber 51 = .ok (.iadd, 1) := by decide +kernel
theorem dX4_nextNumber_52 : decode cX4_nextNumber 52 = .ok (.bipush 48, 2) := by decide +kernel
theorem dX4_nextNumber_54 : decode cX4_nextNumber 54 = .ok (.isub, 1) := by decide +kernel
theorem dX4_nextNumber_55 : decode cX4_nextNumber 55 = .ok (.istore_n 1, 1) := by decide +kernel
theorem dX4_nextNumber_56 : decode cX4_nextNumber 56 = .ok (.iinc 2 1, 3) := by decide +kernel
theorem dX4_nextNumber_59 : decode cX4_nextNumber 59 = .ok (.goto (-25), 3) := by decide +kernel
theorem dX4_nextNumber_62 : decode cX4_nextNumber 62 = .ok (.iload_n 1, 1) := by decide +kernel
theorem dX4_nextNumber_63 : decode cX4_nextNumber 63 = .ok (.ireturn, 1) := by decide +kernel
theorem dX4_isWord_0 : decode cX4_isWord 0 = .ok (.aload_n 0, 1) := by decide +kernel
theorem dX4_isWord_1 : decode cX4_isWord 1 = .ok (.getfield 32, 3) := by decide +kernel
theorem dX4_isWord_4 : decode cX4_isWord 4 = .ok (.aload_n 0, 1) := by decide +kernel
theorem dX4_isWord_5 : decode cX4_isWord 5 = .ok (.getfield 29, 3) := by decide +kernel
theorem dX4_isWord_8 : decode cX4_isWord 8 = .ok (.isub, 1) := by decide +kernel
theorem dX4_isWord_9 : decode cX4_isWord 9 = .ok (.aload_n 1, 1) := by decide +kernel
theorem dX4_isWord_10 : decode cX4_isWord 10 = .ok (.invokevirtual 137, 3) := by decide +kernel
theorem dX4_isWord_13 : decode cX4_isWord 13 = .ok (.if_icmp .eq 5, 3) := by decide +kernel
theorem dX4_isWord_16 : decode cX4_isWord 16 = .ok (.iconst 0, 1) := by decide +kernel
theorem dX4_isWord_17 : decode cX4_isWord 17 = .ok (.ireturn, 1) := by decide +kernel
theorem dX4_isWord_18 : decode cX4_isWord 18 = .ok (.iconst 0, 1) := by decide +kernel
theorem dX4_isWord_19 : decode cX4_isWord 19 = .ok (.istore_n 2, 1) := by decide +kernel
theorem dX4_isWord_20 : decode cX4_isWord 20 = .ok (.iload_n 2, 1) := by decide +kernel
theorem dX4_isWord_21 : decode cX4_isWord 21 = .ok (.aload_n 1, 1) := by decide +kernel
theorem dX4_isWord_22 : decode cX4_isWord 22 = .ok (.invokevirtual 137, 3) := by decide +kernel
theorem dX4_isWord_25 : decode cX4_isWord 25 = .ok (.if_icmp .ge 29, 3) := by decide +kernel
theorem dX4_isWord_28 : decode cX4_isWord 28 = .ok (.aload_n 0, 1) := by decide +kernel
theorem dX4_isWord_29 : decode cX4_isWord 29 = .ok (.aload_n 0, 1) := by decide +kernel
theorem dX4_isWord_30 : decode cX4_isWord 30 = .ok (.getfield 29, 3) := by decide +kernel
theorem dX4_isWord_33 : decode cX4_isWord 33 = .ok (.iload_n 2, 1) := by decide +kernel
theorem dX4_isWord_34 : decode cX4_isWord 34 = .ok (.iadd, 1) := by decide +kernel
theorem dX4_isWord_35 : decode cX4_isWord 35 = .ok (.invokevirtual 133, 3) := by decide +kernel
theorem dX4_isWord_38 : decode cX4_isWord 38 = .ok (.aload_n 1, 1) := by decide +kernel
theorem dX4_isWord_39 : decode cX4_isWord 39 = .ok (.iload_n 2, 1) := by decide +kernel
theorem dX4_isWord_40 : decode cX4_isWord 40 = .ok (.invokevirtual 142, 3) := by decide +kernel
theorem dX4_isWord_43 : decode cX4_isWord 43 = .ok (.if_icmp .eq 5, 3) := by decide +kernel
theorem dX4_isWord_46 : decode cX4_isWord 46 = .ok (.iconst 0, 1) := by decide +kernel
theorem dX4_isWord_47 : decode cX4_isWord 47 = .ok (.ireturn, 1) := by decide +kernel
theorem dX4_isWord_48 : decode cX4_isWord 48 = .ok (.iinc 2 1, 3) := by decide +kernel
theorem dX4_isWord_51 : decode cX4_isWord 51 = .ok (.goto (-31), 3) := by decide +kernel
theorem dX4_isWord_54 : decode cX4_isWord 54 = .ok (.iconst 1, 1) := by decide +kernel
theorem dX4_isWord_55 : decode cX4_isWord 55 = .ok (.ireturn, 1) := by decide +kernel
theorem dX4_nextToken_0 : decode cX4_nextToken 0 = .ok (.aload_n 0, 1) := by decide +kernel
theorem dX4_nextToken_1 : decode cX4_nextToken 1 = .ok (.aload_n 0, 1) := by decide +kernel
theorem dX4_nextToken_2 : decode cX4_nextToken 2 = .ok (.getfield 32, 3) := by decide +kernel
theorem dX4_nextToken_5 : decode cX4_nextToken 5 = .ok (.putfield 29, 3) := by decide +kernel
theorem dX4_nextToken_8 : decode cX4_nextToken 8 = .ok (.aload_n 0, 1) := by decide +kernel
theorem dX4_nextToken_9 : decode cX4_nextToken 9 = .ok (.getfield 29, 3) := by decide +kernel
theorem dX4_nextToken_12 : decode cX4_nextToken 12 = .ok (.aload_n 0, 1) := by decide +kernel
theorem dX4_nextToken_13 : decode cX4_nextToken 13 = .ok (.getfield 15, 3) := by decide +kernel
theorem dX4_nextToken_16 : decode cX4_nextToken 16 = .ok (.if_icmp .ge 29, 3) := by decide +kernel
theorem dX4_nextToken_19 : decode cX4_nextToken 19 = .ok (.aload_n 0, 1) := by decide +kernel
theorem dX4_nextToken_20 : decode cX4_nextToken 20 = .ok (.aload_n 0, 1) := by decide +kernel
theorem dX4_nextToken_21 : decode cX4_nextToken 21 = .ok (.getfield 29, 3) := by decide +kernel
theorem dX4_nextToken_24 : decode cX4_nextToken 24 = .ok (.invokevirtual 133, 3) := by decide +kernel
theorem dX4_nextToken_27 : decode cX4_nextToken 27 = .ok (.bipush 32, 2) := by decide +kernel
theorem dX4_nextToken_29 : decode cX4_nextToken 29 = .ok (.if_icmp .ne 16, 3) := by decide +kernel
theorem dX4_nextToken_32 : decode cX4_nextToken 32 = .ok (.aload_n 0, 1) := by decide +kernel
theorem dX4_nextToken_33 : decode cX4_nextToken 33 = .ok (.dup, 1) := by decide +kernel
theorem dX4_nextToken_34 : decode cX4_nextToken 34 = .ok (.getfield 29, 3) := by decide +kernel
theorem dX4_nextToken_37 : decode cX4_nextToken 37 = .ok (.iconst 1, 1) := by decide +kernel
theorem dX4_nextToken_38 : decode cX4_nextToken 38 = .ok (.iadd, 1) := by decide +kernel
theorem dX4_nextToken_39 : decode cX4_nextToken 39 = .ok (.putfield 29, 3) := by decide +kernel
theorem dX4_nextToken_42 : decode cX4_nextToken 42 = .ok (.goto (-34), 3) := by decide +kernel
theorem dX4_nextToken_45 : decode cX4_nextToken 45 = .ok (.aload_n 0, 1) := by decide +kernel
theorem dX4_nextToken_46 : decode cX4_nextToken 46 = .ok (.aload_n 0, 1) := by decide +kernel
theorem dX4_nextToken_47 : decode cX4_nextToken 47 = .ok (.aload_n 0, 1) := by decide +kernel
theorem dX4_nextToken_48 : decode cX4_nextToken 48 = .ok (.getfield 29, 3) := by decide +kernel
theorem dX4_nextToken_51 : decode cX4_nextToken 51 = .ok (.invokevirtual 133, 3) := by decide +kernel
theorem dX4_nextToken_54 : decode cX4_nextToken 54 = .ok (.invokestatic 146, 3) := by decide +kernel
theorem dX4_nextToken_57 : decode cX4_nextToken 57 = .ok (.putfield 26, 3) := by decide +kernel
theorem dX4_nextToken_60 : decode cX4_nextToken 60 = .ok (.aload_n 0, 1) := by decide +kernel
theorem dX4_nextToken_61 : decode cX4_nextToken 61 = .ok (.aload_n 0, 1) := by decide +kernel
theorem dX4_nextToken_62 : decode cX4_nextToken 62 = .ok (.getfield 26, 3) := by decide +kernel
theorem dX4_nextToken_65 : decode cX4_nextToken 65 = .ok (.ifCond .ne 10, 3) := by decide +kernel
theorem dX4_nextToken_68 : decode cX4_nextToken 68 = .ok (.aload_n 0, 1) := by decide +kernel
theorem dX4_nextToken_69 : decode cX4_nextToken 69 = .ok (.getfield 29, 3) := by decide +kernel
theorem dX4_nextToken_72 : decode cX4_nextToken 72 = .ok (.goto 9, 3) := by decide +kernel
theorem dX4_nextToken_75 : decode cX4_nextToken 75 = .ok (.aload_n 0, 1) := by decide +kernel
theorem dX4_nextToken_76 : decode cX4_nextToken 76 = .ok (.getfield 29, 3) := by decide +kernel
theorem dX4_nextToken_79 : decode cX4_nextToken 79 = .ok (.iconst 1, 1) := by decide +kernel
theorem dX4_nextToken_80 : decode cX4_nextToken 80 = .ok (.iadd, 1) := by decide +kernel
theorem dX4_nextToken_81 : decode cX4_nextToken 81 = .ok (.putfield 32, 3) := by decide +kernel
theorem dX4_nextToken_84 : decode cX4_nextToken 84 = .ok (.aload_n 0, 1) := by decide +kernel
theorem dX4_nextToken_85 : decode cX4_nextToken 85 = .ok (.getfield 26, 3) := by decide +kernel
theorem dX4_nextToken_88 : decode cX4_nextToken 88 = .ok (.iconst 1, 1) := by decide +kernel
theorem dX4_nextToken_89 : decode cX4_nextToken 89 = .ok (.if_icmp .eq 11, 3) := by decide +kernel
theorem dX4_nextToken_92 : decode cX4_nextToken 92 = .ok (.aload_n 0, 1) := by decide +kernel
theorem dX4_nextToken_93 : decode cX4_nextToken 93 = .ok (.getfield 26, 3) := by decide +kernel
theorem dX4_nextToken_96 : decode cX4_nextToken 96 = .ok (.iconst 2, 1) := by decide +kernel
theorem dX4_nextToken_97 : decode cX4_nextToken 97 = .ok (.if_icmp .ne 45, 3) := by decide +kernel
theorem dX4_nextToken_100 : decode cX4_nextToken 100 = .ok (.aload_n 0, 1) := by decide +kernel
theorem dX4_nextToken_101 : decode cX4_nextToken 101 = .ok (.getfield 32, 3) := by decide +kernel
theorem dX4_nextToken_104 : decode cX4_nextToken 104 = .ok (.aload_n 0, 1) := by decide +kernel
theorem dX4_nextToken_105 : decode cX4_nextToken 105 = .ok (.getfield 15, 3) := by decide +kernel
theorem dX4_nextToken_108 : decode cX4_nextToken 108 = .ok (.if_icmp .ge 34, 3) := by decide +kernel
theorem dX4_nextToken_111 : decode cX4_nextToken 111 = .ok (.aload_n 0, 1) := by decide +kernel
theorem dX4_nextToken_112 : decode cX4_nextToken 112 = .ok (.aload_n 0, 1) := by decide +kernel
theorem dX4_nextToken_113 : decode cX4_nextToken 113 = .ok (.getfield 32, 3) := by decide +kernel
theorem dX4_nextToken_116 : decode cX4_nextToken 116 = .ok (.invokevirtual 133, 3) := by decide +kernel
theorem dX4_nextToken_119 : decode cX4_nextToken 119 = .ok (.invokestatic 146, 3) := by decide +kernel
theorem dX4_nextToken_122 : decode cX4_nextToken 122 = .ok (.aload_n 0, 1) := by decide +kernel
theorem dX4_nextToken_123 : decode cX4_nextToken 123 = .ok (.getfield 26, 3) := by decide +kernel
theorem dX4_nextToken_126 : decode cX4_nextToken 126 = .ok (.if_icmp .ne 16, 3) := by decide +kernel
theorem dX4_nextToken_129 : decode cX4_nextToken 129 = .ok (.aload_n 0, 1) := by decide +kernel
theorem dX4_nextToken_130 : decode cX4_nextToken 130 = .ok (.dup, 1) := by decide +kernel
theorem dX4_nextToken_131 : decode cX4_nextToken 131 = .ok (.getfield 32, 3) := by decide +kernel
theorem dX4_nextToken_134 : decode cX4_nextToken 134 = .ok (.iconst 1, 1) := by decide +kernel
theorem dX4_nextToken_135 : decode cX4_nextToken 135 = .ok (.iadd, 1) := by decide +kernel
theorem dX4_nextToken_136 : decode cX4_nextToken 136 = .ok (.putfield 32, 3) := by decide +kernel
theorem dX4_nextToken_139 : decode cX4_nextToken 139 = .ok (.goto (-55), 3) := by decide +kernel
theorem dX4_nextToken_142 : decode cX4_nextToken 142 = .ok (.return_, 1) := by decide +kernel
theorem dX4_tokenOf_0 : decode cX4_tokenOf 0 = .ok (.iload_n 0, 1) := by decide +kernel
theorem dX4_tokenOf_1 : decode cX4_tokenOf 1 = .ok (.iconst (-1), 1) := by decide +kernel
theorem dX4_tokenOf_2 : decode cX4_tokenOf 2 = .ok (.if_icmp .ne 5, 3) := by decide +kernel
theorem dX4_tokenOf_5 : decode cX4_tokenOf 5 = .ok (.iconst 0, 1) := by decide +kernel
theorem dX4_tokenOf_6 : decode cX4_tokenOf 6 = .ok (.ireturn, 1) := by decide +kernel
theorem dX4_tokenOf_7 : decode cX4_tokenOf 7 = .ok (.iload_n 0, 1) := by decide +kernel
theorem dX4_tokenOf_8 : decode cX4_tokenOf 8 = .ok (.bipush 97, 2) := by decide +kernel
theorem dX4_tokenOf_10 : decode cX4_tokenOf 10 = .ok (.if_icmp .lt 11, 3) := by decide +kernel
theorem dX4_tokenOf_13 : decode cX4_tokenOf 13 = .ok (.iload_n 0, 1) := by decide +kernel
theorem dX4_tokenOf_14 : decode cX4_tokenOf 14 = .ok (.bipush 122, 2) := by decide +kernel
theorem dX4_tokenOf_16 : decode cX4_tokenOf 16 = .ok (.if_icmp .gt 5, 3) := by decide +kernel
theorem dX4_tokenOf_19 : decode cX4_tokenOf 19 = .ok (.iconst 1, 1) := by decide +kernel
theorem dX4_tokenOf_20 : decode cX4_tokenOf 20 = .ok (.ireturn, 1) := by decide +kernel
theorem dX4_tokenOf_21 : decode cX4_tokenOf 21 = .ok (.iload_n 0, 1) := by decide +kernel
theorem dX4_tokenOf_22 : decode cX4_tokenOf 22 = .ok (.bipush 48, 2) := by decide +kernel
theorem dX4_tokenOf_24 : decode cX4_tokenOf 24 = .ok (.if_icmp .lt 11, 3) := by decide +kernel
theorem dX4_tokenOf_27 : decode cX4_tokenOf 27 = .ok (.iload_n 0, 1) := by decide +kernel
theorem dX4_tokenOf_28 : decode cX4_tokenOf 28 = .ok (.bipush 57, 2) := by decide +kernel
theorem dX4_tokenOf_30 : decode cX4_tokenOf 30 = .ok (.if_icmp .gt 5, 3) := by decide +kernel
theorem dX4_tokenOf_33 : decode cX4_tokenOf 33 = .ok (.iconst 2, 1) := by decide +kernel
theorem dX4_tokenOf_34 : decode cX4_tokenOf 34 = .ok (.ireturn, 1) := by decide +kernel
theorem dX4_tokenOf_35 : decode cX4_tokenOf 35 = .ok (.iload_n 0, 1) := by decide +kernel
theorem dX4_tokenOf_36 : decode cX4_tokenOf 36 = .ok (.bipush 59, 2) := by decide +kernel
theorem dX4_tokenOf_38 : decode cX4_tokenOf 38 = .ok (.if_icmp .ne 7, 3) := by decide +kernel
theorem dX4_tokenOf_41 : decode cX4_tokenOf 41 = .ok (.iconst 3, 1) := by decide +kernel
theorem dX4_tokenOf_42 : decode cX4_tokenOf 42 = .ok (.goto 4, 3) := by decide +kernel
theorem dX4_tokenOf_45 : decode cX4_tokenOf 45 = .ok (.iconst 4, 1) := by decide +kernel
theorem dX4_tokenOf_46 : decode cX4_tokenOf 46 = .ok (.ireturn, 1) := by decide +kernel
theorem dX4_byteAt_0 : decode cX4_byteAt 0 = .ok (.iload_n 1, 1) := by decide +kernel
theorem dX4_byteAt_1 : decode cX4_byteAt 1 = .ok (.ifCond .lt 20, 3) := by decide +kernel
theorem dX4_byteAt_4 : decode cX4_byteAt 4 = .ok (.iload_n 1, 1) := by decide +kernel
theorem dX4_byteAt_5 : decode cX4_byteAt 5 = .ok (.aload_n 0, 1) := by decide +kernel
theorem dX4_byteAt_6 : decode cX4_byteAt 6 = .ok (.getfield 15, 3) := by decide +kernel
theorem dX4_byteAt_9 : decode cX4_byteAt 9 = .ok (.if_icmp .ge 12, 3) := by decide +kernel
theorem dX4_byteAt_12 : decode cX4_byteAt 12 = .ok (.aload_n 0, 1) := by decide +kernel
theorem dX4_byteAt_13 : decode cX4_byteAt 13 = .ok (.getfield 9, 3) := by decide +kernel
theorem dX4_byteAt_16 : decode cX4_byteAt 16 = .ok (.iload_n 1, 1) := by decide +kernel
theorem dX4_byteAt_17 : decode cX4_byteAt 17 = .ok (.iaload, 1) := by decide +kernel
theorem dX4_byteAt_18 : decode cX4_byteAt 18 = .ok (.goto 4, 3) := by decide +kernel
theorem dX4_byteAt_21 : decode cX4_byteAt 21 = .ok (.iconst (-1), 1) := by decide +kernel
theorem dX4_byteAt_22 : decode cX4_byteAt 22 = .ok (.ireturn, 1) := by decide +kernel
theorem dJ6_bitCount_0f7a4_0 : decode cJ6_bitCount_0f7a4 0 = .ok (.iload_n 0, 1) := by decide +kernel
theorem dJ6_bitCount_0f7a4_1 : decode cJ6_bitCount_0f7a4 1 = .ok (.iload_n 0, 1) := by decide +kernel
theorem dJ6_bitCount_0f7a4_2 : decode cJ6_bitCount_0f7a4 2 = .ok (.iconst 1, 1) := by decide +kernel
theorem dJ6_bitCount_0f7a4_3 : decode cJ6_bitCount_0f7a4 3 = .ok (.iushr, 1) := by decide +kernel
theorem dJ6_bitCount_0f7a4_4 : decode cJ6_bitCount_0f7a4 4 = .ok (.ldc_w 265, 3) := by decide +kernel
theorem dJ6_bitCount_0f7a4_7 : decode cJ6_bitCount_0f7a4 7 = .ok (.iand, 1) := by decide +kernel
theorem dJ6_bitCount_0f7a4_8 : decode cJ6_bitCount_0f7a4 8 = .ok (.isub, 1) := by decide +kernel
theorem dJ6_bitCount_0f7a4_9 : decode cJ6_bitCount_0f7a4 9 = .ok (.istore_n 0, 1) := by decide +kernel
theorem dJ6_bitCount_0f7a4_10 : decode cJ6_bitCount_0f7a4 10 = .ok (.iload_n 0, 1) := by decide +kernel
theorem dJ6_bitCount_0f7a4_11 : decode cJ6_bitCount_0f7a4 11 = .ok (.ldc_w 266, 3) := by decide +kernel
theorem dJ6_bitCount_0f7a4_14 : decode cJ6_bitCount_0f7a4 14 = .ok (.iand, 1) := by decide +kernel
theorem dJ6_bitCount_0f7a4_15 : decode cJ6_bitCount_0f7a4 15 = .ok (.iload_n 0, 1) := by decide +kernel
theorem dJ6_bitCount_0f7a4_16 : decode cJ6_bitCount_0f7a4 16 = .ok (.iconst 2, 1) := by decide +kernel
theorem dJ6_bitCount_0f7a4_17 : decode cJ6_bitCount_0f7a4 17 = .ok (.iushr, 1) := by decide +kernel
theorem dJ6_bitCount_0f7a4_18 : decode cJ6_bitCount_0f7a4 18 = .ok (.ldc_w 266, 3) := by decide +kernel
theorem dJ6_bitCount_0f7a4_21 : decode cJ6_bitCount_0f7a4 21 = .ok (.iand, 1) := by decide +kernel
theorem dJ6_bitCount_0f7a4_22 : decode cJ6_bitCount_0f7a4 22 = .ok (.iadd, 1) := by decide +kernel
theorem dJ6_bitCount_0f7a4_23 : decode cJ6_bitCount_0f7a4 23 = .ok (.istore_n 0, 1) := by decide +kernel
theorem dJ6_bitCount_0f7a4_24 : decode cJ6_bitCount_0f7a4 24 = .ok (.iload_n 0, 1) := by decide +kernel
theorem dJ6_bitCount_0f7a4_25 : decode cJ6_bitCount_0f7a4 25 = .ok (.iload_n 0, 1) := by decide +kernel
theorem dJ6_bitCount_0f7a4_26 : decode cJ6_bitCount_0f7a4 26 = .ok (.iconst 4, 1) := by decide +kernel
theorem dJ6_bitCount_0f7a4_27 : decode cJ6_bitCount_0f7a4 27 = .ok (.iushr, 1) := by decide +kernel
theorem dJ6_bitCount_0f7a4_28 : decode cJ6_bitCount_0f7a4 28 = .ok (.iadd, 1) := by decide +kernel
theorem dJ6_bitCount_0f7a4_29 : decode cJ6_bitCount_0f7a4 29 = .ok (.ldc_w 267, 3) := by decide +kernel
theorem dJ6_bitCount_0f7a4_32 : decode cJ6_bitCount_0f7a4 32 = .ok (.iand, 1) := by decide +kernel
theorem dJ6_bitCount_0f7a4_33 : decode cJ6_bitCount_0f7a4 33 = .ok (.istore_n 0, 1) := by decide +kernel
theorem dJ6_bitCount_0f7a4_34 : decode cJ6_bitCount_0f7a4 34 = .ok (.iload_n 0, 1) := by decide +kernel
theorem dJ6_bitCount_0f7a4_35 : decode cJ6_bitCount_0f7a4 35 = .ok (.iload_n 0, 1) := by decide +kernel
theorem dJ6_bitCount_0f7a4_36 : decode cJ6_bitCount_0f7a4 36 = .ok (.bipush 8, 2) := by decide +kernel
theorem dJ6_bitCount_0f7a4_38 : decode cJ6_bitCount_0f7a4 38 = .ok (.iushr, 1) := by decide +kernel
theorem dJ6_bitCount_0f7a4_39 : decode cJ6_bitCount_0f7a4 39 = .ok (.iadd, 1) := by decide +kernel
theorem dJ6_bitCount_0f7a4_40 : decode cJ6_bitCount_0f7a4 40 = .ok (.istore_n 0, 1) := by decide +kernel
theorem dJ6_bitCount_0f7a4_41 : decode cJ6_bitCount_0f7a4 41 = .ok (.iload_n 0, 1) := by decide +kernel
theorem dJ6_bitCount_0f7a4_42 : decode cJ6_bitCount_0f7a4 42 = .ok (.iload_n 0, 1) := by decide +kernel
theorem dJ6_bitCount_0f7a4_43 : decode cJ6_bitCount_0f7a4 43 = .ok (.bipush 16, 2) := by decide +kernel
theorem dJ6_bitCount_0f7a4_45 : decode cJ6_bitCount_0f7a4 45 = .ok (.iushr, 1) := by decide +kernel
theorem dJ6_bitCount_0f7a4_46 : decode cJ6_bitCount_0f7a4 46 = .ok (.iadd, 1) := by decide +kernel
theorem dJ6_bitCount_0f7a4_47 : decode cJ6_bitCount_0f7a4 47 = .ok (.istore_n 0, 1) := by decide +kernel
theorem dJ6_bitCount_0f7a4_48 : decode cJ6_bitCount_0f7a4 48 = .ok (.iload_n 0, 1) := by decide +kernel
theorem dJ6_bitCount_0f7a4_49 : decode cJ6_bitCount_0f7a4 49 = .ok (.bipush 63, 2) := by decide +kernel
theorem dJ6_bitCount_0f7a4_51 : decode cJ6_bitCount_0f7a4 51 = .ok (.iand, 1) := by decide +kernel
theorem dJ6_bitCount_0f7a4_52 : decode cJ6_bitCount_0f7a4 52 = .ok (.ireturn, 1) := by decide +kernel
theorem dJ13_bitCount_95d88_0 : decode cJ13_bitCount_95d88 0 = .ok (.lload_n 0, 1) := by decide +kernel
theorem dJ13_bitCount_95d88_1 : decode cJ13_bitCount_95d88 1 = .ok (.lload_n 0, 1) := by decide +kernel
theorem dJ13_bitCount_95d88_2 : decode cJ13_bitCount_95d88 2 = .ok (.iconst 1, 1) := by decide +kernel
theorem dJ13_bitCount_95d88_3 : decode cJ13_bitCount_95d88 3 = .ok (.lushr, 1) := by decide +kernel
theorem dJ13_bitCount_95d88_4 : decode cJ13_bitCount_95d88 4 = .ok (.ldc2_w 314, 3) := by decide +kernel
theorem dJ13_bitCount_95d88_7 : decode cJ13_bitCount_95d88 7 = .ok (.land, 1) := by decide +kernel
theorem dJ13_bitCount_95d88_8 : decode cJ13_bitCount_95d88 8 = .ok (.lsub, 1) := by decide +kernel
theorem dJ13_bitCount_95d88_9 : decode cJ13_bitCount_95d88 9 = .ok (.lstore_n 0, 1) := by decide +kernel
theorem dJ13_bitCount_95d88_10 : decode cJ13_bitCount_95d88 10 = .ok (.lload_n 0, 1) := by decide +kernel
theorem dJ13_bitCount_95d88_11 : decode cJ13_bitCount_95d88 11 = .ok (.ldc2_w 316, 3) := by decide +kernel
theorem dJ13_bitCount_95d88_14 : decode cJ13_bitCount_95d88 14 = .ok (.land, 1) := by decide +kernel
theorem dJ13_bitCount_95d88_15 : decode cJ13_bitCount_95d88 15 = .ok (.lload_n 0, 1) := by decide +kernel
theorem dJ13_bitCount_95d88_16 : decode cJ13_bitCount_95d88 16 = .ok (.iconst 2, 1) := by decide +kernel
theorem dJ13_bitCount_95d88_17 : decode cJ13_bitCount_95d88 17 = .ok (.lushr, 1) := by decide +kernel
theorem dJ13_bitCount_95d88_18 : decode cJ13_bitCount_95d88 18 = .ok (.ldc2_w 316, 3) := by decide +kernel
theorem dJ13_bitCount_95d88_21 : decode cJ13_bitCount_95d88 21 = .ok (.land, 1) := by decide +kernel
theorem dJ13_bitCount_95d88_22 : decode cJ13_bitCount_95d88 22 = .ok (.ladd, 1) := by decide +kernel
theorem dJ13_bitCount_95d88_23 : decode cJ13_bitCount_95d88 23 = .ok (.lstore_n 0, 1) := by decide +kernel
theorem dJ13_bitCount_95d88_24 : decode cJ13_bitCount_95d88 24 = .ok (.lload_n 0, 1) := by decide +kernel
theorem dJ13_bitCount_95d88_25 : decode cJ13_bitCount_95d88 25 = .ok (.lload_n 0, 1) := by decide +kernel
theorem dJ13_bitCount_95d88_26 : decode cJ13_bitCount_95d88 26 = .ok (.iconst 4, 1) := by decide +kernel
theorem dJ13_bitCount_95d88_27 : decode cJ13_bitCount_95d88 27 = .ok (.lushr, 1) := by decide +kernel
theorem dJ13_bitCount_95d88_28 : decode cJ13_bitCount_95d88 28 = .ok (.ladd, 1) := by decide +kernel
theorem dJ13_bitCount_95d88_29 : decode cJ13_bitCount_95d88 29 = .ok (.ldc2_w 318, 3) := by decide +kernel
theorem dJ13_bitCount_95d88_32 : decode cJ13_bitCount_95d88 32 = .ok (.land, 1) := by decide +kernel
theorem dJ13_bitCount_95d88_33 : decode cJ13_bitCount_95d88 33 = .ok (.lstore_n 0, 1) := by decide +kernel
theorem dJ13_bitCount_95d88_34 : decode cJ13_bitCount_95d88 34 = .ok (.lload_n 0, 1) := by decide +kernel
theorem dJ13_bitCount_95d88_35 : decode cJ13_bitCount_95d88 35 = .ok (.lload_n 0, 1) := by decide +kernel
theorem dJ13_bitCount_95d88_36 : decode cJ13_bitCount_95d88 36 = .ok (.bipush 8, 2) := by decide +kernel
theorem dJ13_bitCount_95d88_38 : decode cJ13_bitCount_95d88 38 = .ok (.lushr, 1) := by decide +kernel
theorem dJ13_bitCount_95d88_39 : decode cJ13_bitCount_95d88 39 = .ok (.ladd, 1) := by decide +kernel
theorem dJ13_bitCount_95d88_40 : decode cJ13_bitCount_95d88 40 = .ok (.lstore_n 0, 1) := by decide +kernel
theorem dJ13_bitCount_95d88_41 : decode cJ13_bitCount_95d88 41 = .ok (.lload_n 0, 1) := by decide +kernel
theorem dJ13_bitCount_95d88_42 : decode cJ13_bitCount_95d88 42 = .ok (.lload_n 0, 1) := by decide +kernel
theorem dJ13_bitCount_95d88_43 : decode cJ13_bitCount_95d88 43 = .ok (.bipush 16, 2) := by decide +kernel
theorem dJ13_bitCount_95d88_45 : decode cJ13_bitCount_95d88 45 = .ok (.lushr, 1) := by decide +kernel
theorem dJ13_bitCount_95d88_46 : decode cJ13_bitCount_95d88 46 = .ok (.ladd, 1) := by decide +kernel
theorem dJ13_bitCount_95d88_47 : decode cJ13_bitCount_95d88 47 = .ok (.lstore_n 0, 1) := by decide +kernel
theorem dJ13_bitCount_95d88_48 : decode cJ13_bitCount_95d88 48 = .ok (.lload_n 0, 1) := by decide +kernel
theorem dJ13_bitCount_95d88_49 : decode cJ13_bitCount_95d88 49 = .ok (.lload_n 0, 1) := by decide +kernel
theorem dJ13_bitCount_95d88_50 : decode cJ13_bitCount_95d88 50 = .ok (.bipush 32, 2) := by decide +kernel
theorem dJ13_bitCount_95d88_52 : decode cJ13_bitCount_95d88 52 = .ok (.lushr, 1) := by decide +kernel
theorem dJ13_bitCount_95d88_53 : decode cJ13_bitCount_95d88 53 = .ok (.ladd, 1) := by decide +kernel
theorem dJ13_bitCount_95d88_54 : decode cJ13_bitCount_95d88 54 = .ok (.lstore_n 0, 1) := by decide +kernel
theorem dJ13_bitCount_95d88_55 : decode cJ13_bitCount_95d88 55 = .ok (.lload_n 0, 1) := by decide +kernel
theorem dJ13_bitCount_95d88_56 : decode cJ13_bitCount_95d88 56 = .ok (.l2i, 1) := by decide +kernel
theorem dJ13_bitCount_95d88_57 : decode cJ13_bitCount_95d88 57 = .ok (.bipush 127, 2) := by decide +kernel
theorem dJ13_bitCount_95d88_59 : decode cJ13_bitCount_95d88 59 = .ok (.iand, 1) := by decide +kernel
theorem dJ13_bitCount_95d88_60 : decode cJ13_bitCount_95d88 60 = .ok (.ireturn, 1) := by decide +kernel
theorem dJ9_abs_0f7a4_0 : decode cJ9_abs_0f7a4 0 = .ok (.iload_n 0, 1) := by decide +kernel
theorem dJ9_abs_0f7a4_1 : decode cJ9_abs_0f7a4 1 = .ok (.ifCond .ge 8, 3) := by decide +kernel
theorem dJ9_abs_0f7a4_4 : decode cJ9_abs_0f7a4 4 = .ok (.iload_n 0, 1) := by decide +kernel
theorem dJ9_abs_0f7a4_5 : decode cJ9_abs_0f7a4 5 = .ok (.ineg, 1) := by decide +kernel
theorem dJ9_abs_0f7a4_6 : decode cJ9_abs_0f7a4 6 = .ok (.goto 4, 3) := by decide +kernel
theorem dJ9_abs_0f7a4_9 : decode cJ9_abs_0f7a4 9 = .ok (.iload_n 0, 1) := by decide +kernel
theorem dJ9_abs_0f7a4_10 : decode cJ9_abs_0f7a4 10 = .ok (.ireturn, 1) := by decide +kernel
theorem dJ9_max_7cf53_0 : decode cJ9_max_7cf53 0 = .ok (.iload_n 0, 1) := by decide +kernel
theorem dJ9_max_7cf53_1 : decode cJ9_max_7cf53 1 = .ok (.iload_n 1, 1) := by decide +kernel
theorem dJ9_max_7cf53_2 : decode cJ9_max_7cf53 2 = .ok (.if_icmp .lt 7, 3) := by decide +kernel
theorem dJ9_max_7cf53_5 : decode cJ9_max_7cf53 5 = .ok (.iload_n 0, 1) := by decide +kernel
theorem dJ9_max_7cf53_6 : decode cJ9_max_7cf53 6 = .ok (.goto 4, 3) := by decide +kernel
theorem dJ9_max_7cf53_9 : decode cJ9_max_7cf53 9 = .ok (.iload_n 1, 1) := by decide +kernel
theorem dJ9_max_7cf53_10 : decode cJ9_max_7cf53 10 = .ok (.ireturn, 1) := by decide +kernel
theorem dJ0_length_8abf5_0 : decode cJ0_length_8abf5 0 = .ok (.aload_n 0, 1) := by decide +kernel
theorem dJ0_length_8abf5_1 : decode cJ0_length_8abf5 1 = .ok (.getfield 9, 3) := by decide +kernel
theorem dJ0_length_8abf5_4 : decode cJ0_length_8abf5 4 = .ok (.arraylength, 1) := by decide +kernel
theorem dJ0_length_8abf5_5 : decode cJ0_length_8abf5 5 = .ok (.aload_n 0, 1) := by decide +kernel
theorem dJ0_length_8abf5_6 : decode cJ0_length_8abf5 6 = .ok (.invokevirtual 335, 3) := by decide +kernel
theorem dJ0_length_8abf5_9 : decode cJ0_length_8abf5 9 = .ok (.ishr, 1) := by decide +kernel
theorem dJ0_length_8abf5_10 : decode cJ0_length_8abf5 10 = .ok (.ireturn, 1) := by decide +kernel
theorem dJ0_charAt_5068e_0 : decode cJ0_charAt_5068e 0 = .ok (.aload_n 0, 1) := by decide +kernel
theorem dJ0_charAt_5068e_1 : decode cJ0_charAt_5068e 1 = .ok (.invokevirtual 492, 3) := by decide +kernel
theorem dJ0_charAt_5068e_4 : decode cJ0_charAt_5068e 4 = .ok (.ifCond .eq 12, 3) := by decide +kernel
theorem dJ0_charAt_5068e_7 : decode cJ0_charAt_5068e 7 = .ok (.aload_n 0, 1) := by decide +kernel
theorem dJ0_charAt_5068e_8 : decode cJ0_charAt_5068e 8 = .ok (.getfield 9, 3) := by decide +kernel
theorem dJ0_charAt_5068e_11 : decode cJ0_charAt_5068e 11 = .ok (.iload_n 1, 1) := by decide +kernel
theorem dJ0_charAt_5068e_12 : decode cJ0_charAt_5068e 12 = .ok (.invokestatic 495, 3) := by decide +kernel
theorem dJ0_charAt_5068e_15 : decode cJ0_charAt_5068e 15 = .ok (.ireturn, 1) := by decide +kernel
theorem dJ0_charAt_5068e_16 : decode cJ0_charAt_5068e 16 = .ok (.aload_n 0, 1) := by decide +kernel
theorem dJ0_charAt_5068e_17 : decode cJ0_charAt_5068e 17 = .ok (.getfield 9, 3) := by decide +kernel
theorem dJ0_charAt_5068e_20 : decode cJ0_charAt_5068e 20 = .ok (.iload_n 1, 1) := by decide +kernel
theorem dJ0_charAt_5068e_21 : decode cJ0_charAt_5068e 21 = .ok (.invokestatic 498, 3) := by decide +kernel
theorem dJ0_charAt_5068e_24 : decode cJ0_charAt_5068e 24 = .ok (.ireturn, 1) := by decide +kernel
theorem dJ0_coder_7d493_0 : decode cJ0_coder_7d493 0 = .ok (.getstatic 38, 3) := by decide +kernel
theorem dJ0_coder_7d493_3 : decode cJ0_coder_7d493 3 = .ok (.ifCond .eq 10, 3) := by decide +kernel
theorem dJ0_coder_7d493_6 : decode cJ0_coder_7d493 6 = .ok (.aload_n 0, 1) := by decide +kernel
theorem dJ0_coder_7d493_7 : decode cJ0_coder_7d493 7 = .ok (.getfield 15, 3) := by decide +kernel
theorem dJ0_coder_7d493_10 : decode cJ0_coder_7d493 10 = .ok (.goto 4, 3) := by decide +kernel
theorem dJ0_coder_7d493_13 : decode cJ0_coder_7d493 13 = .ok (.iconst 1, 1) := by decide +kernel
theorem dJ0_coder_7d493_14 : decode cJ0_coder_7d493 14 = .ok (.ireturn, 1) := by decide +kernel
theorem dJ0_isLatin1_aae02_0 : decode cJ0_isLatin1_aae02 0 = .ok (.getstatic 38, 3) := by decide +kernel
theorem dJ0_isLatin1_aae02_3 : decode cJ0_isLatin1_aae02 3 = .ok (.ifCond .eq 14, 3) := by decide +kernel
theorem dJ0_isLatin1_aae02_6 : decode cJ0_isLatin1_aae02 6 = .ok (.aload_n 0, 1) := by decide +kernel
theorem dJ0_isLatin1_aae02_7 : decode cJ0_isLatin1_aae02 7 = .ok (.getfield 15, 3) := by decide +kernel
theorem dJ0_isLatin1_aae02_10 : decode cJ0_isLatin1_aae02 10 = .ok (.ifCond .ne 7, 3) := by decide +kernel
theorem dJ0_isLatin1_aae02_13 : decode cJ0_isLatin1_aae02 13 = .ok (.iconst 1, 1) := by decide +kernel
theorem dJ0_isLatin1_aae02_14 : decode cJ0_isLatin1_aae02 14 = .ok (.goto 4, 3) := by decide +kernel
theorem dJ0_isLatin1_aae02_17 : decode cJ0_isLatin1_aae02 17 = .ok (.iconst 0, 1) := by decide +kernel
theorem dJ0_isLatin1_aae02_18 : decode cJ0_isLatin1_aae02 18 = .ok (.ireturn, 1) := by decide +kernel
theorem dJ0_checkIndex_df160_0 : decode cJ0_checkIndex_df160 0 = .ok (.iload_n 0, 1) := by decide +kernel
theorem dJ0_checkIndex_df160_1 : decode cJ0_checkIndex_df160 1 = .ok (.iload_n 1, 1) := by decide +kernel
theorem dJ0_checkIndex_df160_2 : decode cJ0_checkIndex_df160 2 = .ok (.getstatic 1053, 3) := by decide +kernel
theorem dJ0_checkIndex_df160_5 : decode cJ0_checkIndex_df160 5 = .ok (.invokestatic 1059, 3) := by decide +kernel
theorem dJ0_checkIndex_df160_8 : decode cJ0_checkIndex_df160 8 = .ok (.pop, 1) := by decide +kernel
theorem dJ0_checkIndex_df160_9 : decode cJ0_checkIndex_df160 9 = .ok (.return_, 1) := by decide +kernel
theorem dJ1_charAt_3b067_0 : decode cJ1_charAt_3b067 0 = .ok (.iload_n 1, 1) := by decide +kernel
theorem dJ1_charAt_3b067_1 : decode cJ1_charAt_3b067 1 = .ok (.aload_n 0, 1) := by decide +kernel
theorem dJ1_charAt_3b067_2 : decode cJ1_charAt_3b067 2 = .ok (.arraylength, 1) := by decide +kernel
theorem dJ1_charAt_3b067_3 : decode cJ1_charAt_3b067 3 = .ok (.invokestatic 9, 3) := by decide +kernel
theorem dJ1_charAt_3b067_6 : decode cJ1_charAt_3b067 6 = .ok (.aload_n 0, 1) := by decide +kernel
theorem dJ1_charAt_3b067_7 : decode cJ1_charAt_3b067 7 = .ok (.iload_n 1, 1) := by decide +kernel
theorem dJ1_charAt_3b067_8 : decode cJ1_charAt_3b067 8 = .ok (.baload, 1) := by decide +kernel
theorem dJ1_charAt_3b067_9 : decode cJ1_charAt_3b067 9 = .ok (.sipush 255, 3) := by decide +kernel
theorem dJ1_charAt_3b067_12 : decode cJ1_charAt_3b067 12 = .ok (.iand, 1) := by decide +kernel
theorem dJ1_charAt_3b067_13 : decode cJ1_charAt_3b067 13 = .ok (.i2c, 1) := by decide +kernel
theorem dJ1_charAt_3b067_14 : decode cJ1_charAt_3b067 14 = .ok (.ireturn, 1) := by decide +kernel
theorem dJ2_getChar_3b067_0 : decode cJ2_getChar_3b067 0 = .ok (.getstatic 44, 3) := by decide +kernel
theorem dJ2_getChar_3b067_3 : decode cJ2_getChar_3b067 3 = .ok (.ifCond .ne 25, 3) := by decide +kernel
theorem dJ2_getChar_3b067_6 : decode cJ2_getChar_3b067 6 = .ok (.iload_n 1, 1) := by decide +kernel
theorem dJ2_getChar_3b067_7 : decode cJ2_getChar_3b067 7 = .ok (.ifCond .lt 11, 3) := by decide +kernel
theorem dJ2_getChar_3b067_10 : decode cJ2_getChar_3b067 10 = .ok (.iload_n 1, 1) := by decide +kernel
theorem dJ2_getChar_3b067_11 : decode cJ2_getChar_3b067 11 = .ok (.aload_n 0, 1) := by decide +kernel
theorem dJ2_getChar_3b067_12 : decode cJ2_getChar_3b067 12 = .ok (.invokestatic 48, 3) := by decide +kernel
theorem dJ2_getChar_3b067_15 : decode cJ2_getChar_3b067 15 = .ok (.if_icmp .lt 13, 3) := by decide +kernel
theorem dJ2_getChar_3b067_18 : decode cJ2_getChar_3b067 18 = .ok (.new 52, 3) := by decide +kernel
theorem dJ2_getChar_3b067_21 : decode cJ2_getChar_3b067 21 = .ok (.dup, 1) := by decide +kernel
theorem dJ2_getChar_3b067_22 : decode cJ2_getChar_3b067 22 = .ok (.ldc 54, 2) := by decide +kernel
theorem dJ2_getChar_3b067_24 : decode cJ2_getChar_3b067 24 = .ok (.invokespecial 56, 3) := by decide +kernel
theorem dJ2_getChar_3b067_27 : decode cJ2_getChar_3b067 27 = .ok (.athrow, 1) := by decide +kernel
theorem dJ2_getChar_3b067_28 : decode cJ2_getChar_3b067 28 = .ok (.iload_n 1, 1) := by decide +kernel
theorem dJ2_getChar_3b067_29 : decode cJ2_getChar_3b067 29 = .ok (.iconst 1, 1) := by decide +kernel
theorem dJ2_getChar_3b067_30 : decode cJ2_getChar_3b067 30 = .ok (.ishl, 1) := by decide +kernel
theorem dJ2_getChar_3b067_31 : decode cJ2_getChar_3b067 31 = .ok (.istore_n 1, 1) := by decide +kernel
theorem dJ2_getChar_3b067_32 : decode cJ2_getChar_3b067 32 = .ok (.aload_n 0, 1) := by decide +kernel
theorem dJ2_getChar_3b067_33 : decode cJ2_getChar_3b067 33 = .ok (.iload_n 1, 1) := by decide +kernel
theorem dJ2_getChar_3b067_34 : decode cJ2_getChar_3b067 34 = .ok (.iinc 1 1, 3) := by decide +kernel
theorem dJ2_getChar_3b067_37 : decode cJ2_getChar_3b067 37 = .ok (.baload, 1) := by decide +kernel
theorem dJ2_getChar_3b067_38 : decode cJ2_getChar_3b067 38 = .ok (.sipush 255, 3) := by decide +kernel
theorem dJ2_getChar_3b067_41 : decode cJ2_getChar_3b067 41 = .ok (.iand, 1) := by decide +kernel
theorem dJ2_getChar_3b067_42 : decode cJ2_getChar_3b067 42 = .ok (.getstatic 59, 3) := by decide +kernel
theorem dJ2_getChar_3b067_45 : decode cJ2_getChar_3b067 45 = .ok (.ishl, 1) := by decide +kernel
theorem dJ2_getChar_3b067_46 : decode cJ2_getChar_3b067 46 = .ok (.aload_n 0, 1) := by decide +kernel
theorem dJ2_getChar_3b067_47 : decode cJ2_getChar_3b067 47 = .ok (.iload_n 1, 1) := by decide +kernel
theorem dJ2_getChar_3b067_48 : decode cJ2_getChar_3b067 48 = .ok (.baload, 1) := by decide +kernel
theorem dJ2_getChar_3b067_49 : decode cJ2_getChar_3b067 49 = .ok (.sipush 255, 3) := by decide +kernel
theorem dJ2_getChar_3b067_52 : decode cJ2_getChar_3b067 52 = .ok (.iand, 1) := by decide +kernel
theorem dJ2_getChar_3b067_53 : decode cJ2_getChar_3b067 53 = .ok (.getstatic 63, 3) := by decide +kernel
theorem dJ2_getChar_3b067_56 : decode cJ2_getChar_3b067 56 = .ok (.ishl, 1) := by decide +kernel
theorem dJ2_getChar_3b067_57 : decode cJ2_getChar_3b067 57 = .ok (.ior, 1) := by decide +kernel
theorem dJ2_getChar_3b067_58 : decode cJ2_getChar_3b067 58 = .ok (.i2c, 1) := by decide +kernel
theorem dJ2_getChar_3b067_59 : decode cJ2_getChar_3b067 59 = .ok (.ireturn, 1) := by decide +kernel
theorem dJ2_length_9d52b_0 : decode cJ2_length_9d52b 0 = .ok (.aload_n 0, 1) := by decide +kernel
theorem dJ2_length_9d52b_1 : decode cJ2_length_9d52b 1 = .ok (.arraylength, 1) := by decide +kernel
theorem dJ2_length_9d52b_2 : decode cJ2_length_9d52b 2 = .ok (.iconst 1, 1) := by decide +kernel
theorem dJ2_length_9d52b_3 : decode cJ2_length_9d52b 3 = .ok (.ishr, 1) := by decide +kernel
theorem dJ2_length_9d52b_4 : decode cJ2_length_9d52b 4 = .ok (.ireturn, 1) := by decide +kernel
theorem dJ2_charAt_3b067_0 : decode cJ2_charAt_3b067 0 = .ok (.iload_n 1, 1) := by decide +kernel
theorem dJ2_charAt_3b067_1 : decode cJ2_charAt_3b067 1 = .ok (.aload_n 0, 1) := by decide +kernel
theorem dJ2_charAt_3b067_2 : decode cJ2_charAt_3b067 2 = .ok (.invokestatic 67, 3) := by decide +kernel
theorem dJ2_charAt_3b067_5 : decode cJ2_charAt_3b067 5 = .ok (.aload_n 0, 1) := by decide +kernel
theorem dJ2_charAt_3b067_6 : decode cJ2_charAt_3b067 6 = .ok (.iload_n 1, 1) := by decide +kernel
theorem dJ2_charAt_3b067_7 : decode cJ2_charAt_3b067 7 = .ok (.invokestatic 71, 3) := by decide +kernel
theorem dJ2_charAt_3b067_10 : decode cJ2_charAt_3b067 10 = .ok (.ireturn, 1) := by decide +kernel
theorem dJ2_checkIndex_2214a_0 : decode cJ2_checkIndex_2214a 0 = .ok (.iload_n 0, 1) := by decide +kernel
theorem dJ2_checkIndex_2214a_1 : decode cJ2_checkIndex_2214a 1 = .ok (.aload_n 1, 1) := by decide +kernel
theorem dJ2_checkIndex_2214a_2 : decode cJ2_checkIndex_2214a 2 = .ok (.invokestatic 48, 3) := by decide +kernel
theorem dJ2_checkIndex_2214a_5 : decode cJ2_checkIndex_2214a 5 = .ok (.invokestatic 414, 3) := by decide +kernel
theorem dJ2_checkIndex_2214a_8 : decode cJ2_checkIndex_2214a 8 = .ok (.return_, 1) := by decide +kernel
theorem dJ7_fill_d0a16_0 : decode cJ7_fill_d0a16 0 = .ok (.iconst 0, 1) := by decide +kernel
theorem dJ7_fill_d0a16_1 : decode cJ7_fill_d0a16 1 = .ok (.istore_n 3, 1) := by decide +kernel
theorem dJ7_fill_d0a16_2 : decode cJ7_fill_d0a16 2 = .ok (.aload_n 0, 1) := by decide +kernel
theorem dJ7_fill_d0a16_3 : decode cJ7_fill_d0a16 3 = .ok (.arraylength, 1) := by decide +kernel
theorem dJ7_fill_d0a16_4 : decode cJ7_fill_d0a16 4 = .ok (.istore 4, 2) := by decide +kernel
theorem dJ7_fill_d0a16_6 : decode cJ7_fill_d0a16 6 = .ok (.iload_n 3, 1) := by decide +kernel
theorem dJ7_fill_d0a16_7 : decode cJ7_fill_d0a16 7 = .ok (.iload 4, 2) := by decide +kernel
theorem dJ7_fill_d0a16_9 : decode cJ7_fill_d0a16 9 = .ok (.if_icmp .ge 13, 3) := by decide +kernel
theorem dJ7_fill_d0a16_12 : decode cJ7_fill_d0a16 12 = .ok (.aload_n 0, 1) := by decide +kernel
theorem dJ7_fill_d0a16_13 : decode cJ7_fill_d0a16 13 = .ok (.iload_n 3, 1) := by decide +kernel
theorem dJ7_fill_d0a16_14 : decode cJ7_fill_d0a16 14 = .ok (.lload_n 1, 1) := by decide +kernel
theorem dJ7_fill_d0a16_15 : decode cJ7_fill_d0a16 15 = .ok (.lastore, 1) := by decide +kernel
theorem dJ7_fill_d0a16_16 : decode cJ7_fill_d0a16 16 = .ok (.iinc 3 1, 3) := by decide +kernel
theorem dJ7_fill_d0a16_19 : decode cJ7_fill_d0a16 19 = .ok (.goto (-13), 3) := by decide +kernel
theorem dJ7_fill_d0a16_22 : decode cJ7_fill_d0a16 22 = .ok (.return_, 1) := by decide +kernel
theorem dJ7_fill_53178_0 : decode cJ7_fill_53178 0 = .ok (.iconst 0, 1) := by decide +kernel
theorem dJ7_fill_53178_1 : decode cJ7_fill_53178 1 = .ok (.istore_n 2, 1) := by decide +kernel
theorem dJ7_fill_53178_2 : decode cJ7_fill_53178 2 = .ok (.aload_n 0, 1) := by decide +kernel
theorem dJ7_fill_53178_3 : decode cJ7_fill_53178 3 = .ok (.arraylength, 1) := by decide +kernel
theorem dJ7_fill_53178_4 : decode cJ7_fill_53178 4 = .ok (.istore_n 3, 1) := by decide +kernel
theorem dJ7_fill_53178_5 : decode cJ7_fill_53178 5 = .ok (.iload_n 2, 1) := by decide +kernel
theorem dJ7_fill_53178_6 : decode cJ7_fill_53178 6 = .ok (.iload_n 3, 1) := by decide +kernel
theorem dJ7_fill_53178_7 : decode cJ7_fill_53178 7 = .ok (.if_icmp .ge 13, 3) := by decide +kernel
theorem dJ7_fill_53178_10 : decode cJ7_fill_53178 10 = .ok (.aload_n 0, 1) := by decide +kernel
theorem dJ7_fill_53178_11 : decode cJ7_fill_53178 11 = .ok (.iload_n 2, 1) := by decide +kernel
theorem dJ7_fill_53178_12 : decode cJ7_fill_53178 12 = .ok (.iload_n 1, 1) := by decide +kernel
theorem dJ7_fill_53178_13 : decode cJ7_fill_53178 13 = .ok (.iastore, 1) := by decide +kernel
theorem dJ7_fill_53178_14 : decode cJ7_fill_53178 14 = .ok (.iinc 2 1, 3) := by decide +kernel
theorem dJ7_fill_53178_17 : decode cJ7_fill_53178 17 = .ok (.goto (-12), 3) := by decide +kernel
theorem dJ7_fill_53178_20 : decode cJ7_fill_53178 20 = .ok (.return_, 1) := by decide +kernel
theorem dJ3_checkIndex_8e157_0 : decode cJ3_checkIndex_8e157 0 = .ok (.iload_n 0, 1) := by decide +kernel
theorem dJ3_checkIndex_8e157_1 : decode cJ3_checkIndex_8e157 1 = .ok (.ifCond .lt 8, 3) := by decide +kernel
theorem dJ3_checkIndex_8e157_4 : decode cJ3_checkIndex_8e157 4 = .ok (.iload_n 0, 1) := by decide +kernel
theorem dJ3_checkIndex_8e157_5 : decode cJ3_checkIndex_8e157 5 = .ok (.iload_n 1, 1) := by decide +kernel
theorem dJ3_checkIndex_8e157_6 : decode cJ3_checkIndex_8e157 6 = .ok (.if_icmp .lt 10, 3) := by decide +kernel
theorem dJ3_checkIndex_8e157_9 : decode cJ3_checkIndex_8e157 9 = .ok (.aload_n 2, 1) := by decide +kernel
theorem dJ3_checkIndex_8e157_10 : decode cJ3_checkIndex_8e157 10 = .ok (.iload_n 0, 1) := by decide +kernel
theorem dJ3_checkIndex_8e157_11 : decode cJ3_checkIndex_8e157 11 = .ok (.iload_n 1, 1) := by decide +kernel
theorem dJ3_checkIndex_8e157_12 : decode cJ3_checkIndex_8e157 12 = .ok (.invokestatic 95, 3) := by decide +kernel
theorem dJ3_checkIndex_8e157_15 : decode cJ3_checkIndex_8e157 15 = .ok (.athrow, 1) := by decide +kernel
theorem dJ3_checkIndex_8e157_16 : decode cJ3_checkIndex_8e157 16 = .ok (.iload_n 0, 1) := by decide +kernel
theorem dJ3_checkIndex_8e157_17 : decode cJ3_checkIndex_8e157 17 = .ok (.ireturn, 1) := by decide +kernel
