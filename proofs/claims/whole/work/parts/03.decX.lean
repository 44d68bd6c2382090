theorem d_X_init_0 : decode b_X_init 0 = .ok (.aload_n 0, 1) := by decide +kernel
theorem d_X_init_1 : decode b_X_init 1 = .ok (.invokespecial 1, 3) := by decide +kernel
theorem d_X_init_4 : decode b_X_init 4 = .ok (.aload_n 0, 1) := by decide +kernel
theorem d_X_init_5 : decode b_X_init 5 = .ok (.bipush 60, 2) := by decide +kernel
theorem d_X_init_7 : decode b_X_init 7 = .ok (.newarray .long, 2) := by decide +kernel
theorem d_X_init_9 : decode b_X_init 9 = .ok (.putfield 9, 3) := by decide +kernel
theorem d_X_init_12 : decode b_X_init 12 = .ok (.aload_n 0, 1) := by decide +kernel
theorem d_X_init_13 : decode b_X_init 13 = .ok (.bipush 60, 2) := by decide +kernel
theorem d_X_init_15 : decode b_X_init 15 = .ok (.newarray .long, 2) := by decide +kernel
theorem d_X_init_17 : decode b_X_init 17 = .ok (.putfield 13, 3) := by decide +kernel
theorem d_X_init_20 : decode b_X_init 20 = .ok (.aload_n 0, 1) := by decide +kernel
theorem d_X_init_21 : decode b_X_init 21 = .ok (.bipush 60, 2) := by decide +kernel
theorem d_X_init_23 : decode b_X_init 23 = .ok (.newarray .long, 2) := by decide +kernel
theorem d_X_init_25 : decode b_X_init 25 = .ok (.putfield 16, 3) := by decide +kernel
theorem d_X_init_28 : decode b_X_init 28 = .ok (.aload_n 0, 1) := by decide +kernel
theorem d_X_init_29 : decode b_X_init 29 = .ok (.bipush 60, 2) := by decide +kernel
theorem d_X_init_31 : decode b_X_init 31 = .ok (.newarray .boolean, 2) := by decide +kernel
theorem d_X_init_33 : decode b_X_init 33 = .ok (.putfield 19, 3) := by decide +kernel
theorem d_X_init_36 : decode b_X_init 36 = .ok (.aload_n 0, 1) := by decide +kernel
theorem d_X_init_37 : decode b_X_init 37 = .ok (.iconst 0, 1) := by decide +kernel
theorem d_X_init_38 : decode b_X_init 38 = .ok (.putfield 23, 3) := by decide +kernel
theorem d_X_init_41 : decode b_X_init 41 = .ok (.aload_n 0, 1) := by decide +kernel
theorem d_X_init_42 : decode b_X_init 42 = .ok (.bipush 60, 2) := by decide +kernel
theorem d_X_init_44 : decode b_X_init 44 = .ok (.newarray .long, 2) := by decide +kernel
theorem d_X_init_46 : decode b_X_init 46 = .ok (.putfield 27, 3) := by decide +kernel
theorem d_X_init_49 : decode b_X_init 49 = .ok (.aload_n 0, 1) := by decide +kernel
theorem d_X_init_50 : decode b_X_init 50 = .ok (.iconst 0, 1) := by decide +kernel
theorem d_X_init_51 : decode b_X_init 51 = .ok (.putfield 30, 3) := by decide +kernel
theorem d_X_init_54 : decode b_X_init 54 = .ok (.aload_n 0, 1) := by decide +kernel
theorem d_X_init_55 : decode b_X_init 55 = .ok (.bipush 10, 2) := by decide +kernel
theorem d_X_init_57 : decode b_X_init 57 = .ok (.newarray .long, 2) := by decide +kernel
theorem d_X_init_59 : decode b_X_init 59 = .ok (.putfield 33, 3) := by decide +kernel
theorem d_X_init_62 : decode b_X_init 62 = .ok (.aload_n 0, 1) := by decide +kernel
theorem d_X_init_63 : decode b_X_init 63 = .ok (.bipush 10, 2) := by decide +kernel
theorem d_X_init_65 : decode b_X_init 65 = .ok (.newarray .long, 2) := by decide +kernel
theorem d_X_init_67 : decode b_X_init 67 = .ok (.putfield 36, 3) := by decide +kernel
theorem d_X_init_70 : decode b_X_init 70 = .ok (.aload_n 0, 1) := by decide +kernel
theorem d_X_init_71 : decode b_X_init 71 = .ok (.iconst 0, 1) := by decide +kernel
theorem d_X_init_72 : decode b_X_init 72 = .ok (.putfield 39, 3) := by decide +kernel
theorem d_X_init_75 : decode b_X_init 75 = .ok (.aload_n 0, 1) := by decide +kernel
theorem d_X_init_76 : decode b_X_init 76 = .ok (.iconst 4, 1) := by decide +kernel
theorem d_X_init_77 : decode b_X_init 77 = .ok (.newarray .int, 2) := by decide +kernel
theorem d_X_init_79 : decode b_X_init 79 = .ok (.putfield 42, 3) := by decide +kernel
theorem d_X_init_82 : decode b_X_init 82 = .ok (.aload_n 0, 1) := by decide +kernel
theorem d_X_init_83 : decode b_X_init 83 = .ok (.iconst 0, 1) := by decide +kernel
theorem d_X_init_84 : decode b_X_init 84 = .ok (.putfield 46, 3) := by decide +kernel
theorem d_X_init_87 : decode b_X_init 87 = .ok (.aload_n 0, 1) := by decide +kernel
theorem d_X_init_88 : decode b_X_init 88 = .ok (.new 49, 3) := by decide +kernel
theorem d_X_init_91 : decode b_X_init 91 = .ok (.dup, 1) := by decide +kernel
theorem d_X_init_92 : decode b_X_init 92 = .ok (.invokespecial 51, 3) := by decide +kernel
theorem d_X_init_95 : decode b_X_init 95 = .ok (.putfield 52, 3) := by decide +kernel
theorem d_X_init_98 : decode b_X_init 98 = .ok (.aload_n 0, 1) := by decide +kernel
theorem d_X_init_99 : decode b_X_init 99 = .ok (.new 56, 3) := by decide +kernel
theorem d_X_init_102 : decode b_X_init 102 = .ok (.dup, 1) := by decide +kernel
theorem d_X_init_103 : decode b_X_init 103 = .ok (.invokespecial 58, 3) := by decide +kernel
theorem d_X_init_106 : decode b_X_init 106 = .ok (.putfield 59, 3) := by decide +kernel
theorem d_X_init_109 : decode b_X_init 109 = .ok (.return_, 1) := by decide +kernel
theorem d_X_lot_0 : decode b_X_lot 0 = .ok (.lload_n 3, 1) := by decide +kernel
theorem d_X_lot_1 : decode b_X_lot 1 = .ok (.lload 5, 2) := by decide +kernel
theorem d_X_lot_3 : decode b_X_lot 3 = .ok (.invokestatic 63, 3) := by decide +kernel
theorem d_X_lot_6 : decode b_X_lot 6 = .ok (.lstore 7, 2) := by decide +kernel
theorem d_X_lot_8 : decode b_X_lot 8 = .ok (.lload_n 1, 1) := by decide +kernel
theorem d_X_lot_9 : decode b_X_lot 9 = .ok (.lconst 1, 1) := by decide +kernel
theorem d_X_lot_10 : decode b_X_lot 10 = .ok (.ldc2_w 67, 3) := by decide +kernel
theorem d_X_lot_13 : decode b_X_lot 13 = .ok (.invokestatic 69, 3) := by decide +kernel
theorem d_X_lot_16 : decode b_X_lot 16 = .ok (.ifCond .eq 12, 3) := by decide +kernel
theorem d_X_lot_19 : decode b_X_lot 19 = .ok (.lload 7, 2) := by decide +kernel
theorem d_X_lot_21 : decode b_X_lot 21 = .ok (.ldc2_w 73, 3) := by decide +kernel
theorem d_X_lot_24 : decode b_X_lot 24 = .ok (.lcmp, 1) := by decide +kernel
theorem d_X_lot_25 : decode b_X_lot 25 = .ok (.ifCond .ne 5, 3) := by decide +kernel
theorem d_X_lot_28 : decode b_X_lot 28 = .ok (.iconst (-1), 1) := by decide +kernel
theorem d_X_lot_29 : decode b_X_lot 29 = .ok (.ireturn, 1) := by decide +kernel
theorem d_X_lot_30 : decode b_X_lot 30 = .ok (.aload_n 0, 1) := by decide +kernel
theorem d_X_lot_31 : decode b_X_lot 31 = .ok (.getfield 23, 3) := by decide +kernel
theorem d_X_lot_34 : decode b_X_lot 34 = .ok (.bipush 60, 2) := by decide +kernel
theorem d_X_lot_36 : decode b_X_lot 36 = .ok (.if_icmp .lt 6, 3) := by decide +kernel
theorem d_X_lot_39 : decode b_X_lot 39 = .ok (.bipush (-2), 2) := by decide +kernel
theorem d_X_lot_41 : decode b_X_lot 41 = .ok (.ireturn, 1) := by decide +kernel
theorem d_X_lot_42 : decode b_X_lot 42 = .ok (.aload_n 0, 1) := by decide +kernel
theorem d_X_lot_43 : decode b_X_lot 43 = .ok (.lload_n 1, 1) := by decide +kernel
theorem d_X_lot_44 : decode b_X_lot 44 = .ok (.lload 7, 2) := by decide +kernel
theorem d_X_lot_46 : decode b_X_lot 46 = .ok (.lconst 0, 1) := by decide +kernel
theorem d_X_lot_47 : decode b_X_lot 47 = .ok (.invokevirtual 75, 3) := by decide +kernel
theorem d_X_lot_50 : decode b_X_lot 50 = .ok (.ireturn, 1) := by decide +kernel
theorem d_X_wholeParts_0 : decode b_X_wholeParts 0 = .ok (.lload_n 2, 1) := by decide +kernel
theorem d_X_wholeParts_1 : decode b_X_wholeParts 1 = .ok (.lconst 1, 1) := by decide +kernel
theorem d_X_wholeParts_2 : decode b_X_wholeParts 2 = .ok (.ldc2_w 83, 3) := by decide +kernel
theorem d_X_wholeParts_5 : decode b_X_wholeParts 5 = .ok (.invokestatic 69, 3) := by decide +kernel
theorem d_X_wholeParts_8 : decode b_X_wholeParts 8 = .ok (.ifCond .eq 12, 3) := by decide +kernel
theorem d_X_wholeParts_11 : decode b_X_wholeParts 11 = .ok (.lload_n 0, 1) := by decide +kernel
theorem d_X_wholeParts_12 : decode b_X_wholeParts 12 = .ok (.lconst 0, 1) := by decide +kernel
theorem d_X_wholeParts_13 : decode b_X_wholeParts 13 = .ok (.lload_n 2, 1) := by decide +kernel
theorem d_X_wholeParts_14 : decode b_X_wholeParts 14 = .ok (.invokestatic 69, 3) := by decide +kernel
theorem d_X_wholeParts_17 : decode b_X_wholeParts 17 = .ok (.ifCond .ne 7, 3) := by decide +kernel
theorem d_X_wholeParts_20 : decode b_X_wholeParts 20 = .ok (.ldc2_w 73, 3) := by decide +kernel
theorem d_X_wholeParts_23 : decode b_X_wholeParts 23 = .ok (.lreturn, 1) := by decide +kernel
theorem d_X_wholeParts_24 : decode b_X_wholeParts 24 = .ok (.lload_n 0, 1) := by decide +kernel
theorem d_X_wholeParts_25 : decode b_X_wholeParts 25 = .ok (.ldc2_w 83, 3) := by decide +kernel
theorem d_X_wholeParts_28 : decode b_X_wholeParts 28 = .ok (.lmul, 1) := by decide +kernel
theorem d_X_wholeParts_29 : decode b_X_wholeParts 29 = .ok (.lstore 4, 2) := by decide +kernel
theorem d_X_wholeParts_31 : decode b_X_wholeParts 31 = .ok (.lload 4, 2) := by decide +kernel
theorem d_X_wholeParts_33 : decode b_X_wholeParts 33 = .ok (.lload_n 2, 1) := by decide +kernel
theorem d_X_wholeParts_34 : decode b_X_wholeParts 34 = .ok (.lrem, 1) := by decide +kernel
theorem d_X_wholeParts_35 : decode b_X_wholeParts 35 = .ok (.lconst 0, 1) := by decide +kernel
theorem d_X_wholeParts_36 : decode b_X_wholeParts 36 = .ok (.lcmp, 1) := by decide +kernel
theorem d_X_wholeParts_37 : decode b_X_wholeParts 37 = .ok (.ifCond .ne 10, 3) := by decide +kernel
theorem d_X_wholeParts_40 : decode b_X_wholeParts 40 = .ok (.lload 4, 2) := by decide +kernel
theorem d_X_wholeParts_42 : decode b_X_wholeParts 42 = .ok (.lload_n 2, 1) := by decide +kernel
theorem d_X_wholeParts_43 : decode b_X_wholeParts 43 = .ok (.ldiv, 1) := by decide +kernel
theorem d_X_wholeParts_44 : decode b_X_wholeParts 44 = .ok (.goto 6, 3) := by decide +kernel
theorem d_X_wholeParts_47 : decode b_X_wholeParts 47 = .ok (.ldc2_w 73, 3) := by decide +kernel
theorem d_X_wholeParts_50 : decode b_X_wholeParts 50 = .ok (.lreturn, 1) := by decide +kernel
theorem d_X_isWithin_0 : decode b_X_isWithin 0 = .ok (.lload_n 0, 1) := by decide +kernel
theorem d_X_isWithin_1 : decode b_X_isWithin 1 = .ok (.lload_n 2, 1) := by decide +kernel
theorem d_X_isWithin_2 : decode b_X_isWithin 2 = .ok (.lcmp, 1) := by decide +kernel
theorem d_X_isWithin_3 : decode b_X_isWithin 3 = .ok (.ifCond .lt 14, 3) := by decide +kernel
theorem d_X_isWithin_6 : decode b_X_isWithin 6 = .ok (.lload_n 0, 1) := by decide +kernel
theorem d_X_isWithin_7 : decode b_X_isWithin 7 = .ok (.lload 4, 2) := by decide +kernel
theorem d_X_isWithin_9 : decode b_X_isWithin 9 = .ok (.lcmp, 1) := by decide +kernel
theorem d_X_isWithin_10 : decode b_X_isWithin 10 = .ok (.ifCond .gt 7, 3) := by decide +kernel
theorem d_X_isWithin_13 : decode b_X_isWithin 13 = .ok (.iconst 1, 1) := by decide +kernel
theorem d_X_isWithin_14 : decode b_X_isWithin 14 = .ok (.goto 4, 3) := by decide +kernel
theorem d_X_isWithin_17 : decode b_X_isWithin 17 = .ok (.iconst 0, 1) := by decide +kernel
theorem d_X_isWithin_18 : decode b_X_isWithin 18 = .ok (.ireturn, 1) := by decide +kernel
theorem d_X_addLot_0 : decode b_X_addLot 0 = .ok (.aload_n 0, 1) := by decide +kernel
theorem d_X_addLot_1 : decode b_X_addLot 1 = .ok (.getfield 23, 3) := by decide +kernel
theorem d_X_addLot_4 : decode b_X_addLot 4 = .ok (.istore 7, 2) := by decide +kernel
theorem d_X_addLot_6 : decode b_X_addLot 6 = .ok (.aload_n 0, 1) := by decide +kernel
theorem d_X_addLot_7 : decode b_X_addLot 7 = .ok (.getfield 9, 3) := by decide +kernel
theorem d_X_addLot_10 : decode b_X_addLot 10 = .ok (.iload 7, 2) := by decide +kernel
theorem d_X_addLot_12 : decode b_X_addLot 12 = .ok (.lload_n 1, 1) := by decide +kernel
theorem d_X_addLot_13 : decode b_X_addLot 13 = .ok (.lastore, 1) := by decide +kernel
theorem d_X_addLot_14 : decode b_X_addLot 14 = .ok (.aload_n 0, 1) := by decide +kernel
theorem d_X_addLot_15 : decode b_X_addLot 15 = .ok (.getfield 13, 3) := by decide +kernel
theorem d_X_addLot_18 : decode b_X_addLot 18 = .ok (.iload 7, 2) := by decide +kernel
theorem d_X_addLot_20 : decode b_X_addLot 20 = .ok (.lload_n 3, 1) := by decide +kernel
theorem d_X_addLot_21 : decode b_X_addLot 21 = .ok (.lastore, 1) := by decide +kernel
theorem d_X_addLot_22 : decode b_X_addLot 22 = .ok (.aload_n 0, 1) := by decide +kernel
theorem d_X_addLot_23 : decode b_X_addLot 23 = .ok (.getfield 16, 3) := by decide +kernel
theorem d_X_addLot_26 : decode b_X_addLot 26 = .ok (.iload 7, 2) := by decide +kernel
theorem d_X_addLot_28 : decode b_X_addLot 28 = .ok (.lload 5, 2) := by decide +kernel
theorem d_X_addLot_30 : decode b_X_addLot 30 = .ok (.lastore, 1) := by decide +kernel
theorem d_X_addLot_31 : decode b_X_addLot 31 = .ok (.aload_n 0, 1) := by decide +kernel
theorem d_X_addLot_32 : decode b_X_addLot 32 = .ok (.dup, 1) := by decide +kernel
theorem d_X_addLot_33 : decode b_X_addLot 33 = .ok (.getfield 23, 3) := by decide +kernel
theorem d_X_addLot_36 : decode b_X_addLot 36 = .ok (.iconst 1, 1) := by decide +kernel
theorem d_X_addLot_37 : decode b_X_addLot 37 = .ok (.iadd, 1) := by decide +kernel
theorem d_X_addLot_38 : decode b_X_addLot 38 = .ok (.putfield 23, 3) := by decide +kernel
theorem d_X_addLot_41 : decode b_X_addLot 41 = .ok (.iload 7, 2) := by decide +kernel
theorem d_X_addLot_43 : decode b_X_addLot 43 = .ok (.ireturn, 1) := by decide +kernel
theorem d_X_solids_0 : decode b_X_solids 0 = .ok (.lload_n 2, 1) := by decide +kernel
theorem d_X_solids_1 : decode b_X_solids 1 = .ok (.lload 4, 2) := by decide +kernel
theorem d_X_solids_3 : decode b_X_solids 3 = .ok (.invokestatic 63, 3) := by decide +kernel
theorem d_X_solids_6 : decode b_X_solids 6 = .ok (.lstore 6, 2) := by decide +kernel
theorem d_X_solids_8 : decode b_X_solids 8 = .ok (.aload_n 0, 1) := by decide +kernel
theorem d_X_solids_9 : decode b_X_solids 9 = .ok (.iload_n 1, 1) := by decide +kernel
theorem d_X_solids_10 : decode b_X_solids 10 = .ok (.invokevirtual 79, 3) := by decide +kernel
theorem d_X_solids_13 : decode b_X_solids 13 = .ok (.ifCond .eq 28, 3) := by decide +kernel
theorem d_X_solids_16 : decode b_X_solids 16 = .ok (.lload 6, 2) := by decide +kernel
theorem d_X_solids_18 : decode b_X_solids 18 = .ok (.ldc2_w 73, 3) := by decide +kernel
theorem d_X_solids_21 : decode b_X_solids 21 = .ok (.lcmp, 1) := by decide +kernel
theorem d_X_solids_22 : decode b_X_solids 22 = .ok (.ifCond .eq 19, 3) := by decide +kernel
theorem d_X_solids_25 : decode b_X_solids 25 = .ok (.aload_n 0, 1) := by decide +kernel
theorem d_X_solids_26 : decode b_X_solids 26 = .ok (.getfield 13, 3) := by decide +kernel
theorem d_X_solids_29 : decode b_X_solids 29 = .ok (.iload_n 1, 1) := by decide +kernel
theorem d_X_solids_30 : decode b_X_solids 30 = .ok (.laload, 1) := by decide +kernel
theorem d_X_solids_31 : decode b_X_solids 31 = .ok (.lload 6, 2) := by decide +kernel
theorem d_X_solids_33 : decode b_X_solids 33 = .ok (.ladd, 1) := by decide +kernel
theorem d_X_solids_34 : decode b_X_solids 34 = .ok (.ldc2_w 83, 3) := by decide +kernel
theorem d_X_solids_37 : decode b_X_solids 37 = .ok (.lcmp, 1) := by decide +kernel
theorem d_X_solids_38 : decode b_X_solids 38 = .ok (.ifCond .le 5, 3) := by decide +kernel
theorem d_X_solids_41 : decode b_X_solids 41 = .ok (.iconst 0, 1) := by decide +kernel
theorem d_X_solids_42 : decode b_X_solids 42 = .ok (.ireturn, 1) := by decide +kernel
theorem d_X_solids_43 : decode b_X_solids 43 = .ok (.aload_n 0, 1) := by decide +kernel
theorem d_X_solids_44 : decode b_X_solids 44 = .ok (.getfield 16, 3) := by decide +kernel
theorem d_X_solids_47 : decode b_X_solids 47 = .ok (.iload_n 1, 1) := by decide +kernel
theorem d_X_solids_48 : decode b_X_solids 48 = .ok (.lload 6, 2) := by decide +kernel
theorem d_X_solids_50 : decode b_X_solids 50 = .ok (.lastore, 1) := by decide +kernel
theorem d_X_solids_51 : decode b_X_solids 51 = .ok (.iconst 1, 1) := by decide +kernel
theorem d_X_solids_52 : decode b_X_solids 52 = .ok (.ireturn, 1) := by decide +kernel
theorem d_X_isUnseparated_0 : decode b_X_isUnseparated 0 = .ok (.aload_n 0, 1) := by decide +kernel
theorem d_X_isUnseparated_1 : decode b_X_isUnseparated 1 = .ok (.iload_n 1, 1) := by decide +kernel
theorem d_X_isUnseparated_2 : decode b_X_isUnseparated 2 = .ok (.invokevirtual 112, 3) := by decide +kernel
theorem d_X_isUnseparated_5 : decode b_X_isUnseparated 5 = .ok (.ifCond .eq 16, 3) := by decide +kernel
theorem d_X_isUnseparated_8 : decode b_X_isUnseparated 8 = .ok (.aload_n 0, 1) := by decide +kernel
theorem d_X_isUnseparated_9 : decode b_X_isUnseparated 9 = .ok (.getfield 19, 3) := by decide +kernel
theorem d_X_isUnseparated_12 : decode b_X_isUnseparated 12 = .ok (.iload_n 1, 1) := by decide +kernel
theorem d_X_isUnseparated_13 : decode b_X_isUnseparated 13 = .ok (.baload, 1) := by decide +kernel
theorem d_X_isUnseparated_14 : decode b_X_isUnseparated 14 = .ok (.ifCond .ne 7, 3) := by decide +kernel
theorem d_X_isUnseparated_17 : decode b_X_isUnseparated 17 = .ok (.iconst 1, 1) := by decide +kernel
theorem d_X_isUnseparated_18 : decode b_X_isUnseparated 18 = .ok (.goto 4, 3) := by decide +kernel
theorem d_X_isUnseparated_21 : decode b_X_isUnseparated 21 = .ok (.iconst 0, 1) := by decide +kernel
theorem d_X_isUnseparated_22 : decode b_X_isUnseparated 22 = .ok (.ireturn, 1) := by decide +kernel
theorem d_X_isLot_0 : decode b_X_isLot 0 = .ok (.iload_n 1, 1) := by decide +kernel
theorem d_X_isLot_1 : decode b_X_isLot 1 = .ok (.ifCond .lt 15, 3) := by decide +kernel
theorem d_X_isLot_4 : decode b_X_isLot 4 = .ok (.iload_n 1, 1) := by decide +kernel
theorem d_X_isLot_5 : decode b_X_isLot 5 = .ok (.aload_n 0, 1) := by decide +kernel
theorem d_X_isLot_6 : decode b_X_isLot 6 = .ok (.getfield 23, 3) := by decide +kernel
theorem d_X_isLot_9 : decode b_X_isLot 9 = .ok (.if_icmp .ge 7, 3) := by decide +kernel
theorem d_X_isLot_12 : decode b_X_isLot 12 = .ok (.iconst 1, 1) := by decide +kernel
theorem d_X_isLot_13 : decode b_X_isLot 13 = .ok (.goto 4, 3) := by decide +kernel
theorem d_X_isLot_16 : decode b_X_isLot 16 = .ok (.iconst 0, 1) := by decide +kernel
theorem d_X_isLot_17 : decode b_X_isLot 17 = .ok (.ireturn, 1) := by decide +kernel
theorem d_X_separate_0 : decode b_X_separate 0 = .ok (.lload_n 2, 1) := by decide +kernel
theorem d_X_separate_1 : decode b_X_separate 1 = .ok (.lload 4, 2) := by decide +kernel
theorem d_X_separate_3 : decode b_X_separate 3 = .ok (.invokestatic 63, 3) := by decide +kernel
theorem d_X_separate_6 : decode b_X_separate 6 = .ok (.lstore 6, 2) := by decide +kernel
theorem d_X_separate_8 : decode b_X_separate 8 = .ok (.aload_n 0, 1) := by decide +kernel
theorem d_X_separate_9 : decode b_X_separate 9 = .ok (.iload_n 1, 1) := by decide +kernel
theorem d_X_separate_10 : decode b_X_separate 10 = .ok (.invokevirtual 79, 3) := by decide +kernel
theorem d_X_separate_13 : decode b_X_separate 13 = .ok (.ifCond .eq 23, 3) := by decide +kernel
theorem d_X_separate_16 : decode b_X_separate 16 = .ok (.aload_n 0, 1) := by decide +kernel
theorem d_X_separate_17 : decode b_X_separate 17 = .ok (.getfield 9, 3) := by decide +kernel
theorem d_X_separate_20 : decode b_X_separate 20 = .ok (.iload_n 1, 1) := by decide +kernel
theorem d_X_separate_21 : decode b_X_separate 21 = .ok (.laload, 1) := by decide +kernel
theorem d_X_separate_22 : decode b_X_separate 22 = .ok (.lconst 0, 1) := by decide +kernel
theorem d_X_separate_23 : decode b_X_separate 23 = .ok (.lcmp, 1) := by decide +kernel
theorem d_X_separate_24 : decode b_X_separate 24 = .ok (.ifCond .eq 12, 3) := by decide +kernel
theorem d_X_separate_27 : decode b_X_separate 27 = .ok (.lload 6, 2) := by decide +kernel
theorem d_X_separate_29 : decode b_X_separate 29 = .ok (.ldc2_w 73, 3) := by decide +kernel
theorem d_X_separate_32 : decode b_X_separate 32 = .ok (.lcmp, 1) := by decide +kernel
theorem d_X_separate_33 : decode b_X_separate 33 = .ok (.ifCond .ne 5, 3) := by decide +kernel
theorem d_X_separate_36 : decode b_X_separate 36 = .ok (.iconst (-1), 1) := by decide +kernel
theorem d_X_separate_37 : decode b_X_separate 37 = .ok (.ireturn, 1) := by decide +kernel
theorem d_X_separate_38 : decode b_X_separate 38 = .ok (.aload_n 0, 1) := by decide +kernel
theorem d_X_separate_39 : decode b_X_separate 39 = .ok (.getfield 52, 3) := by decide +kernel
theorem d_X_separate_42 : decode b_X_separate 42 = .ok (.aload_n 0, 1) := by decide +kernel
theorem d_X_separate_43 : decode b_X_separate 43 = .ok (.getfield 9, 3) := by decide +kernel
theorem d_X_separate_46 : decode b_X_separate 46 = .ok (.iload_n 1, 1) := by decide +kernel
theorem d_X_separate_47 : decode b_X_separate 47 = .ok (.laload, 1) := by decide +kernel
theorem d_X_separate_48 : decode b_X_separate 48 = .ok (.invokevirtual 85, 3) := by decide +kernel
theorem d_X_separate_51 : decode b_X_separate 51 = .ok (.lstore 8, 2) := by decide +kernel
theorem d_X_separate_53 : decode b_X_separate 53 = .ok (.lload 8, 2) := by decide +kernel
theorem d_X_separate_55 : decode b_X_separate 55 = .ok (.aload_n 0, 1) := by decide +kernel
theorem d_X_separate_56 : decode b_X_separate 56 = .ok (.getfield 13, 3) := by decide +kernel
theorem d_X_separate_59 : decode b_X_separate 59 = .ok (.iload_n 1, 1) := by decide +kernel
theorem d_X_separate_60 : decode b_X_separate 60 = .ok (.laload, 1) := by decide +kernel
theorem d_X_separate_61 : decode b_X_separate 61 = .ok (.lcmp, 1) := by decide +kernel
theorem d_X_separate_62 : decode b_X_separate 62 = .ok (.ifCond .ge 15, 3) := by decide +kernel
theorem d_X_separate_65 : decode b_X_separate 65 = .ok (.aload_n 0, 1) := by decide +kernel
theorem d_X_separate_66 : decode b_X_separate 66 = .ok (.getfield 13, 3) := by decide +kernel
theorem d_X_separate_69 : decode b_X_separate 69 = .ok (.iload_n 1, 1) := by decide +kernel
theorem d_X_separate_70 : decode b_X_separate 70 = .ok (.laload, 1) := by decide +kernel
theorem d_X_separate_71 : decode b_X_separate 71 = .ok (.lload 6, 2) := by decide +kernel
theorem d_X_separate_73 : decode b_X_separate 73 = .ok (.lcmp, 1) := by decide +kernel
theorem d_X_separate_74 : decode b_X_separate 74 = .ok (.ifCond .lt 5, 3) := by decide +kernel
theorem d_X_separate_77 : decode b_X_separate 77 = .ok (.iconst (-1), 1) := by decide +kernel
theorem d_X_separate_78 : decode b_X_separate 78 = .ok (.ireturn, 1) := by decide +kernel
theorem d_X_separate_79 : decode b_X_separate 79 = .ok (.aload_n 0, 1) := by decide +kernel
theorem d_X_separate_80 : decode b_X_separate 80 = .ok (.getfield 23, 3) := by decide +kernel
theorem d_X_separate_83 : decode b_X_separate 83 = .ok (.iconst 2, 1) := by decide +kernel
theorem d_X_separate_84 : decode b_X_separate 84 = .ok (.iadd, 1) := by decide +kernel
theorem d_X_separate_85 : decode b_X_separate 85 = .ok (.bipush 60, 2) := by decide +kernel
theorem d_X_separate_87 : decode b_X_separate 87 = .ok (.if_icmp .gt 12, 3) := by decide +kernel
theorem d_X_separate_90 : decode b_X_separate 90 = .ok (.aload_n 0, 1) := by decide +kernel
theorem d_X_separate_91 : decode b_X_separate 91 = .ok (.getfield 30, 3) := by decide +kernel
theorem d_X_separate_94 : decode b_X_separate 94 = .ok (.bipush 60, 2) := by decide +kernel
theorem d_X_separate_96 : decode b_X_separate 96 = .ok (.if_icmp .lt 6, 3) := by decide +kernel
theorem d_X_separate_99 : decode b_X_separate 99 = .ok (.bipush (-2), 2) := by decide +kernel
theorem d_X_separate_101 : decode b_X_separate 101 = .ok (.ireturn, 1) := by decide +kernel
theorem d_X_separate_102 : decode b_X_separate 102 = .ok (.aload_n 0, 1) := by decide +kernel
theorem d_X_separate_103 : decode b_X_separate 103 = .ok (.iload_n 1, 1) := by decide +kernel
theorem d_X_separate_104 : decode b_X_separate 104 = .ok (.lload 6, 2) := by decide +kernel
theorem d_X_separate_106 : decode b_X_separate 106 = .ok (.lload 8, 2) := by decide +kernel
theorem d_X_separate_108 : decode b_X_separate 108 = .ok (.invokevirtual 89, 3) := by decide +kernel
theorem d_X_separate_111 : decode b_X_separate 111 = .ok (.ireturn, 1) := by decide +kernel
theorem d_X_split_0 : decode b_X_split 0 = .ok (.aload_n 0, 1) := by decide +kernel
theorem d_X_split_1 : decode b_X_split 1 = .ok (.getfield 9, 3) := by decide +kernel
theorem d_X_split_4 : decode b_X_split 4 = .ok (.iload_n 1, 1) := by decide +kernel
theorem d_X_split_5 : decode b_X_split 5 = .ok (.laload, 1) := by decide +kernel
theorem d_X_split_6 : decode b_X_split 6 = .ok (.lstore 6, 2) := by decide +kernel
theorem d_X_split_8 : decode b_X_split 8 = .ok (.aload_n 0, 1) := by decide +kernel
theorem d_X_split_9 : decode b_X_split 9 = .ok (.getfield 13, 3) := by decide +kernel
theorem d_X_split_12 : decode b_X_split 12 = .ok (.iload_n 1, 1) := by decide +kernel
theorem d_X_split_13 : decode b_X_split 13 = .ok (.laload, 1) := by decide +kernel
theorem d_X_split_14 : decode b_X_split 14 = .ok (.lstore 8, 2) := by decide +kernel
theorem d_X_split_16 : decode b_X_split 16 = .ok (.lload 6, 2) := by decide +kernel
theorem d_X_split_18 : decode b_X_split 18 = .ok (.lload 8, 2) := by decide +kernel
theorem d_X_split_20 : decode b_X_split 20 = .ok (.lload 4, 2) := by decide +kernel
theorem d_X_split_22 : decode b_X_split 22 = .ok (.lsub, 1) := by decide +kernel
theorem d_X_split_23 : decode b_X_split 23 = .ok (.lmul, 1) := by decide +kernel
theorem d_X_split_24 : decode b_X_split 24 = .ok (.lload_n 2, 1) := by decide +kernel
theorem d_X_split_25 : decode b_X_split 25 = .ok (.lload 4, 2) := by decide +kernel
theorem d_X_split_27 : decode b_X_split 27 = .ok (.lsub, 1) := by decide +kernel
theorem d_X_split_28 : decode b_X_split 28 = .ok (.ldiv, 1) := by decide +kernel
theorem d_X_split_29 : decode b_X_split 29 = .ok (.lstore 10, 2) := by decide +kernel
theorem d_X_split_31 : decode b_X_split 31 = .ok (.lload 6, 2) := by decide +kernel
theorem d_X_split_33 : decode b_X_split 33 = .ok (.lload_n 2, 1) := by decide +kernel
theorem d_X_split_34 : decode b_X_split 34 = .ok (.lload 8, 2) := by decide +kernel
theorem d_X_split_36 : decode b_X_split 36 = .ok (.lsub, 1) := by decide +kernel
theorem d_X_split_37 : decode b_X_split 37 = .ok (.lmul, 1) := by decide +kernel
theorem d_X_split_38 : decode b_X_split 38 = .ok (.lload_n 2, 1) := by decide +kernel
theorem d_X_split_39 : decode b_X_split 39 = .ok (.lload 4, 2) := by decide +kernel
theorem d_X_split_41 : decode b_X_split 41 = .ok (.lsub, 1) := by decide +kernel
theorem d_X_split_42 : decode b_X_split 42 = .ok (.ldiv, 1) := by decide +kernel
theorem d_X_split_43 : decode b_X_split 43 = .ok (.lstore 12, 2) := by decide +kernel
theorem d_X_split_45 : decode b_X_split 45 = .ok (.aload_n 0, 1) := by decide +kernel
theorem d_X_split_46 : decode b_X_split 46 = .ok (.lload 10, 2) := by decide +kernel
theorem d_X_split_48 : decode b_X_split 48 = .ok (.lload_n 2, 1) := by decide +kernel
theorem d_X_split_49 : decode b_X_split 49 = .ok (.aload_n 0, 1) := by decide +kernel
theorem d_X_split_50 : decode b_X_split 50 = .ok (.getfield 16, 3) := by decide +kernel
theorem d_X_split_53 : decode b_X_split 53 = .ok (.iload_n 1, 1) := by decide +kernel
theorem d_X_split_54 : decode b_X_split 54 = .ok (.laload, 1) := by decide +kernel
theorem d_X_split_55 : decode b_X_split 55 = .ok (.ldc2_w 83, 3) := by decide +kernel
theorem d_X_split_58 : decode b_X_split 58 = .ok (.lload_n 2, 1) := by decide +kernel
theorem d_X_split_59 : decode b_X_split 59 = .ok (.lsub, 1) := by decide +kernel
theorem d_X_split_60 : decode b_X_split 60 = .ok (.lmul, 1) := by decide +kernel
theorem d_X_split_61 : decode b_X_split 61 = .ok (.ldc2_w 83, 3) := by decide +kernel
theorem d_X_split_64 : decode b_X_split 64 = .ok (.lload 8, 2) := by decide +kernel
theorem d_X_split_66 : decode b_X_split 66 = .ok (.lsub, 1) := by decide +kernel
theorem d_X_split_67 : decode b_X_split 67 = .ok (.ldiv, 1) := by decide +kernel
theorem d_X_split_68 : decode b_X_split 68 = .ok (.invokevirtual 75, 3) := by decide +kernel
theorem d_X_split_71 : decode b_X_split 71 = .ok (.istore 14, 2) := by decide +kernel
theorem d_X_split_73 : decode b_X_split 73 = .ok (.aload_n 0, 1) := by decide +kernel
theorem d_X_split_74 : decode b_X_split 74 = .ok (.lload 12, 2) := by decide +kernel
theorem d_X_split_76 : decode b_X_split 76 = .ok (.lload 4, 2) := by decide +kernel
theorem d_X_split_78 : decode b_X_split 78 = .ok (.aload_n 0, 1) := by decide +kernel
theorem d_X_split_79 : decode b_X_split 79 = .ok (.getfield 16, 3) := by decide +kernel
theorem d_X_split_82 : decode b_X_split 82 = .ok (.iload_n 1, 1) := by decide +kernel
theorem d_X_split_83 : decode b_X_split 83 = .ok (.laload, 1) := by decide +kernel
theorem d_X_split_84 : decode b_X_split 84 = .ok (.ldc2_w 83, 3) := by decide +kernel
theorem d_X_split_87 : decode b_X_split 87 = .ok (.lload 4, 2) := by decide +kernel
theorem d_X_split_89 : decode b_X_split 89 = .ok (.lsub, 1) := by decide +kernel
theorem d_X_split_90 : decode b_X_split 90 = .ok (.lmul, 1) := by decide +kernel
theorem d_X_split_91 : decode b_X_split 91 = .ok (.ldc2_w 83, 3) := by decide +kernel
theorem d_X_split_94 : decode b_X_split 94 = .ok (.lload 8, 2) := by decide +kernel
theorem d_X_split_96 : decode b_X_split 96 = .ok (.lsub, 1) := by decide +kernel
theorem d_X_split_97 : decode b_X_split 97 = .ok (.ldiv, 1) := by decide +kernel
theorem d_X_split_98 : decode b_X_split 98 = .ok (.invokevirtual 75, 3) := by decide +kernel
theorem d_X_split_101 : decode b_X_split 101 = .ok (.pop, 1) := by decide +kernel
theorem d_X_split_102 : decode b_X_split 102 = .ok (.aload_n 0, 1) := by decide +kernel
theorem d_X_split_103 : decode b_X_split 103 = .ok (.getfield 27, 3) := by decide +kernel
theorem d_X_split_106 : decode b_X_split 106 = .ok (.aload_n 0, 1) := by decide +kernel
theorem d_X_split_107 : decode b_X_split 107 = .ok (.getfield 30, 3) := by decide +kernel
theorem d_X_split_110 : decode b_X_split 110 = .ok (.lload 6, 2) := by decide +kernel
theorem d_X_split_112 : decode b_X_split 112 = .ok (.lload 10, 2) := by decide +kernel
theorem d_X_split_114 : decode b_X_split 114 = .ok (.lsub, 1) := by decide +kernel
theorem d_X_split_115 : decode b_X_split 115 = .ok (.lload 12, 2) := by decide +kernel
theorem d_X_split_117 : decode b_X_split 117 = .ok (.lsub, 1) := by decide +kernel
theorem d_X_split_118 : decode b_X_split 118 = .ok (.lastore, 1) := by decide +kernel
theorem d_X_split_119 : decode b_X_split 119 = .ok (.aload_n 0, 1) := by decide +kernel
theorem d_X_split_120 : decode b_X_split 120 = .ok (.dup, 1) := by decide +kernel
theorem d_X_split_121 : decode b_X_split 121 = .ok (.getfield 30, 3) := by decide +kernel
theorem d_X_split_124 : decode b_X_split 124 = .ok (.iconst 1, 1) := by decide +kernel
theorem d_X_split_125 : decode b_X_split 125 = .ok (.iadd, 1) := by decide +kernel
theorem d_X_split_126 : decode b_X_split 126 = .ok (.putfield 30, 3) := by decide +kernel
theorem d_X_split_129 : decode b_X_split 129 = .ok (.aload_n 0, 1) := by decide +kernel
theorem d_X_split_130 : decode b_X_split 130 = .ok (.getfield 19, 3) := by decide +kernel
theorem d_X_split_133 : decode b_X_split 133 = .ok (.iload_n 1, 1) := by decide +kernel
theorem d_X_split_134 : decode b_X_split 134 = .ok (.iconst 1, 1) := by decide +kernel
theorem d_X_split_135 : decode b_X_split 135 = .ok (.bastore, 1) := by decide +kernel
theorem d_X_split_136 : decode b_X_split 136 = .ok (.aload_n 0, 1) := by decide +kernel
theorem d_X_split_137 : decode b_X_split 137 = .ok (.iload_n 1, 1) := by decide +kernel
theorem d_X_split_138 : decode b_X_split 138 = .ok (.invokevirtual 156, 3) := by decide +kernel
theorem d_X_split_141 : decode b_X_split 141 = .ok (.iload 14, 2) := by decide +kernel
theorem d_X_split_143 : decode b_X_split 143 = .ok (.ireturn, 1) := by decide +kernel
theorem d_X_unchoose_0 : decode b_X_unchoose 0 = .ok (.aload_n 0, 1) := by decide +kernel
theorem d_X_unchoose_1 : decode b_X_unchoose 1 = .ok (.iload_n 1, 1) := by decide +kernel
theorem d_X_unchoose_2 : decode b_X_unchoose 2 = .ok (.invokevirtual 93, 3) := by decide +kernel
theorem d_X_unchoose_5 : decode b_X_unchoose 5 = .ok (.istore_n 2, 1) := by decide +kernel
theorem d_X_unchoose_6 : decode b_X_unchoose 6 = .ok (.iload_n 2, 1) := by decide +kernel
theorem d_X_unchoose_7 : decode b_X_unchoose 7 = .ok (.iconst (-1), 1) := by decide +kernel
theorem d_X_unchoose_8 : decode b_X_unchoose 8 = .ok (.if_icmp .ne 4, 3) := by decide +kernel
theorem d_X_unchoose_11 : decode b_X_unchoose 11 = .ok (.return_, 1) := by decide +kernel
theorem d_X_unchoose_12 : decode b_X_unchoose 12 = .ok (.iload_n 2, 1) := by decide +kernel
theorem d_X_unchoose_13 : decode b_X_unchoose 13 = .ok (.iconst 1, 1) := by decide +kernel
theorem d_X_unchoose_14 : decode b_X_unchoose 14 = .ok (.iadd, 1) := by decide +kernel
theorem d_X_unchoose_15 : decode b_X_unchoose 15 = .ok (.istore_n 3, 1) := by decide +kernel
theorem d_X_unchoose_16 : decode b_X_unchoose 16 = .ok (.iload_n 3, 1) := by decide +kernel
theorem d_X_unchoose_17 : decode b_X_unchoose 17 = .ok (.aload_n 0, 1) := by decide +kernel
theorem d_X_unchoose_18 : decode b_X_unchoose 18 = .ok (.getfield 46, 3) := by decide +kernel
theorem d_X_unchoose_21 : decode b_X_unchoose 21 = .ok (.if_icmp .ge 23, 3) := by decide +kernel
theorem d_X_unchoose_24 : decode b_X_unchoose 24 = .ok (.aload_n 0, 1) := by decide +kernel
theorem d_X_unchoose_25 : decode b_X_unchoose 25 = .ok (.getfield 42, 3) := by decide +kernel
theorem d_X_unchoose_28 : decode b_X_unchoose 28 = .ok (.iload_n 3, 1) := by decide +kernel
theorem d_X_unchoose_29 : decode b_X_unchoose 29 = .ok (.iconst 1, 1) := by decide +kernel
theorem d_X_unchoose_30 : decode b_X_unchoose 30 = .ok (.isub, 1) := by decide +kernel
theorem d_X_unchoose_31 : decode b_X_unchoose 31 = .ok (.aload_n 0, 1) := by decide +kernel
theorem d_X_unchoose_32 : decode b_X_unchoose 32 = .ok (.getfield 42, 3) := by decide +kernel
theorem d_X_unchoose_35 : decode b_X_unchoose 35 = .ok (.iload_n 3, 1) := by decide +kernel
theorem d_X_unchoose_36 : decode b_X_unchoose 36 = .ok (.iaload, 1) := by decide +kernel
theorem d_X_unchoose_37 : decode b_X_unchoose 37 = .ok (.iastore, 1) := by decide +kernel
theorem d_X_unchoose_38 : decode b_X_unchoose 38 = .ok (.iinc 3 1, 3) := by decide +kernel
theorem d_X_unchoose_41 : decode b_X_unchoose 41 = .ok (.goto (-25), 3) := by decide +kernel
theorem d_X_unchoose_44 : decode b_X_unchoose 44 = .ok (.aload_n 0, 1) := by decide +kernel
theorem d_X_unchoose_45 : decode b_X_unchoose 45 = .ok (.dup, 1) := by decide +kernel
theorem d_X_unchoose_46 : decode b_X_unchoose 46 = .ok (.getfield 46, 3) := by decide +kernel
theorem d_X_unchoose_49 : decode b_X_unchoose 49 = .ok (.iconst 1, 1) := by decide +kernel
theorem d_X_unchoose_50 : decode b_X_unchoose 50 = .ok (.isub, 1) := by decide +kernel
theorem d_X_unchoose_51 : decode b_X_unchoose 51 = .ok (.putfield 46, 3) := by decide +kernel
theorem d_X_unchoose_54 : decode b_X_unchoose 54 = .ok (.return_, 1) := by decide +kernel
theorem d_X_placeAmongChosen_0 : decode b_X_placeAmongChosen 0 = .ok (.iconst 0, 1) := by decide +kernel
theorem d_X_placeAmongChosen_1 : decode b_X_placeAmongChosen 1 = .ok (.istore_n 2, 1) := by decide +kernel
theorem d_X_placeAmongChosen_2 : decode b_X_placeAmongChosen 2 = .ok (.iload_n 2, 1) := by decide +kernel
theorem d_X_placeAmongChosen_3 : decode b_X_placeAmongChosen 3 = .ok (.aload_n 0, 1) := by decide +kernel
theorem d_X_placeAmongChosen_4 : decode b_X_placeAmongChosen 4 = .ok (.getfield 46, 3) := by decide +kernel
theorem d_X_placeAmongChosen_7 : decode b_X_placeAmongChosen 7 = .ok (.if_icmp .ge 21, 3) := by decide +kernel
theorem d_X_placeAmongChosen_10 : decode b_X_placeAmongChosen 10 = .ok (.aload_n 0, 1) := by decide +kernel
theorem d_X_placeAmongChosen_11 : decode b_X_placeAmongChosen 11 = .ok (.getfield 42, 3) := by decide +kernel
theorem d_X_placeAmongChosen_14 : decode b_X_placeAmongChosen 14 = .ok (.iload_n 2, 1) := by decide +kernel
theorem d_X_placeAmongChosen_15 : decode b_X_placeAmongChosen 15 = .ok (.iaload, 1) := by decide +kernel
theorem d_X_placeAmongChosen_16 : decode b_X_placeAmongChosen 16 = .ok (.iload_n 1, 1) := by decide +kernel
theorem d_X_placeAmongChosen_17 : decode b_X_placeAmongChosen 17 = .ok (.if_icmp .ne 5, 3) := by decide +kernel
theorem d_X_placeAmongChosen_20 : decode b_X_placeAmongChosen 20 = .ok (.iload_n 2, 1) := by decide +kernel
theorem d_X_placeAmongChosen_21 : decode b_X_placeAmongChosen 21 = .ok (.ireturn, 1) := by decide +kernel
theorem d_X_placeAmongChosen_22 : decode b_X_placeAmongChosen 22 = .ok (.iinc 2 1, 3) := by decide +kernel
theorem d_X_placeAmongChosen_25 : decode b_X_placeAmongChosen 25 = .ok (.goto (-23), 3) := by decide +kernel
theorem d_X_placeAmongChosen_28 : decode b_X_placeAmongChosen 28 = .ok (.iconst (-1), 1) := by decide +kernel
theorem d_X_placeAmongChosen_29 : decode b_X_placeAmongChosen 29 = .ok (.ireturn, 1) := by decide +kernel
theorem d_X_choose_0 : decode b_X_choose 0 = .ok (.aload_n 0, 1) := by decide +kernel
theorem d_X_choose_1 : decode b_X_choose 1 = .ok (.iload_n 1, 1) := by decide +kernel
theorem d_X_choose_2 : decode b_X_choose 2 = .ok (.invokevirtual 79, 3) := by decide +kernel
theorem d_X_choose_5 : decode b_X_choose 5 = .ok (.ifCond .eq 20, 3) := by decide +kernel
theorem d_X_choose_8 : decode b_X_choose 8 = .ok (.aload_n 0, 1) := by decide +kernel
theorem d_X_choose_9 : decode b_X_choose 9 = .ok (.iload_n 1, 1) := by decide +kernel
theorem d_X_choose_10 : decode b_X_choose 10 = .ok (.invokevirtual 93, 3) := by decide +kernel
theorem d_X_choose_13 : decode b_X_choose 13 = .ok (.iconst (-1), 1) := by decide +kernel
theorem d_X_choose_14 : decode b_X_choose 14 = .ok (.if_icmp .ne 11, 3) := by decide +kernel
theorem d_X_choose_17 : decode b_X_choose 17 = .ok (.aload_n 0, 1) := by decide +kernel
theorem d_X_choose_18 : decode b_X_choose 18 = .ok (.getfield 46, 3) := by decide +kernel
theorem d_X_choose_21 : decode b_X_choose 21 = .ok (.iconst 4, 1) := by decide +kernel
theorem d_X_choose_22 : decode b_X_choose 22 = .ok (.if_icmp .lt 5, 3) := by decide +kernel
theorem d_X_choose_25 : decode b_X_choose 25 = .ok (.iconst 0, 1) := by decide +kernel
theorem d_X_choose_26 : decode b_X_choose 26 = .ok (.ireturn, 1) := by decide +kernel
theorem d_X_choose_27 : decode b_X_choose 27 = .ok (.aload_n 0, 1) := by decide +kernel
theorem d_X_choose_28 : decode b_X_choose 28 = .ok (.getfield 42, 3) := by decide +kernel
theorem d_X_choose_31 : decode b_X_choose 31 = .ok (.aload_n 0, 1) := by decide +kernel
theorem d_X_choose_32 : decode b_X_choose 32 = .ok (.getfield 46, 3) := by decide +kernel
theorem d_X_choose_35 : decode b_X_choose 35 = .ok (.iload_n 1, 1) := by decide +kernel
theorem d_X_choose_36 : decode b_X_choose 36 = .ok (.iastore, 1) := by decide +kernel
theorem d_X_choose_37 : decode b_X_choose 37 = .ok (.aload_n 0, 1) := by decide +kernel
theorem d_X_choose_38 : decode b_X_choose 38 = .ok (.dup, 1) := by decide +kernel
theorem d_X_choose_39 : decode b_X_choose 39 = .ok (.getfield 46, 3) := by decide +kernel
theorem d_X_choose_42 : decode b_X_choose 42 = .ok (.iconst 1, 1) := by decide +kernel
theorem d_X_choose_43 : decode b_X_choose 43 = .ok (.iadd, 1) := by decide +kernel
theorem d_X_choose_44 : decode b_X_choose 44 = .ok (.putfield 46, 3) := by decide +kernel
theorem d_X_choose_47 : decode b_X_choose 47 = .ok (.iconst 1, 1) := by decide +kernel
theorem d_X_choose_48 : decode b_X_choose 48 = .ok (.ireturn, 1) := by decide +kernel
theorem d_X_standard_0 : decode b_X_standard 0 = .ok (.aload_n 0, 1) := by decide +kernel
theorem d_X_standard_1 : decode b_X_standard 1 = .ok (.getfield 59, 3) := by decide +kernel
theorem d_X_standard_4 : decode b_X_standard 4 = .ok (.invokevirtual 97, 3) := by decide +kernel
theorem d_X_standard_7 : decode b_X_standard 7 = .ok (.lload_n 1, 1) := by decide +kernel
theorem d_X_standard_8 : decode b_X_standard 8 = .ok (.lload 5, 2) := by decide +kernel
theorem d_X_standard_10 : decode b_X_standard 10 = .ok (.invokestatic 63, 3) := by decide +kernel
theorem d_X_standard_13 : decode b_X_standard 13 = .ok (.lstore 7, 2) := by decide +kernel
theorem d_X_standard_15 : decode b_X_standard 15 = .ok (.lload_n 3, 1) := by decide +kernel
theorem d_X_standard_16 : decode b_X_standard 16 = .ok (.lload 5, 2) := by decide +kernel
theorem d_X_standard_18 : decode b_X_standard 18 = .ok (.invokestatic 63, 3) := by decide +kernel
theorem d_X_standard_21 : decode b_X_standard 21 = .ok (.lstore 9, 2) := by decide +kernel
theorem d_X_standard_23 : decode b_X_standard 23 = .ok (.aload_n 0, 1) := by decide +kernel
theorem d_X_standard_24 : decode b_X_standard 24 = .ok (.getfield 46, 3) := by decide +kernel
theorem d_X_standard_27 : decode b_X_standard 27 = .ok (.ifCond .eq 21, 3) := by decide +kernel
theorem d_X_standard_30 : decode b_X_standard 30 = .ok (.lload 7, 2) := by decide +kernel
theorem d_X_standard_32 : decode b_X_standard 32 = .ok (.ldc2_w 73, 3) := by decide +kernel
theorem d_X_standard_35 : decode b_X_standard 35 = .ok (.lcmp, 1) := by decide +kernel
theorem d_X_standard_36 : decode b_X_standard 36 = .ok (.ifCond .eq 12, 3) := by decide +kernel
theorem d_X_standard_39 : decode b_X_standard 39 = .ok (.lload 9, 2) := by decide +kernel
theorem d_X_standard_41 : decode b_X_standard 41 = .ok (.ldc2_w 73, 3) := by decide +kernel
theorem d_X_standard_44 : decode b_X_standard 44 = .ok (.lcmp, 1) := by decide +kernel
theorem d_X_standard_45 : decode b_X_standard 45 = .ok (.ifCond .ne 5, 3) := by decide +kernel
theorem d_X_standard_48 : decode b_X_standard 48 = .ok (.iconst (-1), 1) := by decide +kernel
theorem d_X_standard_49 : decode b_X_standard 49 = .ok (.ireturn, 1) := by decide +kernel
theorem d_X_standard_50 : decode b_X_standard 50 = .ok (.iconst 0, 1) := by decide +kernel
theorem d_X_standard_51 : decode b_X_standard 51 = .ok (.istore 11, 2) := by decide +kernel
theorem d_X_standard_53 : decode b_X_standard 53 = .ok (.iload 11, 2) := by decide +kernel
theorem d_X_standard_55 : decode b_X_standard 55 = .ok (.aload_n 0, 1) := by decide +kernel
theorem d_X_standard_56 : decode b_X_standard 56 = .ok (.getfield 46, 3) := by decide +kernel
theorem d_X_standard_59 : decode b_X_standard 59 = .ok (.if_icmp .ge 41, 3) := by decide +kernel
theorem d_X_standard_62 : decode b_X_standard 62 = .ok (.aload_n 0, 1) := by decide +kernel
theorem d_X_standard_63 : decode b_X_standard 63 = .ok (.getfield 42, 3) := by decide +kernel
theorem d_X_standard_66 : decode b_X_standard 66 = .ok (.iload 11, 2) := by decide +kernel
theorem d_X_standard_68 : decode b_X_standard 68 = .ok (.iaload, 1) := by decide +kernel
theorem d_X_standard_69 : decode b_X_standard 69 = .ok (.istore 12, 2) := by decide +kernel
theorem d_X_standard_71 : decode b_X_standard 71 = .ok (.aload_n 0, 1) := by decide +kernel
theorem d_X_standard_72 : decode b_X_standard 72 = .ok (.getfield 59, 3) := by decide +kernel
theorem d_X_standard_75 : decode b_X_standard 75 = .ok (.iload 12, 2) := by decide +kernel
theorem d_X_standard_77 : decode b_X_standard 77 = .ok (.aload_n 0, 1) := by decide +kernel
theorem d_X_standard_78 : decode b_X_standard 78 = .ok (.getfield 13, 3) := by decide +kernel
theorem d_X_standard_81 : decode b_X_standard 81 = .ok (.iload 12, 2) := by decide +kernel
theorem d_X_standard_83 : decode b_X_standard 83 = .ok (.laload, 1) := by decide +kernel
theorem d_X_standard_84 : decode b_X_standard 84 = .ok (.aload_n 0, 1) := by decide +kernel
theorem d_X_standard_85 : decode b_X_standard 85 = .ok (.getfield 16, 3) := by decide +kernel
theorem d_X_standard_88 : decode b_X_standard 88 = .ok (.iload 12, 2) := by decide +kernel
theorem d_X_standard_90 : decode b_X_standard 90 = .ok (.laload, 1) := by decide +kernel
theorem d_X_standard_91 : decode b_X_standard 91 = .ok (.invokevirtual 100, 3) := by decide +kernel
theorem d_X_standard_94 : decode b_X_standard 94 = .ok (.iinc 11 1, 3) := by decide +kernel
theorem d_X_standard_97 : decode b_X_standard 97 = .ok (.goto (-44), 3) := by decide +kernel
theorem d_X_standard_100 : decode b_X_standard 100 = .ok (.aload_n 0, 1) := by decide +kernel
theorem d_X_standard_101 : decode b_X_standard 101 = .ok (.getfield 59, 3) := by decide +kernel
theorem d_X_standard_104 : decode b_X_standard 104 = .ok (.lload 7, 2) := by decide +kernel
theorem d_X_standard_106 : decode b_X_standard 106 = .ok (.lload 9, 2) := by decide +kernel
theorem d_X_standard_108 : decode b_X_standard 108 = .ok (.invokevirtual 104, 3) := by decide +kernel
theorem d_X_standard_111 : decode b_X_standard 111 = .ok (.ifCond .eq 7, 3) := by decide +kernel
theorem d_X_standard_114 : decode b_X_standard 114 = .ok (.iconst 0, 1) := by decide +kernel
theorem d_X_standard_115 : decode b_X_standard 115 = .ok (.goto 4, 3) := by decide +kernel
theorem d_X_standard_118 : decode b_X_standard 118 = .ok (.iconst 1, 1) := by decide +kernel
theorem d_X_standard_119 : decode b_X_standard 119 = .ok (.ireturn, 1) := by decide +kernel
theorem d_X_share_0 : decode b_X_share 0 = .ok (.aload_n 0, 1) := by decide +kernel
theorem d_X_share_1 : decode b_X_share 1 = .ok (.getfield 59, 3) := by decide +kernel
theorem d_X_share_4 : decode b_X_share 4 = .ok (.invokevirtual 108, 3) := by decide +kernel
theorem d_X_share_7 : decode b_X_share 7 = .ok (.ifCond .eq 21, 3) := by decide +kernel
theorem d_X_share_10 : decode b_X_share 10 = .ok (.aload_n 0, 1) := by decide +kernel
theorem d_X_share_11 : decode b_X_share 11 = .ok (.iload_n 1, 1) := by decide +kernel
theorem d_X_share_12 : decode b_X_share 12 = .ok (.invokevirtual 112, 3) := by decide +kernel
theorem d_X_share_15 : decode b_X_share 15 = .ok (.ifCond .eq 13, 3) := by decide +kernel
theorem d_X_share_18 : decode b_X_share 18 = .ok (.iload_n 2, 1) := by decide +kernel
theorem d_X_share_19 : decode b_X_share 19 = .ok (.i2l, 1) := by decide +kernel
theorem d_X_share_20 : decode b_X_share 20 = .ok (.lconst 0, 1) := by decide +kernel
theorem d_X_share_21 : decode b_X_share 21 = .ok (.lconst 1, 1) := by decide +kernel
theorem d_X_share_22 : decode b_X_share 22 = .ok (.invokestatic 69, 3) := by decide +kernel
theorem d_X_share_25 : decode b_X_share 25 = .ok (.ifCond .ne 7, 3) := by decide +kernel
theorem d_X_share_28 : decode b_X_share 28 = .ok (.ldc2_w 73, 3) := by decide +kernel
theorem d_X_share_31 : decode b_X_share 31 = .ok (.lreturn, 1) := by decide +kernel
theorem d_X_share_32 : decode b_X_share 32 = .ok (.aload_n 0, 1) := by decide +kernel
theorem d_X_share_33 : decode b_X_share 33 = .ok (.getfield 59, 3) := by decide +kernel
theorem d_X_share_36 : decode b_X_share 36 = .ok (.iload_n 1, 1) := by decide +kernel
theorem d_X_share_37 : decode b_X_share 37 = .ok (.invokevirtual 115, 3) := by decide +kernel
theorem d_X_share_40 : decode b_X_share 40 = .ok (.aload_n 0, 1) := by decide +kernel
theorem d_X_share_41 : decode b_X_share 41 = .ok (.getfield 59, 3) := by decide +kernel
theorem d_X_share_44 : decode b_X_share 44 = .ok (.invokevirtual 119, 3) := by decide +kernel
theorem d_X_share_47 : decode b_X_share 47 = .ok (.iload_n 2, 1) := by decide +kernel
theorem d_X_share_48 : decode b_X_share 48 = .ok (.invokestatic 123, 3) := by decide +kernel
theorem d_X_share_51 : decode b_X_share 51 = .ok (.lreturn, 1) := by decide +kernel
theorem d_X_reducedPart_0 : decode b_X_reducedPart 0 = .ok (.lload_n 0, 1) := by decide +kernel
theorem d_X_reducedPart_1 : decode b_X_reducedPart 1 = .ok (.lload_n 2, 1) := by decide +kernel
theorem d_X_reducedPart_2 : decode b_X_reducedPart 2 = .ok (.invokestatic 178, 3) := by decide +kernel
theorem d_X_reducedPart_5 : decode b_X_reducedPart 5 = .ok (.lstore 5, 2) := by decide +kernel
theorem d_X_reducedPart_7 : decode b_X_reducedPart 7 = .ok (.iload 4, 2) := by decide +kernel
theorem d_X_reducedPart_9 : decode b_X_reducedPart 9 = .ok (.ifCond .ne 10, 3) := by decide +kernel
theorem d_X_reducedPart_12 : decode b_X_reducedPart 12 = .ok (.lload_n 0, 1) := by decide +kernel
theorem d_X_reducedPart_13 : decode b_X_reducedPart 13 = .ok (.lload 5, 2) := by decide +kernel
theorem d_X_reducedPart_15 : decode b_X_reducedPart 15 = .ok (.ldiv, 1) := by decide +kernel
theorem d_X_reducedPart_16 : decode b_X_reducedPart 16 = .ok (.goto 7, 3) := by decide +kernel
theorem d_X_reducedPart_19 : decode b_X_reducedPart 19 = .ok (.lload_n 2, 1) := by decide +kernel
theorem d_X_reducedPart_20 : decode b_X_reducedPart 20 = .ok (.lload 5, 2) := by decide +kernel
theorem d_X_reducedPart_22 : decode b_X_reducedPart 22 = .ok (.ldiv, 1) := by decide +kernel
theorem d_X_reducedPart_23 : decode b_X_reducedPart 23 = .ok (.lreturn, 1) := by decide +kernel
theorem d_X_commonDivisor_0 : decode b_X_commonDivisor 0 = .ok (.lload_n 0, 1) := by decide +kernel
theorem d_X_commonDivisor_1 : decode b_X_commonDivisor 1 = .ok (.lstore 4, 2) := by decide +kernel
theorem d_X_commonDivisor_3 : decode b_X_commonDivisor 3 = .ok (.lload_n 2, 1) := by decide +kernel
theorem d_X_commonDivisor_4 : decode b_X_commonDivisor 4 = .ok (.lstore 6, 2) := by decide +kernel
theorem d_X_commonDivisor_6 : decode b_X_commonDivisor 6 = .ok (.iconst 0, 1) := by decide +kernel
theorem d_X_commonDivisor_7 : decode b_X_commonDivisor 7 = .ok (.istore 8, 2) := by decide +kernel
theorem d_X_commonDivisor_9 : decode b_X_commonDivisor 9 = .ok (.iload 8, 2) := by decide +kernel
theorem d_X_commonDivisor_11 : decode b_X_commonDivisor 11 = .ok (.bipush 100, 2) := by decide +kernel
theorem d_X_commonDivisor_13 : decode b_X_commonDivisor 13 = .ok (.if_icmp .ge 31, 3) := by decide +kernel
theorem d_X_commonDivisor_16 : decode b_X_commonDivisor 16 = .ok (.lload 6, 2) := by decide +kernel
theorem d_X_commonDivisor_18 : decode b_X_commonDivisor 18 = .ok (.lconst 0, 1) := by decide +kernel
theorem d_X_commonDivisor_19 : decode b_X_commonDivisor 19 = .ok (.lcmp, 1) := by decide +kernel
theorem d_X_commonDivisor_20 : decode b_X_commonDivisor 20 = .ok (.ifCond .eq 24, 3) := by decide +kernel
theorem d_X_commonDivisor_23 : decode b_X_commonDivisor 23 = .ok (.lload 4, 2) := by decide +kernel
theorem d_X_commonDivisor_25 : decode b_X_commonDivisor 25 = .ok (.lload 6, 2) := by decide +kernel
theorem d_X_commonDivisor_27 : decode b_X_commonDivisor 27 = .ok (.lrem, 1) := by decide +kernel
theorem d_X_commonDivisor_28 : decode b_X_commonDivisor 28 = .ok (.lstore 9, 2) := by decide +kernel
theorem d_X_commonDivisor_30 : decode b_X_commonDivisor 30 = .ok (.lload 6, 2) := by decide +kernel
theorem d_X_commonDivisor_32 : decode b_X_commonDivisor 32 = .ok (.lstore 4, 2) := by decide +kernel
theorem d_X_commonDivisor_34 : decode b_X_commonDivisor 34 = .ok (.lload 9, 2) := by decide +kernel
theorem d_X_commonDivisor_36 : decode b_X_commonDivisor 36 = .ok (.lstore 6, 2) := by decide +kernel
theorem d_X_commonDivisor_38 : decode b_X_commonDivisor 38 = .ok (.iinc 8 1, 3) := by decide +kernel
theorem d_X_commonDivisor_41 : decode b_X_commonDivisor 41 = .ok (.goto (-32), 3) := by decide +kernel
theorem d_X_commonDivisor_44 : decode b_X_commonDivisor 44 = .ok (.lconst 1, 1) := by decide +kernel
theorem d_X_commonDivisor_45 : decode b_X_commonDivisor 45 = .ok (.lload 4, 2) := by decide +kernel
theorem d_X_commonDivisor_47 : decode b_X_commonDivisor 47 = .ok (.invokestatic 148, 3) := by decide +kernel
theorem d_X_commonDivisor_50 : decode b_X_commonDivisor 50 = .ok (.lreturn, 1) := by decide +kernel
theorem d_X_yieldOf_0 : decode b_X_yieldOf 0 = .ok (.aload_n 0, 1) := by decide +kernel
theorem d_X_yieldOf_1 : decode b_X_yieldOf 1 = .ok (.iload_n 1, 1) := by decide +kernel
theorem d_X_yieldOf_2 : decode b_X_yieldOf 2 = .ok (.invokevirtual 112, 3) := by decide +kernel
theorem d_X_yieldOf_5 : decode b_X_yieldOf 5 = .ok (.ifCond .eq 27, 3) := by decide +kernel
theorem d_X_yieldOf_8 : decode b_X_yieldOf 8 = .ok (.iload_n 2, 1) := by decide +kernel
theorem d_X_yieldOf_9 : decode b_X_yieldOf 9 = .ok (.i2l, 1) := by decide +kernel
theorem d_X_yieldOf_10 : decode b_X_yieldOf 10 = .ok (.lconst 0, 1) := by decide +kernel
theorem d_X_yieldOf_11 : decode b_X_yieldOf 11 = .ok (.ldc2_w 127, 3) := by decide +kernel
theorem d_X_yieldOf_14 : decode b_X_yieldOf 14 = .ok (.invokestatic 69, 3) := by decide +kernel
theorem d_X_yieldOf_17 : decode b_X_yieldOf 17 = .ok (.ifCond .eq 15, 3) := by decide +kernel
theorem d_X_yieldOf_20 : decode b_X_yieldOf 20 = .ok (.iload_n 3, 1) := by decide +kernel
theorem d_X_yieldOf_21 : decode b_X_yieldOf 21 = .ok (.i2l, 1) := by decide +kernel
theorem d_X_yieldOf_22 : decode b_X_yieldOf 22 = .ok (.lconst 0, 1) := by decide +kernel
theorem d_X_yieldOf_23 : decode b_X_yieldOf 23 = .ok (.ldc2_w 127, 3) := by decide +kernel
theorem d_X_yieldOf_26 : decode b_X_yieldOf 26 = .ok (.invokestatic 69, 3) := by decide +kernel
theorem d_X_yieldOf_29 : decode b_X_yieldOf 29 = .ok (.ifCond .ne 7, 3) := by decide +kernel
theorem d_X_yieldOf_32 : decode b_X_yieldOf 32 = .ok (.ldc2_w 73, 3) := by decide +kernel
theorem d_X_yieldOf_35 : decode b_X_yieldOf 35 = .ok (.lreturn, 1) := by decide +kernel
theorem d_X_yieldOf_36 : decode b_X_yieldOf 36 = .ok (.aload_n 0, 1) := by decide +kernel
theorem d_X_yieldOf_37 : decode b_X_yieldOf 37 = .ok (.iload_n 1, 1) := by decide +kernel
theorem d_X_yieldOf_38 : decode b_X_yieldOf 38 = .ok (.iload_n 2, 1) := by decide +kernel
theorem d_X_yieldOf_39 : decode b_X_yieldOf 39 = .ok (.invokevirtual 129, 3) := by decide +kernel
theorem d_X_yieldOf_42 : decode b_X_yieldOf 42 = .ok (.lstore 4, 2) := by decide +kernel
theorem d_X_yieldOf_44 : decode b_X_yieldOf 44 = .ok (.iload_n 2, 1) := by decide +kernel
theorem d_X_yieldOf_45 : decode b_X_yieldOf 45 = .ok (.invokestatic 133, 3) := by decide +kernel
theorem d_X_yieldOf_48 : decode b_X_yieldOf 48 = .ok (.lstore 6, 2) := by decide +kernel
theorem d_X_yieldOf_50 : decode b_X_yieldOf 50 = .ok (.iload_n 3, 1) := by decide +kernel
theorem d_X_yieldOf_51 : decode b_X_yieldOf 51 = .ok (.iconst 2, 1) := by decide +kernel
theorem d_X_yieldOf_52 : decode b_X_yieldOf 52 = .ok (.if_icmp .ne 13, 3) := by decide +kernel
theorem d_X_yieldOf_55 : decode b_X_yieldOf 55 = .ok (.lload 4, 2) := by decide +kernel
theorem d_X_yieldOf_57 : decode b_X_yieldOf 57 = .ok (.lload 6, 2) := by decide +kernel
theorem d_X_yieldOf_59 : decode b_X_yieldOf 59 = .ok (.invokestatic 136, 3) := by decide +kernel
theorem d_X_yieldOf_62 : decode b_X_yieldOf 62 = .ok (.goto 11, 3) := by decide +kernel
theorem d_X_yieldOf_65 : decode b_X_yieldOf 65 = .ok (.lload 4, 2) := by decide +kernel
theorem d_X_yieldOf_67 : decode b_X_yieldOf 67 = .ok (.lload 6, 2) := by decide +kernel
theorem d_X_yieldOf_69 : decode b_X_yieldOf 69 = .ok (.iload_n 3, 1) := by decide +kernel
theorem d_X_yieldOf_70 : decode b_X_yieldOf 70 = .ok (.invokestatic 123, 3) := by decide +kernel
theorem d_X_yieldOf_73 : decode b_X_yieldOf 73 = .ok (.lreturn, 1) := by decide +kernel
theorem d_X_yieldAbove_0 : decode b_X_yieldAbove 0 = .ok (.aload_n 0, 1) := by decide +kernel
theorem d_X_yieldAbove_1 : decode b_X_yieldAbove 1 = .ok (.getfield 9, 3) := by decide +kernel
theorem d_X_yieldAbove_4 : decode b_X_yieldAbove 4 = .ok (.iload_n 1, 1) := by decide +kernel
theorem d_X_yieldAbove_5 : decode b_X_yieldAbove 5 = .ok (.laload, 1) := by decide +kernel
theorem d_X_yieldAbove_6 : decode b_X_yieldAbove 6 = .ok (.lstore_n 3, 1) := by decide +kernel
theorem d_X_yieldAbove_7 : decode b_X_yieldAbove 7 = .ok (.aload_n 0, 1) := by decide +kernel
theorem d_X_yieldAbove_8 : decode b_X_yieldAbove 8 = .ok (.getfield 13, 3) := by decide +kernel
theorem d_X_yieldAbove_11 : decode b_X_yieldAbove 11 = .ok (.iload_n 1, 1) := by decide +kernel
theorem d_X_yieldAbove_12 : decode b_X_yieldAbove 12 = .ok (.laload, 1) := by decide +kernel
theorem d_X_yieldAbove_13 : decode b_X_yieldAbove 13 = .ok (.lstore 5, 2) := by decide +kernel
theorem d_X_yieldAbove_15 : decode b_X_yieldAbove 15 = .ok (.aload_n 0, 1) := by decide +kernel
theorem d_X_yieldAbove_16 : decode b_X_yieldAbove 16 = .ok (.getfield 16, 3) := by decide +kernel
theorem d_X_yieldAbove_19 : decode b_X_yieldAbove 19 = .ok (.iload_n 1, 1) := by decide +kernel
theorem d_X_yieldAbove_20 : decode b_X_yieldAbove 20 = .ok (.laload, 1) := by decide +kernel
theorem d_X_yieldAbove_21 : decode b_X_yieldAbove 21 = .ok (.lstore 7, 2) := by decide +kernel
theorem d_X_yieldAbove_23 : decode b_X_yieldAbove 23 = .ok (.iload_n 2, 1) := by decide +kernel
theorem d_X_yieldAbove_24 : decode b_X_yieldAbove 24 = .ok (.lookupswitch 53 #[(0, 28), (1, 48)], 28) := by decide +kernel
theorem d_X_yieldAbove_52 : decode b_X_yieldAbove 52 = .ok (.lload_n 3, 1) := by decide +kernel
theorem d_X_yieldAbove_53 : decode b_X_yieldAbove 53 = .ok (.ldc2_w 160, 3) := by decide +kernel
theorem d_X_yieldAbove_56 : decode b_X_yieldAbove 56 = .ok (.lload 5, 2) := by decide +kernel
theorem d_X_yieldAbove_58 : decode b_X_yieldAbove 58 = .ok (.lmul, 1) := by decide +kernel
theorem d_X_yieldAbove_59 : decode b_X_yieldAbove 59 = .ok (.ldc2_w 162, 3) := by decide +kernel
theorem d_X_yieldAbove_62 : decode b_X_yieldAbove 62 = .ok (.lload 7, 2) := by decide +kernel
theorem d_X_yieldAbove_64 : decode b_X_yieldAbove 64 = .ok (.lmul, 1) := by decide +kernel
theorem d_X_yieldAbove_65 : decode b_X_yieldAbove 65 = .ok (.ladd, 1) := by decide +kernel
theorem d_X_yieldAbove_66 : decode b_X_yieldAbove 66 = .ok (.lmul, 1) := by decide +kernel
theorem d_X_yieldAbove_67 : decode b_X_yieldAbove 67 = .ok (.ldc2_w 164, 3) := by decide +kernel
theorem d_X_yieldAbove_70 : decode b_X_yieldAbove 70 = .ok (.lmul, 1) := by decide +kernel
theorem d_X_yieldAbove_71 : decode b_X_yieldAbove 71 = .ok (.lreturn, 1) := by decide +kernel
theorem d_X_yieldAbove_72 : decode b_X_yieldAbove 72 = .ok (.lload_n 3, 1) := by decide +kernel
theorem d_X_yieldAbove_73 : decode b_X_yieldAbove 73 = .ok (.lload 5, 2) := by decide +kernel
theorem d_X_yieldAbove_75 : decode b_X_yieldAbove 75 = .ok (.lmul, 1) := by decide +kernel
theorem d_X_yieldAbove_76 : decode b_X_yieldAbove 76 = .ok (.lreturn, 1) := by decide +kernel
theorem d_X_yieldAbove_77 : decode b_X_yieldAbove 77 = .ok (.lload_n 3, 1) := by decide +kernel
theorem d_X_yieldAbove_78 : decode b_X_yieldAbove 78 = .ok (.lload 5, 2) := by decide +kernel
theorem d_X_yieldAbove_80 : decode b_X_yieldAbove 80 = .ok (.lload 7, 2) := by decide +kernel
theorem d_X_yieldAbove_82 : decode b_X_yieldAbove 82 = .ok (.ladd, 1) := by decide +kernel
theorem d_X_yieldAbove_83 : decode b_X_yieldAbove 83 = .ok (.lmul, 1) := by decide +kernel
theorem d_X_yieldAbove_84 : decode b_X_yieldAbove 84 = .ok (.lreturn, 1) := by decide +kernel
theorem d_X_yieldBelow_0 : decode b_X_yieldBelow 0 = .ok (.iload_n 0, 1) := by decide +kernel
theorem d_X_yieldBelow_1 : decode b_X_yieldBelow 1 = .ok (.lookupswitch 35 #[(0, 27), (1, 31)], 27) := by decide +kernel
theorem d_X_yieldBelow_28 : decode b_X_yieldBelow 28 = .ok (.ldc2_w 166, 3) := by decide +kernel
theorem d_X_yieldBelow_31 : decode b_X_yieldBelow 31 = .ok (.lreturn, 1) := by decide +kernel
theorem d_X_yieldBelow_32 : decode b_X_yieldBelow 32 = .ok (.ldc2_w 168, 3) := by decide +kernel
theorem d_X_yieldBelow_35 : decode b_X_yieldBelow 35 = .ok (.lreturn, 1) := by decide +kernel
theorem d_X_yieldBelow_36 : decode b_X_yieldBelow 36 = .ok (.ldc2_w 170, 3) := by decide +kernel
theorem d_X_yieldBelow_39 : decode b_X_yieldBelow 39 = .ok (.lreturn, 1) := by decide +kernel
theorem d_X_gramsOf_0 : decode b_X_gramsOf 0 = .ok (.ldc2_w 176, 3) := by decide +kernel
theorem d_X_gramsOf_3 : decode b_X_gramsOf 3 = .ok (.lload_n 0, 1) := by decide +kernel
theorem d_X_gramsOf_4 : decode b_X_gramsOf 4 = .ok (.lmul, 1) := by decide +kernel
theorem d_X_gramsOf_5 : decode b_X_gramsOf 5 = .ok (.lload_n 2, 1) := by decide +kernel
theorem d_X_gramsOf_6 : decode b_X_gramsOf 6 = .ok (.ladd, 1) := by decide +kernel
theorem d_X_gramsOf_7 : decode b_X_gramsOf 7 = .ok (.ldc2_w 127, 3) := by decide +kernel
theorem d_X_gramsOf_10 : decode b_X_gramsOf 10 = .ok (.lload_n 2, 1) := by decide +kernel
theorem d_X_gramsOf_11 : decode b_X_gramsOf 11 = .ok (.lmul, 1) := by decide +kernel
theorem d_X_gramsOf_12 : decode b_X_gramsOf 12 = .ok (.ldiv, 1) := by decide +kernel
theorem d_X_gramsOf_13 : decode b_X_gramsOf 13 = .ok (.lreturn, 1) := by decide +kernel
theorem d_X_loss_0 : decode b_X_loss 0 = .ok (.iload_n 1, 1) := by decide +kernel
theorem d_X_loss_1 : decode b_X_loss 1 = .ok (.ifCond .lt 11, 3) := by decide +kernel
theorem d_X_loss_4 : decode b_X_loss 4 = .ok (.iload_n 1, 1) := by decide +kernel
theorem d_X_loss_5 : decode b_X_loss 5 = .ok (.aload_n 0, 1) := by decide +kernel
theorem d_X_loss_6 : decode b_X_loss 6 = .ok (.getfield 30, 3) := by decide +kernel
theorem d_X_loss_9 : decode b_X_loss 9 = .ok (.if_icmp .lt 7, 3) := by decide +kernel
theorem d_X_loss_12 : decode b_X_loss 12 = .ok (.ldc2_w 73, 3) := by decide +kernel
theorem d_X_loss_15 : decode b_X_loss 15 = .ok (.lreturn, 1) := by decide +kernel
theorem d_X_loss_16 : decode b_X_loss 16 = .ok (.aload_n 0, 1) := by decide +kernel
theorem d_X_loss_17 : decode b_X_loss 17 = .ok (.getfield 27, 3) := by decide +kernel
theorem d_X_loss_20 : decode b_X_loss 20 = .ok (.iload_n 1, 1) := by decide +kernel
theorem d_X_loss_21 : decode b_X_loss 21 = .ok (.laload, 1) := by decide +kernel
theorem d_X_loss_22 : decode b_X_loss 22 = .ok (.lreturn, 1) := by decide +kernel
theorem d_X_penalty_0 : decode b_X_penalty 0 = .ok (.lload_n 1, 1) := by decide +kernel
theorem d_X_penalty_1 : decode b_X_penalty 1 = .ok (.lconst 1, 1) := by decide +kernel
theorem d_X_penalty_2 : decode b_X_penalty 2 = .ok (.ldc2_w 83, 3) := by decide +kernel
theorem d_X_penalty_5 : decode b_X_penalty 5 = .ok (.invokestatic 69, 3) := by decide +kernel
theorem d_X_penalty_8 : decode b_X_penalty 8 = .ok (.ifCond .eq 23, 3) := by decide +kernel
theorem d_X_penalty_11 : decode b_X_penalty 11 = .ok (.lload_n 3, 1) := by decide +kernel
theorem d_X_penalty_12 : decode b_X_penalty 12 = .ok (.lconst 1, 1) := by decide +kernel
theorem d_X_penalty_13 : decode b_X_penalty 13 = .ok (.ldc2_w 83, 3) := by decide +kernel
theorem d_X_penalty_16 : decode b_X_penalty 16 = .ok (.invokestatic 69, 3) := by decide +kernel
theorem d_X_penalty_19 : decode b_X_penalty 19 = .ok (.ifCond .eq 12, 3) := by decide +kernel
theorem d_X_penalty_22 : decode b_X_penalty 22 = .ok (.aload_n 0, 1) := by decide +kernel
theorem d_X_penalty_23 : decode b_X_penalty 23 = .ok (.getfield 39, 3) := by decide +kernel
theorem d_X_penalty_26 : decode b_X_penalty 26 = .ok (.bipush 10, 2) := by decide +kernel
theorem d_X_penalty_28 : decode b_X_penalty 28 = .ok (.if_icmp .lt 5, 3) := by decide +kernel
theorem d_X_penalty_31 : decode b_X_penalty 31 = .ok (.iconst 0, 1) := by decide +kernel
theorem d_X_penalty_32 : decode b_X_penalty 32 = .ok (.ireturn, 1) := by decide +kernel
theorem d_X_penalty_33 : decode b_X_penalty 33 = .ok (.aload_n 0, 1) := by decide +kernel
theorem d_X_penalty_34 : decode b_X_penalty 34 = .ok (.getfield 33, 3) := by decide +kernel
theorem d_X_penalty_37 : decode b_X_penalty 37 = .ok (.aload_n 0, 1) := by decide +kernel
theorem d_X_penalty_38 : decode b_X_penalty 38 = .ok (.getfield 39, 3) := by decide +kernel
theorem d_X_penalty_41 : decode b_X_penalty 41 = .ok (.lload_n 1, 1) := by decide +kernel
theorem d_X_penalty_42 : decode b_X_penalty 42 = .ok (.lastore, 1) := by decide +kernel
theorem d_X_penalty_43 : decode b_X_penalty 43 = .ok (.aload_n 0, 1) := by decide +kernel
theorem d_X_penalty_44 : decode b_X_penalty 44 = .ok (.getfield 36, 3) := by decide +kernel
theorem d_X_penalty_47 : decode b_X_penalty 47 = .ok (.aload_n 0, 1) := by decide +kernel
theorem d_X_penalty_48 : decode b_X_penalty 48 = .ok (.getfield 39, 3) := by decide +kernel
theorem d_X_penalty_51 : decode b_X_penalty 51 = .ok (.lload_n 3, 1) := by decide +kernel
theorem d_X_penalty_52 : decode b_X_penalty 52 = .ok (.lastore, 1) := by decide +kernel
theorem d_X_penalty_53 : decode b_X_penalty 53 = .ok (.aload_n 0, 1) := by decide +kernel
theorem d_X_penalty_54 : decode b_X_penalty 54 = .ok (.dup, 1) := by decide +kernel
theorem d_X_penalty_55 : decode b_X_penalty 55 = .ok (.getfield 39, 3) := by decide +kernel
theorem d_X_penalty_58 : decode b_X_penalty 58 = .ok (.iconst 1, 1) := by decide +kernel
theorem d_X_penalty_59 : decode b_X_penalty 59 = .ok (.iadd, 1) := by decide +kernel
theorem d_X_penalty_60 : decode b_X_penalty 60 = .ok (.putfield 39, 3) := by decide +kernel
theorem d_X_penalty_63 : decode b_X_penalty 63 = .ok (.iconst 1, 1) := by decide +kernel
theorem d_X_penalty_64 : decode b_X_penalty 64 = .ok (.ireturn, 1) := by decide +kernel
theorem d_X_pay_0 : decode b_X_pay 0 = .ok (.aload_n 0, 1) := by decide +kernel
theorem d_X_pay_1 : decode b_X_pay 1 = .ok (.iload_n 1, 1) := by decide +kernel
theorem d_X_pay_2 : decode b_X_pay 2 = .ok (.invokevirtual 112, 3) := by decide +kernel
theorem d_X_pay_5 : decode b_X_pay 5 = .ok (.ifCond .ne 7, 3) := by decide +kernel
theorem d_X_pay_8 : decode b_X_pay 8 = .ok (.ldc2_w 73, 3) := by decide +kernel
theorem d_X_pay_11 : decode b_X_pay 11 = .ok (.lreturn, 1) := by decide +kernel
theorem d_X_pay_12 : decode b_X_pay 12 = .ok (.aload_n 0, 1) := by decide +kernel
theorem d_X_pay_13 : decode b_X_pay 13 = .ok (.getfield 9, 3) := by decide +kernel
theorem d_X_pay_16 : decode b_X_pay 16 = .ok (.iload_n 1, 1) := by decide +kernel
theorem d_X_pay_17 : decode b_X_pay 17 = .ok (.laload, 1) := by decide +kernel
theorem d_X_pay_18 : decode b_X_pay 18 = .ok (.ldc2_w 139, 3) := by decide +kernel
theorem d_X_pay_21 : decode b_X_pay 21 = .ok (.aload_n 0, 1) := by decide +kernel
theorem d_X_pay_22 : decode b_X_pay 22 = .ok (.getfield 13, 3) := by decide +kernel
theorem d_X_pay_25 : decode b_X_pay 25 = .ok (.iload_n 1, 1) := by decide +kernel
theorem d_X_pay_26 : decode b_X_pay 26 = .ok (.laload, 1) := by decide +kernel
theorem d_X_pay_27 : decode b_X_pay 27 = .ok (.lmul, 1) := by decide +kernel
theorem d_X_pay_28 : decode b_X_pay 28 = .ok (.ldc2_w 141, 3) := by decide +kernel
theorem d_X_pay_31 : decode b_X_pay 31 = .ok (.aload_n 0, 1) := by decide +kernel
theorem d_X_pay_32 : decode b_X_pay 32 = .ok (.getfield 16, 3) := by decide +kernel
theorem d_X_pay_35 : decode b_X_pay 35 = .ok (.iload_n 1, 1) := by decide +kernel
theorem d_X_pay_36 : decode b_X_pay 36 = .ok (.laload, 1) := by decide +kernel
theorem d_X_pay_37 : decode b_X_pay 37 = .ok (.lmul, 1) := by decide +kernel
theorem d_X_pay_38 : decode b_X_pay 38 = .ok (.ladd, 1) := by decide +kernel
theorem d_X_pay_39 : decode b_X_pay 39 = .ok (.lmul, 1) := by decide +kernel
theorem d_X_pay_40 : decode b_X_pay 40 = .ok (.ldc2_w 143, 3) := by decide +kernel
theorem d_X_pay_43 : decode b_X_pay 43 = .ok (.ldiv, 1) := by decide +kernel
theorem d_X_pay_44 : decode b_X_pay 44 = .ok (.lstore_n 2, 1) := by decide +kernel
theorem d_X_pay_45 : decode b_X_pay 45 = .ok (.iconst 0, 1) := by decide +kernel
theorem d_X_pay_46 : decode b_X_pay 46 = .ok (.istore 4, 2) := by decide +kernel
theorem d_X_pay_48 : decode b_X_pay 48 = .ok (.iload 4, 2) := by decide +kernel
theorem d_X_pay_50 : decode b_X_pay 50 = .ok (.aload_n 0, 1) := by decide +kernel
theorem d_X_pay_51 : decode b_X_pay 51 = .ok (.getfield 39, 3) := by decide +kernel
theorem d_X_pay_54 : decode b_X_pay 54 = .ok (.if_icmp .ge 50, 3) := by decide +kernel
theorem d_X_pay_57 : decode b_X_pay 57 = .ok (.aload_n 0, 1) := by decide +kernel
theorem d_X_pay_58 : decode b_X_pay 58 = .ok (.getfield 13, 3) := by decide +kernel
theorem d_X_pay_61 : decode b_X_pay 61 = .ok (.iload_n 1, 1) := by decide +kernel
theorem d_X_pay_62 : decode b_X_pay 62 = .ok (.laload, 1) := by decide +kernel
theorem d_X_pay_63 : decode b_X_pay 63 = .ok (.aload_n 0, 1) := by decide +kernel
theorem d_X_pay_64 : decode b_X_pay 64 = .ok (.getfield 33, 3) := by decide +kernel
theorem d_X_pay_67 : decode b_X_pay 67 = .ok (.iload 4, 2) := by decide +kernel
theorem d_X_pay_69 : decode b_X_pay 69 = .ok (.laload, 1) := by decide +kernel
theorem d_X_pay_70 : decode b_X_pay 70 = .ok (.lcmp, 1) := by decide +kernel
theorem d_X_pay_71 : decode b_X_pay 71 = .ok (.ifCond .ge 27, 3) := by decide +kernel
theorem d_X_pay_74 : decode b_X_pay 74 = .ok (.lconst 0, 1) := by decide +kernel
theorem d_X_pay_75 : decode b_X_pay 75 = .ok (.lload_n 2, 1) := by decide +kernel
theorem d_X_pay_76 : decode b_X_pay 76 = .ok (.aload_n 0, 1) := by decide +kernel
theorem d_X_pay_77 : decode b_X_pay 77 = .ok (.getfield 36, 3) := by decide +kernel
theorem d_X_pay_80 : decode b_X_pay 80 = .ok (.iload 4, 2) := by decide +kernel
theorem d_X_pay_82 : decode b_X_pay 82 = .ok (.laload, 1) := by decide +kernel
theorem d_X_pay_83 : decode b_X_pay 83 = .ok (.aload_n 0, 1) := by decide +kernel
theorem d_X_pay_84 : decode b_X_pay 84 = .ok (.getfield 9, 3) := by decide +kernel
theorem d_X_pay_87 : decode b_X_pay 87 = .ok (.iload_n 1, 1) := by decide +kernel
theorem d_X_pay_88 : decode b_X_pay 88 = .ok (.laload, 1) := by decide +kernel
theorem d_X_pay_89 : decode b_X_pay 89 = .ok (.lmul, 1) := by decide +kernel
theorem d_X_pay_90 : decode b_X_pay 90 = .ok (.invokestatic 145, 3) := by decide +kernel
theorem d_X_pay_93 : decode b_X_pay 93 = .ok (.lsub, 1) := by decide +kernel
theorem d_X_pay_94 : decode b_X_pay 94 = .ok (.invokestatic 148, 3) := by decide +kernel
theorem d_X_pay_97 : decode b_X_pay 97 = .ok (.lstore_n 2, 1) := by decide +kernel
theorem d_X_pay_98 : decode b_X_pay 98 = .ok (.iinc 4 1, 3) := by decide +kernel
theorem d_X_pay_101 : decode b_X_pay 101 = .ok (.goto (-53), 3) := by decide +kernel
theorem d_X_pay_104 : decode b_X_pay 104 = .ok (.lload_n 2, 1) := by decide +kernel
theorem d_X_pay_105 : decode b_X_pay 105 = .ok (.lreturn, 1) := by decide +kernel
theorem d_X_hundredthsRoundedUp_0 : decode b_X_hundredthsRoundedUp 0 = .ok (.lload_n 0, 1) := by decide +kernel
theorem d_X_hundredthsRoundedUp_1 : decode b_X_hundredthsRoundedUp 1 = .ok (.ldc2_w 172, 3) := by decide +kernel
theorem d_X_hundredthsRoundedUp_4 : decode b_X_hundredthsRoundedUp 4 = .ok (.ladd, 1) := by decide +kernel
theorem d_X_hundredthsRoundedUp_5 : decode b_X_hundredthsRoundedUp 5 = .ok (.ldc2_w 174, 3) := by decide +kernel
theorem d_X_hundredthsRoundedUp_8 : decode b_X_hundredthsRoundedUp 8 = .ok (.ldiv, 1) := by decide +kernel
theorem d_X_hundredthsRoundedUp_9 : decode b_X_hundredthsRoundedUp 9 = .ok (.lreturn, 1) := by decide +kernel
theorem d_X_efficiency_0 : decode b_X_efficiency 0 = .ok (.lload_n 3, 1) := by decide +kernel
theorem d_X_efficiency_1 : decode b_X_efficiency 1 = .ok (.lload 5, 2) := by decide +kernel
theorem d_X_efficiency_3 : decode b_X_efficiency 3 = .ok (.invokestatic 63, 3) := by decide +kernel
theorem d_X_efficiency_6 : decode b_X_efficiency 6 = .ok (.lstore 7, 2) := by decide +kernel
theorem d_X_efficiency_8 : decode b_X_efficiency 8 = .ok (.lload_n 1, 1) := by decide +kernel
theorem d_X_efficiency_9 : decode b_X_efficiency 9 = .ok (.lconst 1, 1) := by decide +kernel
theorem d_X_efficiency_10 : decode b_X_efficiency 10 = .ok (.ldc2_w 67, 3) := by decide +kernel
theorem d_X_efficiency_13 : decode b_X_efficiency 13 = .ok (.invokestatic 69, 3) := by decide +kernel
theorem d_X_efficiency_16 : decode b_X_efficiency 16 = .ok (.ifCond .eq 12, 3) := by decide +kernel
theorem d_X_efficiency_19 : decode b_X_efficiency 19 = .ok (.lload 7, 2) := by decide +kernel
theorem d_X_efficiency_21 : decode b_X_efficiency 21 = .ok (.ldc2_w 73, 3) := by decide +kernel
theorem d_X_efficiency_24 : decode b_X_efficiency 24 = .ok (.lcmp, 1) := by decide +kernel
theorem d_X_efficiency_25 : decode b_X_efficiency 25 = .ok (.ifCond .ne 5, 3) := by decide +kernel
theorem d_X_efficiency_28 : decode b_X_efficiency 28 = .ok (.iconst 0, 1) := by decide +kernel
theorem d_X_efficiency_29 : decode b_X_efficiency 29 = .ok (.ireturn, 1) := by decide +kernel
theorem d_X_efficiency_30 : decode b_X_efficiency 30 = .ok (.aload_n 0, 1) := by decide +kernel
theorem d_X_efficiency_31 : decode b_X_efficiency 31 = .ok (.getfield 52, 3) := by decide +kernel
theorem d_X_efficiency_34 : decode b_X_efficiency 34 = .ok (.lload_n 1, 1) := by decide +kernel
theorem d_X_efficiency_35 : decode b_X_efficiency 35 = .ok (.lload 7, 2) := by decide +kernel
theorem d_X_efficiency_37 : decode b_X_efficiency 37 = .ok (.invokevirtual 153, 3) := by decide +kernel
theorem d_X_efficiency_40 : decode b_X_efficiency 40 = .ok (.ireturn, 1) := by decide +kernel
theorem d_X_clearChosen_0 : decode b_X_clearChosen 0 = .ok (.aload_n 0, 1) := by decide +kernel
theorem d_X_clearChosen_1 : decode b_X_clearChosen 1 = .ok (.iconst 0, 1) := by decide +kernel
theorem d_X_clearChosen_2 : decode b_X_clearChosen 2 = .ok (.putfield 46, 3) := by decide +kernel
theorem d_X_clearChosen_5 : decode b_X_clearChosen 5 = .ok (.return_, 1) := by decide +kernel
