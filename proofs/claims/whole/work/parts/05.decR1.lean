theorem d_R_init_0 : decode b_R_init 0 = .ok (.aload_n 0, 1) := by decide +kernel
theorem d_R_init_1 : decode b_R_init 1 = .ok (.invokespecial 1, 3) := by decide +kernel
theorem d_R_init_4 : decode b_R_init 4 = .ok (.aload_n 0, 1) := by decide +kernel
theorem d_R_init_5 : decode b_R_init 5 = .ok (.bipush 60, 2) := by decide +kernel
theorem d_R_init_7 : decode b_R_init 7 = .ok (.newarray .long, 2) := by decide +kernel
theorem d_R_init_9 : decode b_R_init 9 = .ok (.putfield 9, 3) := by decide +kernel
theorem d_R_init_12 : decode b_R_init 12 = .ok (.aload_n 0, 1) := by decide +kernel
theorem d_R_init_13 : decode b_R_init 13 = .ok (.bipush 60, 2) := by decide +kernel
theorem d_R_init_15 : decode b_R_init 15 = .ok (.newarray .long, 2) := by decide +kernel
theorem d_R_init_17 : decode b_R_init 17 = .ok (.putfield 13, 3) := by decide +kernel
theorem d_R_init_20 : decode b_R_init 20 = .ok (.aload_n 0, 1) := by decide +kernel
theorem d_R_init_21 : decode b_R_init 21 = .ok (.bipush 60, 2) := by decide +kernel
theorem d_R_init_23 : decode b_R_init 23 = .ok (.newarray .long, 2) := by decide +kernel
theorem d_R_init_25 : decode b_R_init 25 = .ok (.putfield 16, 3) := by decide +kernel
theorem d_R_init_28 : decode b_R_init 28 = .ok (.aload_n 0, 1) := by decide +kernel
theorem d_R_init_29 : decode b_R_init 29 = .ok (.bipush 60, 2) := by decide +kernel
theorem d_R_init_31 : decode b_R_init 31 = .ok (.newarray .boolean, 2) := by decide +kernel
theorem d_R_init_33 : decode b_R_init 33 = .ok (.putfield 19, 3) := by decide +kernel
theorem d_R_init_36 : decode b_R_init 36 = .ok (.aload_n 0, 1) := by decide +kernel
theorem d_R_init_37 : decode b_R_init 37 = .ok (.bipush 60, 2) := by decide +kernel
theorem d_R_init_39 : decode b_R_init 39 = .ok (.newarray .long, 2) := by decide +kernel
theorem d_R_init_41 : decode b_R_init 41 = .ok (.putfield 23, 3) := by decide +kernel
theorem d_R_init_44 : decode b_R_init 44 = .ok (.aload_n 0, 1) := by decide +kernel
theorem d_R_init_45 : decode b_R_init 45 = .ok (.iconst 4, 1) := by decide +kernel
theorem d_R_init_46 : decode b_R_init 46 = .ok (.newarray .int, 2) := by decide +kernel
theorem d_R_init_48 : decode b_R_init 48 = .ok (.putfield 26, 3) := by decide +kernel
theorem d_R_init_51 : decode b_R_init 51 = .ok (.aload_n 0, 1) := by decide +kernel
theorem d_R_init_52 : decode b_R_init 52 = .ok (.bipush 20, 2) := by decide +kernel
theorem d_R_init_54 : decode b_R_init 54 = .ok (.newarray .long, 2) := by decide +kernel
theorem d_R_init_56 : decode b_R_init 56 = .ok (.putfield 30, 3) := by decide +kernel
theorem d_R_init_59 : decode b_R_init 59 = .ok (.aload_n 0, 1) := by decide +kernel
theorem d_R_init_60 : decode b_R_init 60 = .ok (.bipush 20, 2) := by decide +kernel
theorem d_R_init_62 : decode b_R_init 62 = .ok (.newarray .long, 2) := by decide +kernel
theorem d_R_init_64 : decode b_R_init 64 = .ok (.putfield 33, 3) := by decide +kernel
theorem d_R_init_67 : decode b_R_init 67 = .ok (.aload_n 0, 1) := by decide +kernel
theorem d_R_init_68 : decode b_R_init 68 = .ok (.bipush 10, 2) := by decide +kernel
theorem d_R_init_70 : decode b_R_init 70 = .ok (.newarray .long, 2) := by decide +kernel
theorem d_R_init_72 : decode b_R_init 72 = .ok (.putfield 36, 3) := by decide +kernel
theorem d_R_init_75 : decode b_R_init 75 = .ok (.aload_n 0, 1) := by decide +kernel
theorem d_R_init_76 : decode b_R_init 76 = .ok (.bipush 10, 2) := by decide +kernel
theorem d_R_init_78 : decode b_R_init 78 = .ok (.newarray .long, 2) := by decide +kernel
theorem d_R_init_80 : decode b_R_init 80 = .ok (.putfield 39, 3) := by decide +kernel
theorem d_R_init_83 : decode b_R_init 83 = .ok (.aload_n 0, 1) := by decide +kernel
theorem d_R_init_84 : decode b_R_init 84 = .ok (.iconst 4, 1) := by decide +kernel
theorem d_R_init_85 : decode b_R_init 85 = .ok (.newarray .int, 2) := by decide +kernel
theorem d_R_init_87 : decode b_R_init 87 = .ok (.putfield 42, 3) := by decide +kernel
theorem d_R_init_90 : decode b_R_init 90 = .ok (.aload_n 0, 1) := by decide +kernel
theorem d_R_init_91 : decode b_R_init 91 = .ok (.iconst 4, 1) := by decide +kernel
theorem d_R_init_92 : decode b_R_init 92 = .ok (.newarray .long, 2) := by decide +kernel
theorem d_R_init_94 : decode b_R_init 94 = .ok (.putfield 45, 3) := by decide +kernel
theorem d_R_init_97 : decode b_R_init 97 = .ok (.aload_n 0, 1) := by decide +kernel
theorem d_R_init_98 : decode b_R_init 98 = .ok (.iconst 4, 1) := by decide +kernel
theorem d_R_init_99 : decode b_R_init 99 = .ok (.newarray .long, 2) := by decide +kernel
theorem d_R_init_101 : decode b_R_init 101 = .ok (.putfield 48, 3) := by decide +kernel
theorem d_R_init_104 : decode b_R_init 104 = .ok (.return_, 1) := by decide +kernel
theorem d_R_lot_0 : decode b_R_lot 0 = .ok (.lload_n 1, 1) := by decide +kernel
theorem d_R_lot_1 : decode b_R_lot 1 = .ok (.lconst 1, 1) := by decide +kernel
theorem d_R_lot_2 : decode b_R_lot 2 = .ok (.lcmp, 1) := by decide +kernel
theorem d_R_lot_3 : decode b_R_lot 3 = .ok (.ifCond .lt 22, 3) := by decide +kernel
theorem d_R_lot_6 : decode b_R_lot 6 = .ok (.lload_n 1, 1) := by decide +kernel
theorem d_R_lot_7 : decode b_R_lot 7 = .ok (.ldc2_w 59, 3) := by decide +kernel
theorem d_R_lot_10 : decode b_R_lot 10 = .ok (.lcmp, 1) := by decide +kernel
theorem d_R_lot_11 : decode b_R_lot 11 = .ok (.ifCond .gt 14, 3) := by decide +kernel
theorem d_R_lot_14 : decode b_R_lot 14 = .ok (.lload_n 3, 1) := by decide +kernel
theorem d_R_lot_15 : decode b_R_lot 15 = .ok (.lload 5, 2) := by decide +kernel
theorem d_R_lot_17 : decode b_R_lot 17 = .ok (.invokestatic 61, 3) := by decide +kernel
theorem d_R_lot_20 : decode b_R_lot 20 = .ok (.lconst 0, 1) := by decide +kernel
theorem d_R_lot_21 : decode b_R_lot 21 = .ok (.lcmp, 1) := by decide +kernel
theorem d_R_lot_22 : decode b_R_lot 22 = .ok (.ifCond .ge 5, 3) := by decide +kernel
theorem d_R_lot_25 : decode b_R_lot 25 = .ok (.iconst (-1), 1) := by decide +kernel
theorem d_R_lot_26 : decode b_R_lot 26 = .ok (.ireturn, 1) := by decide +kernel
theorem d_R_lot_27 : decode b_R_lot 27 = .ok (.aload_n 0, 1) := by decide +kernel
theorem d_R_lot_28 : decode b_R_lot 28 = .ok (.getfield 51, 3) := by decide +kernel
theorem d_R_lot_31 : decode b_R_lot 31 = .ok (.bipush 60, 2) := by decide +kernel
theorem d_R_lot_33 : decode b_R_lot 33 = .ok (.if_icmp .ne 8, 3) := by decide +kernel
theorem d_R_lot_36 : decode b_R_lot 36 = .ok (.bipush (-2), 2) := by decide +kernel
theorem d_R_lot_38 : decode b_R_lot 38 = .ok (.goto 15, 3) := by decide +kernel
theorem d_R_lot_41 : decode b_R_lot 41 = .ok (.aload_n 0, 1) := by decide +kernel
theorem d_R_lot_42 : decode b_R_lot 42 = .ok (.lload_n 1, 1) := by decide +kernel
theorem d_R_lot_43 : decode b_R_lot 43 = .ok (.lload_n 3, 1) := by decide +kernel
theorem d_R_lot_44 : decode b_R_lot 44 = .ok (.lload 5, 2) := by decide +kernel
theorem d_R_lot_46 : decode b_R_lot 46 = .ok (.invokestatic 61, 3) := by decide +kernel
theorem d_R_lot_49 : decode b_R_lot 49 = .ok (.lconst 0, 1) := by decide +kernel
theorem d_R_lot_50 : decode b_R_lot 50 = .ok (.invokevirtual 65, 3) := by decide +kernel
theorem d_R_lot_53 : decode b_R_lot 53 = .ok (.ireturn, 1) := by decide +kernel
theorem d_R_parts_0 : decode b_R_parts 0 = .ok (.lload_n 2, 1) := by decide +kernel
theorem d_R_parts_1 : decode b_R_parts 1 = .ok (.lconst 1, 1) := by decide +kernel
theorem d_R_parts_2 : decode b_R_parts 2 = .ok (.lcmp, 1) := by decide +kernel
theorem d_R_parts_3 : decode b_R_parts 3 = .ok (.ifCond .lt 39, 3) := by decide +kernel
theorem d_R_parts_6 : decode b_R_parts 6 = .ok (.lload_n 2, 1) := by decide +kernel
theorem d_R_parts_7 : decode b_R_parts 7 = .ok (.ldc2_w 55, 3) := by decide +kernel
theorem d_R_parts_10 : decode b_R_parts 10 = .ok (.lcmp, 1) := by decide +kernel
theorem d_R_parts_11 : decode b_R_parts 11 = .ok (.ifCond .gt 31, 3) := by decide +kernel
theorem d_R_parts_14 : decode b_R_parts 14 = .ok (.lload_n 0, 1) := by decide +kernel
theorem d_R_parts_15 : decode b_R_parts 15 = .ok (.lconst 0, 1) := by decide +kernel
theorem d_R_parts_16 : decode b_R_parts 16 = .ok (.lcmp, 1) := by decide +kernel
theorem d_R_parts_17 : decode b_R_parts 17 = .ok (.ifCond .lt 25, 3) := by decide +kernel
theorem d_R_parts_20 : decode b_R_parts 20 = .ok (.lload_n 0, 1) := by decide +kernel
theorem d_R_parts_21 : decode b_R_parts 21 = .ok (.lload_n 2, 1) := by decide +kernel
theorem d_R_parts_22 : decode b_R_parts 22 = .ok (.lcmp, 1) := by decide +kernel
theorem d_R_parts_23 : decode b_R_parts 23 = .ok (.ifCond .gt 19, 3) := by decide +kernel
theorem d_R_parts_26 : decode b_R_parts 26 = .ok (.lload_n 0, 1) := by decide +kernel
theorem d_R_parts_27 : decode b_R_parts 27 = .ok (.ldc2_w 55, 3) := by decide +kernel
theorem d_R_parts_30 : decode b_R_parts 30 = .ok (.lmul, 1) := by decide +kernel
theorem d_R_parts_31 : decode b_R_parts 31 = .ok (.lload_n 2, 1) := by decide +kernel
theorem d_R_parts_32 : decode b_R_parts 32 = .ok (.lrem, 1) := by decide +kernel
theorem d_R_parts_33 : decode b_R_parts 33 = .ok (.lconst 0, 1) := by decide +kernel
theorem d_R_parts_34 : decode b_R_parts 34 = .ok (.lcmp, 1) := by decide +kernel
theorem d_R_parts_35 : decode b_R_parts 35 = .ok (.ifCond .ne 7, 3) := by decide +kernel
theorem d_R_parts_38 : decode b_R_parts 38 = .ok (.iconst 1, 1) := by decide +kernel
theorem d_R_parts_39 : decode b_R_parts 39 = .ok (.goto 4, 3) := by decide +kernel
theorem d_R_parts_42 : decode b_R_parts 42 = .ok (.iconst 0, 1) := by decide +kernel
theorem d_R_parts_43 : decode b_R_parts 43 = .ok (.istore 4, 2) := by decide +kernel
theorem d_R_parts_45 : decode b_R_parts 45 = .ok (.iload 4, 2) := by decide +kernel
theorem d_R_parts_47 : decode b_R_parts 47 = .ok (.ifCond .eq 13, 3) := by decide +kernel
theorem d_R_parts_50 : decode b_R_parts 50 = .ok (.lload_n 0, 1) := by decide +kernel
theorem d_R_parts_51 : decode b_R_parts 51 = .ok (.ldc2_w 55, 3) := by decide +kernel
theorem d_R_parts_54 : decode b_R_parts 54 = .ok (.lmul, 1) := by decide +kernel
theorem d_R_parts_55 : decode b_R_parts 55 = .ok (.lload_n 2, 1) := by decide +kernel
theorem d_R_parts_56 : decode b_R_parts 56 = .ok (.ldiv, 1) := by decide +kernel
theorem d_R_parts_57 : decode b_R_parts 57 = .ok (.goto 6, 3) := by decide +kernel
theorem d_R_parts_60 : decode b_R_parts 60 = .ok (.ldc2_w 57, 3) := by decide +kernel
theorem d_R_parts_63 : decode b_R_parts 63 = .ok (.lreturn, 1) := by decide +kernel
theorem d_R_put_0 : decode b_R_put 0 = .ok (.aload_n 0, 1) := by decide +kernel
theorem d_R_put_1 : decode b_R_put 1 = .ok (.getfield 9, 3) := by decide +kernel
theorem d_R_put_4 : decode b_R_put 4 = .ok (.aload_n 0, 1) := by decide +kernel
theorem d_R_put_5 : decode b_R_put 5 = .ok (.getfield 51, 3) := by decide +kernel
theorem d_R_put_8 : decode b_R_put 8 = .ok (.lload_n 1, 1) := by decide +kernel
theorem d_R_put_9 : decode b_R_put 9 = .ok (.lastore, 1) := by decide +kernel
theorem d_R_put_10 : decode b_R_put 10 = .ok (.aload_n 0, 1) := by decide +kernel
theorem d_R_put_11 : decode b_R_put 11 = .ok (.getfield 13, 3) := by decide +kernel
theorem d_R_put_14 : decode b_R_put 14 = .ok (.aload_n 0, 1) := by decide +kernel
theorem d_R_put_15 : decode b_R_put 15 = .ok (.getfield 51, 3) := by decide +kernel
theorem d_R_put_18 : decode b_R_put 18 = .ok (.lload_n 3, 1) := by decide +kernel
theorem d_R_put_19 : decode b_R_put 19 = .ok (.lastore, 1) := by decide +kernel
theorem d_R_put_20 : decode b_R_put 20 = .ok (.aload_n 0, 1) := by decide +kernel
theorem d_R_put_21 : decode b_R_put 21 = .ok (.getfield 16, 3) := by decide +kernel
theorem d_R_put_24 : decode b_R_put 24 = .ok (.aload_n 0, 1) := by decide +kernel
theorem d_R_put_25 : decode b_R_put 25 = .ok (.getfield 51, 3) := by decide +kernel
theorem d_R_put_28 : decode b_R_put 28 = .ok (.lload 5, 2) := by decide +kernel
theorem d_R_put_30 : decode b_R_put 30 = .ok (.lastore, 1) := by decide +kernel
theorem d_R_put_31 : decode b_R_put 31 = .ok (.aload_n 0, 1) := by decide +kernel
theorem d_R_put_32 : decode b_R_put 32 = .ok (.getfield 19, 3) := by decide +kernel
theorem d_R_put_35 : decode b_R_put 35 = .ok (.aload_n 0, 1) := by decide +kernel
theorem d_R_put_36 : decode b_R_put 36 = .ok (.getfield 51, 3) := by decide +kernel
theorem d_R_put_39 : decode b_R_put 39 = .ok (.iconst 0, 1) := by decide +kernel
theorem d_R_put_40 : decode b_R_put 40 = .ok (.bastore, 1) := by decide +kernel
theorem d_R_put_41 : decode b_R_put 41 = .ok (.aload_n 0, 1) := by decide +kernel
theorem d_R_put_42 : decode b_R_put 42 = .ok (.dup, 1) := by decide +kernel
theorem d_R_put_43 : decode b_R_put 43 = .ok (.getfield 51, 3) := by decide +kernel
theorem d_R_put_46 : decode b_R_put 46 = .ok (.iconst 1, 1) := by decide +kernel
theorem d_R_put_47 : decode b_R_put 47 = .ok (.iadd, 1) := by decide +kernel
theorem d_R_put_48 : decode b_R_put 48 = .ok (.putfield 51, 3) := by decide +kernel
theorem d_R_put_51 : decode b_R_put 51 = .ok (.aload_n 0, 1) := by decide +kernel
theorem d_R_put_52 : decode b_R_put 52 = .ok (.getfield 51, 3) := by decide +kernel
theorem d_R_put_55 : decode b_R_put 55 = .ok (.iconst 1, 1) := by decide +kernel
theorem d_R_put_56 : decode b_R_put 56 = .ok (.isub, 1) := by decide +kernel
theorem d_R_put_57 : decode b_R_put 57 = .ok (.ireturn, 1) := by decide +kernel
theorem d_R_solids_0 : decode b_R_solids 0 = .ok (.aload_n 0, 1) := by decide +kernel
theorem d_R_solids_1 : decode b_R_solids 1 = .ok (.iload_n 1, 1) := by decide +kernel
theorem d_R_solids_2 : decode b_R_solids 2 = .ok (.invokevirtual 69, 3) := by decide +kernel
theorem d_R_solids_5 : decode b_R_solids 5 = .ok (.ifCond .eq 43, 3) := by decide +kernel
theorem d_R_solids_8 : decode b_R_solids 8 = .ok (.aload_n 0, 1) := by decide +kernel
theorem d_R_solids_9 : decode b_R_solids 9 = .ok (.getfield 19, 3) := by decide +kernel
theorem d_R_solids_12 : decode b_R_solids 12 = .ok (.iload_n 1, 1) := by decide +kernel
theorem d_R_solids_13 : decode b_R_solids 13 = .ok (.baload, 1) := by decide +kernel
theorem d_R_solids_14 : decode b_R_solids 14 = .ok (.ifCond .ne 34, 3) := by decide +kernel
theorem d_R_solids_17 : decode b_R_solids 17 = .ok (.lload_n 2, 1) := by decide +kernel
theorem d_R_solids_18 : decode b_R_solids 18 = .ok (.lload 4, 2) := by decide +kernel
theorem d_R_solids_20 : decode b_R_solids 20 = .ok (.invokestatic 61, 3) := by decide +kernel
theorem d_R_solids_23 : decode b_R_solids 23 = .ok (.lconst 0, 1) := by decide +kernel
theorem d_R_solids_24 : decode b_R_solids 24 = .ok (.lcmp, 1) := by decide +kernel
theorem d_R_solids_25 : decode b_R_solids 25 = .ok (.ifCond .lt 23, 3) := by decide +kernel
theorem d_R_solids_28 : decode b_R_solids 28 = .ok (.lload_n 2, 1) := by decide +kernel
theorem d_R_solids_29 : decode b_R_solids 29 = .ok (.lload 4, 2) := by decide +kernel
theorem d_R_solids_31 : decode b_R_solids 31 = .ok (.invokestatic 61, 3) := by decide +kernel
theorem d_R_solids_34 : decode b_R_solids 34 = .ok (.aload_n 0, 1) := by decide +kernel
theorem d_R_solids_35 : decode b_R_solids 35 = .ok (.getfield 13, 3) := by decide +kernel
theorem d_R_solids_38 : decode b_R_solids 38 = .ok (.iload_n 1, 1) := by decide +kernel
theorem d_R_solids_39 : decode b_R_solids 39 = .ok (.laload, 1) := by decide +kernel
theorem d_R_solids_40 : decode b_R_solids 40 = .ok (.ladd, 1) := by decide +kernel
theorem d_R_solids_41 : decode b_R_solids 41 = .ok (.ldc2_w 55, 3) := by decide +kernel
theorem d_R_solids_44 : decode b_R_solids 44 = .ok (.lcmp, 1) := by decide +kernel
theorem d_R_solids_45 : decode b_R_solids 45 = .ok (.ifCond .le 5, 3) := by decide +kernel
theorem d_R_solids_48 : decode b_R_solids 48 = .ok (.iconst 0, 1) := by decide +kernel
theorem d_R_solids_49 : decode b_R_solids 49 = .ok (.ireturn, 1) := by decide +kernel
theorem d_R_solids_50 : decode b_R_solids 50 = .ok (.aload_n 0, 1) := by decide +kernel
theorem d_R_solids_51 : decode b_R_solids 51 = .ok (.getfield 16, 3) := by decide +kernel
theorem d_R_solids_54 : decode b_R_solids 54 = .ok (.iload_n 1, 1) := by decide +kernel
theorem d_R_solids_55 : decode b_R_solids 55 = .ok (.lload_n 2, 1) := by decide +kernel
theorem d_R_solids_56 : decode b_R_solids 56 = .ok (.lload 4, 2) := by decide +kernel
theorem d_R_solids_58 : decode b_R_solids 58 = .ok (.invokestatic 61, 3) := by decide +kernel
theorem d_R_solids_61 : decode b_R_solids 61 = .ok (.lastore, 1) := by decide +kernel
theorem d_R_solids_62 : decode b_R_solids 62 = .ok (.iconst 1, 1) := by decide +kernel
theorem d_R_solids_63 : decode b_R_solids 63 = .ok (.ireturn, 1) := by decide +kernel
theorem d_R_isLot_0 : decode b_R_isLot 0 = .ok (.iload_n 1, 1) := by decide +kernel
theorem d_R_isLot_1 : decode b_R_isLot 1 = .ok (.ifCond .lt 15, 3) := by decide +kernel
theorem d_R_isLot_4 : decode b_R_isLot 4 = .ok (.iload_n 1, 1) := by decide +kernel
theorem d_R_isLot_5 : decode b_R_isLot 5 = .ok (.aload_n 0, 1) := by decide +kernel
theorem d_R_isLot_6 : decode b_R_isLot 6 = .ok (.getfield 51, 3) := by decide +kernel
theorem d_R_isLot_9 : decode b_R_isLot 9 = .ok (.if_icmp .ge 7, 3) := by decide +kernel
theorem d_R_isLot_12 : decode b_R_isLot 12 = .ok (.iconst 1, 1) := by decide +kernel
theorem d_R_isLot_13 : decode b_R_isLot 13 = .ok (.goto 4, 3) := by decide +kernel
theorem d_R_isLot_16 : decode b_R_isLot 16 = .ok (.iconst 0, 1) := by decide +kernel
theorem d_R_isLot_17 : decode b_R_isLot 17 = .ok (.ireturn, 1) := by decide +kernel
theorem d_R_separate_0 : decode b_R_separate 0 = .ok (.aload_n 0, 1) := by decide +kernel
theorem d_R_separate_1 : decode b_R_separate 1 = .ok (.iload_n 1, 1) := by decide +kernel
theorem d_R_separate_2 : decode b_R_separate 2 = .ok (.invokevirtual 69, 3) := by decide +kernel
theorem d_R_separate_5 : decode b_R_separate 5 = .ok (.ifCond .eq 23, 3) := by decide +kernel
theorem d_R_separate_8 : decode b_R_separate 8 = .ok (.aload_n 0, 1) := by decide +kernel
theorem d_R_separate_9 : decode b_R_separate 9 = .ok (.getfield 19, 3) := by decide +kernel
theorem d_R_separate_12 : decode b_R_separate 12 = .ok (.iload_n 1, 1) := by decide +kernel
theorem d_R_separate_13 : decode b_R_separate 13 = .ok (.baload, 1) := by decide +kernel
theorem d_R_separate_14 : decode b_R_separate 14 = .ok (.ifCond .ne 14, 3) := by decide +kernel
theorem d_R_separate_17 : decode b_R_separate 17 = .ok (.aload_n 0, 1) := by decide +kernel
theorem d_R_separate_18 : decode b_R_separate 18 = .ok (.getfield 9, 3) := by decide +kernel
theorem d_R_separate_21 : decode b_R_separate 21 = .ok (.iload_n 1, 1) := by decide +kernel
theorem d_R_separate_22 : decode b_R_separate 22 = .ok (.laload, 1) := by decide +kernel
theorem d_R_separate_23 : decode b_R_separate 23 = .ok (.lconst 1, 1) := by decide +kernel
theorem d_R_separate_24 : decode b_R_separate 24 = .ok (.lcmp, 1) := by decide +kernel
theorem d_R_separate_25 : decode b_R_separate 25 = .ok (.ifCond .ge 5, 3) := by decide +kernel
theorem d_R_separate_28 : decode b_R_separate 28 = .ok (.iconst (-1), 1) := by decide +kernel
theorem d_R_separate_29 : decode b_R_separate 29 = .ok (.ireturn, 1) := by decide +kernel
theorem d_R_separate_30 : decode b_R_separate 30 = .ok (.lload_n 2, 1) := by decide +kernel
theorem d_R_separate_31 : decode b_R_separate 31 = .ok (.lload 4, 2) := by decide +kernel
theorem d_R_separate_33 : decode b_R_separate 33 = .ok (.invokestatic 61, 3) := by decide +kernel
theorem d_R_separate_36 : decode b_R_separate 36 = .ok (.lstore 6, 2) := by decide +kernel
theorem d_R_separate_38 : decode b_R_separate 38 = .ok (.aload_n 0, 1) := by decide +kernel
theorem d_R_separate_39 : decode b_R_separate 39 = .ok (.getfield 13, 3) := by decide +kernel
theorem d_R_separate_42 : decode b_R_separate 42 = .ok (.iload_n 1, 1) := by decide +kernel
theorem d_R_separate_43 : decode b_R_separate 43 = .ok (.laload, 1) := by decide +kernel
theorem d_R_separate_44 : decode b_R_separate 44 = .ok (.lstore 8, 2) := by decide +kernel
theorem d_R_separate_46 : decode b_R_separate 46 = .ok (.aload_n 0, 1) := by decide +kernel
theorem d_R_separate_47 : decode b_R_separate 47 = .ok (.aload_n 0, 1) := by decide +kernel
theorem d_R_separate_48 : decode b_R_separate 48 = .ok (.getfield 9, 3) := by decide +kernel
theorem d_R_separate_51 : decode b_R_separate 51 = .ok (.iload_n 1, 1) := by decide +kernel
theorem d_R_separate_52 : decode b_R_separate 52 = .ok (.laload, 1) := by decide +kernel
theorem d_R_separate_53 : decode b_R_separate 53 = .ok (.invokevirtual 76, 3) := by decide +kernel
theorem d_R_separate_56 : decode b_R_separate 56 = .ok (.lstore 10, 2) := by decide +kernel
theorem d_R_separate_58 : decode b_R_separate 58 = .ok (.lload 6, 2) := by decide +kernel
theorem d_R_separate_60 : decode b_R_separate 60 = .ok (.lconst 0, 1) := by decide +kernel
theorem d_R_separate_61 : decode b_R_separate 61 = .ok (.lcmp, 1) := by decide +kernel
theorem d_R_separate_62 : decode b_R_separate 62 = .ok (.ifCond .lt 19, 3) := by decide +kernel
theorem d_R_separate_65 : decode b_R_separate 65 = .ok (.lload 10, 2) := by decide +kernel
theorem d_R_separate_67 : decode b_R_separate 67 = .ok (.lload 8, 2) := by decide +kernel
theorem d_R_separate_69 : decode b_R_separate 69 = .ok (.lcmp, 1) := by decide +kernel
theorem d_R_separate_70 : decode b_R_separate 70 = .ok (.ifCond .ge 11, 3) := by decide +kernel
theorem d_R_separate_73 : decode b_R_separate 73 = .ok (.lload 8, 2) := by decide +kernel
theorem d_R_separate_75 : decode b_R_separate 75 = .ok (.lload 6, 2) := by decide +kernel
theorem d_R_separate_77 : decode b_R_separate 77 = .ok (.lcmp, 1) := by decide +kernel
theorem d_R_separate_78 : decode b_R_separate 78 = .ok (.ifCond .lt 5, 3) := by decide +kernel
theorem d_R_separate_81 : decode b_R_separate 81 = .ok (.iconst (-1), 1) := by decide +kernel
theorem d_R_separate_82 : decode b_R_separate 82 = .ok (.ireturn, 1) := by decide +kernel
theorem d_R_separate_83 : decode b_R_separate 83 = .ok (.aload_n 0, 1) := by decide +kernel
theorem d_R_separate_84 : decode b_R_separate 84 = .ok (.getfield 51, 3) := by decide +kernel
theorem d_R_separate_87 : decode b_R_separate 87 = .ok (.iconst 2, 1) := by decide +kernel
theorem d_R_separate_88 : decode b_R_separate 88 = .ok (.iadd, 1) := by decide +kernel
theorem d_R_separate_89 : decode b_R_separate 89 = .ok (.bipush 60, 2) := by decide +kernel
theorem d_R_separate_91 : decode b_R_separate 91 = .ok (.if_icmp .le 6, 3) := by decide +kernel
theorem d_R_separate_94 : decode b_R_separate 94 = .ok (.bipush (-2), 2) := by decide +kernel
theorem d_R_separate_96 : decode b_R_separate 96 = .ok (.ireturn, 1) := by decide +kernel
theorem d_R_separate_97 : decode b_R_separate 97 = .ok (.aload_n 0, 1) := by decide +kernel
theorem d_R_separate_98 : decode b_R_separate 98 = .ok (.getfield 9, 3) := by decide +kernel
theorem d_R_separate_101 : decode b_R_separate 101 = .ok (.iload_n 1, 1) := by decide +kernel
theorem d_R_separate_102 : decode b_R_separate 102 = .ok (.laload, 1) := by decide +kernel
theorem d_R_separate_103 : decode b_R_separate 103 = .ok (.lstore 12, 2) := by decide +kernel
theorem d_R_separate_105 : decode b_R_separate 105 = .ok (.lload 12, 2) := by decide +kernel
theorem d_R_separate_107 : decode b_R_separate 107 = .ok (.lload 8, 2) := by decide +kernel
theorem d_R_separate_109 : decode b_R_separate 109 = .ok (.lload 10, 2) := by decide +kernel
theorem d_R_separate_111 : decode b_R_separate 111 = .ok (.lsub, 1) := by decide +kernel
theorem d_R_separate_112 : decode b_R_separate 112 = .ok (.lmul, 1) := by decide +kernel
theorem d_R_separate_113 : decode b_R_separate 113 = .ok (.lload 6, 2) := by decide +kernel
theorem d_R_separate_115 : decode b_R_separate 115 = .ok (.lload 10, 2) := by decide +kernel
theorem d_R_separate_117 : decode b_R_separate 117 = .ok (.lsub, 1) := by decide +kernel
theorem d_R_separate_118 : decode b_R_separate 118 = .ok (.ldiv, 1) := by decide +kernel
theorem d_R_separate_119 : decode b_R_separate 119 = .ok (.lstore 14, 2) := by decide +kernel
theorem d_R_separate_121 : decode b_R_separate 121 = .ok (.lload 12, 2) := by decide +kernel
theorem d_R_separate_123 : decode b_R_separate 123 = .ok (.lload 6, 2) := by decide +kernel
theorem d_R_separate_125 : decode b_R_separate 125 = .ok (.lload 8, 2) := by decide +kernel
theorem d_R_separate_127 : decode b_R_separate 127 = .ok (.lsub, 1) := by decide +kernel
theorem d_R_separate_128 : decode b_R_separate 128 = .ok (.lmul, 1) := by decide +kernel
theorem d_R_separate_129 : decode b_R_separate 129 = .ok (.lload 6, 2) := by decide +kernel
theorem d_R_separate_131 : decode b_R_separate 131 = .ok (.lload 10, 2) := by decide +kernel
theorem d_R_separate_133 : decode b_R_separate 133 = .ok (.lsub, 1) := by decide +kernel
theorem d_R_separate_134 : decode b_R_separate 134 = .ok (.ldiv, 1) := by decide +kernel
theorem d_R_separate_135 : decode b_R_separate 135 = .ok (.lstore 16, 2) := by decide +kernel
theorem d_R_separate_137 : decode b_R_separate 137 = .ok (.aload_n 0, 1) := by decide +kernel
theorem d_R_separate_138 : decode b_R_separate 138 = .ok (.lload 14, 2) := by decide +kernel
theorem d_R_separate_140 : decode b_R_separate 140 = .ok (.lload 6, 2) := by decide +kernel
theorem d_R_separate_142 : decode b_R_separate 142 = .ok (.aload_n 0, 1) := by decide +kernel
theorem d_R_separate_143 : decode b_R_separate 143 = .ok (.getfield 16, 3) := by decide +kernel
theorem d_R_separate_146 : decode b_R_separate 146 = .ok (.iload_n 1, 1) := by decide +kernel
theorem d_R_separate_147 : decode b_R_separate 147 = .ok (.laload, 1) := by decide +kernel
theorem d_R_separate_148 : decode b_R_separate 148 = .ok (.ldc2_w 55, 3) := by decide +kernel
theorem d_R_separate_151 : decode b_R_separate 151 = .ok (.lload 6, 2) := by decide +kernel
theorem d_R_separate_153 : decode b_R_separate 153 = .ok (.lsub, 1) := by decide +kernel
theorem d_R_separate_154 : decode b_R_separate 154 = .ok (.lmul, 1) := by decide +kernel
theorem d_R_separate_155 : decode b_R_separate 155 = .ok (.ldc2_w 55, 3) := by decide +kernel
theorem d_R_separate_158 : decode b_R_separate 158 = .ok (.lload 8, 2) := by decide +kernel
theorem d_R_separate_160 : decode b_R_separate 160 = .ok (.lsub, 1) := by decide +kernel
theorem d_R_separate_161 : decode b_R_separate 161 = .ok (.ldiv, 1) := by decide +kernel
theorem d_R_separate_162 : decode b_R_separate 162 = .ok (.invokevirtual 65, 3) := by decide +kernel
theorem d_R_separate_165 : decode b_R_separate 165 = .ok (.istore 18, 2) := by decide +kernel
theorem d_R_separate_167 : decode b_R_separate 167 = .ok (.aload_n 0, 1) := by decide +kernel
theorem d_R_separate_168 : decode b_R_separate 168 = .ok (.lload 16, 2) := by decide +kernel
theorem d_R_separate_170 : decode b_R_separate 170 = .ok (.lload 10, 2) := by decide +kernel
theorem d_R_separate_172 : decode b_R_separate 172 = .ok (.aload_n 0, 1) := by decide +kernel
theorem d_R_separate_173 : decode b_R_separate 173 = .ok (.getfield 16, 3) := by decide +kernel
theorem d_R_separate_176 : decode b_R_separate 176 = .ok (.iload_n 1, 1) := by decide +kernel
theorem d_R_separate_177 : decode b_R_separate 177 = .ok (.laload, 1) := by decide +kernel
theorem d_R_separate_178 : decode b_R_separate 178 = .ok (.ldc2_w 55, 3) := by decide +kernel
theorem d_R_separate_181 : decode b_R_separate 181 = .ok (.lload 10, 2) := by decide +kernel
theorem d_R_separate_183 : decode b_R_separate 183 = .ok (.lsub, 1) := by decide +kernel
theorem d_R_separate_184 : decode b_R_separate 184 = .ok (.lmul, 1) := by decide +kernel
theorem d_R_separate_185 : decode b_R_separate 185 = .ok (.ldc2_w 55, 3) := by decide +kernel
theorem d_R_separate_188 : decode b_R_separate 188 = .ok (.lload 8, 2) := by decide +kernel
theorem d_R_separate_190 : decode b_R_separate 190 = .ok (.lsub, 1) := by decide +kernel
theorem d_R_separate_191 : decode b_R_separate 191 = .ok (.ldiv, 1) := by decide +kernel
theorem d_R_separate_192 : decode b_R_separate 192 = .ok (.invokevirtual 65, 3) := by decide +kernel
theorem d_R_separate_195 : decode b_R_separate 195 = .ok (.istore 19, 2) := by decide +kernel
theorem d_R_separate_197 : decode b_R_separate 197 = .ok (.aload_n 0, 1) := by decide +kernel
theorem d_R_separate_198 : decode b_R_separate 198 = .ok (.getfield 23, 3) := by decide +kernel
theorem d_R_separate_201 : decode b_R_separate 201 = .ok (.aload_n 0, 1) := by decide +kernel
theorem d_R_separate_202 : decode b_R_separate 202 = .ok (.getfield 80, 3) := by decide +kernel
theorem d_R_separate_205 : decode b_R_separate 205 = .ok (.lload 12, 2) := by decide +kernel
theorem d_R_separate_207 : decode b_R_separate 207 = .ok (.lload 14, 2) := by decide +kernel
theorem d_R_separate_209 : decode b_R_separate 209 = .ok (.lsub, 1) := by decide +kernel
theorem d_R_separate_210 : decode b_R_separate 210 = .ok (.lload 16, 2) := by decide +kernel
theorem d_R_separate_212 : decode b_R_separate 212 = .ok (.lsub, 1) := by decide +kernel
theorem d_R_separate_213 : decode b_R_separate 213 = .ok (.lastore, 1) := by decide +kernel
theorem d_R_separate_214 : decode b_R_separate 214 = .ok (.aload_n 0, 1) := by decide +kernel
theorem d_R_separate_215 : decode b_R_separate 215 = .ok (.dup, 1) := by decide +kernel
theorem d_R_separate_216 : decode b_R_separate 216 = .ok (.getfield 80, 3) := by decide +kernel
theorem d_R_separate_219 : decode b_R_separate 219 = .ok (.iconst 1, 1) := by decide +kernel
theorem d_R_separate_220 : decode b_R_separate 220 = .ok (.iadd, 1) := by decide +kernel
theorem d_R_separate_221 : decode b_R_separate 221 = .ok (.putfield 80, 3) := by decide +kernel
theorem d_R_separate_224 : decode b_R_separate 224 = .ok (.aload_n 0, 1) := by decide +kernel
theorem d_R_separate_225 : decode b_R_separate 225 = .ok (.getfield 19, 3) := by decide +kernel
theorem d_R_separate_228 : decode b_R_separate 228 = .ok (.iload_n 1, 1) := by decide +kernel
theorem d_R_separate_229 : decode b_R_separate 229 = .ok (.iconst 1, 1) := by decide +kernel
theorem d_R_separate_230 : decode b_R_separate 230 = .ok (.bastore, 1) := by decide +kernel
theorem d_R_separate_231 : decode b_R_separate 231 = .ok (.iconst 0, 1) := by decide +kernel
theorem d_R_separate_232 : decode b_R_separate 232 = .ok (.istore 20, 2) := by decide +kernel
theorem d_R_separate_234 : decode b_R_separate 234 = .ok (.iload 20, 2) := by decide +kernel
theorem d_R_separate_236 : decode b_R_separate 236 = .ok (.aload_n 0, 1) := by decide +kernel
theorem d_R_separate_237 : decode b_R_separate 237 = .ok (.getfield 83, 3) := by decide +kernel
theorem d_R_separate_240 : decode b_R_separate 240 = .ok (.if_icmp .ge 67, 3) := by decide +kernel
theorem d_R_separate_243 : decode b_R_separate 243 = .ok (.aload_n 0, 1) := by decide +kernel
theorem d_R_separate_244 : decode b_R_separate 244 = .ok (.getfield 26, 3) := by decide +kernel
theorem d_R_separate_247 : decode b_R_separate 247 = .ok (.iload 20, 2) := by decide +kernel
theorem d_R_separate_249 : decode b_R_separate 249 = .ok (.iaload, 1) := by decide +kernel
theorem d_R_separate_250 : decode b_R_separate 250 = .ok (.iload_n 1, 1) := by decide +kernel
theorem d_R_separate_251 : decode b_R_separate 251 = .ok (.if_icmp .ne 50, 3) := by decide +kernel
theorem d_R_separate_254 : decode b_R_separate 254 = .ok (.iload 20, 2) := by decide +kernel
theorem d_R_separate_256 : decode b_R_separate 256 = .ok (.istore 21, 2) := by decide +kernel
theorem d_R_separate_258 : decode b_R_separate 258 = .ok (.iload 21, 2) := by decide +kernel
theorem d_R_separate_260 : decode b_R_separate 260 = .ok (.iconst 1, 1) := by decide +kernel
theorem d_R_separate_261 : decode b_R_separate 261 = .ok (.iadd, 1) := by decide +kernel
theorem d_R_separate_262 : decode b_R_separate 262 = .ok (.aload_n 0, 1) := by decide +kernel
theorem d_R_separate_263 : decode b_R_separate 263 = .ok (.getfield 83, 3) := by decide +kernel
theorem d_R_separate_266 : decode b_R_separate 266 = .ok (.if_icmp .ge 25, 3) := by decide +kernel
theorem d_R_separate_269 : decode b_R_separate 269 = .ok (.aload_n 0, 1) := by decide +kernel
theorem d_R_separate_270 : decode b_R_separate 270 = .ok (.getfield 26, 3) := by decide +kernel
theorem d_R_separate_273 : decode b_R_separate 273 = .ok (.iload 21, 2) := by decide +kernel
theorem d_R_separate_275 : decode b_R_separate 275 = .ok (.aload_n 0, 1) := by decide +kernel
theorem d_R_separate_276 : decode b_R_separate 276 = .ok (.getfield 26, 3) := by decide +kernel
theorem d_R_separate_279 : decode b_R_separate 279 = .ok (.iload 21, 2) := by decide +kernel
theorem d_R_separate_281 : decode b_R_separate 281 = .ok (.iconst 1, 1) := by decide +kernel
theorem d_R_separate_282 : decode b_R_separate 282 = .ok (.iadd, 1) := by decide +kernel
theorem d_R_separate_283 : decode b_R_separate 283 = .ok (.iaload, 1) := by decide +kernel
theorem d_R_separate_284 : decode b_R_separate 284 = .ok (.iastore, 1) := by decide +kernel
theorem d_R_separate_285 : decode b_R_separate 285 = .ok (.iinc 21 1, 3) := by decide +kernel
theorem d_R_separate_288 : decode b_R_separate 288 = .ok (.goto (-30), 3) := by decide +kernel
theorem d_R_separate_291 : decode b_R_separate 291 = .ok (.aload_n 0, 1) := by decide +kernel
theorem d_R_separate_292 : decode b_R_separate 292 = .ok (.dup, 1) := by decide +kernel
theorem d_R_separate_293 : decode b_R_separate 293 = .ok (.getfield 83, 3) := by decide +kernel
theorem d_R_separate_296 : decode b_R_separate 296 = .ok (.iconst 1, 1) := by decide +kernel
theorem d_R_separate_297 : decode b_R_separate 297 = .ok (.isub, 1) := by decide +kernel
theorem d_R_separate_298 : decode b_R_separate 298 = .ok (.putfield 83, 3) := by decide +kernel
theorem d_R_separate_301 : decode b_R_separate 301 = .ok (.iinc 20 1, 3) := by decide +kernel
theorem d_R_separate_304 : decode b_R_separate 304 = .ok (.goto (-70), 3) := by decide +kernel
theorem d_R_separate_307 : decode b_R_separate 307 = .ok (.iload 19, 2) := by decide +kernel
theorem d_R_separate_309 : decode b_R_separate 309 = .ok (.iconst 1, 1) := by decide +kernel
theorem d_R_separate_310 : decode b_R_separate 310 = .ok (.isub, 1) := by decide +kernel
theorem d_R_separate_311 : decode b_R_separate 311 = .ok (.iload 18, 2) := by decide +kernel
theorem d_R_separate_313 : decode b_R_separate 313 = .ok (.if_icmp .ne 8, 3) := by decide +kernel
theorem d_R_separate_316 : decode b_R_separate 316 = .ok (.iload 18, 2) := by decide +kernel
theorem d_R_separate_318 : decode b_R_separate 318 = .ok (.goto 4, 3) := by decide +kernel
theorem d_R_separate_321 : decode b_R_separate 321 = .ok (.iconst (-1), 1) := by decide +kernel
theorem d_R_separate_322 : decode b_R_separate 322 = .ok (.ireturn, 1) := by decide +kernel
theorem d_R_left_0 : decode b_R_left 0 = .ok (.aload_n 0, 1) := by decide +kernel
theorem d_R_left_1 : decode b_R_left 1 = .ok (.getfield 73, 3) := by decide +kernel
theorem d_R_left_4 : decode b_R_left 4 = .ok (.ifCond .ne 5, 3) := by decide +kernel
theorem d_R_left_7 : decode b_R_left 7 = .ok (.lconst 0, 1) := by decide +kernel
theorem d_R_left_8 : decode b_R_left 8 = .ok (.lreturn, 1) := by decide +kernel
theorem d_R_left_9 : decode b_R_left 9 = .ok (.iconst 0, 1) := by decide +kernel
theorem d_R_left_10 : decode b_R_left 10 = .ok (.istore_n 3, 1) := by decide +kernel
theorem d_R_left_11 : decode b_R_left 11 = .ok (.iload_n 3, 1) := by decide +kernel
theorem d_R_left_12 : decode b_R_left 12 = .ok (.aload_n 0, 1) := by decide +kernel
theorem d_R_left_13 : decode b_R_left 13 = .ok (.getfield 73, 3) := by decide +kernel
theorem d_R_left_16 : decode b_R_left 16 = .ok (.if_icmp .ge 20, 3) := by decide +kernel
theorem d_R_left_19 : decode b_R_left 19 = .ok (.aload_n 0, 1) := by decide +kernel
theorem d_R_left_20 : decode b_R_left 20 = .ok (.getfield 30, 3) := by decide +kernel
theorem d_R_left_23 : decode b_R_left 23 = .ok (.iload_n 3, 1) := by decide +kernel
theorem d_R_left_24 : decode b_R_left 24 = .ok (.laload, 1) := by decide +kernel
theorem d_R_left_25 : decode b_R_left 25 = .ok (.lload_n 1, 1) := by decide +kernel
theorem d_R_left_26 : decode b_R_left 26 = .ok (.lcmp, 1) := by decide +kernel
theorem d_R_left_27 : decode b_R_left 27 = .ok (.ifCond .gt 9, 3) := by decide +kernel
theorem d_R_left_30 : decode b_R_left 30 = .ok (.iinc 3 1, 3) := by decide +kernel
theorem d_R_left_33 : decode b_R_left 33 = .ok (.goto (-22), 3) := by decide +kernel
theorem d_R_left_36 : decode b_R_left 36 = .ok (.iload_n 3, 1) := by decide +kernel
theorem d_R_left_37 : decode b_R_left 37 = .ok (.ifCond .eq 11, 3) := by decide +kernel
theorem d_R_left_40 : decode b_R_left 40 = .ok (.iload_n 3, 1) := by decide +kernel
theorem d_R_left_41 : decode b_R_left 41 = .ok (.aload_n 0, 1) := by decide +kernel
theorem d_R_left_42 : decode b_R_left 42 = .ok (.getfield 73, 3) := by decide +kernel
theorem d_R_left_45 : decode b_R_left 45 = .ok (.if_icmp .ne 23, 3) := by decide +kernel
theorem d_R_left_48 : decode b_R_left 48 = .ok (.aload_n 0, 1) := by decide +kernel
theorem d_R_left_49 : decode b_R_left 49 = .ok (.getfield 33, 3) := by decide +kernel
theorem d_R_left_52 : decode b_R_left 52 = .ok (.iload_n 3, 1) := by decide +kernel
theorem d_R_left_53 : decode b_R_left 53 = .ok (.ifCond .ne 7, 3) := by decide +kernel
theorem d_R_left_56 : decode b_R_left 56 = .ok (.iconst 0, 1) := by decide +kernel
theorem d_R_left_57 : decode b_R_left 57 = .ok (.goto 9, 3) := by decide +kernel
theorem d_R_left_60 : decode b_R_left 60 = .ok (.aload_n 0, 1) := by decide +kernel
theorem d_R_left_61 : decode b_R_left 61 = .ok (.getfield 73, 3) := by decide +kernel
theorem d_R_left_64 : decode b_R_left 64 = .ok (.iconst 1, 1) := by decide +kernel
theorem d_R_left_65 : decode b_R_left 65 = .ok (.isub, 1) := by decide +kernel
theorem d_R_left_66 : decode b_R_left 66 = .ok (.laload, 1) := by decide +kernel
theorem d_R_left_67 : decode b_R_left 67 = .ok (.lreturn, 1) := by decide +kernel
theorem d_R_left_68 : decode b_R_left 68 = .ok (.aload_n 0, 1) := by decide +kernel
theorem d_R_left_69 : decode b_R_left 69 = .ok (.getfield 33, 3) := by decide +kernel
theorem d_R_left_72 : decode b_R_left 72 = .ok (.iload_n 3, 1) := by decide +kernel
theorem d_R_left_73 : decode b_R_left 73 = .ok (.laload, 1) := by decide +kernel
theorem d_R_left_74 : decode b_R_left 74 = .ok (.aload_n 0, 1) := by decide +kernel
theorem d_R_left_75 : decode b_R_left 75 = .ok (.getfield 33, 3) := by decide +kernel
theorem d_R_left_78 : decode b_R_left 78 = .ok (.iload_n 3, 1) := by decide +kernel
theorem d_R_left_79 : decode b_R_left 79 = .ok (.iconst 1, 1) := by decide +kernel
theorem d_R_left_80 : decode b_R_left 80 = .ok (.isub, 1) := by decide +kernel
theorem d_R_left_81 : decode b_R_left 81 = .ok (.laload, 1) := by decide +kernel
theorem d_R_left_82 : decode b_R_left 82 = .ok (.lsub, 1) := by decide +kernel
theorem d_R_left_83 : decode b_R_left 83 = .ok (.lload_n 1, 1) := by decide +kernel
theorem d_R_left_84 : decode b_R_left 84 = .ok (.aload_n 0, 1) := by decide +kernel
theorem d_R_left_85 : decode b_R_left 85 = .ok (.getfield 30, 3) := by decide +kernel
theorem d_R_left_88 : decode b_R_left 88 = .ok (.iload_n 3, 1) := by decide +kernel
theorem d_R_left_89 : decode b_R_left 89 = .ok (.iconst 1, 1) := by decide +kernel
theorem d_R_left_90 : decode b_R_left 90 = .ok (.isub, 1) := by decide +kernel
theorem d_R_left_91 : decode b_R_left 91 = .ok (.laload, 1) := by decide +kernel
theorem d_R_left_92 : decode b_R_left 92 = .ok (.lsub, 1) := by decide +kernel
theorem d_R_left_93 : decode b_R_left 93 = .ok (.lmul, 1) := by decide +kernel
theorem d_R_left_94 : decode b_R_left 94 = .ok (.lstore 4, 2) := by decide +kernel
theorem d_R_left_96 : decode b_R_left 96 = .ok (.aload_n 0, 1) := by decide +kernel
theorem d_R_left_97 : decode b_R_left 97 = .ok (.getfield 30, 3) := by decide +kernel
theorem d_R_left_100 : decode b_R_left 100 = .ok (.iload_n 3, 1) := by decide +kernel
theorem d_R_left_101 : decode b_R_left 101 = .ok (.laload, 1) := by decide +kernel
theorem d_R_left_102 : decode b_R_left 102 = .ok (.aload_n 0, 1) := by decide +kernel
theorem d_R_left_103 : decode b_R_left 103 = .ok (.getfield 30, 3) := by decide +kernel
theorem d_R_left_106 : decode b_R_left 106 = .ok (.iload_n 3, 1) := by decide +kernel
theorem d_R_left_107 : decode b_R_left 107 = .ok (.iconst 1, 1) := by decide +kernel
theorem d_R_left_108 : decode b_R_left 108 = .ok (.isub, 1) := by decide +kernel
theorem d_R_left_109 : decode b_R_left 109 = .ok (.laload, 1) := by decide +kernel
theorem d_R_left_110 : decode b_R_left 110 = .ok (.lsub, 1) := by decide +kernel
theorem d_R_left_111 : decode b_R_left 111 = .ok (.lstore 6, 2) := by decide +kernel
theorem d_R_left_113 : decode b_R_left 113 = .ok (.lload 4, 2) := by decide +kernel
theorem d_R_left_115 : decode b_R_left 115 = .ok (.lload 6, 2) := by decide +kernel
theorem d_R_left_117 : decode b_R_left 117 = .ok (.ldiv, 1) := by decide +kernel
theorem d_R_left_118 : decode b_R_left 118 = .ok (.lstore 8, 2) := by decide +kernel
theorem d_R_left_120 : decode b_R_left 120 = .ok (.lload 8, 2) := by decide +kernel
theorem d_R_left_122 : decode b_R_left 122 = .ok (.lload 4, 2) := by decide +kernel
theorem d_R_left_124 : decode b_R_left 124 = .ok (.lload 6, 2) := by decide +kernel
theorem d_R_left_126 : decode b_R_left 126 = .ok (.lrem, 1) := by decide +kernel
theorem d_R_left_127 : decode b_R_left 127 = .ok (.lconst 0, 1) := by decide +kernel
theorem d_R_left_128 : decode b_R_left 128 = .ok (.lcmp, 1) := by decide +kernel
theorem d_R_left_129 : decode b_R_left 129 = .ok (.ifCond .ge 7, 3) := by decide +kernel
theorem d_R_left_132 : decode b_R_left 132 = .ok (.lconst 1, 1) := by decide +kernel
theorem d_R_left_133 : decode b_R_left 133 = .ok (.goto 4, 3) := by decide +kernel
theorem d_R_left_136 : decode b_R_left 136 = .ok (.lconst 0, 1) := by decide +kernel
theorem d_R_left_137 : decode b_R_left 137 = .ok (.lsub, 1) := by decide +kernel
theorem d_R_left_138 : decode b_R_left 138 = .ok (.lstore 8, 2) := by decide +kernel
theorem d_R_left_140 : decode b_R_left 140 = .ok (.aload_n 0, 1) := by decide +kernel
theorem d_R_left_141 : decode b_R_left 141 = .ok (.getfield 33, 3) := by decide +kernel
theorem d_R_left_144 : decode b_R_left 144 = .ok (.iload_n 3, 1) := by decide +kernel
theorem d_R_left_145 : decode b_R_left 145 = .ok (.iconst 1, 1) := by decide +kernel
theorem d_R_left_146 : decode b_R_left 146 = .ok (.isub, 1) := by decide +kernel
theorem d_R_left_147 : decode b_R_left 147 = .ok (.laload, 1) := by decide +kernel
theorem d_R_left_148 : decode b_R_left 148 = .ok (.lload 8, 2) := by decide +kernel
theorem d_R_left_150 : decode b_R_left 150 = .ok (.ladd, 1) := by decide +kernel
theorem d_R_left_151 : decode b_R_left 151 = .ok (.lreturn, 1) := by decide +kernel
theorem d_R_choose_0 : decode b_R_choose 0 = .ok (.aload_n 0, 1) := by decide +kernel
theorem d_R_choose_1 : decode b_R_choose 1 = .ok (.iload_n 1, 1) := by decide +kernel
theorem d_R_choose_2 : decode b_R_choose 2 = .ok (.invokevirtual 69, 3) := by decide +kernel
theorem d_R_choose_5 : decode b_R_choose 5 = .ok (.ifCond .eq 24, 3) := by decide +kernel
theorem d_R_choose_8 : decode b_R_choose 8 = .ok (.aload_n 0, 1) := by decide +kernel
theorem d_R_choose_9 : decode b_R_choose 9 = .ok (.getfield 19, 3) := by decide +kernel
theorem d_R_choose_12 : decode b_R_choose 12 = .ok (.iload_n 1, 1) := by decide +kernel
theorem d_R_choose_13 : decode b_R_choose 13 = .ok (.baload, 1) := by decide +kernel
theorem d_R_choose_14 : decode b_R_choose 14 = .ok (.ifCond .ne 15, 3) := by decide +kernel
theorem d_R_choose_17 : decode b_R_choose 17 = .ok (.aload_n 0, 1) := by decide +kernel
theorem d_R_choose_18 : decode b_R_choose 18 = .ok (.getfield 83, 3) := by decide +kernel
theorem d_R_choose_21 : decode b_R_choose 21 = .ok (.iconst 4, 1) := by decide +kernel
theorem d_R_choose_22 : decode b_R_choose 22 = .ok (.if_icmp .ge 7, 3) := by decide +kernel
theorem d_R_choose_25 : decode b_R_choose 25 = .ok (.iconst 1, 1) := by decide +kernel
theorem d_R_choose_26 : decode b_R_choose 26 = .ok (.goto 4, 3) := by decide +kernel
theorem d_R_choose_29 : decode b_R_choose 29 = .ok (.iconst 0, 1) := by decide +kernel
theorem d_R_choose_30 : decode b_R_choose 30 = .ok (.istore_n 2, 1) := by decide +kernel
theorem d_R_choose_31 : decode b_R_choose 31 = .ok (.iconst 0, 1) := by decide +kernel
theorem d_R_choose_32 : decode b_R_choose 32 = .ok (.istore_n 3, 1) := by decide +kernel
theorem d_R_choose_33 : decode b_R_choose 33 = .ok (.iload_n 3, 1) := by decide +kernel
theorem d_R_choose_34 : decode b_R_choose 34 = .ok (.aload_n 0, 1) := by decide +kernel
theorem d_R_choose_35 : decode b_R_choose 35 = .ok (.getfield 83, 3) := by decide +kernel
theorem d_R_choose_38 : decode b_R_choose 38 = .ok (.if_icmp .ge 29, 3) := by decide +kernel
theorem d_R_choose_41 : decode b_R_choose 41 = .ok (.iload_n 2, 1) := by decide +kernel
theorem d_R_choose_42 : decode b_R_choose 42 = .ok (.ifCond .eq 25, 3) := by decide +kernel
theorem d_R_choose_45 : decode b_R_choose 45 = .ok (.aload_n 0, 1) := by decide +kernel
theorem d_R_choose_46 : decode b_R_choose 46 = .ok (.getfield 26, 3) := by decide +kernel
theorem d_R_choose_49 : decode b_R_choose 49 = .ok (.iload_n 3, 1) := by decide +kernel
theorem d_R_choose_50 : decode b_R_choose 50 = .ok (.iaload, 1) := by decide +kernel
theorem d_R_choose_51 : decode b_R_choose 51 = .ok (.iload_n 1, 1) := by decide +kernel
theorem d_R_choose_52 : decode b_R_choose 52 = .ok (.if_icmp .eq 7, 3) := by decide +kernel
theorem d_R_choose_55 : decode b_R_choose 55 = .ok (.iconst 1, 1) := by decide +kernel
theorem d_R_choose_56 : decode b_R_choose 56 = .ok (.goto 4, 3) := by decide +kernel
theorem d_R_choose_59 : decode b_R_choose 59 = .ok (.iconst 0, 1) := by decide +kernel
theorem d_R_choose_60 : decode b_R_choose 60 = .ok (.istore_n 2, 1) := by decide +kernel
theorem d_R_choose_61 : decode b_R_choose 61 = .ok (.iinc 3 1, 3) := by decide +kernel
theorem d_R_choose_64 : decode b_R_choose 64 = .ok (.goto (-31), 3) := by decide +kernel
theorem d_R_choose_67 : decode b_R_choose 67 = .ok (.iload_n 2, 1) := by decide +kernel
theorem d_R_choose_68 : decode b_R_choose 68 = .ok (.ifCond .eq 23, 3) := by decide +kernel
theorem d_R_choose_71 : decode b_R_choose 71 = .ok (.aload_n 0, 1) := by decide +kernel
theorem d_R_choose_72 : decode b_R_choose 72 = .ok (.getfield 26, 3) := by decide +kernel
theorem d_R_choose_75 : decode b_R_choose 75 = .ok (.aload_n 0, 1) := by decide +kernel
theorem d_R_choose_76 : decode b_R_choose 76 = .ok (.getfield 83, 3) := by decide +kernel
theorem d_R_choose_79 : decode b_R_choose 79 = .ok (.iload_n 1, 1) := by decide +kernel
theorem d_R_choose_80 : decode b_R_choose 80 = .ok (.iastore, 1) := by decide +kernel
theorem d_R_choose_81 : decode b_R_choose 81 = .ok (.aload_n 0, 1) := by decide +kernel
theorem d_R_choose_82 : decode b_R_choose 82 = .ok (.dup, 1) := by decide +kernel
theorem d_R_choose_83 : decode b_R_choose 83 = .ok (.getfield 83, 3) := by decide +kernel
theorem d_R_choose_86 : decode b_R_choose 86 = .ok (.iconst 1, 1) := by decide +kernel
theorem d_R_choose_87 : decode b_R_choose 87 = .ok (.iadd, 1) := by decide +kernel
theorem d_R_choose_88 : decode b_R_choose 88 = .ok (.putfield 83, 3) := by decide +kernel
theorem d_R_choose_91 : decode b_R_choose 91 = .ok (.iload_n 2, 1) := by decide +kernel
theorem d_R_choose_92 : decode b_R_choose 92 = .ok (.ireturn, 1) := by decide +kernel
theorem d_R_clearChosen_0 : decode b_R_clearChosen 0 = .ok (.aload_n 0, 1) := by decide +kernel
theorem d_R_clearChosen_1 : decode b_R_clearChosen 1 = .ok (.iconst 0, 1) := by decide +kernel
theorem d_R_clearChosen_2 : decode b_R_clearChosen 2 = .ok (.putfield 83, 3) := by decide +kernel
theorem d_R_clearChosen_5 : decode b_R_clearChosen 5 = .ok (.return_, 1) := by decide +kernel
theorem d_R_standard_0 : decode b_R_standard 0 = .ok (.aload_n 0, 1) := by decide +kernel
theorem d_R_standard_1 : decode b_R_standard 1 = .ok (.iconst 0, 1) := by decide +kernel
theorem d_R_standard_2 : decode b_R_standard 2 = .ok (.putfield 86, 3) := by decide +kernel
theorem d_R_standard_5 : decode b_R_standard 5 = .ok (.lload_n 1, 1) := by decide +kernel
theorem d_R_standard_6 : decode b_R_standard 6 = .ok (.lload 5, 2) := by decide +kernel
theorem d_R_standard_8 : decode b_R_standard 8 = .ok (.invokestatic 61, 3) := by decide +kernel
theorem d_R_standard_11 : decode b_R_standard 11 = .ok (.lstore 7, 2) := by decide +kernel
theorem d_R_standard_13 : decode b_R_standard 13 = .ok (.lload_n 3, 1) := by decide +kernel
theorem d_R_standard_14 : decode b_R_standard 14 = .ok (.lload 5, 2) := by decide +kernel
theorem d_R_standard_16 : decode b_R_standard 16 = .ok (.invokestatic 61, 3) := by decide +kernel
theorem d_R_standard_19 : decode b_R_standard 19 = .ok (.lstore 9, 2) := by decide +kernel
theorem d_R_standard_21 : decode b_R_standard 21 = .ok (.aload_n 0, 1) := by decide +kernel
theorem d_R_standard_22 : decode b_R_standard 22 = .ok (.getfield 83, 3) := by decide +kernel
theorem d_R_standard_25 : decode b_R_standard 25 = .ok (.ifCond .eq 17, 3) := by decide +kernel
theorem d_R_standard_28 : decode b_R_standard 28 = .ok (.lload 7, 2) := by decide +kernel
theorem d_R_standard_30 : decode b_R_standard 30 = .ok (.lconst 0, 1) := by decide +kernel
theorem d_R_standard_31 : decode b_R_standard 31 = .ok (.lcmp, 1) := by decide +kernel
theorem d_R_standard_32 : decode b_R_standard 32 = .ok (.ifCond .lt 10, 3) := by decide +kernel
theorem d_R_standard_35 : decode b_R_standard 35 = .ok (.lload 9, 2) := by decide +kernel
theorem d_R_standard_37 : decode b_R_standard 37 = .ok (.lconst 0, 1) := by decide +kernel
theorem d_R_standard_38 : decode b_R_standard 38 = .ok (.lcmp, 1) := by decide +kernel
theorem d_R_standard_39 : decode b_R_standard 39 = .ok (.ifCond .ge 5, 3) := by decide +kernel
theorem d_R_standard_42 : decode b_R_standard 42 = .ok (.iconst (-1), 1) := by decide +kernel
theorem d_R_standard_43 : decode b_R_standard 43 = .ok (.ireturn, 1) := by decide +kernel
theorem d_R_standard_44 : decode b_R_standard 44 = .ok (.iconst 0, 1) := by decide +kernel
theorem d_R_standard_45 : decode b_R_standard 45 = .ok (.istore 11, 2) := by decide +kernel
theorem d_R_standard_47 : decode b_R_standard 47 = .ok (.iload 11, 2) := by decide +kernel
theorem d_R_standard_49 : decode b_R_standard 49 = .ok (.aload_n 0, 1) := by decide +kernel
theorem d_R_standard_50 : decode b_R_standard 50 = .ok (.getfield 83, 3) := by decide +kernel
theorem d_R_standard_53 : decode b_R_standard 53 = .ok (.if_icmp .ge 130, 3) := by decide +kernel
theorem d_R_standard_56 : decode b_R_standard 56 = .ok (.aload_n 0, 1) := by decide +kernel
theorem d_R_standard_57 : decode b_R_standard 57 = .ok (.getfield 13, 3) := by decide +kernel
theorem d_R_standard_60 : decode b_R_standard 60 = .ok (.aload_n 0, 1) := by decide +kernel
theorem d_R_standard_61 : decode b_R_standard 61 = .ok (.getfield 26, 3) := by decide +kernel
theorem d_R_standard_64 : decode b_R_standard 64 = .ok (.iload 11, 2) := by decide +kernel
theorem d_R_standard_66 : decode b_R_standard 66 = .ok (.iaload, 1) := by decide +kernel
theorem d_R_standard_67 : decode b_R_standard 67 = .ok (.laload, 1) := by decide +kernel
theorem d_R_standard_68 : decode b_R_standard 68 = .ok (.lload 7, 2) := by decide +kernel
theorem d_R_standard_70 : decode b_R_standard 70 = .ok (.lcmp, 1) := by decide +kernel
theorem d_R_standard_71 : decode b_R_standard 71 = .ok (.ifCond .ne 38, 3) := by decide +kernel
theorem d_R_standard_74 : decode b_R_standard 74 = .ok (.aload_n 0, 1) := by decide +kernel
theorem d_R_standard_75 : decode b_R_standard 75 = .ok (.getfield 16, 3) := by decide +kernel
theorem d_R_standard_78 : decode b_R_standard 78 = .ok (.aload_n 0, 1) := by decide +kernel
theorem d_R_standard_79 : decode b_R_standard 79 = .ok (.getfield 26, 3) := by decide +kernel
theorem d_R_standard_82 : decode b_R_standard 82 = .ok (.iload 11, 2) := by decide +kernel
theorem d_R_standard_84 : decode b_R_standard 84 = .ok (.iaload, 1) := by decide +kernel
theorem d_R_standard_85 : decode b_R_standard 85 = .ok (.laload, 1) := by decide +kernel
theorem d_R_standard_86 : decode b_R_standard 86 = .ok (.lload 9, 2) := by decide +kernel
theorem d_R_standard_88 : decode b_R_standard 88 = .ok (.lcmp, 1) := by decide +kernel
theorem d_R_standard_89 : decode b_R_standard 89 = .ok (.ifCond .ne 20, 3) := by decide +kernel
theorem d_R_standard_92 : decode b_R_standard 92 = .ok (.aload_n 0, 1) := by decide +kernel
theorem d_R_standard_93 : decode b_R_standard 93 = .ok (.invokevirtual 98, 3) := by decide +kernel
theorem d_R_standard_96 : decode b_R_standard 96 = .ok (.aload_n 0, 1) := by decide +kernel
theorem d_R_standard_97 : decode b_R_standard 97 = .ok (.getfield 48, 3) := by decide +kernel
theorem d_R_standard_100 : decode b_R_standard 100 = .ok (.iload 11, 2) := by decide +kernel
theorem d_R_standard_102 : decode b_R_standard 102 = .ok (.lconst 1, 1) := by decide +kernel
theorem d_R_standard_103 : decode b_R_standard 103 = .ok (.lastore, 1) := by decide +kernel
theorem d_R_standard_104 : decode b_R_standard 104 = .ok (.aload_n 0, 1) := by decide +kernel
theorem d_R_standard_105 : decode b_R_standard 105 = .ok (.lconst 1, 1) := by decide +kernel
theorem d_R_standard_106 : decode b_R_standard 106 = .ok (.invokevirtual 101, 3) := by decide +kernel
theorem d_R_standard_109 : decode b_R_standard 109 = .ok (.iload 11, 2) := by decide +kernel
theorem d_R_standard_111 : decode b_R_standard 111 = .ok (.iconst 1, 1) := by decide +kernel
theorem d_R_standard_112 : decode b_R_standard 112 = .ok (.iadd, 1) := by decide +kernel
theorem d_R_standard_113 : decode b_R_standard 113 = .ok (.istore 12, 2) := by decide +kernel
theorem d_R_standard_115 : decode b_R_standard 115 = .ok (.iload 12, 2) := by decide +kernel
theorem d_R_standard_117 : decode b_R_standard 117 = .ok (.aload_n 0, 1) := by decide +kernel
theorem d_R_standard_118 : decode b_R_standard 118 = .ok (.getfield 83, 3) := by decide +kernel
theorem d_R_standard_121 : decode b_R_standard 121 = .ok (.if_icmp .ge 56, 3) := by decide +kernel
theorem d_R_standard_124 : decode b_R_standard 124 = .ok (.aload_n 0, 1) := by decide +kernel
theorem d_R_standard_125 : decode b_R_standard 125 = .ok (.iload 11, 2) := by decide +kernel
theorem d_R_standard_127 : decode b_R_standard 127 = .ok (.iload 12, 2) := by decide +kernel
theorem d_R_standard_129 : decode b_R_standard 129 = .ok (.lload 7, 2) := by decide +kernel
theorem d_R_standard_131 : decode b_R_standard 131 = .ok (.lload 9, 2) := by decide +kernel
theorem d_R_standard_133 : decode b_R_standard 133 = .ok (.invokevirtual 105, 3) := by decide +kernel
theorem d_R_standard_136 : decode b_R_standard 136 = .ok (.iload 12, 2) := by decide +kernel
theorem d_R_standard_138 : decode b_R_standard 138 = .ok (.iconst 1, 1) := by decide +kernel
theorem d_R_standard_139 : decode b_R_standard 139 = .ok (.iadd, 1) := by decide +kernel
theorem d_R_standard_140 : decode b_R_standard 140 = .ok (.istore 13, 2) := by decide +kernel
theorem d_R_standard_142 : decode b_R_standard 142 = .ok (.iload 13, 2) := by decide +kernel
theorem d_R_standard_144 : decode b_R_standard 144 = .ok (.aload_n 0, 1) := by decide +kernel
theorem d_R_standard_145 : decode b_R_standard 145 = .ok (.getfield 83, 3) := by decide +kernel
theorem d_R_standard_148 : decode b_R_standard 148 = .ok (.if_icmp .ge 23, 3) := by decide +kernel
theorem d_R_standard_151 : decode b_R_standard 151 = .ok (.aload_n 0, 1) := by decide +kernel
theorem d_R_standard_152 : decode b_R_standard 152 = .ok (.iload 11, 2) := by decide +kernel
theorem d_R_standard_154 : decode b_R_standard 154 = .ok (.iload 12, 2) := by decide +kernel
theorem d_R_standard_156 : decode b_R_standard 156 = .ok (.iload 13, 2) := by decide +kernel
theorem d_R_standard_158 : decode b_R_standard 158 = .ok (.lload 7, 2) := by decide +kernel
theorem d_R_standard_160 : decode b_R_standard 160 = .ok (.lload 9, 2) := by decide +kernel
theorem d_R_standard_162 : decode b_R_standard 162 = .ok (.invokevirtual 109, 3) := by decide +kernel
theorem d_R_standard_165 : decode b_R_standard 165 = .ok (.iinc 13 1, 3) := by decide +kernel
theorem d_R_standard_168 : decode b_R_standard 168 = .ok (.goto (-26), 3) := by decide +kernel
theorem d_R_standard_171 : decode b_R_standard 171 = .ok (.iinc 12 1, 3) := by decide +kernel
theorem d_R_standard_174 : decode b_R_standard 174 = .ok (.goto (-59), 3) := by decide +kernel
theorem d_R_standard_177 : decode b_R_standard 177 = .ok (.iinc 11 1, 3) := by decide +kernel
theorem d_R_standard_180 : decode b_R_standard 180 = .ok (.goto (-133), 3) := by decide +kernel
theorem d_R_standard_183 : decode b_R_standard 183 = .ok (.aload_n 0, 1) := by decide +kernel
theorem d_R_standard_184 : decode b_R_standard 184 = .ok (.aload_n 0, 1) := by decide +kernel
theorem d_R_standard_185 : decode b_R_standard 185 = .ok (.getfield 83, 3) := by decide +kernel
theorem d_R_standard_188 : decode b_R_standard 188 = .ok (.putfield 113, 3) := by decide +kernel
theorem d_R_standard_191 : decode b_R_standard 191 = .ok (.iconst 0, 1) := by decide +kernel
theorem d_R_standard_192 : decode b_R_standard 192 = .ok (.istore 11, 2) := by decide +kernel
theorem d_R_standard_194 : decode b_R_standard 194 = .ok (.iload 11, 2) := by decide +kernel
theorem d_R_standard_196 : decode b_R_standard 196 = .ok (.aload_n 0, 1) := by decide +kernel
theorem d_R_standard_197 : decode b_R_standard 197 = .ok (.getfield 83, 3) := by decide +kernel
theorem d_R_standard_200 : decode b_R_standard 200 = .ok (.if_icmp .ge 23, 3) := by decide +kernel
theorem d_R_standard_203 : decode b_R_standard 203 = .ok (.aload_n 0, 1) := by decide +kernel
theorem d_R_standard_204 : decode b_R_standard 204 = .ok (.getfield 42, 3) := by decide +kernel
theorem d_R_standard_207 : decode b_R_standard 207 = .ok (.iload 11, 2) := by decide +kernel
theorem d_R_standard_209 : decode b_R_standard 209 = .ok (.aload_n 0, 1) := by decide +kernel
theorem d_R_standard_210 : decode b_R_standard 210 = .ok (.getfield 26, 3) := by decide +kernel
theorem d_R_standard_213 : decode b_R_standard 213 = .ok (.iload 11, 2) := by decide +kernel
theorem d_R_standard_215 : decode b_R_standard 215 = .ok (.iaload, 1) := by decide +kernel
theorem d_R_standard_216 : decode b_R_standard 216 = .ok (.iastore, 1) := by decide +kernel
theorem d_R_standard_217 : decode b_R_standard 217 = .ok (.iinc 11 1, 3) := by decide +kernel
theorem d_R_standard_220 : decode b_R_standard 220 = .ok (.goto (-26), 3) := by decide +kernel
theorem d_R_standard_223 : decode b_R_standard 223 = .ok (.aload_n 0, 1) := by decide +kernel
theorem d_R_standard_224 : decode b_R_standard 224 = .ok (.getfield 86, 3) := by decide +kernel
theorem d_R_standard_227 : decode b_R_standard 227 = .ok (.ifCond .eq 7, 3) := by decide +kernel
theorem d_R_standard_230 : decode b_R_standard 230 = .ok (.iconst 0, 1) := by decide +kernel
theorem d_R_standard_231 : decode b_R_standard 231 = .ok (.goto 4, 3) := by decide +kernel
theorem d_R_standard_234 : decode b_R_standard 234 = .ok (.iconst 1, 1) := by decide +kernel
theorem d_R_standard_235 : decode b_R_standard 235 = .ok (.ireturn, 1) := by decide +kernel
theorem d_R_clearTrial_0 : decode b_R_clearTrial 0 = .ok (.iconst 0, 1) := by decide +kernel
theorem d_R_clearTrial_1 : decode b_R_clearTrial 1 = .ok (.istore_n 1, 1) := by decide +kernel
theorem d_R_clearTrial_2 : decode b_R_clearTrial 2 = .ok (.iload_n 1, 1) := by decide +kernel
theorem d_R_clearTrial_3 : decode b_R_clearTrial 3 = .ok (.iconst 4, 1) := by decide +kernel
theorem d_R_clearTrial_4 : decode b_R_clearTrial 4 = .ok (.if_icmp .ge 16, 3) := by decide +kernel
theorem d_R_clearTrial_7 : decode b_R_clearTrial 7 = .ok (.aload_n 0, 1) := by decide +kernel
theorem d_R_clearTrial_8 : decode b_R_clearTrial 8 = .ok (.getfield 48, 3) := by decide +kernel
theorem d_R_clearTrial_11 : decode b_R_clearTrial 11 = .ok (.iload_n 1, 1) := by decide +kernel
theorem d_R_clearTrial_12 : decode b_R_clearTrial 12 = .ok (.lconst 0, 1) := by decide +kernel
theorem d_R_clearTrial_13 : decode b_R_clearTrial 13 = .ok (.lastore, 1) := by decide +kernel
theorem d_R_clearTrial_14 : decode b_R_clearTrial 14 = .ok (.iinc 1 1, 3) := by decide +kernel
theorem d_R_clearTrial_17 : decode b_R_clearTrial 17 = .ok (.goto (-15), 3) := by decide +kernel
theorem d_R_clearTrial_20 : decode b_R_clearTrial 20 = .ok (.return_, 1) := by decide +kernel
theorem d_R_take_0 : decode b_R_take 0 = .ok (.aload_n 0, 1) := by decide +kernel
theorem d_R_take_1 : decode b_R_take 1 = .ok (.getfield 86, 3) := by decide +kernel
theorem d_R_take_4 : decode b_R_take 4 = .ok (.ifCond .ne 7, 3) := by decide +kernel
theorem d_R_take_7 : decode b_R_take 7 = .ok (.iconst 1, 1) := by decide +kernel
theorem d_R_take_8 : decode b_R_take 8 = .ok (.goto 4, 3) := by decide +kernel
theorem d_R_take_11 : decode b_R_take 11 = .ok (.iconst 0, 1) := by decide +kernel
theorem d_R_take_12 : decode b_R_take 12 = .ok (.istore_n 3, 1) := by decide +kernel
theorem d_R_take_13 : decode b_R_take 13 = .ok (.aload_n 0, 1) := by decide +kernel
theorem d_R_take_14 : decode b_R_take 14 = .ok (.getfield 86, 3) := by decide +kernel
theorem d_R_take_17 : decode b_R_take 17 = .ok (.istore 4, 2) := by decide +kernel
theorem d_R_take_19 : decode b_R_take 19 = .ok (.iconst 0, 1) := by decide +kernel
theorem d_R_take_20 : decode b_R_take 20 = .ok (.istore 5, 2) := by decide +kernel
theorem d_R_take_22 : decode b_R_take 22 = .ok (.iload 5, 2) := by decide +kernel
theorem d_R_take_24 : decode b_R_take 24 = .ok (.aload_n 0, 1) := by decide +kernel
theorem d_R_take_25 : decode b_R_take 25 = .ok (.getfield 83, 3) := by decide +kernel
theorem d_R_take_28 : decode b_R_take 28 = .ok (.if_icmp .ge 68, 3) := by decide +kernel
theorem d_R_take_31 : decode b_R_take 31 = .ok (.iload 4, 2) := by decide +kernel
theorem d_R_take_33 : decode b_R_take 33 = .ok (.ifCond .eq 63, 3) := by decide +kernel
theorem d_R_take_36 : decode b_R_take 36 = .ok (.aload_n 0, 1) := by decide +kernel
theorem d_R_take_37 : decode b_R_take 37 = .ok (.getfield 48, 3) := by decide +kernel
theorem d_R_take_40 : decode b_R_take 40 = .ok (.iload 5, 2) := by decide +kernel
theorem d_R_take_42 : decode b_R_take 42 = .ok (.laload, 1) := by decide +kernel
theorem d_R_take_43 : decode b_R_take 43 = .ok (.aload_n 0, 1) := by decide +kernel
theorem d_R_take_44 : decode b_R_take 44 = .ok (.getfield 90, 3) := by decide +kernel
theorem d_R_take_47 : decode b_R_take 47 = .ok (.lmul, 1) := by decide +kernel
theorem d_R_take_48 : decode b_R_take 48 = .ok (.lstore 6, 2) := by decide +kernel
theorem d_R_take_50 : decode b_R_take 50 = .ok (.aload_n 0, 1) := by decide +kernel
theorem d_R_take_51 : decode b_R_take 51 = .ok (.getfield 45, 3) := by decide +kernel
theorem d_R_take_54 : decode b_R_take 54 = .ok (.iload 5, 2) := by decide +kernel
theorem d_R_take_56 : decode b_R_take 56 = .ok (.laload, 1) := by decide +kernel
theorem d_R_take_57 : decode b_R_take 57 = .ok (.lload_n 1, 1) := by decide +kernel
theorem d_R_take_58 : decode b_R_take 58 = .ok (.lmul, 1) := by decide +kernel
theorem d_R_take_59 : decode b_R_take 59 = .ok (.lstore 8, 2) := by decide +kernel
theorem d_R_take_61 : decode b_R_take 61 = .ok (.lload 6, 2) := by decide +kernel
theorem d_R_take_63 : decode b_R_take 63 = .ok (.lload 8, 2) := by decide +kernel
theorem d_R_take_65 : decode b_R_take 65 = .ok (.lcmp, 1) := by decide +kernel
theorem d_R_take_66 : decode b_R_take 66 = .ok (.ifCond .ne 7, 3) := by decide +kernel
theorem d_R_take_69 : decode b_R_take 69 = .ok (.iconst 1, 1) := by decide +kernel
theorem d_R_take_70 : decode b_R_take 70 = .ok (.goto 4, 3) := by decide +kernel
theorem d_R_take_73 : decode b_R_take 73 = .ok (.iconst 0, 1) := by decide +kernel
theorem d_R_take_74 : decode b_R_take 74 = .ok (.istore 4, 2) := by decide +kernel
theorem d_R_take_76 : decode b_R_take 76 = .ok (.lload 6, 2) := by decide +kernel
theorem d_R_take_78 : decode b_R_take 78 = .ok (.lload 8, 2) := by decide +kernel
theorem d_R_take_80 : decode b_R_take 80 = .ok (.lcmp, 1) := by decide +kernel
theorem d_R_take_81 : decode b_R_take 81 = .ok (.ifCond .le 7, 3) := by decide +kernel
theorem d_R_take_84 : decode b_R_take 84 = .ok (.iconst 1, 1) := by decide +kernel
theorem d_R_take_85 : decode b_R_take 85 = .ok (.goto 4, 3) := by decide +kernel
theorem d_R_take_88 : decode b_R_take 88 = .ok (.iconst 0, 1) := by decide +kernel
