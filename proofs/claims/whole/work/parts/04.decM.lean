theorem d_S_init_0 : decode b_S_init 0 = .ok (.aload_n 0, 1) := by decide +kernel
theorem d_S_init_1 : decode b_S_init 1 = .ok (.invokespecial 3, 3) := by decide +kernel
theorem d_S_init_4 : decode b_S_init 4 = .ok (.aload_n 0, 1) := by decide +kernel
theorem d_S_init_5 : decode b_S_init 5 = .ok (.bipush 20, 2) := by decide +kernel
theorem d_S_init_7 : decode b_S_init 7 = .ok (.newarray .long, 2) := by decide +kernel
theorem d_S_init_9 : decode b_S_init 9 = .ok (.putfield 9, 3) := by decide +kernel
theorem d_S_init_12 : decode b_S_init 12 = .ok (.aload_n 0, 1) := by decide +kernel
theorem d_S_init_13 : decode b_S_init 13 = .ok (.bipush 20, 2) := by decide +kernel
theorem d_S_init_15 : decode b_S_init 15 = .ok (.newarray .long, 2) := by decide +kernel
theorem d_S_init_17 : decode b_S_init 17 = .ok (.putfield 15, 3) := by decide +kernel
theorem d_S_init_20 : decode b_S_init 20 = .ok (.aload_n 0, 1) := by decide +kernel
theorem d_S_init_21 : decode b_S_init 21 = .ok (.iconst 0, 1) := by decide +kernel
theorem d_S_init_22 : decode b_S_init 22 = .ok (.putfield 18, 3) := by decide +kernel
theorem d_S_init_25 : decode b_S_init 25 = .ok (.return_, 1) := by decide +kernel
theorem d_M_init_0 : decode b_M_init 0 = .ok (.aload_n 0, 1) := by decide +kernel
theorem d_M_init_1 : decode b_M_init 1 = .ok (.invokespecial 3, 3) := by decide +kernel
theorem d_M_init_4 : decode b_M_init 4 = .ok (.aload_n 0, 1) := by decide +kernel
theorem d_M_init_5 : decode b_M_init 5 = .ok (.iconst 4, 1) := by decide +kernel
theorem d_M_init_6 : decode b_M_init 6 = .ok (.newarray .int, 2) := by decide +kernel
theorem d_M_init_8 : decode b_M_init 8 = .ok (.putfield 9, 3) := by decide +kernel
theorem d_M_init_11 : decode b_M_init 11 = .ok (.aload_n 0, 1) := by decide +kernel
theorem d_M_init_12 : decode b_M_init 12 = .ok (.iconst 0, 1) := by decide +kernel
theorem d_M_init_13 : decode b_M_init 13 = .ok (.putfield 15, 3) := by decide +kernel
theorem d_M_init_16 : decode b_M_init 16 = .ok (.aload_n 0, 1) := by decide +kernel
theorem d_M_init_17 : decode b_M_init 17 = .ok (.iconst 5, 1) := by decide +kernel
theorem d_M_init_18 : decode b_M_init 18 = .ok (.newarray .long, 2) := by decide +kernel
theorem d_M_init_20 : decode b_M_init 20 = .ok (.putfield 19, 3) := by decide +kernel
theorem d_M_init_23 : decode b_M_init 23 = .ok (.aload_n 0, 1) := by decide +kernel
theorem d_M_init_24 : decode b_M_init 24 = .ok (.iconst 5, 1) := by decide +kernel
theorem d_M_init_25 : decode b_M_init 25 = .ok (.newarray .long, 2) := by decide +kernel
theorem d_M_init_27 : decode b_M_init 27 = .ok (.putfield 23, 3) := by decide +kernel
theorem d_M_init_30 : decode b_M_init 30 = .ok (.aload_n 0, 1) := by decide +kernel
theorem d_M_init_31 : decode b_M_init 31 = .ok (.iconst 4, 1) := by decide +kernel
theorem d_M_init_32 : decode b_M_init 32 = .ok (.newarray .long, 2) := by decide +kernel
theorem d_M_init_34 : decode b_M_init 34 = .ok (.putfield 26, 3) := by decide +kernel
theorem d_M_init_37 : decode b_M_init 37 = .ok (.aload_n 0, 1) := by decide +kernel
theorem d_M_init_38 : decode b_M_init 38 = .ok (.lconst 1, 1) := by decide +kernel
theorem d_M_init_39 : decode b_M_init 39 = .ok (.putfield 29, 3) := by decide +kernel
theorem d_M_init_42 : decode b_M_init 42 = .ok (.aload_n 0, 1) := by decide +kernel
theorem d_M_init_43 : decode b_M_init 43 = .ok (.iconst 4, 1) := by decide +kernel
theorem d_M_init_44 : decode b_M_init 44 = .ok (.newarray .long, 2) := by decide +kernel
theorem d_M_init_46 : decode b_M_init 46 = .ok (.putfield 33, 3) := by decide +kernel
theorem d_M_init_49 : decode b_M_init 49 = .ok (.aload_n 0, 1) := by decide +kernel
theorem d_M_init_50 : decode b_M_init 50 = .ok (.lconst 1, 1) := by decide +kernel
theorem d_M_init_51 : decode b_M_init 51 = .ok (.putfield 36, 3) := by decide +kernel
theorem d_M_init_54 : decode b_M_init 54 = .ok (.aload_n 0, 1) := by decide +kernel
theorem d_M_init_55 : decode b_M_init 55 = .ok (.iconst 0, 1) := by decide +kernel
theorem d_M_init_56 : decode b_M_init 56 = .ok (.putfield 39, 3) := by decide +kernel
theorem d_M_init_59 : decode b_M_init 59 = .ok (.return_, 1) := by decide +kernel
theorem d_S_skimFatAt_0 : decode b_S_skimFatAt 0 = .ok (.aload_n 0, 1) := by decide +kernel
theorem d_S_skimFatAt_1 : decode b_S_skimFatAt 1 = .ok (.getfield 18, 3) := by decide +kernel
theorem d_S_skimFatAt_4 : decode b_S_skimFatAt 4 = .ok (.ifCond .ne 5, 3) := by decide +kernel
theorem d_S_skimFatAt_7 : decode b_S_skimFatAt 7 = .ok (.lconst 0, 1) := by decide +kernel
theorem d_S_skimFatAt_8 : decode b_S_skimFatAt 8 = .ok (.lreturn, 1) := by decide +kernel
theorem d_S_skimFatAt_9 : decode b_S_skimFatAt 9 = .ok (.aload_n 0, 1) := by decide +kernel
theorem d_S_skimFatAt_10 : decode b_S_skimFatAt 10 = .ok (.lload_n 1, 1) := by decide +kernel
theorem d_S_skimFatAt_11 : decode b_S_skimFatAt 11 = .ok (.invokevirtual 22, 3) := by decide +kernel
theorem d_S_skimFatAt_14 : decode b_S_skimFatAt 14 = .ok (.istore_n 3, 1) := by decide +kernel
theorem d_S_skimFatAt_15 : decode b_S_skimFatAt 15 = .ok (.iload_n 3, 1) := by decide +kernel
theorem d_S_skimFatAt_16 : decode b_S_skimFatAt 16 = .ok (.aload_n 0, 1) := by decide +kernel
theorem d_S_skimFatAt_17 : decode b_S_skimFatAt 17 = .ok (.getfield 18, 3) := by decide +kernel
theorem d_S_skimFatAt_20 : decode b_S_skimFatAt 20 = .ok (.if_icmp .ne 15, 3) := by decide +kernel
theorem d_S_skimFatAt_23 : decode b_S_skimFatAt 23 = .ok (.aload_n 0, 1) := by decide +kernel
theorem d_S_skimFatAt_24 : decode b_S_skimFatAt 24 = .ok (.getfield 15, 3) := by decide +kernel
theorem d_S_skimFatAt_27 : decode b_S_skimFatAt 27 = .ok (.aload_n 0, 1) := by decide +kernel
theorem d_S_skimFatAt_28 : decode b_S_skimFatAt 28 = .ok (.getfield 18, 3) := by decide +kernel
theorem d_S_skimFatAt_31 : decode b_S_skimFatAt 31 = .ok (.iconst 1, 1) := by decide +kernel
theorem d_S_skimFatAt_32 : decode b_S_skimFatAt 32 = .ok (.isub, 1) := by decide +kernel
theorem d_S_skimFatAt_33 : decode b_S_skimFatAt 33 = .ok (.laload, 1) := by decide +kernel
theorem d_S_skimFatAt_34 : decode b_S_skimFatAt 34 = .ok (.lreturn, 1) := by decide +kernel
theorem d_S_skimFatAt_35 : decode b_S_skimFatAt 35 = .ok (.iload_n 3, 1) := by decide +kernel
theorem d_S_skimFatAt_36 : decode b_S_skimFatAt 36 = .ok (.ifCond .eq 14, 3) := by decide +kernel
theorem d_S_skimFatAt_39 : decode b_S_skimFatAt 39 = .ok (.aload_n 0, 1) := by decide +kernel
theorem d_S_skimFatAt_40 : decode b_S_skimFatAt 40 = .ok (.getfield 9, 3) := by decide +kernel
theorem d_S_skimFatAt_43 : decode b_S_skimFatAt 43 = .ok (.iload_n 3, 1) := by decide +kernel
theorem d_S_skimFatAt_44 : decode b_S_skimFatAt 44 = .ok (.laload, 1) := by decide +kernel
theorem d_S_skimFatAt_45 : decode b_S_skimFatAt 45 = .ok (.lload_n 1, 1) := by decide +kernel
theorem d_S_skimFatAt_46 : decode b_S_skimFatAt 46 = .ok (.lcmp, 1) := by decide +kernel
theorem d_S_skimFatAt_47 : decode b_S_skimFatAt 47 = .ok (.ifCond .ne 10, 3) := by decide +kernel
theorem d_S_skimFatAt_50 : decode b_S_skimFatAt 50 = .ok (.aload_n 0, 1) := by decide +kernel
theorem d_S_skimFatAt_51 : decode b_S_skimFatAt 51 = .ok (.getfield 15, 3) := by decide +kernel
theorem d_S_skimFatAt_54 : decode b_S_skimFatAt 54 = .ok (.iload_n 3, 1) := by decide +kernel
theorem d_S_skimFatAt_55 : decode b_S_skimFatAt 55 = .ok (.laload, 1) := by decide +kernel
theorem d_S_skimFatAt_56 : decode b_S_skimFatAt 56 = .ok (.lreturn, 1) := by decide +kernel
theorem d_S_skimFatAt_57 : decode b_S_skimFatAt 57 = .ok (.aload_n 0, 1) := by decide +kernel
theorem d_S_skimFatAt_58 : decode b_S_skimFatAt 58 = .ok (.iload_n 3, 1) := by decide +kernel
theorem d_S_skimFatAt_59 : decode b_S_skimFatAt 59 = .ok (.iconst 1, 1) := by decide +kernel
theorem d_S_skimFatAt_60 : decode b_S_skimFatAt 60 = .ok (.isub, 1) := by decide +kernel
theorem d_S_skimFatAt_61 : decode b_S_skimFatAt 61 = .ok (.iload_n 3, 1) := by decide +kernel
theorem d_S_skimFatAt_62 : decode b_S_skimFatAt 62 = .ok (.lload_n 1, 1) := by decide +kernel
theorem d_S_skimFatAt_63 : decode b_S_skimFatAt 63 = .ok (.invokevirtual 26, 3) := by decide +kernel
theorem d_S_skimFatAt_66 : decode b_S_skimFatAt 66 = .ok (.lreturn, 1) := by decide +kernel
theorem d_S_firstNotBefore_0 : decode b_S_firstNotBefore 0 = .ok (.iconst 0, 1) := by decide +kernel
theorem d_S_firstNotBefore_1 : decode b_S_firstNotBefore 1 = .ok (.istore_n 3, 1) := by decide +kernel
theorem d_S_firstNotBefore_2 : decode b_S_firstNotBefore 2 = .ok (.iload_n 3, 1) := by decide +kernel
theorem d_S_firstNotBefore_3 : decode b_S_firstNotBefore 3 = .ok (.aload_n 0, 1) := by decide +kernel
theorem d_S_firstNotBefore_4 : decode b_S_firstNotBefore 4 = .ok (.getfield 18, 3) := by decide +kernel
theorem d_S_firstNotBefore_7 : decode b_S_firstNotBefore 7 = .ok (.if_icmp .ge 22, 3) := by decide +kernel
theorem d_S_firstNotBefore_10 : decode b_S_firstNotBefore 10 = .ok (.aload_n 0, 1) := by decide +kernel
theorem d_S_firstNotBefore_11 : decode b_S_firstNotBefore 11 = .ok (.getfield 9, 3) := by decide +kernel
theorem d_S_firstNotBefore_14 : decode b_S_firstNotBefore 14 = .ok (.iload_n 3, 1) := by decide +kernel
theorem d_S_firstNotBefore_15 : decode b_S_firstNotBefore 15 = .ok (.laload, 1) := by decide +kernel
theorem d_S_firstNotBefore_16 : decode b_S_firstNotBefore 16 = .ok (.lload_n 1, 1) := by decide +kernel
theorem d_S_firstNotBefore_17 : decode b_S_firstNotBefore 17 = .ok (.lcmp, 1) := by decide +kernel
theorem d_S_firstNotBefore_18 : decode b_S_firstNotBefore 18 = .ok (.ifCond .lt 5, 3) := by decide +kernel
theorem d_S_firstNotBefore_21 : decode b_S_firstNotBefore 21 = .ok (.iload_n 3, 1) := by decide +kernel
theorem d_S_firstNotBefore_22 : decode b_S_firstNotBefore 22 = .ok (.ireturn, 1) := by decide +kernel
theorem d_S_firstNotBefore_23 : decode b_S_firstNotBefore 23 = .ok (.iinc 3 1, 3) := by decide +kernel
theorem d_S_firstNotBefore_26 : decode b_S_firstNotBefore 26 = .ok (.goto (-24), 3) := by decide +kernel
theorem d_S_firstNotBefore_29 : decode b_S_firstNotBefore 29 = .ok (.aload_n 0, 1) := by decide +kernel
theorem d_S_firstNotBefore_30 : decode b_S_firstNotBefore 30 = .ok (.getfield 18, 3) := by decide +kernel
theorem d_S_firstNotBefore_33 : decode b_S_firstNotBefore 33 = .ok (.ireturn, 1) := by decide +kernel
theorem d_S_between_0 : decode b_S_between 0 = .ok (.aload_n 0, 1) := by decide +kernel
theorem d_S_between_1 : decode b_S_between 1 = .ok (.getfield 15, 3) := by decide +kernel
theorem d_S_between_4 : decode b_S_between 4 = .ok (.iload_n 2, 1) := by decide +kernel
theorem d_S_between_5 : decode b_S_between 5 = .ok (.laload, 1) := by decide +kernel
theorem d_S_between_6 : decode b_S_between 6 = .ok (.aload_n 0, 1) := by decide +kernel
theorem d_S_between_7 : decode b_S_between 7 = .ok (.getfield 15, 3) := by decide +kernel
theorem d_S_between_10 : decode b_S_between 10 = .ok (.iload_n 1, 1) := by decide +kernel
theorem d_S_between_11 : decode b_S_between 11 = .ok (.laload, 1) := by decide +kernel
theorem d_S_between_12 : decode b_S_between 12 = .ok (.lsub, 1) := by decide +kernel
theorem d_S_between_13 : decode b_S_between 13 = .ok (.lload_n 3, 1) := by decide +kernel
theorem d_S_between_14 : decode b_S_between 14 = .ok (.aload_n 0, 1) := by decide +kernel
theorem d_S_between_15 : decode b_S_between 15 = .ok (.getfield 9, 3) := by decide +kernel
theorem d_S_between_18 : decode b_S_between 18 = .ok (.iload_n 1, 1) := by decide +kernel
theorem d_S_between_19 : decode b_S_between 19 = .ok (.laload, 1) := by decide +kernel
theorem d_S_between_20 : decode b_S_between 20 = .ok (.lsub, 1) := by decide +kernel
theorem d_S_between_21 : decode b_S_between 21 = .ok (.lmul, 1) := by decide +kernel
theorem d_S_between_22 : decode b_S_between 22 = .ok (.lstore 5, 2) := by decide +kernel
theorem d_S_between_24 : decode b_S_between 24 = .ok (.aload_n 0, 1) := by decide +kernel
theorem d_S_between_25 : decode b_S_between 25 = .ok (.getfield 15, 3) := by decide +kernel
theorem d_S_between_28 : decode b_S_between 28 = .ok (.iload_n 1, 1) := by decide +kernel
theorem d_S_between_29 : decode b_S_between 29 = .ok (.laload, 1) := by decide +kernel
theorem d_S_between_30 : decode b_S_between 30 = .ok (.lload 5, 2) := by decide +kernel
theorem d_S_between_32 : decode b_S_between 32 = .ok (.aload_n 0, 1) := by decide +kernel
theorem d_S_between_33 : decode b_S_between 33 = .ok (.getfield 9, 3) := by decide +kernel
theorem d_S_between_36 : decode b_S_between 36 = .ok (.iload_n 2, 1) := by decide +kernel
theorem d_S_between_37 : decode b_S_between 37 = .ok (.laload, 1) := by decide +kernel
theorem d_S_between_38 : decode b_S_between 38 = .ok (.aload_n 0, 1) := by decide +kernel
theorem d_S_between_39 : decode b_S_between 39 = .ok (.getfield 9, 3) := by decide +kernel
theorem d_S_between_42 : decode b_S_between 42 = .ok (.iload_n 1, 1) := by decide +kernel
theorem d_S_between_43 : decode b_S_between 43 = .ok (.laload, 1) := by decide +kernel
theorem d_S_between_44 : decode b_S_between 44 = .ok (.lsub, 1) := by decide +kernel
theorem d_S_between_45 : decode b_S_between 45 = .ok (.invokestatic 30, 3) := by decide +kernel
theorem d_S_between_48 : decode b_S_between 48 = .ok (.ladd, 1) := by decide +kernel
theorem d_S_between_49 : decode b_S_between 49 = .ok (.lreturn, 1) := by decide +kernel
theorem d_M_forget_0 : decode b_M_forget 0 = .ok (.aload_n 0, 1) := by decide +kernel
theorem d_M_forget_1 : decode b_M_forget 1 = .ok (.iconst 0, 1) := by decide +kernel
theorem d_M_forget_2 : decode b_M_forget 2 = .ok (.putfield 15, 3) := by decide +kernel
theorem d_M_forget_5 : decode b_M_forget 5 = .ok (.aload_n 0, 1) := by decide +kernel
theorem d_M_forget_6 : decode b_M_forget 6 = .ok (.iconst 0, 1) := by decide +kernel
theorem d_M_forget_7 : decode b_M_forget 7 = .ok (.putfield 39, 3) := by decide +kernel
theorem d_M_forget_10 : decode b_M_forget 10 = .ok (.return_, 1) := by decide +kernel
theorem d_M_add_0 : decode b_M_add 0 = .ok (.aload_n 0, 1) := by decide +kernel
theorem d_M_add_1 : decode b_M_add 1 = .ok (.getfield 15, 3) := by decide +kernel
theorem d_M_add_4 : decode b_M_add 4 = .ok (.iconst 4, 1) := by decide +kernel
theorem d_M_add_5 : decode b_M_add 5 = .ok (.if_icmp .lt 4, 3) := by decide +kernel
theorem d_M_add_8 : decode b_M_add 8 = .ok (.return_, 1) := by decide +kernel
theorem d_M_add_9 : decode b_M_add 9 = .ok (.aload_n 0, 1) := by decide +kernel
theorem d_M_add_10 : decode b_M_add 10 = .ok (.getfield 9, 3) := by decide +kernel
theorem d_M_add_13 : decode b_M_add 13 = .ok (.aload_n 0, 1) := by decide +kernel
theorem d_M_add_14 : decode b_M_add 14 = .ok (.getfield 15, 3) := by decide +kernel
theorem d_M_add_17 : decode b_M_add 17 = .ok (.iload_n 1, 1) := by decide +kernel
theorem d_M_add_18 : decode b_M_add 18 = .ok (.iastore, 1) := by decide +kernel
theorem d_M_add_19 : decode b_M_add 19 = .ok (.aload_n 0, 1) := by decide +kernel
theorem d_M_add_20 : decode b_M_add 20 = .ok (.getfield 19, 3) := by decide +kernel
theorem d_M_add_23 : decode b_M_add 23 = .ok (.aload_n 0, 1) := by decide +kernel
theorem d_M_add_24 : decode b_M_add 24 = .ok (.getfield 15, 3) := by decide +kernel
theorem d_M_add_27 : decode b_M_add 27 = .ok (.lload_n 2, 1) := by decide +kernel
theorem d_M_add_28 : decode b_M_add 28 = .ok (.lastore, 1) := by decide +kernel
theorem d_M_add_29 : decode b_M_add 29 = .ok (.aload_n 0, 1) := by decide +kernel
theorem d_M_add_30 : decode b_M_add 30 = .ok (.getfield 23, 3) := by decide +kernel
theorem d_M_add_33 : decode b_M_add 33 = .ok (.aload_n 0, 1) := by decide +kernel
theorem d_M_add_34 : decode b_M_add 34 = .ok (.getfield 15, 3) := by decide +kernel
theorem d_M_add_37 : decode b_M_add 37 = .ok (.lload 4, 2) := by decide +kernel
theorem d_M_add_39 : decode b_M_add 39 = .ok (.lastore, 1) := by decide +kernel
theorem d_M_add_40 : decode b_M_add 40 = .ok (.aload_n 0, 1) := by decide +kernel
theorem d_M_add_41 : decode b_M_add 41 = .ok (.dup, 1) := by decide +kernel
theorem d_M_add_42 : decode b_M_add 42 = .ok (.getfield 15, 3) := by decide +kernel
theorem d_M_add_45 : decode b_M_add 45 = .ok (.iconst 1, 1) := by decide +kernel
theorem d_M_add_46 : decode b_M_add 46 = .ok (.iadd, 1) := by decide +kernel
theorem d_M_add_47 : decode b_M_add 47 = .ok (.putfield 15, 3) := by decide +kernel
theorem d_M_add_50 : decode b_M_add 50 = .ok (.return_, 1) := by decide +kernel
theorem d_M_search_0 : decode b_M_search 0 = .ok (.aload_n 0, 1) := by decide +kernel
theorem d_M_search_1 : decode b_M_search 1 = .ok (.getfield 19, 3) := by decide +kernel
theorem d_M_search_4 : decode b_M_search 4 = .ok (.iconst 4, 1) := by decide +kernel
theorem d_M_search_5 : decode b_M_search 5 = .ok (.lload_n 1, 1) := by decide +kernel
theorem d_M_search_6 : decode b_M_search 6 = .ok (.lastore, 1) := by decide +kernel
theorem d_M_search_7 : decode b_M_search 7 = .ok (.aload_n 0, 1) := by decide +kernel
theorem d_M_search_8 : decode b_M_search 8 = .ok (.getfield 23, 3) := by decide +kernel
theorem d_M_search_11 : decode b_M_search 11 = .ok (.iconst 4, 1) := by decide +kernel
theorem d_M_search_12 : decode b_M_search 12 = .ok (.lload_n 3, 1) := by decide +kernel
theorem d_M_search_13 : decode b_M_search 13 = .ok (.lastore, 1) := by decide +kernel
theorem d_M_search_14 : decode b_M_search 14 = .ok (.iconst 0, 1) := by decide +kernel
theorem d_M_search_15 : decode b_M_search 15 = .ok (.istore 5, 2) := by decide +kernel
theorem d_M_search_17 : decode b_M_search 17 = .ok (.iload 5, 2) := by decide +kernel
theorem d_M_search_19 : decode b_M_search 19 = .ok (.aload_n 0, 1) := by decide +kernel
theorem d_M_search_20 : decode b_M_search 20 = .ok (.getfield 15, 3) := by decide +kernel
theorem d_M_search_23 : decode b_M_search 23 = .ok (.if_icmp .ge 75, 3) := by decide +kernel
theorem d_M_search_26 : decode b_M_search 26 = .ok (.aload_n 0, 1) := by decide +kernel
theorem d_M_search_27 : decode b_M_search 27 = .ok (.iload 5, 2) := by decide +kernel
theorem d_M_search_29 : decode b_M_search 29 = .ok (.invokevirtual 43, 3) := by decide +kernel
theorem d_M_search_32 : decode b_M_search 32 = .ok (.iload 5, 2) := by decide +kernel
theorem d_M_search_34 : decode b_M_search 34 = .ok (.iconst 1, 1) := by decide +kernel
theorem d_M_search_35 : decode b_M_search 35 = .ok (.iadd, 1) := by decide +kernel
theorem d_M_search_36 : decode b_M_search 36 = .ok (.istore 6, 2) := by decide +kernel
theorem d_M_search_38 : decode b_M_search 38 = .ok (.iload 6, 2) := by decide +kernel
theorem d_M_search_40 : decode b_M_search 40 = .ok (.aload_n 0, 1) := by decide +kernel
theorem d_M_search_41 : decode b_M_search 41 = .ok (.getfield 15, 3) := by decide +kernel
theorem d_M_search_44 : decode b_M_search 44 = .ok (.if_icmp .ge 48, 3) := by decide +kernel
theorem d_M_search_47 : decode b_M_search 47 = .ok (.aload_n 0, 1) := by decide +kernel
theorem d_M_search_48 : decode b_M_search 48 = .ok (.iload 5, 2) := by decide +kernel
theorem d_M_search_50 : decode b_M_search 50 = .ok (.iload 6, 2) := by decide +kernel
theorem d_M_search_52 : decode b_M_search 52 = .ok (.invokevirtual 47, 3) := by decide +kernel
theorem d_M_search_55 : decode b_M_search 55 = .ok (.iload 6, 2) := by decide +kernel
theorem d_M_search_57 : decode b_M_search 57 = .ok (.iconst 1, 1) := by decide +kernel
theorem d_M_search_58 : decode b_M_search 58 = .ok (.iadd, 1) := by decide +kernel
theorem d_M_search_59 : decode b_M_search 59 = .ok (.istore 7, 2) := by decide +kernel
theorem d_M_search_61 : decode b_M_search 61 = .ok (.iload 7, 2) := by decide +kernel
theorem d_M_search_63 : decode b_M_search 63 = .ok (.aload_n 0, 1) := by decide +kernel
theorem d_M_search_64 : decode b_M_search 64 = .ok (.getfield 15, 3) := by decide +kernel
theorem d_M_search_67 : decode b_M_search 67 = .ok (.if_icmp .ge 19, 3) := by decide +kernel
theorem d_M_search_70 : decode b_M_search 70 = .ok (.aload_n 0, 1) := by decide +kernel
theorem d_M_search_71 : decode b_M_search 71 = .ok (.iload 5, 2) := by decide +kernel
theorem d_M_search_73 : decode b_M_search 73 = .ok (.iload 6, 2) := by decide +kernel
theorem d_M_search_75 : decode b_M_search 75 = .ok (.iload 7, 2) := by decide +kernel
theorem d_M_search_77 : decode b_M_search 77 = .ok (.invokevirtual 51, 3) := by decide +kernel
theorem d_M_search_80 : decode b_M_search 80 = .ok (.iinc 7 1, 3) := by decide +kernel
theorem d_M_search_83 : decode b_M_search 83 = .ok (.goto (-22), 3) := by decide +kernel
theorem d_M_search_86 : decode b_M_search 86 = .ok (.iinc 6 1, 3) := by decide +kernel
theorem d_M_search_89 : decode b_M_search 89 = .ok (.goto (-51), 3) := by decide +kernel
theorem d_M_search_92 : decode b_M_search 92 = .ok (.iinc 5 1, 3) := by decide +kernel
theorem d_M_search_95 : decode b_M_search 95 = .ok (.goto (-78), 3) := by decide +kernel
theorem d_M_search_98 : decode b_M_search 98 = .ok (.aload_n 0, 1) := by decide +kernel
theorem d_M_search_99 : decode b_M_search 99 = .ok (.getfield 39, 3) := by decide +kernel
theorem d_M_search_102 : decode b_M_search 102 = .ok (.ireturn, 1) := by decide +kernel
theorem d_M_tryOne_0 : decode b_M_tryOne 0 = .ok (.aload_n 0, 1) := by decide +kernel
theorem d_M_tryOne_1 : decode b_M_tryOne 1 = .ok (.getfield 19, 3) := by decide +kernel
theorem d_M_tryOne_4 : decode b_M_tryOne 4 = .ok (.iload_n 1, 1) := by decide +kernel
theorem d_M_tryOne_5 : decode b_M_tryOne 5 = .ok (.laload, 1) := by decide +kernel
theorem d_M_tryOne_6 : decode b_M_tryOne 6 = .ok (.aload_n 0, 1) := by decide +kernel
theorem d_M_tryOne_7 : decode b_M_tryOne 7 = .ok (.getfield 19, 3) := by decide +kernel
theorem d_M_tryOne_10 : decode b_M_tryOne 10 = .ok (.iconst 4, 1) := by decide +kernel
theorem d_M_tryOne_11 : decode b_M_tryOne 11 = .ok (.laload, 1) := by decide +kernel
theorem d_M_tryOne_12 : decode b_M_tryOne 12 = .ok (.lcmp, 1) := by decide +kernel
theorem d_M_tryOne_13 : decode b_M_tryOne 13 = .ok (.ifCond .ne 35, 3) := by decide +kernel
theorem d_M_tryOne_16 : decode b_M_tryOne 16 = .ok (.aload_n 0, 1) := by decide +kernel
theorem d_M_tryOne_17 : decode b_M_tryOne 17 = .ok (.getfield 23, 3) := by decide +kernel
theorem d_M_tryOne_20 : decode b_M_tryOne 20 = .ok (.iload_n 1, 1) := by decide +kernel
theorem d_M_tryOne_21 : decode b_M_tryOne 21 = .ok (.laload, 1) := by decide +kernel
theorem d_M_tryOne_22 : decode b_M_tryOne 22 = .ok (.aload_n 0, 1) := by decide +kernel
theorem d_M_tryOne_23 : decode b_M_tryOne 23 = .ok (.getfield 23, 3) := by decide +kernel
theorem d_M_tryOne_26 : decode b_M_tryOne 26 = .ok (.iconst 4, 1) := by decide +kernel
theorem d_M_tryOne_27 : decode b_M_tryOne 27 = .ok (.laload, 1) := by decide +kernel
theorem d_M_tryOne_28 : decode b_M_tryOne 28 = .ok (.lcmp, 1) := by decide +kernel
theorem d_M_tryOne_29 : decode b_M_tryOne 29 = .ok (.ifCond .ne 19, 3) := by decide +kernel
theorem d_M_tryOne_32 : decode b_M_tryOne 32 = .ok (.aload_n 0, 1) := by decide +kernel
theorem d_M_tryOne_33 : decode b_M_tryOne 33 = .ok (.lconst 1, 1) := by decide +kernel
theorem d_M_tryOne_34 : decode b_M_tryOne 34 = .ok (.invokevirtual 55, 3) := by decide +kernel
theorem d_M_tryOne_37 : decode b_M_tryOne 37 = .ok (.aload_n 0, 1) := by decide +kernel
theorem d_M_tryOne_38 : decode b_M_tryOne 38 = .ok (.getfield 26, 3) := by decide +kernel
theorem d_M_tryOne_41 : decode b_M_tryOne 41 = .ok (.iload_n 1, 1) := by decide +kernel
theorem d_M_tryOne_42 : decode b_M_tryOne 42 = .ok (.lconst 1, 1) := by decide +kernel
theorem d_M_tryOne_43 : decode b_M_tryOne 43 = .ok (.lastore, 1) := by decide +kernel
theorem d_M_tryOne_44 : decode b_M_tryOne 44 = .ok (.aload_n 0, 1) := by decide +kernel
theorem d_M_tryOne_45 : decode b_M_tryOne 45 = .ok (.invokevirtual 59, 3) := by decide +kernel
theorem d_M_tryOne_48 : decode b_M_tryOne 48 = .ok (.return_, 1) := by decide +kernel
theorem d_M_startTrial_0 : decode b_M_startTrial 0 = .ok (.aload_n 0, 1) := by decide +kernel
theorem d_M_startTrial_1 : decode b_M_startTrial 1 = .ok (.lload_n 1, 1) := by decide +kernel
theorem d_M_startTrial_2 : decode b_M_startTrial 2 = .ok (.putfield 29, 3) := by decide +kernel
theorem d_M_startTrial_5 : decode b_M_startTrial 5 = .ok (.iconst 0, 1) := by decide +kernel
theorem d_M_startTrial_6 : decode b_M_startTrial 6 = .ok (.istore_n 3, 1) := by decide +kernel
theorem d_M_startTrial_7 : decode b_M_startTrial 7 = .ok (.iload_n 3, 1) := by decide +kernel
theorem d_M_startTrial_8 : decode b_M_startTrial 8 = .ok (.iconst 4, 1) := by decide +kernel
theorem d_M_startTrial_9 : decode b_M_startTrial 9 = .ok (.if_icmp .ge 16, 3) := by decide +kernel
theorem d_M_startTrial_12 : decode b_M_startTrial 12 = .ok (.aload_n 0, 1) := by decide +kernel
theorem d_M_startTrial_13 : decode b_M_startTrial 13 = .ok (.getfield 26, 3) := by decide +kernel
theorem d_M_startTrial_16 : decode b_M_startTrial 16 = .ok (.iload_n 3, 1) := by decide +kernel
theorem d_M_startTrial_17 : decode b_M_startTrial 17 = .ok (.lconst 0, 1) := by decide +kernel
theorem d_M_startTrial_18 : decode b_M_startTrial 18 = .ok (.lastore, 1) := by decide +kernel
theorem d_M_startTrial_19 : decode b_M_startTrial 19 = .ok (.iinc 3 1, 3) := by decide +kernel
theorem d_M_startTrial_22 : decode b_M_startTrial 22 = .ok (.goto (-15), 3) := by decide +kernel
theorem d_M_startTrial_25 : decode b_M_startTrial 25 = .ok (.return_, 1) := by decide +kernel
theorem d_M_keepIfBetter_0 : decode b_M_keepIfBetter 0 = .ok (.aload_n 0, 1) := by decide +kernel
theorem d_M_keepIfBetter_1 : decode b_M_keepIfBetter 1 = .ok (.invokevirtual 71, 3) := by decide +kernel
theorem d_M_keepIfBetter_4 : decode b_M_keepIfBetter 4 = .ok (.ifCond .eq 17, 3) := by decide +kernel
theorem d_M_keepIfBetter_7 : decode b_M_keepIfBetter 7 = .ok (.aload_n 0, 1) := by decide +kernel
theorem d_M_keepIfBetter_8 : decode b_M_keepIfBetter 8 = .ok (.getfield 39, 3) := by decide +kernel
theorem d_M_keepIfBetter_11 : decode b_M_keepIfBetter 11 = .ok (.ifCond .eq 11, 3) := by decide +kernel
theorem d_M_keepIfBetter_14 : decode b_M_keepIfBetter 14 = .ok (.aload_n 0, 1) := by decide +kernel
theorem d_M_keepIfBetter_15 : decode b_M_keepIfBetter 15 = .ok (.invokevirtual 75, 3) := by decide +kernel
theorem d_M_keepIfBetter_18 : decode b_M_keepIfBetter 18 = .ok (.ifCond .ne 4, 3) := by decide +kernel
theorem d_M_keepIfBetter_21 : decode b_M_keepIfBetter 21 = .ok (.return_, 1) := by decide +kernel
theorem d_M_keepIfBetter_22 : decode b_M_keepIfBetter 22 = .ok (.iconst 0, 1) := by decide +kernel
theorem d_M_keepIfBetter_23 : decode b_M_keepIfBetter 23 = .ok (.istore_n 1, 1) := by decide +kernel
theorem d_M_keepIfBetter_24 : decode b_M_keepIfBetter 24 = .ok (.iload_n 1, 1) := by decide +kernel
theorem d_M_keepIfBetter_25 : decode b_M_keepIfBetter 25 = .ok (.iconst 4, 1) := by decide +kernel
theorem d_M_keepIfBetter_26 : decode b_M_keepIfBetter 26 = .ok (.if_icmp .ge 21, 3) := by decide +kernel
theorem d_M_keepIfBetter_29 : decode b_M_keepIfBetter 29 = .ok (.aload_n 0, 1) := by decide +kernel
theorem d_M_keepIfBetter_30 : decode b_M_keepIfBetter 30 = .ok (.getfield 33, 3) := by decide +kernel
theorem d_M_keepIfBetter_33 : decode b_M_keepIfBetter 33 = .ok (.iload_n 1, 1) := by decide +kernel
theorem d_M_keepIfBetter_34 : decode b_M_keepIfBetter 34 = .ok (.aload_n 0, 1) := by decide +kernel
theorem d_M_keepIfBetter_35 : decode b_M_keepIfBetter 35 = .ok (.getfield 26, 3) := by decide +kernel
theorem d_M_keepIfBetter_38 : decode b_M_keepIfBetter 38 = .ok (.iload_n 1, 1) := by decide +kernel
theorem d_M_keepIfBetter_39 : decode b_M_keepIfBetter 39 = .ok (.laload, 1) := by decide +kernel
theorem d_M_keepIfBetter_40 : decode b_M_keepIfBetter 40 = .ok (.lastore, 1) := by decide +kernel
theorem d_M_keepIfBetter_41 : decode b_M_keepIfBetter 41 = .ok (.iinc 1 1, 3) := by decide +kernel
theorem d_M_keepIfBetter_44 : decode b_M_keepIfBetter 44 = .ok (.goto (-20), 3) := by decide +kernel
theorem d_M_keepIfBetter_47 : decode b_M_keepIfBetter 47 = .ok (.aload_n 0, 1) := by decide +kernel
theorem d_M_keepIfBetter_48 : decode b_M_keepIfBetter 48 = .ok (.aload_n 0, 1) := by decide +kernel
theorem d_M_keepIfBetter_49 : decode b_M_keepIfBetter 49 = .ok (.getfield 29, 3) := by decide +kernel
theorem d_M_keepIfBetter_52 : decode b_M_keepIfBetter 52 = .ok (.putfield 36, 3) := by decide +kernel
theorem d_M_keepIfBetter_55 : decode b_M_keepIfBetter 55 = .ok (.aload_n 0, 1) := by decide +kernel
theorem d_M_keepIfBetter_56 : decode b_M_keepIfBetter 56 = .ok (.iconst 1, 1) := by decide +kernel
theorem d_M_keepIfBetter_57 : decode b_M_keepIfBetter 57 = .ok (.putfield 39, 3) := by decide +kernel
theorem d_M_keepIfBetter_60 : decode b_M_keepIfBetter 60 = .ok (.return_, 1) := by decide +kernel
theorem d_M_isTrialPossible_0 : decode b_M_isTrialPossible 0 = .ok (.iconst 0, 1) := by decide +kernel
theorem d_M_isTrialPossible_1 : decode b_M_isTrialPossible 1 = .ok (.istore_n 1, 1) := by decide +kernel
theorem d_M_isTrialPossible_2 : decode b_M_isTrialPossible 2 = .ok (.iload_n 1, 1) := by decide +kernel
theorem d_M_isTrialPossible_3 : decode b_M_isTrialPossible 3 = .ok (.aload_n 0, 1) := by decide +kernel
theorem d_M_isTrialPossible_4 : decode b_M_isTrialPossible 4 = .ok (.getfield 15, 3) := by decide +kernel
theorem d_M_isTrialPossible_7 : decode b_M_isTrialPossible 7 = .ok (.if_icmp .ge 22, 3) := by decide +kernel
theorem d_M_isTrialPossible_10 : decode b_M_isTrialPossible 10 = .ok (.aload_n 0, 1) := by decide +kernel
theorem d_M_isTrialPossible_11 : decode b_M_isTrialPossible 11 = .ok (.getfield 26, 3) := by decide +kernel
theorem d_M_isTrialPossible_14 : decode b_M_isTrialPossible 14 = .ok (.iload_n 1, 1) := by decide +kernel
theorem d_M_isTrialPossible_15 : decode b_M_isTrialPossible 15 = .ok (.laload, 1) := by decide +kernel
theorem d_M_isTrialPossible_16 : decode b_M_isTrialPossible 16 = .ok (.lconst 0, 1) := by decide +kernel
theorem d_M_isTrialPossible_17 : decode b_M_isTrialPossible 17 = .ok (.lcmp, 1) := by decide +kernel
theorem d_M_isTrialPossible_18 : decode b_M_isTrialPossible 18 = .ok (.ifCond .ge 5, 3) := by decide +kernel
theorem d_M_isTrialPossible_21 : decode b_M_isTrialPossible 21 = .ok (.iconst 0, 1) := by decide +kernel
theorem d_M_isTrialPossible_22 : decode b_M_isTrialPossible 22 = .ok (.ireturn, 1) := by decide +kernel
theorem d_M_isTrialPossible_23 : decode b_M_isTrialPossible 23 = .ok (.iinc 1 1, 3) := by decide +kernel
theorem d_M_isTrialPossible_26 : decode b_M_isTrialPossible 26 = .ok (.goto (-24), 3) := by decide +kernel
theorem d_M_isTrialPossible_29 : decode b_M_isTrialPossible 29 = .ok (.iconst 1, 1) := by decide +kernel
theorem d_M_isTrialPossible_30 : decode b_M_isTrialPossible 30 = .ok (.ireturn, 1) := by decide +kernel
theorem d_M_isTrialBetter_0 : decode b_M_isTrialBetter 0 = .ok (.iconst 0, 1) := by decide +kernel
theorem d_M_isTrialBetter_1 : decode b_M_isTrialBetter 1 = .ok (.istore_n 1, 1) := by decide +kernel
theorem d_M_isTrialBetter_2 : decode b_M_isTrialBetter 2 = .ok (.iload_n 1, 1) := by decide +kernel
theorem d_M_isTrialBetter_3 : decode b_M_isTrialBetter 3 = .ok (.aload_n 0, 1) := by decide +kernel
theorem d_M_isTrialBetter_4 : decode b_M_isTrialBetter 4 = .ok (.getfield 15, 3) := by decide +kernel
theorem d_M_isTrialBetter_7 : decode b_M_isTrialBetter 7 = .ok (.if_icmp .ge 54, 3) := by decide +kernel
theorem d_M_isTrialBetter_10 : decode b_M_isTrialBetter 10 = .ok (.aload_n 0, 1) := by decide +kernel
theorem d_M_isTrialBetter_11 : decode b_M_isTrialBetter 11 = .ok (.getfield 26, 3) := by decide +kernel
theorem d_M_isTrialBetter_14 : decode b_M_isTrialBetter 14 = .ok (.iload_n 1, 1) := by decide +kernel
theorem d_M_isTrialBetter_15 : decode b_M_isTrialBetter 15 = .ok (.laload, 1) := by decide +kernel
theorem d_M_isTrialBetter_16 : decode b_M_isTrialBetter 16 = .ok (.aload_n 0, 1) := by decide +kernel
theorem d_M_isTrialBetter_17 : decode b_M_isTrialBetter 17 = .ok (.getfield 36, 3) := by decide +kernel
theorem d_M_isTrialBetter_20 : decode b_M_isTrialBetter 20 = .ok (.lmul, 1) := by decide +kernel
theorem d_M_isTrialBetter_21 : decode b_M_isTrialBetter 21 = .ok (.lstore_n 2, 1) := by decide +kernel
theorem d_M_isTrialBetter_22 : decode b_M_isTrialBetter 22 = .ok (.aload_n 0, 1) := by decide +kernel
theorem d_M_isTrialBetter_23 : decode b_M_isTrialBetter 23 = .ok (.getfield 33, 3) := by decide +kernel
theorem d_M_isTrialBetter_26 : decode b_M_isTrialBetter 26 = .ok (.iload_n 1, 1) := by decide +kernel
theorem d_M_isTrialBetter_27 : decode b_M_isTrialBetter 27 = .ok (.laload, 1) := by decide +kernel
theorem d_M_isTrialBetter_28 : decode b_M_isTrialBetter 28 = .ok (.aload_n 0, 1) := by decide +kernel
theorem d_M_isTrialBetter_29 : decode b_M_isTrialBetter 29 = .ok (.getfield 29, 3) := by decide +kernel
theorem d_M_isTrialBetter_32 : decode b_M_isTrialBetter 32 = .ok (.lmul, 1) := by decide +kernel
theorem d_M_isTrialBetter_33 : decode b_M_isTrialBetter 33 = .ok (.lstore 4, 2) := by decide +kernel
theorem d_M_isTrialBetter_35 : decode b_M_isTrialBetter 35 = .ok (.lload_n 2, 1) := by decide +kernel
theorem d_M_isTrialBetter_36 : decode b_M_isTrialBetter 36 = .ok (.lload 4, 2) := by decide +kernel
theorem d_M_isTrialBetter_38 : decode b_M_isTrialBetter 38 = .ok (.lcmp, 1) := by decide +kernel
theorem d_M_isTrialBetter_39 : decode b_M_isTrialBetter 39 = .ok (.ifCond .eq 16, 3) := by decide +kernel
theorem d_M_isTrialBetter_42 : decode b_M_isTrialBetter 42 = .ok (.lload_n 2, 1) := by decide +kernel
theorem d_M_isTrialBetter_43 : decode b_M_isTrialBetter 43 = .ok (.lload 4, 2) := by decide +kernel
theorem d_M_isTrialBetter_45 : decode b_M_isTrialBetter 45 = .ok (.lcmp, 1) := by decide +kernel
theorem d_M_isTrialBetter_46 : decode b_M_isTrialBetter 46 = .ok (.ifCond .le 7, 3) := by decide +kernel
theorem d_M_isTrialBetter_49 : decode b_M_isTrialBetter 49 = .ok (.iconst 1, 1) := by decide +kernel
theorem d_M_isTrialBetter_50 : decode b_M_isTrialBetter 50 = .ok (.goto 4, 3) := by decide +kernel
theorem d_M_isTrialBetter_53 : decode b_M_isTrialBetter 53 = .ok (.iconst 0, 1) := by decide +kernel
theorem d_M_isTrialBetter_54 : decode b_M_isTrialBetter 54 = .ok (.ireturn, 1) := by decide +kernel
theorem d_M_isTrialBetter_55 : decode b_M_isTrialBetter 55 = .ok (.iinc 1 1, 3) := by decide +kernel
theorem d_M_isTrialBetter_58 : decode b_M_isTrialBetter 58 = .ok (.goto (-56), 3) := by decide +kernel
theorem d_M_isTrialBetter_61 : decode b_M_isTrialBetter 61 = .ok (.iconst 0, 1) := by decide +kernel
theorem d_M_isTrialBetter_62 : decode b_M_isTrialBetter 62 = .ok (.ireturn, 1) := by decide +kernel
theorem d_M_tryTwo_0 : decode b_M_tryTwo 0 = .ok (.aload_n 0, 1) := by decide +kernel
theorem d_M_tryTwo_1 : decode b_M_tryTwo 1 = .ok (.iload_n 1, 1) := by decide +kernel
theorem d_M_tryTwo_2 : decode b_M_tryTwo 2 = .ok (.iload_n 2, 1) := by decide +kernel
theorem d_M_tryTwo_3 : decode b_M_tryTwo 3 = .ok (.iload_n 2, 1) := by decide +kernel
theorem d_M_tryTwo_4 : decode b_M_tryTwo 4 = .ok (.invokevirtual 62, 3) := by decide +kernel
theorem d_M_tryTwo_7 : decode b_M_tryTwo 7 = .ok (.lstore_n 3, 1) := by decide +kernel
theorem d_M_tryTwo_8 : decode b_M_tryTwo 8 = .ok (.lload_n 3, 1) := by decide +kernel
theorem d_M_tryTwo_9 : decode b_M_tryTwo 9 = .ok (.lconst 0, 1) := by decide +kernel
theorem d_M_tryTwo_10 : decode b_M_tryTwo 10 = .ok (.lcmp, 1) := by decide +kernel
theorem d_M_tryTwo_11 : decode b_M_tryTwo 11 = .ok (.ifCond .eq 15, 3) := by decide +kernel
theorem d_M_tryTwo_14 : decode b_M_tryTwo 14 = .ok (.aload_n 0, 1) := by decide +kernel
theorem d_M_tryTwo_15 : decode b_M_tryTwo 15 = .ok (.iload_n 1, 1) := by decide +kernel
theorem d_M_tryTwo_16 : decode b_M_tryTwo 16 = .ok (.iload_n 2, 1) := by decide +kernel
theorem d_M_tryTwo_17 : decode b_M_tryTwo 17 = .ok (.iconst 4, 1) := by decide +kernel
theorem d_M_tryTwo_18 : decode b_M_tryTwo 18 = .ok (.invokevirtual 66, 3) := by decide +kernel
theorem d_M_tryTwo_21 : decode b_M_tryTwo 21 = .ok (.lconst 0, 1) := by decide +kernel
theorem d_M_tryTwo_22 : decode b_M_tryTwo 22 = .ok (.lcmp, 1) := by decide +kernel
theorem d_M_tryTwo_23 : decode b_M_tryTwo 23 = .ok (.ifCond .eq 4, 3) := by decide +kernel
theorem d_M_tryTwo_26 : decode b_M_tryTwo 26 = .ok (.return_, 1) := by decide +kernel
theorem d_M_tryTwo_27 : decode b_M_tryTwo 27 = .ok (.aload_n 0, 1) := by decide +kernel
theorem d_M_tryTwo_28 : decode b_M_tryTwo 28 = .ok (.lload_n 3, 1) := by decide +kernel
theorem d_M_tryTwo_29 : decode b_M_tryTwo 29 = .ok (.invokevirtual 55, 3) := by decide +kernel
theorem d_M_tryTwo_32 : decode b_M_tryTwo 32 = .ok (.aload_n 0, 1) := by decide +kernel
theorem d_M_tryTwo_33 : decode b_M_tryTwo 33 = .ok (.getfield 26, 3) := by decide +kernel
theorem d_M_tryTwo_36 : decode b_M_tryTwo 36 = .ok (.iload_n 2, 1) := by decide +kernel
theorem d_M_tryTwo_37 : decode b_M_tryTwo 37 = .ok (.aload_n 0, 1) := by decide +kernel
theorem d_M_tryTwo_38 : decode b_M_tryTwo 38 = .ok (.iload_n 1, 1) := by decide +kernel
theorem d_M_tryTwo_39 : decode b_M_tryTwo 39 = .ok (.iload_n 2, 1) := by decide +kernel
theorem d_M_tryTwo_40 : decode b_M_tryTwo 40 = .ok (.iconst 4, 1) := by decide +kernel
theorem d_M_tryTwo_41 : decode b_M_tryTwo 41 = .ok (.invokevirtual 62, 3) := by decide +kernel
theorem d_M_tryTwo_44 : decode b_M_tryTwo 44 = .ok (.lastore, 1) := by decide +kernel
theorem d_M_tryTwo_45 : decode b_M_tryTwo 45 = .ok (.aload_n 0, 1) := by decide +kernel
theorem d_M_tryTwo_46 : decode b_M_tryTwo 46 = .ok (.getfield 26, 3) := by decide +kernel
theorem d_M_tryTwo_49 : decode b_M_tryTwo 49 = .ok (.iload_n 1, 1) := by decide +kernel
theorem d_M_tryTwo_50 : decode b_M_tryTwo 50 = .ok (.lload_n 3, 1) := by decide +kernel
theorem d_M_tryTwo_51 : decode b_M_tryTwo 51 = .ok (.aload_n 0, 1) := by decide +kernel
theorem d_M_tryTwo_52 : decode b_M_tryTwo 52 = .ok (.getfield 26, 3) := by decide +kernel
theorem d_M_tryTwo_55 : decode b_M_tryTwo 55 = .ok (.iload_n 2, 1) := by decide +kernel
theorem d_M_tryTwo_56 : decode b_M_tryTwo 56 = .ok (.laload, 1) := by decide +kernel
theorem d_M_tryTwo_57 : decode b_M_tryTwo 57 = .ok (.lsub, 1) := by decide +kernel
theorem d_M_tryTwo_58 : decode b_M_tryTwo 58 = .ok (.lastore, 1) := by decide +kernel
theorem d_M_tryTwo_59 : decode b_M_tryTwo 59 = .ok (.aload_n 0, 1) := by decide +kernel
theorem d_M_tryTwo_60 : decode b_M_tryTwo 60 = .ok (.invokevirtual 59, 3) := by decide +kernel
theorem d_M_tryTwo_63 : decode b_M_tryTwo 63 = .ok (.return_, 1) := by decide +kernel
theorem d_M_product_0 : decode b_M_product 0 = .ok (.aload_n 0, 1) := by decide +kernel
theorem d_M_product_1 : decode b_M_product 1 = .ok (.getfield 19, 3) := by decide +kernel
theorem d_M_product_4 : decode b_M_product 4 = .ok (.iload_n 2, 1) := by decide +kernel
theorem d_M_product_5 : decode b_M_product 5 = .ok (.laload, 1) := by decide +kernel
theorem d_M_product_6 : decode b_M_product 6 = .ok (.aload_n 0, 1) := by decide +kernel
theorem d_M_product_7 : decode b_M_product 7 = .ok (.getfield 19, 3) := by decide +kernel
theorem d_M_product_10 : decode b_M_product 10 = .ok (.iload_n 1, 1) := by decide +kernel
theorem d_M_product_11 : decode b_M_product 11 = .ok (.laload, 1) := by decide +kernel
theorem d_M_product_12 : decode b_M_product 12 = .ok (.lsub, 1) := by decide +kernel
theorem d_M_product_13 : decode b_M_product 13 = .ok (.aload_n 0, 1) := by decide +kernel
theorem d_M_product_14 : decode b_M_product 14 = .ok (.getfield 19, 3) := by decide +kernel
theorem d_M_product_17 : decode b_M_product 17 = .ok (.iload_n 3, 1) := by decide +kernel
theorem d_M_product_18 : decode b_M_product 18 = .ok (.laload, 1) := by decide +kernel
theorem d_M_product_19 : decode b_M_product 19 = .ok (.aload_n 0, 1) := by decide +kernel
theorem d_M_product_20 : decode b_M_product 20 = .ok (.getfield 19, 3) := by decide +kernel
theorem d_M_product_23 : decode b_M_product 23 = .ok (.iload_n 1, 1) := by decide +kernel
theorem d_M_product_24 : decode b_M_product 24 = .ok (.laload, 1) := by decide +kernel
theorem d_M_product_25 : decode b_M_product 25 = .ok (.lsub, 1) := by decide +kernel
theorem d_M_product_26 : decode b_M_product 26 = .ok (.lmul, 1) := by decide +kernel
theorem d_M_product_27 : decode b_M_product 27 = .ok (.aload_n 0, 1) := by decide +kernel
theorem d_M_product_28 : decode b_M_product 28 = .ok (.getfield 23, 3) := by decide +kernel
theorem d_M_product_31 : decode b_M_product 31 = .ok (.iload_n 2, 1) := by decide +kernel
theorem d_M_product_32 : decode b_M_product 32 = .ok (.laload, 1) := by decide +kernel
theorem d_M_product_33 : decode b_M_product 33 = .ok (.aload_n 0, 1) := by decide +kernel
theorem d_M_product_34 : decode b_M_product 34 = .ok (.getfield 23, 3) := by decide +kernel
theorem d_M_product_37 : decode b_M_product 37 = .ok (.iload_n 1, 1) := by decide +kernel
theorem d_M_product_38 : decode b_M_product 38 = .ok (.laload, 1) := by decide +kernel
theorem d_M_product_39 : decode b_M_product 39 = .ok (.lsub, 1) := by decide +kernel
theorem d_M_product_40 : decode b_M_product 40 = .ok (.aload_n 0, 1) := by decide +kernel
theorem d_M_product_41 : decode b_M_product 41 = .ok (.getfield 23, 3) := by decide +kernel
theorem d_M_product_44 : decode b_M_product 44 = .ok (.iload_n 3, 1) := by decide +kernel
theorem d_M_product_45 : decode b_M_product 45 = .ok (.laload, 1) := by decide +kernel
theorem d_M_product_46 : decode b_M_product 46 = .ok (.aload_n 0, 1) := by decide +kernel
theorem d_M_product_47 : decode b_M_product 47 = .ok (.getfield 23, 3) := by decide +kernel
theorem d_M_product_50 : decode b_M_product 50 = .ok (.iload_n 1, 1) := by decide +kernel
theorem d_M_product_51 : decode b_M_product 51 = .ok (.laload, 1) := by decide +kernel
theorem d_M_product_52 : decode b_M_product 52 = .ok (.lsub, 1) := by decide +kernel
theorem d_M_product_53 : decode b_M_product 53 = .ok (.lmul, 1) := by decide +kernel
theorem d_M_product_54 : decode b_M_product 54 = .ok (.ladd, 1) := by decide +kernel
theorem d_M_product_55 : decode b_M_product 55 = .ok (.lreturn, 1) := by decide +kernel
theorem d_M_doubleArea_0 : decode b_M_doubleArea 0 = .ok (.aload_n 0, 1) := by decide +kernel
theorem d_M_doubleArea_1 : decode b_M_doubleArea 1 = .ok (.getfield 19, 3) := by decide +kernel
theorem d_M_doubleArea_4 : decode b_M_doubleArea 4 = .ok (.iload_n 2, 1) := by decide +kernel
theorem d_M_doubleArea_5 : decode b_M_doubleArea 5 = .ok (.laload, 1) := by decide +kernel
theorem d_M_doubleArea_6 : decode b_M_doubleArea 6 = .ok (.aload_n 0, 1) := by decide +kernel
theorem d_M_doubleArea_7 : decode b_M_doubleArea 7 = .ok (.getfield 19, 3) := by decide +kernel
theorem d_M_doubleArea_10 : decode b_M_doubleArea 10 = .ok (.iload_n 1, 1) := by decide +kernel
theorem d_M_doubleArea_11 : decode b_M_doubleArea 11 = .ok (.laload, 1) := by decide +kernel
theorem d_M_doubleArea_12 : decode b_M_doubleArea 12 = .ok (.lsub, 1) := by decide +kernel
theorem d_M_doubleArea_13 : decode b_M_doubleArea 13 = .ok (.aload_n 0, 1) := by decide +kernel
theorem d_M_doubleArea_14 : decode b_M_doubleArea 14 = .ok (.getfield 23, 3) := by decide +kernel
theorem d_M_doubleArea_17 : decode b_M_doubleArea 17 = .ok (.iload_n 3, 1) := by decide +kernel
theorem d_M_doubleArea_18 : decode b_M_doubleArea 18 = .ok (.laload, 1) := by decide +kernel
theorem d_M_doubleArea_19 : decode b_M_doubleArea 19 = .ok (.aload_n 0, 1) := by decide +kernel
theorem d_M_doubleArea_20 : decode b_M_doubleArea 20 = .ok (.getfield 23, 3) := by decide +kernel
theorem d_M_doubleArea_23 : decode b_M_doubleArea 23 = .ok (.iload_n 1, 1) := by decide +kernel
theorem d_M_doubleArea_24 : decode b_M_doubleArea 24 = .ok (.laload, 1) := by decide +kernel
theorem d_M_doubleArea_25 : decode b_M_doubleArea 25 = .ok (.lsub, 1) := by decide +kernel
theorem d_M_doubleArea_26 : decode b_M_doubleArea 26 = .ok (.lmul, 1) := by decide +kernel
theorem d_M_doubleArea_27 : decode b_M_doubleArea 27 = .ok (.aload_n 0, 1) := by decide +kernel
theorem d_M_doubleArea_28 : decode b_M_doubleArea 28 = .ok (.getfield 19, 3) := by decide +kernel
theorem d_M_doubleArea_31 : decode b_M_doubleArea 31 = .ok (.iload_n 3, 1) := by decide +kernel
theorem d_M_doubleArea_32 : decode b_M_doubleArea 32 = .ok (.laload, 1) := by decide +kernel
theorem d_M_doubleArea_33 : decode b_M_doubleArea 33 = .ok (.aload_n 0, 1) := by decide +kernel
theorem d_M_doubleArea_34 : decode b_M_doubleArea 34 = .ok (.getfield 19, 3) := by decide +kernel
theorem d_M_doubleArea_37 : decode b_M_doubleArea 37 = .ok (.iload_n 1, 1) := by decide +kernel
theorem d_M_doubleArea_38 : decode b_M_doubleArea 38 = .ok (.laload, 1) := by decide +kernel
theorem d_M_doubleArea_39 : decode b_M_doubleArea 39 = .ok (.lsub, 1) := by decide +kernel
theorem d_M_doubleArea_40 : decode b_M_doubleArea 40 = .ok (.aload_n 0, 1) := by decide +kernel
theorem d_M_doubleArea_41 : decode b_M_doubleArea 41 = .ok (.getfield 23, 3) := by decide +kernel
theorem d_M_doubleArea_44 : decode b_M_doubleArea 44 = .ok (.iload_n 2, 1) := by decide +kernel
theorem d_M_doubleArea_45 : decode b_M_doubleArea 45 = .ok (.laload, 1) := by decide +kernel
theorem d_M_doubleArea_46 : decode b_M_doubleArea 46 = .ok (.aload_n 0, 1) := by decide +kernel
theorem d_M_doubleArea_47 : decode b_M_doubleArea 47 = .ok (.getfield 23, 3) := by decide +kernel
theorem d_M_doubleArea_50 : decode b_M_doubleArea 50 = .ok (.iload_n 1, 1) := by decide +kernel
theorem d_M_doubleArea_51 : decode b_M_doubleArea 51 = .ok (.laload, 1) := by decide +kernel
theorem d_M_doubleArea_52 : decode b_M_doubleArea 52 = .ok (.lsub, 1) := by decide +kernel
theorem d_M_doubleArea_53 : decode b_M_doubleArea 53 = .ok (.lmul, 1) := by decide +kernel
theorem d_M_doubleArea_54 : decode b_M_doubleArea 54 = .ok (.lsub, 1) := by decide +kernel
theorem d_M_doubleArea_55 : decode b_M_doubleArea 55 = .ok (.lreturn, 1) := by decide +kernel
theorem d_M_tryThree_0 : decode b_M_tryThree 0 = .ok (.aload_n 0, 1) := by decide +kernel
theorem d_M_tryThree_1 : decode b_M_tryThree 1 = .ok (.iload_n 1, 1) := by decide +kernel
theorem d_M_tryThree_2 : decode b_M_tryThree 2 = .ok (.iload_n 2, 1) := by decide +kernel
theorem d_M_tryThree_3 : decode b_M_tryThree 3 = .ok (.iload_n 3, 1) := by decide +kernel
theorem d_M_tryThree_4 : decode b_M_tryThree 4 = .ok (.invokevirtual 66, 3) := by decide +kernel
theorem d_M_tryThree_7 : decode b_M_tryThree 7 = .ok (.lstore 4, 2) := by decide +kernel
theorem d_M_tryThree_9 : decode b_M_tryThree 9 = .ok (.lload 4, 2) := by decide +kernel
theorem d_M_tryThree_11 : decode b_M_tryThree 11 = .ok (.lconst 0, 1) := by decide +kernel
theorem d_M_tryThree_12 : decode b_M_tryThree 12 = .ok (.lcmp, 1) := by decide +kernel
theorem d_M_tryThree_13 : decode b_M_tryThree 13 = .ok (.ifCond .ne 4, 3) := by decide +kernel
theorem d_M_tryThree_16 : decode b_M_tryThree 16 = .ok (.return_, 1) := by decide +kernel
theorem d_M_tryThree_17 : decode b_M_tryThree 17 = .ok (.lload 4, 2) := by decide +kernel
theorem d_M_tryThree_19 : decode b_M_tryThree 19 = .ok (.lconst 0, 1) := by decide +kernel
theorem d_M_tryThree_20 : decode b_M_tryThree 20 = .ok (.lcmp, 1) := by decide +kernel
theorem d_M_tryThree_21 : decode b_M_tryThree 21 = .ok (.ifCond .ge 9, 3) := by decide +kernel
theorem d_M_tryThree_24 : decode b_M_tryThree 24 = .ok (.ldc2_w 69, 3) := by decide +kernel
theorem d_M_tryThree_27 : decode b_M_tryThree 27 = .ok (.goto 4, 3) := by decide +kernel
theorem d_M_tryThree_30 : decode b_M_tryThree 30 = .ok (.lconst 1, 1) := by decide +kernel
theorem d_M_tryThree_31 : decode b_M_tryThree 31 = .ok (.lstore 6, 2) := by decide +kernel
theorem d_M_tryThree_33 : decode b_M_tryThree 33 = .ok (.aload_n 0, 1) := by decide +kernel
theorem d_M_tryThree_34 : decode b_M_tryThree 34 = .ok (.lload 6, 2) := by decide +kernel
theorem d_M_tryThree_36 : decode b_M_tryThree 36 = .ok (.lload 4, 2) := by decide +kernel
theorem d_M_tryThree_38 : decode b_M_tryThree 38 = .ok (.lmul, 1) := by decide +kernel
theorem d_M_tryThree_39 : decode b_M_tryThree 39 = .ok (.invokevirtual 55, 3) := by decide +kernel
theorem d_M_tryThree_42 : decode b_M_tryThree 42 = .ok (.aload_n 0, 1) := by decide +kernel
theorem d_M_tryThree_43 : decode b_M_tryThree 43 = .ok (.getfield 26, 3) := by decide +kernel
theorem d_M_tryThree_46 : decode b_M_tryThree 46 = .ok (.iload_n 1, 1) := by decide +kernel
theorem d_M_tryThree_47 : decode b_M_tryThree 47 = .ok (.lload 6, 2) := by decide +kernel
theorem d_M_tryThree_49 : decode b_M_tryThree 49 = .ok (.aload_n 0, 1) := by decide +kernel
theorem d_M_tryThree_50 : decode b_M_tryThree 50 = .ok (.iconst 4, 1) := by decide +kernel
theorem d_M_tryThree_51 : decode b_M_tryThree 51 = .ok (.iload_n 2, 1) := by decide +kernel
theorem d_M_tryThree_52 : decode b_M_tryThree 52 = .ok (.iload_n 3, 1) := by decide +kernel
theorem d_M_tryThree_53 : decode b_M_tryThree 53 = .ok (.invokevirtual 66, 3) := by decide +kernel
theorem d_M_tryThree_56 : decode b_M_tryThree 56 = .ok (.lmul, 1) := by decide +kernel
theorem d_M_tryThree_57 : decode b_M_tryThree 57 = .ok (.lastore, 1) := by decide +kernel
theorem d_M_tryThree_58 : decode b_M_tryThree 58 = .ok (.aload_n 0, 1) := by decide +kernel
theorem d_M_tryThree_59 : decode b_M_tryThree 59 = .ok (.getfield 26, 3) := by decide +kernel
theorem d_M_tryThree_62 : decode b_M_tryThree 62 = .ok (.iload_n 2, 1) := by decide +kernel
theorem d_M_tryThree_63 : decode b_M_tryThree 63 = .ok (.lload 6, 2) := by decide +kernel
theorem d_M_tryThree_65 : decode b_M_tryThree 65 = .ok (.aload_n 0, 1) := by decide +kernel
theorem d_M_tryThree_66 : decode b_M_tryThree 66 = .ok (.iload_n 1, 1) := by decide +kernel
theorem d_M_tryThree_67 : decode b_M_tryThree 67 = .ok (.iconst 4, 1) := by decide +kernel
theorem d_M_tryThree_68 : decode b_M_tryThree 68 = .ok (.iload_n 3, 1) := by decide +kernel
theorem d_M_tryThree_69 : decode b_M_tryThree 69 = .ok (.invokevirtual 66, 3) := by decide +kernel
theorem d_M_tryThree_72 : decode b_M_tryThree 72 = .ok (.lmul, 1) := by decide +kernel
theorem d_M_tryThree_73 : decode b_M_tryThree 73 = .ok (.lastore, 1) := by decide +kernel
theorem d_M_tryThree_74 : decode b_M_tryThree 74 = .ok (.aload_n 0, 1) := by decide +kernel
theorem d_M_tryThree_75 : decode b_M_tryThree 75 = .ok (.getfield 26, 3) := by decide +kernel
theorem d_M_tryThree_78 : decode b_M_tryThree 78 = .ok (.iload_n 3, 1) := by decide +kernel
theorem d_M_tryThree_79 : decode b_M_tryThree 79 = .ok (.lload 6, 2) := by decide +kernel
theorem d_M_tryThree_81 : decode b_M_tryThree 81 = .ok (.aload_n 0, 1) := by decide +kernel
theorem d_M_tryThree_82 : decode b_M_tryThree 82 = .ok (.iload_n 1, 1) := by decide +kernel
theorem d_M_tryThree_83 : decode b_M_tryThree 83 = .ok (.iload_n 2, 1) := by decide +kernel
theorem d_M_tryThree_84 : decode b_M_tryThree 84 = .ok (.iconst 4, 1) := by decide +kernel
theorem d_M_tryThree_85 : decode b_M_tryThree 85 = .ok (.invokevirtual 66, 3) := by decide +kernel
theorem d_M_tryThree_88 : decode b_M_tryThree 88 = .ok (.lmul, 1) := by decide +kernel
theorem d_M_tryThree_89 : decode b_M_tryThree 89 = .ok (.lastore, 1) := by decide +kernel
theorem d_M_tryThree_90 : decode b_M_tryThree 90 = .ok (.aload_n 0, 1) := by decide +kernel
theorem d_M_tryThree_91 : decode b_M_tryThree 91 = .ok (.invokevirtual 59, 3) := by decide +kernel
theorem d_M_tryThree_94 : decode b_M_tryThree 94 = .ok (.return_, 1) := by decide +kernel
theorem d_M_isMet_0 : decode b_M_isMet 0 = .ok (.aload_n 0, 1) := by decide +kernel
theorem d_M_isMet_1 : decode b_M_isMet 1 = .ok (.getfield 39, 3) := by decide +kernel
theorem d_M_isMet_4 : decode b_M_isMet 4 = .ok (.ireturn, 1) := by decide +kernel
theorem d_M_aboveOf_0 : decode b_M_aboveOf 0 = .ok (.iconst 0, 1) := by decide +kernel
theorem d_M_aboveOf_1 : decode b_M_aboveOf 1 = .ok (.istore_n 2, 1) := by decide +kernel
theorem d_M_aboveOf_2 : decode b_M_aboveOf 2 = .ok (.iload_n 2, 1) := by decide +kernel
theorem d_M_aboveOf_3 : decode b_M_aboveOf 3 = .ok (.aload_n 0, 1) := by decide +kernel
theorem d_M_aboveOf_4 : decode b_M_aboveOf 4 = .ok (.getfield 15, 3) := by decide +kernel
theorem d_M_aboveOf_7 : decode b_M_aboveOf 7 = .ok (.if_icmp .ge 26, 3) := by decide +kernel
theorem d_M_aboveOf_10 : decode b_M_aboveOf 10 = .ok (.aload_n 0, 1) := by decide +kernel
theorem d_M_aboveOf_11 : decode b_M_aboveOf 11 = .ok (.getfield 9, 3) := by decide +kernel
theorem d_M_aboveOf_14 : decode b_M_aboveOf 14 = .ok (.iload_n 2, 1) := by decide +kernel
theorem d_M_aboveOf_15 : decode b_M_aboveOf 15 = .ok (.iaload, 1) := by decide +kernel
theorem d_M_aboveOf_16 : decode b_M_aboveOf 16 = .ok (.iload_n 1, 1) := by decide +kernel
theorem d_M_aboveOf_17 : decode b_M_aboveOf 17 = .ok (.if_icmp .ne 10, 3) := by decide +kernel
theorem d_M_aboveOf_20 : decode b_M_aboveOf 20 = .ok (.aload_n 0, 1) := by decide +kernel
theorem d_M_aboveOf_21 : decode b_M_aboveOf 21 = .ok (.getfield 33, 3) := by decide +kernel
theorem d_M_aboveOf_24 : decode b_M_aboveOf 24 = .ok (.iload_n 2, 1) := by decide +kernel
theorem d_M_aboveOf_25 : decode b_M_aboveOf 25 = .ok (.laload, 1) := by decide +kernel
theorem d_M_aboveOf_26 : decode b_M_aboveOf 26 = .ok (.lreturn, 1) := by decide +kernel
theorem d_M_aboveOf_27 : decode b_M_aboveOf 27 = .ok (.iinc 2 1, 3) := by decide +kernel
theorem d_M_aboveOf_30 : decode b_M_aboveOf 30 = .ok (.goto (-28), 3) := by decide +kernel
theorem d_M_aboveOf_33 : decode b_M_aboveOf 33 = .ok (.lconst 0, 1) := by decide +kernel
theorem d_M_aboveOf_34 : decode b_M_aboveOf 34 = .ok (.lreturn, 1) := by decide +kernel
theorem d_M_belowOfAll_0 : decode b_M_belowOfAll 0 = .ok (.aload_n 0, 1) := by decide +kernel
theorem d_M_belowOfAll_1 : decode b_M_belowOfAll 1 = .ok (.getfield 36, 3) := by decide +kernel
theorem d_M_belowOfAll_4 : decode b_M_belowOfAll 4 = .ok (.lreturn, 1) := by decide +kernel
theorem d_S_put_0 : decode b_S_put 0 = .ok (.aload_n 0, 1) := by decide +kernel
theorem d_S_put_1 : decode b_S_put 1 = .ok (.lload_n 1, 1) := by decide +kernel
theorem d_S_put_2 : decode b_S_put 2 = .ok (.invokevirtual 22, 3) := by decide +kernel
theorem d_S_put_5 : decode b_S_put 5 = .ok (.istore 5, 2) := by decide +kernel
theorem d_S_put_7 : decode b_S_put 7 = .ok (.iload 5, 2) := by decide +kernel
theorem d_S_put_9 : decode b_S_put 9 = .ok (.aload_n 0, 1) := by decide +kernel
theorem d_S_put_10 : decode b_S_put 10 = .ok (.getfield 18, 3) := by decide +kernel
theorem d_S_put_13 : decode b_S_put 13 = .ok (.if_icmp .ge 25, 3) := by decide +kernel
theorem d_S_put_16 : decode b_S_put 16 = .ok (.aload_n 0, 1) := by decide +kernel
theorem d_S_put_17 : decode b_S_put 17 = .ok (.getfield 9, 3) := by decide +kernel
theorem d_S_put_20 : decode b_S_put 20 = .ok (.iload 5, 2) := by decide +kernel
theorem d_S_put_22 : decode b_S_put 22 = .ok (.laload, 1) := by decide +kernel
theorem d_S_put_23 : decode b_S_put 23 = .ok (.lload_n 1, 1) := by decide +kernel
theorem d_S_put_24 : decode b_S_put 24 = .ok (.lcmp, 1) := by decide +kernel
theorem d_S_put_25 : decode b_S_put 25 = .ok (.ifCond .ne 13, 3) := by decide +kernel
theorem d_S_put_28 : decode b_S_put 28 = .ok (.aload_n 0, 1) := by decide +kernel
theorem d_S_put_29 : decode b_S_put 29 = .ok (.getfield 15, 3) := by decide +kernel
theorem d_S_put_32 : decode b_S_put 32 = .ok (.iload 5, 2) := by decide +kernel
theorem d_S_put_34 : decode b_S_put 34 = .ok (.lload_n 3, 1) := by decide +kernel
theorem d_S_put_35 : decode b_S_put 35 = .ok (.lastore, 1) := by decide +kernel
theorem d_S_put_36 : decode b_S_put 36 = .ok (.iconst 1, 1) := by decide +kernel
theorem d_S_put_37 : decode b_S_put 37 = .ok (.ireturn, 1) := by decide +kernel
theorem d_S_put_38 : decode b_S_put 38 = .ok (.aload_n 0, 1) := by decide +kernel
theorem d_S_put_39 : decode b_S_put 39 = .ok (.getfield 18, 3) := by decide +kernel
theorem d_S_put_42 : decode b_S_put 42 = .ok (.bipush 20, 2) := by decide +kernel
theorem d_S_put_44 : decode b_S_put 44 = .ok (.if_icmp .lt 5, 3) := by decide +kernel
theorem d_S_put_47 : decode b_S_put 47 = .ok (.iconst 0, 1) := by decide +kernel
theorem d_S_put_48 : decode b_S_put 48 = .ok (.ireturn, 1) := by decide +kernel
theorem d_S_put_49 : decode b_S_put 49 = .ok (.aload_n 0, 1) := by decide +kernel
theorem d_S_put_50 : decode b_S_put 50 = .ok (.getfield 18, 3) := by decide +kernel
theorem d_S_put_53 : decode b_S_put 53 = .ok (.istore 6, 2) := by decide +kernel
theorem d_S_put_55 : decode b_S_put 55 = .ok (.iload 6, 2) := by decide +kernel
theorem d_S_put_57 : decode b_S_put 57 = .ok (.iload 5, 2) := by decide +kernel
theorem d_S_put_59 : decode b_S_put 59 = .ok (.if_icmp .le 41, 3) := by decide +kernel
theorem d_S_put_62 : decode b_S_put 62 = .ok (.aload_n 0, 1) := by decide +kernel
theorem d_S_put_63 : decode b_S_put 63 = .ok (.getfield 9, 3) := by decide +kernel
theorem d_S_put_66 : decode b_S_put 66 = .ok (.iload 6, 2) := by decide +kernel
theorem d_S_put_68 : decode b_S_put 68 = .ok (.aload_n 0, 1) := by decide +kernel
theorem d_S_put_69 : decode b_S_put 69 = .ok (.getfield 9, 3) := by decide +kernel
theorem d_S_put_72 : decode b_S_put 72 = .ok (.iload 6, 2) := by decide +kernel
theorem d_S_put_74 : decode b_S_put 74 = .ok (.iconst 1, 1) := by decide +kernel
theorem d_S_put_75 : decode b_S_put 75 = .ok (.isub, 1) := by decide +kernel
theorem d_S_put_76 : decode b_S_put 76 = .ok (.laload, 1) := by decide +kernel
theorem d_S_put_77 : decode b_S_put 77 = .ok (.lastore, 1) := by decide +kernel
theorem d_S_put_78 : decode b_S_put 78 = .ok (.aload_n 0, 1) := by decide +kernel
theorem d_S_put_79 : decode b_S_put 79 = .ok (.getfield 15, 3) := by decide +kernel
theorem d_S_put_82 : decode b_S_put 82 = .ok (.iload 6, 2) := by decide +kernel
theorem d_S_put_84 : decode b_S_put 84 = .ok (.aload_n 0, 1) := by decide +kernel
theorem d_S_put_85 : decode b_S_put 85 = .ok (.getfield 15, 3) := by decide +kernel
theorem d_S_put_88 : decode b_S_put 88 = .ok (.iload 6, 2) := by decide +kernel
theorem d_S_put_90 : decode b_S_put 90 = .ok (.iconst 1, 1) := by decide +kernel
theorem d_S_put_91 : decode b_S_put 91 = .ok (.isub, 1) := by decide +kernel
theorem d_S_put_92 : decode b_S_put 92 = .ok (.laload, 1) := by decide +kernel
theorem d_S_put_93 : decode b_S_put 93 = .ok (.lastore, 1) := by decide +kernel
theorem d_S_put_94 : decode b_S_put 94 = .ok (.iinc 6 (-1), 3) := by decide +kernel
theorem d_S_put_97 : decode b_S_put 97 = .ok (.goto (-42), 3) := by decide +kernel
theorem d_S_put_100 : decode b_S_put 100 = .ok (.aload_n 0, 1) := by decide +kernel
theorem d_S_put_101 : decode b_S_put 101 = .ok (.getfield 9, 3) := by decide +kernel
theorem d_S_put_104 : decode b_S_put 104 = .ok (.iload 5, 2) := by decide +kernel
theorem d_S_put_106 : decode b_S_put 106 = .ok (.lload_n 1, 1) := by decide +kernel
theorem d_S_put_107 : decode b_S_put 107 = .ok (.lastore, 1) := by decide +kernel
theorem d_S_put_108 : decode b_S_put 108 = .ok (.aload_n 0, 1) := by decide +kernel
theorem d_S_put_109 : decode b_S_put 109 = .ok (.getfield 15, 3) := by decide +kernel
theorem d_S_put_112 : decode b_S_put 112 = .ok (.iload 5, 2) := by decide +kernel
theorem d_S_put_114 : decode b_S_put 114 = .ok (.lload_n 3, 1) := by decide +kernel
theorem d_S_put_115 : decode b_S_put 115 = .ok (.lastore, 1) := by decide +kernel
theorem d_S_put_116 : decode b_S_put 116 = .ok (.aload_n 0, 1) := by decide +kernel
theorem d_S_put_117 : decode b_S_put 117 = .ok (.dup, 1) := by decide +kernel
theorem d_S_put_118 : decode b_S_put 118 = .ok (.getfield 18, 3) := by decide +kernel
theorem d_S_put_121 : decode b_S_put 121 = .ok (.iconst 1, 1) := by decide +kernel
theorem d_S_put_122 : decode b_S_put 122 = .ok (.iadd, 1) := by decide +kernel
theorem d_S_put_123 : decode b_S_put 123 = .ok (.putfield 18, 3) := by decide +kernel
theorem d_S_put_126 : decode b_S_put 126 = .ok (.iconst 1, 1) := by decide +kernel
theorem d_S_put_127 : decode b_S_put 127 = .ok (.ireturn, 1) := by decide +kernel
theorem d_J_floorDiv_0 : decode b_J_floorDiv 0 = .ok (.lload_n 0, 1) := by decide +kernel
theorem d_J_floorDiv_1 : decode b_J_floorDiv 1 = .ok (.lload_n 2, 1) := by decide +kernel
theorem d_J_floorDiv_2 : decode b_J_floorDiv 2 = .ok (.ldiv, 1) := by decide +kernel
theorem d_J_floorDiv_3 : decode b_J_floorDiv 3 = .ok (.lstore 4, 2) := by decide +kernel
theorem d_J_floorDiv_5 : decode b_J_floorDiv 5 = .ok (.lload_n 0, 1) := by decide +kernel
theorem d_J_floorDiv_6 : decode b_J_floorDiv 6 = .ok (.lload_n 2, 1) := by decide +kernel
theorem d_J_floorDiv_7 : decode b_J_floorDiv 7 = .ok (.lxor, 1) := by decide +kernel
theorem d_J_floorDiv_8 : decode b_J_floorDiv 8 = .ok (.lconst 0, 1) := by decide +kernel
theorem d_J_floorDiv_9 : decode b_J_floorDiv 9 = .ok (.lcmp, 1) := by decide +kernel
theorem d_J_floorDiv_10 : decode b_J_floorDiv 10 = .ok (.ifCond .ge 17, 3) := by decide +kernel
theorem d_J_floorDiv_13 : decode b_J_floorDiv 13 = .ok (.lload 4, 2) := by decide +kernel
theorem d_J_floorDiv_15 : decode b_J_floorDiv 15 = .ok (.lload_n 2, 1) := by decide +kernel
theorem d_J_floorDiv_16 : decode b_J_floorDiv 16 = .ok (.lmul, 1) := by decide +kernel
theorem d_J_floorDiv_17 : decode b_J_floorDiv 17 = .ok (.lload_n 0, 1) := by decide +kernel
theorem d_J_floorDiv_18 : decode b_J_floorDiv 18 = .ok (.lcmp, 1) := by decide +kernel
theorem d_J_floorDiv_19 : decode b_J_floorDiv 19 = .ok (.ifCond .eq 8, 3) := by decide +kernel
theorem d_J_floorDiv_22 : decode b_J_floorDiv 22 = .ok (.lload 4, 2) := by decide +kernel
theorem d_J_floorDiv_24 : decode b_J_floorDiv 24 = .ok (.lconst 1, 1) := by decide +kernel
theorem d_J_floorDiv_25 : decode b_J_floorDiv 25 = .ok (.lsub, 1) := by decide +kernel
theorem d_J_floorDiv_26 : decode b_J_floorDiv 26 = .ok (.lreturn, 1) := by decide +kernel
theorem d_J_floorDiv_27 : decode b_J_floorDiv 27 = .ok (.lload 4, 2) := by decide +kernel
theorem d_J_floorDiv_29 : decode b_J_floorDiv 29 = .ok (.lreturn, 1) := by decide +kernel
