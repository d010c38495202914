theorem dd_RG_init_0 : decode bb_RG_init 0 = .ok (.aload_n 0, 1) := by decide +kernel
theorem dd_RG_init_1 : decode bb_RG_init 1 = .ok (.invokespecial 1, 3) := by decide +kernel
theorem dd_RG_init_4 : decode bb_RG_init 4 = .ok (.aload_n 0, 1) := by decide +kernel
theorem dd_RG_init_5 : decode bb_RG_init 5 = .ok (.new 7, 3) := by decide +kernel
theorem dd_RG_init_8 : decode bb_RG_init 8 = .ok (.dup, 1) := by decide +kernel
theorem dd_RG_init_9 : decode bb_RG_init 9 = .ok (.iload_n 1, 1) := by decide +kernel
theorem dd_RG_init_10 : decode bb_RG_init 10 = .ok (.invokespecial 9, 3) := by decide +kernel
theorem dd_RG_init_13 : decode bb_RG_init 13 = .ok (.putfield 12, 3) := by decide +kernel
theorem dd_RG_init_16 : decode bb_RG_init 16 = .ok (.aload_n 0, 1) := by decide +kernel
theorem dd_RG_init_17 : decode bb_RG_init 17 = .ok (.new 18, 3) := by decide +kernel
theorem dd_RG_init_20 : decode bb_RG_init 20 = .ok (.dup, 1) := by decide +kernel
theorem dd_RG_init_21 : decode bb_RG_init 21 = .ok (.invokespecial 20, 3) := by decide +kernel
theorem dd_RG_init_24 : decode bb_RG_init 24 = .ok (.putfield 21, 3) := by decide +kernel
theorem dd_RG_init_27 : decode bb_RG_init 27 = .ok (.aload_n 0, 1) := by decide +kernel
theorem dd_RG_init_28 : decode bb_RG_init 28 = .ok (.iconst 3, 1) := by decide +kernel
theorem dd_RG_init_29 : decode bb_RG_init 29 = .ok (.anewarray 25, 3) := by decide +kernel
theorem dd_RG_init_32 : decode bb_RG_init 32 = .ok (.putfield 27, 3) := by decide +kernel
theorem dd_RG_init_35 : decode bb_RG_init 35 = .ok (.iconst 0, 1) := by decide +kernel
theorem dd_RG_init_36 : decode bb_RG_init 36 = .ok (.istore_n 2, 1) := by decide +kernel
theorem dd_RG_init_37 : decode bb_RG_init 37 = .ok (.iload_n 2, 1) := by decide +kernel
theorem dd_RG_init_38 : decode bb_RG_init 38 = .ok (.iconst 3, 1) := by decide +kernel
theorem dd_RG_init_39 : decode bb_RG_init 39 = .ok (.if_icmp .ge 30, 3) := by decide +kernel
theorem dd_RG_init_42 : decode bb_RG_init 42 = .ok (.aload_n 0, 1) := by decide +kernel
theorem dd_RG_init_43 : decode bb_RG_init 43 = .ok (.getfield 27, 3) := by decide +kernel
theorem dd_RG_init_46 : decode bb_RG_init 46 = .ok (.iload_n 2, 1) := by decide +kernel
theorem dd_RG_init_47 : decode bb_RG_init 47 = .ok (.new 25, 3) := by decide +kernel
theorem dd_RG_init_50 : decode bb_RG_init 50 = .ok (.dup, 1) := by decide +kernel
theorem dd_RG_init_51 : decode bb_RG_init 51 = .ok (.iload_n 2, 1) := by decide +kernel
theorem dd_RG_init_52 : decode bb_RG_init 52 = .ok (.aload_n 0, 1) := by decide +kernel
theorem dd_RG_init_53 : decode bb_RG_init 53 = .ok (.getfield 12, 3) := by decide +kernel
theorem dd_RG_init_56 : decode bb_RG_init 56 = .ok (.getfield 31, 3) := by decide +kernel
theorem dd_RG_init_59 : decode bb_RG_init 59 = .ok (.invokespecial 35, 3) := by decide +kernel
theorem dd_RG_init_62 : decode bb_RG_init 62 = .ok (.aastore, 1) := by decide +kernel
theorem dd_RG_init_63 : decode bb_RG_init 63 = .ok (.iinc 2 1, 3) := by decide +kernel
theorem dd_RG_init_66 : decode bb_RG_init 66 = .ok (.goto (-29), 3) := by decide +kernel
theorem dd_RG_init_69 : decode bb_RG_init 69 = .ok (.aload_n 0, 1) := by decide +kernel
theorem dd_RG_init_70 : decode bb_RG_init 70 = .ok (.bipush 12, 2) := by decide +kernel
theorem dd_RG_init_72 : decode bb_RG_init 72 = .ok (.newarray .boolean, 2) := by decide +kernel
theorem dd_RG_init_74 : decode bb_RG_init 74 = .ok (.putfield 38, 3) := by decide +kernel
theorem dd_RG_init_77 : decode bb_RG_init 77 = .ok (.iconst 0, 1) := by decide +kernel
theorem dd_RG_init_78 : decode bb_RG_init 78 = .ok (.istore_n 2, 1) := by decide +kernel
theorem dd_RG_init_79 : decode bb_RG_init 79 = .ok (.iload_n 2, 1) := by decide +kernel
theorem dd_RG_init_80 : decode bb_RG_init 80 = .ok (.bipush 12, 2) := by decide +kernel
theorem dd_RG_init_82 : decode bb_RG_init 82 = .ok (.if_icmp .ge 16, 3) := by decide +kernel
theorem dd_RG_init_85 : decode bb_RG_init 85 = .ok (.aload_n 0, 1) := by decide +kernel
theorem dd_RG_init_86 : decode bb_RG_init 86 = .ok (.getfield 38, 3) := by decide +kernel
theorem dd_RG_init_89 : decode bb_RG_init 89 = .ok (.iload_n 2, 1) := by decide +kernel
theorem dd_RG_init_90 : decode bb_RG_init 90 = .ok (.iconst 1, 1) := by decide +kernel
theorem dd_RG_init_91 : decode bb_RG_init 91 = .ok (.bastore, 1) := by decide +kernel
theorem dd_RG_init_92 : decode bb_RG_init 92 = .ok (.iinc 2 1, 3) := by decide +kernel
theorem dd_RG_init_95 : decode bb_RG_init 95 = .ok (.goto (-16), 3) := by decide +kernel
theorem dd_RG_init_98 : decode bb_RG_init 98 = .ok (.aload_n 0, 1) := by decide +kernel
theorem dd_RG_init_99 : decode bb_RG_init 99 = .ok (.iconst 4, 1) := by decide +kernel
theorem dd_RG_init_100 : decode bb_RG_init 100 = .ok (.newarray .int, 2) := by decide +kernel
theorem dd_RG_init_102 : decode bb_RG_init 102 = .ok (.putfield 42, 3) := by decide +kernel
theorem dd_RG_init_105 : decode bb_RG_init 105 = .ok (.return_, 1) := by decide +kernel
theorem dd_RG_put_0 : decode bb_RG_put 0 = .ok (.iload_n 1, 1) := by decide +kernel
theorem dd_RG_put_1 : decode bb_RG_put 1 = .ok (.invokestatic 46, 3) := by decide +kernel
theorem dd_RG_put_4 : decode bb_RG_put 4 = .ok (.ifCond .eq 13, 3) := by decide +kernel
theorem dd_RG_put_7 : decode bb_RG_put 7 = .ok (.iload_n 2, 1) := by decide +kernel
theorem dd_RG_put_8 : decode bb_RG_put 8 = .ok (.ifCond .lt 9, 3) := by decide +kernel
theorem dd_RG_put_11 : decode bb_RG_put 11 = .ok (.iload_n 2, 1) := by decide +kernel
theorem dd_RG_put_12 : decode bb_RG_put 12 = .ok (.bipush 6, 2) := by decide +kernel
theorem dd_RG_put_14 : decode bb_RG_put 14 = .ok (.if_icmp .lt 5, 3) := by decide +kernel
theorem dd_RG_put_17 : decode bb_RG_put 17 = .ok (.iconst (-1), 1) := by decide +kernel
theorem dd_RG_put_18 : decode bb_RG_put 18 = .ok (.ireturn, 1) := by decide +kernel
theorem dd_RG_put_19 : decode bb_RG_put 19 = .ok (.aload_n 0, 1) := by decide +kernel
theorem dd_RG_put_20 : decode bb_RG_put 20 = .ok (.getfield 27, 3) := by decide +kernel
theorem dd_RG_put_23 : decode bb_RG_put 23 = .ok (.iload_n 1, 1) := by decide +kernel
theorem dd_RG_put_24 : decode bb_RG_put 24 = .ok (.aaload, 1) := by decide +kernel
theorem dd_RG_put_25 : decode bb_RG_put 25 = .ok (.astore 5, 2) := by decide +kernel
theorem dd_RG_put_27 : decode bb_RG_put 27 = .ok (.aload 5, 2) := by decide +kernel
theorem dd_RG_put_29 : decode bb_RG_put 29 = .ok (.iload_n 2, 1) := by decide +kernel
theorem dd_RG_put_30 : decode bb_RG_put 30 = .ok (.invokevirtual 50, 3) := by decide +kernel
theorem dd_RG_put_33 : decode bb_RG_put 33 = .ok (.ifCond .ne 6, 3) := by decide +kernel
theorem dd_RG_put_36 : decode bb_RG_put 36 = .ok (.bipush (-2), 2) := by decide +kernel
theorem dd_RG_put_38 : decode bb_RG_put 38 = .ok (.ireturn, 1) := by decide +kernel
theorem dd_RG_put_39 : decode bb_RG_put 39 = .ok (.aload_n 0, 1) := by decide +kernel
theorem dd_RG_put_40 : decode bb_RG_put 40 = .ok (.aload 5, 2) := by decide +kernel
theorem dd_RG_put_42 : decode bb_RG_put 42 = .ok (.iload_n 2, 1) := by decide +kernel
theorem dd_RG_put_43 : decode bb_RG_put 43 = .ok (.invokevirtual 53, 3) := by decide +kernel
theorem dd_RG_put_46 : decode bb_RG_put 46 = .ok (.ifCond .ne 6, 3) := by decide +kernel
theorem dd_RG_put_49 : decode bb_RG_put 49 = .ok (.bipush (-3), 2) := by decide +kernel
theorem dd_RG_put_51 : decode bb_RG_put 51 = .ok (.ireturn, 1) := by decide +kernel
theorem dd_RG_put_52 : decode bb_RG_put 52 = .ok (.aload_n 0, 1) := by decide +kernel
theorem dd_RG_put_53 : decode bb_RG_put 53 = .ok (.aload 5, 2) := by decide +kernel
theorem dd_RG_put_55 : decode bb_RG_put 55 = .ok (.iload_n 2, 1) := by decide +kernel
theorem dd_RG_put_56 : decode bb_RG_put 56 = .ok (.aload 5, 2) := by decide +kernel
theorem dd_RG_put_58 : decode bb_RG_put 58 = .ok (.iload_n 2, 1) := by decide +kernel
theorem dd_RG_put_59 : decode bb_RG_put 59 = .ok (.invokevirtual 57, 3) := by decide +kernel
theorem dd_RG_put_62 : decode bb_RG_put 62 = .ok (.lload_n 3, 1) := by decide +kernel
theorem dd_RG_put_63 : decode bb_RG_put 63 = .ok (.lxor, 1) := by decide +kernel
theorem dd_RG_put_64 : decode bb_RG_put 64 = .ok (.invokevirtual 61, 3) := by decide +kernel
theorem dd_RG_put_67 : decode bb_RG_put 67 = .ok (.istore 6, 2) := by decide +kernel
theorem dd_RG_put_69 : decode bb_RG_put 69 = .ok (.aload_n 0, 1) := by decide +kernel
theorem dd_RG_put_70 : decode bb_RG_put 70 = .ok (.aload 5, 2) := by decide +kernel
theorem dd_RG_put_72 : decode bb_RG_put 72 = .ok (.iload_n 2, 1) := by decide +kernel
theorem dd_RG_put_73 : decode bb_RG_put 73 = .ok (.lload_n 3, 1) := by decide +kernel
theorem dd_RG_put_74 : decode bb_RG_put 74 = .ok (.invokevirtual 65, 3) := by decide +kernel
theorem dd_RG_put_77 : decode bb_RG_put 77 = .ok (.iload 6, 2) := by decide +kernel
theorem dd_RG_put_79 : decode bb_RG_put 79 = .ok (.ireturn, 1) := by decide +kernel
theorem dd_RG_fetch_0 : decode bb_RG_fetch 0 = .ok (.aload_n 0, 1) := by decide +kernel
theorem dd_RG_fetch_1 : decode bb_RG_fetch 1 = .ok (.iload_n 1, 1) := by decide +kernel
theorem dd_RG_fetch_2 : decode bb_RG_fetch 2 = .ok (.iload_n 2, 1) := by decide +kernel
theorem dd_RG_fetch_3 : decode bb_RG_fetch 3 = .ok (.invokevirtual 69, 3) := by decide +kernel
theorem dd_RG_fetch_6 : decode bb_RG_fetch 6 = .ok (.ifCond .ne 5, 3) := by decide +kernel
theorem dd_RG_fetch_9 : decode bb_RG_fetch 9 = .ok (.iconst (-1), 1) := by decide +kernel
theorem dd_RG_fetch_10 : decode bb_RG_fetch 10 = .ok (.ireturn, 1) := by decide +kernel
theorem dd_RG_fetch_11 : decode bb_RG_fetch 11 = .ok (.aload_n 0, 1) := by decide +kernel
theorem dd_RG_fetch_12 : decode bb_RG_fetch 12 = .ok (.getfield 27, 3) := by decide +kernel
theorem dd_RG_fetch_15 : decode bb_RG_fetch 15 = .ok (.iload_n 1, 1) := by decide +kernel
theorem dd_RG_fetch_16 : decode bb_RG_fetch 16 = .ok (.aaload, 1) := by decide +kernel
theorem dd_RG_fetch_17 : decode bb_RG_fetch 17 = .ok (.astore_n 3, 1) := by decide +kernel
theorem dd_RG_fetch_18 : decode bb_RG_fetch 18 = .ok (.aload_n 3, 1) := by decide +kernel
theorem dd_RG_fetch_19 : decode bb_RG_fetch 19 = .ok (.iload_n 2, 1) := by decide +kernel
theorem dd_RG_fetch_20 : decode bb_RG_fetch 20 = .ok (.invokevirtual 50, 3) := by decide +kernel
theorem dd_RG_fetch_23 : decode bb_RG_fetch 23 = .ok (.ifCond .eq 23, 3) := by decide +kernel
theorem dd_RG_fetch_26 : decode bb_RG_fetch 26 = .ok (.aload_n 0, 1) := by decide +kernel
theorem dd_RG_fetch_27 : decode bb_RG_fetch 27 = .ok (.aload_n 3, 1) := by decide +kernel
theorem dd_RG_fetch_28 : decode bb_RG_fetch 28 = .ok (.iload_n 2, 1) := by decide +kernel
theorem dd_RG_fetch_29 : decode bb_RG_fetch 29 = .ok (.invokevirtual 53, 3) := by decide +kernel
theorem dd_RG_fetch_32 : decode bb_RG_fetch 32 = .ok (.ifCond .eq 14, 3) := by decide +kernel
theorem dd_RG_fetch_35 : decode bb_RG_fetch 35 = .ok (.aload_n 0, 1) := by decide +kernel
theorem dd_RG_fetch_36 : decode bb_RG_fetch 36 = .ok (.aload_n 3, 1) := by decide +kernel
theorem dd_RG_fetch_37 : decode bb_RG_fetch 37 = .ok (.iload_n 2, 1) := by decide +kernel
theorem dd_RG_fetch_38 : decode bb_RG_fetch 38 = .ok (.invokevirtual 57, 3) := by decide +kernel
theorem dd_RG_fetch_41 : decode bb_RG_fetch 41 = .ok (.putfield 73, 3) := by decide +kernel
theorem dd_RG_fetch_44 : decode bb_RG_fetch 44 = .ok (.iconst 0, 1) := by decide +kernel
theorem dd_RG_fetch_45 : decode bb_RG_fetch 45 = .ok (.ireturn, 1) := by decide +kernel
theorem dd_RG_fetch_46 : decode bb_RG_fetch 46 = .ok (.aload_n 0, 1) := by decide +kernel
theorem dd_RG_fetch_47 : decode bb_RG_fetch 47 = .ok (.aload_n 3, 1) := by decide +kernel
theorem dd_RG_fetch_48 : decode bb_RG_fetch 48 = .ok (.iload_n 2, 1) := by decide +kernel
theorem dd_RG_fetch_49 : decode bb_RG_fetch 49 = .ok (.invokevirtual 77, 3) := by decide +kernel
theorem dd_RG_fetch_52 : decode bb_RG_fetch 52 = .ok (.istore 4, 2) := by decide +kernel
theorem dd_RG_fetch_54 : decode bb_RG_fetch 54 = .ok (.iload 4, 2) := by decide +kernel
theorem dd_RG_fetch_56 : decode bb_RG_fetch 56 = .ok (.ifCond .lt 11, 3) := by decide +kernel
theorem dd_RG_fetch_59 : decode bb_RG_fetch 59 = .ok (.aload_n 0, 1) := by decide +kernel
theorem dd_RG_fetch_60 : decode bb_RG_fetch 60 = .ok (.aload_n 0, 1) := by decide +kernel
theorem dd_RG_fetch_61 : decode bb_RG_fetch 61 = .ok (.getfield 81, 3) := by decide +kernel
theorem dd_RG_fetch_64 : decode bb_RG_fetch 64 = .ok (.putfield 73, 3) := by decide +kernel
theorem dd_RG_fetch_67 : decode bb_RG_fetch 67 = .ok (.iload 4, 2) := by decide +kernel
theorem dd_RG_fetch_69 : decode bb_RG_fetch 69 = .ok (.ireturn, 1) := by decide +kernel
theorem dd_RG_fetched_0 : decode bb_RG_fetched 0 = .ok (.aload_n 0, 1) := by decide +kernel
theorem dd_RG_fetched_1 : decode bb_RG_fetched 1 = .ok (.getfield 73, 3) := by decide +kernel
theorem dd_RG_fetched_4 : decode bb_RG_fetched 4 = .ok (.lreturn, 1) := by decide +kernel
theorem dd_RG_fail_0 : decode bb_RG_fail 0 = .ok (.iload_n 1, 1) := by decide +kernel
theorem dd_RG_fail_1 : decode bb_RG_fail 1 = .ok (.invokestatic 84, 3) := by decide +kernel
theorem dd_RG_fail_4 : decode bb_RG_fail 4 = .ok (.ifCond .ne 5, 3) := by decide +kernel
theorem dd_RG_fail_7 : decode bb_RG_fail 7 = .ok (.iconst (-1), 1) := by decide +kernel
theorem dd_RG_fail_8 : decode bb_RG_fail 8 = .ok (.ireturn, 1) := by decide +kernel
theorem dd_RG_fail_9 : decode bb_RG_fail 9 = .ok (.aload_n 0, 1) := by decide +kernel
theorem dd_RG_fail_10 : decode bb_RG_fail 10 = .ok (.getfield 38, 3) := by decide +kernel
theorem dd_RG_fail_13 : decode bb_RG_fail 13 = .ok (.iload_n 1, 1) := by decide +kernel
theorem dd_RG_fail_14 : decode bb_RG_fail 14 = .ok (.baload, 1) := by decide +kernel
theorem dd_RG_fail_15 : decode bb_RG_fail 15 = .ok (.ifCond .ne 6, 3) := by decide +kernel
theorem dd_RG_fail_18 : decode bb_RG_fail 18 = .ok (.bipush (-2), 2) := by decide +kernel
theorem dd_RG_fail_20 : decode bb_RG_fail 20 = .ok (.ireturn, 1) := by decide +kernel
theorem dd_RG_fail_21 : decode bb_RG_fail 21 = .ok (.aload_n 0, 1) := by decide +kernel
theorem dd_RG_fail_22 : decode bb_RG_fail 22 = .ok (.getfield 38, 3) := by decide +kernel
theorem dd_RG_fail_25 : decode bb_RG_fail 25 = .ok (.iload_n 1, 1) := by decide +kernel
theorem dd_RG_fail_26 : decode bb_RG_fail 26 = .ok (.iconst 0, 1) := by decide +kernel
theorem dd_RG_fail_27 : decode bb_RG_fail 27 = .ok (.bastore, 1) := by decide +kernel
theorem dd_RG_fail_28 : decode bb_RG_fail 28 = .ok (.iconst 0, 1) := by decide +kernel
theorem dd_RG_fail_29 : decode bb_RG_fail 29 = .ok (.istore_n 2, 1) := by decide +kernel
theorem dd_RG_fail_30 : decode bb_RG_fail 30 = .ok (.iconst 0, 1) := by decide +kernel
theorem dd_RG_fail_31 : decode bb_RG_fail 31 = .ok (.istore_n 3, 1) := by decide +kernel
theorem dd_RG_fail_32 : decode bb_RG_fail 32 = .ok (.iload_n 3, 1) := by decide +kernel
theorem dd_RG_fail_33 : decode bb_RG_fail 33 = .ok (.iconst 3, 1) := by decide +kernel
theorem dd_RG_fail_34 : decode bb_RG_fail 34 = .ok (.if_icmp .ge 23, 3) := by decide +kernel
theorem dd_RG_fail_37 : decode bb_RG_fail 37 = .ok (.iload_n 2, 1) := by decide +kernel
theorem dd_RG_fail_38 : decode bb_RG_fail 38 = .ok (.aload_n 0, 1) := by decide +kernel
theorem dd_RG_fail_39 : decode bb_RG_fail 39 = .ok (.aload_n 0, 1) := by decide +kernel
theorem dd_RG_fail_40 : decode bb_RG_fail 40 = .ok (.getfield 27, 3) := by decide +kernel
theorem dd_RG_fail_43 : decode bb_RG_fail 43 = .ok (.iload_n 3, 1) := by decide +kernel
theorem dd_RG_fail_44 : decode bb_RG_fail 44 = .ok (.aaload, 1) := by decide +kernel
theorem dd_RG_fail_45 : decode bb_RG_fail 45 = .ok (.iload_n 1, 1) := by decide +kernel
theorem dd_RG_fail_46 : decode bb_RG_fail 46 = .ok (.invokevirtual 87, 3) := by decide +kernel
theorem dd_RG_fail_49 : decode bb_RG_fail 49 = .ok (.iadd, 1) := by decide +kernel
theorem dd_RG_fail_50 : decode bb_RG_fail 50 = .ok (.istore_n 2, 1) := by decide +kernel
theorem dd_RG_fail_51 : decode bb_RG_fail 51 = .ok (.iinc 3 1, 3) := by decide +kernel
theorem dd_RG_fail_54 : decode bb_RG_fail 54 = .ok (.goto (-22), 3) := by decide +kernel
theorem dd_RG_fail_57 : decode bb_RG_fail 57 = .ok (.iload_n 2, 1) := by decide +kernel
theorem dd_RG_fail_58 : decode bb_RG_fail 58 = .ok (.ireturn, 1) := by decide +kernel
theorem dd_RG_revive_0 : decode bb_RG_revive 0 = .ok (.iload_n 1, 1) := by decide +kernel
theorem dd_RG_revive_1 : decode bb_RG_revive 1 = .ok (.invokestatic 84, 3) := by decide +kernel
theorem dd_RG_revive_4 : decode bb_RG_revive 4 = .ok (.ifCond .eq 12, 3) := by decide +kernel
theorem dd_RG_revive_7 : decode bb_RG_revive 7 = .ok (.aload_n 0, 1) := by decide +kernel
theorem dd_RG_revive_8 : decode bb_RG_revive 8 = .ok (.getfield 38, 3) := by decide +kernel
theorem dd_RG_revive_11 : decode bb_RG_revive 11 = .ok (.iload_n 1, 1) := by decide +kernel
theorem dd_RG_revive_12 : decode bb_RG_revive 12 = .ok (.baload, 1) := by decide +kernel
theorem dd_RG_revive_13 : decode bb_RG_revive 13 = .ok (.ifCond .eq 5, 3) := by decide +kernel
theorem dd_RG_revive_16 : decode bb_RG_revive 16 = .ok (.iconst 0, 1) := by decide +kernel
theorem dd_RG_revive_17 : decode bb_RG_revive 17 = .ok (.ireturn, 1) := by decide +kernel
theorem dd_RG_revive_18 : decode bb_RG_revive 18 = .ok (.aload_n 0, 1) := by decide +kernel
theorem dd_RG_revive_19 : decode bb_RG_revive 19 = .ok (.getfield 38, 3) := by decide +kernel
theorem dd_RG_revive_22 : decode bb_RG_revive 22 = .ok (.iload_n 1, 1) := by decide +kernel
theorem dd_RG_revive_23 : decode bb_RG_revive 23 = .ok (.iconst 1, 1) := by decide +kernel
theorem dd_RG_revive_24 : decode bb_RG_revive 24 = .ok (.bastore, 1) := by decide +kernel
theorem dd_RG_revive_25 : decode bb_RG_revive 25 = .ok (.iconst 1, 1) := by decide +kernel
theorem dd_RG_revive_26 : decode bb_RG_revive 26 = .ok (.ireturn, 1) := by decide +kernel
theorem dd_RG_damage_0 : decode bb_RG_damage 0 = .ok (.aload_n 0, 1) := by decide +kernel
theorem dd_RG_damage_1 : decode bb_RG_damage 1 = .ok (.iload_n 1, 1) := by decide +kernel
theorem dd_RG_damage_2 : decode bb_RG_damage 2 = .ok (.iload_n 2, 1) := by decide +kernel
theorem dd_RG_damage_3 : decode bb_RG_damage 3 = .ok (.invokevirtual 69, 3) := by decide +kernel
theorem dd_RG_damage_6 : decode bb_RG_damage 6 = .ok (.ifCond .eq 26, 3) := by decide +kernel
theorem dd_RG_damage_9 : decode bb_RG_damage 9 = .ok (.iload_n 3, 1) := by decide +kernel
theorem dd_RG_damage_10 : decode bb_RG_damage 10 = .ok (.ifCond .lt 22, 3) := by decide +kernel
theorem dd_RG_damage_13 : decode bb_RG_damage 13 = .ok (.iload_n 3, 1) := by decide +kernel
theorem dd_RG_damage_14 : decode bb_RG_damage 14 = .ok (.bipush 64, 2) := by decide +kernel
theorem dd_RG_damage_16 : decode bb_RG_damage 16 = .ok (.if_icmp .ge 16, 3) := by decide +kernel
theorem dd_RG_damage_19 : decode bb_RG_damage 19 = .ok (.aload_n 0, 1) := by decide +kernel
theorem dd_RG_damage_20 : decode bb_RG_damage 20 = .ok (.getfield 27, 3) := by decide +kernel
theorem dd_RG_damage_23 : decode bb_RG_damage 23 = .ok (.iload_n 1, 1) := by decide +kernel
theorem dd_RG_damage_24 : decode bb_RG_damage 24 = .ok (.aaload, 1) := by decide +kernel
theorem dd_RG_damage_25 : decode bb_RG_damage 25 = .ok (.iload_n 2, 1) := by decide +kernel
theorem dd_RG_damage_26 : decode bb_RG_damage 26 = .ok (.invokevirtual 50, 3) := by decide +kernel
theorem dd_RG_damage_29 : decode bb_RG_damage 29 = .ok (.ifCond .ne 5, 3) := by decide +kernel
theorem dd_RG_damage_32 : decode bb_RG_damage 32 = .ok (.iconst 0, 1) := by decide +kernel
theorem dd_RG_damage_33 : decode bb_RG_damage 33 = .ok (.ireturn, 1) := by decide +kernel
theorem dd_RG_damage_34 : decode bb_RG_damage 34 = .ok (.aload_n 0, 1) := by decide +kernel
theorem dd_RG_damage_35 : decode bb_RG_damage 35 = .ok (.getfield 27, 3) := by decide +kernel
theorem dd_RG_damage_38 : decode bb_RG_damage 38 = .ok (.iload_n 1, 1) := by decide +kernel
theorem dd_RG_damage_39 : decode bb_RG_damage 39 = .ok (.aaload, 1) := by decide +kernel
theorem dd_RG_damage_40 : decode bb_RG_damage 40 = .ok (.iload_n 2, 1) := by decide +kernel
theorem dd_RG_damage_41 : decode bb_RG_damage 41 = .ok (.iload_n 3, 1) := by decide +kernel
theorem dd_RG_damage_42 : decode bb_RG_damage 42 = .ok (.invokevirtual 90, 3) := by decide +kernel
theorem dd_RG_damage_45 : decode bb_RG_damage 45 = .ok (.iconst 1, 1) := by decide +kernel
theorem dd_RG_damage_46 : decode bb_RG_damage 46 = .ok (.ireturn, 1) := by decide +kernel
theorem dd_RG_repair_0 : decode bb_RG_repair 0 = .ok (.aload_n 0, 1) := by decide +kernel
theorem dd_RG_repair_1 : decode bb_RG_repair 1 = .ok (.iload_n 1, 1) := by decide +kernel
theorem dd_RG_repair_2 : decode bb_RG_repair 2 = .ok (.iload_n 2, 1) := by decide +kernel
theorem dd_RG_repair_3 : decode bb_RG_repair 3 = .ok (.invokevirtual 69, 3) := by decide +kernel
theorem dd_RG_repair_6 : decode bb_RG_repair 6 = .ok (.ifCond .ne 5, 3) := by decide +kernel
theorem dd_RG_repair_9 : decode bb_RG_repair 9 = .ok (.iconst (-1), 1) := by decide +kernel
theorem dd_RG_repair_10 : decode bb_RG_repair 10 = .ok (.ireturn, 1) := by decide +kernel
theorem dd_RG_repair_11 : decode bb_RG_repair 11 = .ok (.aload_n 0, 1) := by decide +kernel
theorem dd_RG_repair_12 : decode bb_RG_repair 12 = .ok (.getfield 27, 3) := by decide +kernel
theorem dd_RG_repair_15 : decode bb_RG_repair 15 = .ok (.iload_n 1, 1) := by decide +kernel
theorem dd_RG_repair_16 : decode bb_RG_repair 16 = .ok (.aaload, 1) := by decide +kernel
theorem dd_RG_repair_17 : decode bb_RG_repair 17 = .ok (.astore_n 3, 1) := by decide +kernel
theorem dd_RG_repair_18 : decode bb_RG_repair 18 = .ok (.aload_n 3, 1) := by decide +kernel
theorem dd_RG_repair_19 : decode bb_RG_repair 19 = .ok (.iload_n 2, 1) := by decide +kernel
theorem dd_RG_repair_20 : decode bb_RG_repair 20 = .ok (.invokevirtual 50, 3) := by decide +kernel
theorem dd_RG_repair_23 : decode bb_RG_repair 23 = .ok (.ifCond .eq 6, 3) := by decide +kernel
theorem dd_RG_repair_26 : decode bb_RG_repair 26 = .ok (.bipush (-2), 2) := by decide +kernel
theorem dd_RG_repair_28 : decode bb_RG_repair 28 = .ok (.ireturn, 1) := by decide +kernel
theorem dd_RG_repair_29 : decode bb_RG_repair 29 = .ok (.aload_n 0, 1) := by decide +kernel
theorem dd_RG_repair_30 : decode bb_RG_repair 30 = .ok (.getfield 38, 3) := by decide +kernel
theorem dd_RG_repair_33 : decode bb_RG_repair 33 = .ok (.aload_n 3, 1) := by decide +kernel
theorem dd_RG_repair_34 : decode bb_RG_repair 34 = .ok (.iload_n 2, 1) := by decide +kernel
theorem dd_RG_repair_35 : decode bb_RG_repair 35 = .ok (.invokevirtual 93, 3) := by decide +kernel
theorem dd_RG_repair_38 : decode bb_RG_repair 38 = .ok (.baload, 1) := by decide +kernel
theorem dd_RG_repair_39 : decode bb_RG_repair 39 = .ok (.ifCond .ne 6, 3) := by decide +kernel
theorem dd_RG_repair_42 : decode bb_RG_repair 42 = .ok (.bipush (-3), 2) := by decide +kernel
theorem dd_RG_repair_44 : decode bb_RG_repair 44 = .ok (.ireturn, 1) := by decide +kernel
theorem dd_RG_repair_45 : decode bb_RG_repair 45 = .ok (.aload_n 0, 1) := by decide +kernel
theorem dd_RG_repair_46 : decode bb_RG_repair 46 = .ok (.aload_n 3, 1) := by decide +kernel
theorem dd_RG_repair_47 : decode bb_RG_repair 47 = .ok (.iload_n 2, 1) := by decide +kernel
theorem dd_RG_repair_48 : decode bb_RG_repair 48 = .ok (.invokevirtual 97, 3) := by decide +kernel
theorem dd_RG_repair_51 : decode bb_RG_repair 51 = .ok (.ireturn, 1) := by decide +kernel
theorem dd_RG_mend_0 : decode bb_RG_mend 0 = .ok (.iload_n 1, 1) := by decide +kernel
theorem dd_RG_mend_1 : decode bb_RG_mend 1 = .ok (.invokestatic 46, 3) := by decide +kernel
theorem dd_RG_mend_4 : decode bb_RG_mend 4 = .ok (.ifCond .ne 5, 3) := by decide +kernel
theorem dd_RG_mend_7 : decode bb_RG_mend 7 = .ok (.iconst (-1), 1) := by decide +kernel
theorem dd_RG_mend_8 : decode bb_RG_mend 8 = .ok (.ireturn, 1) := by decide +kernel
theorem dd_RG_mend_9 : decode bb_RG_mend 9 = .ok (.aload_n 0, 1) := by decide +kernel
theorem dd_RG_mend_10 : decode bb_RG_mend 10 = .ok (.getfield 27, 3) := by decide +kernel
theorem dd_RG_mend_13 : decode bb_RG_mend 13 = .ok (.iload_n 1, 1) := by decide +kernel
theorem dd_RG_mend_14 : decode bb_RG_mend 14 = .ok (.aaload, 1) := by decide +kernel
theorem dd_RG_mend_15 : decode bb_RG_mend 15 = .ok (.astore_n 2, 1) := by decide +kernel
theorem dd_RG_mend_16 : decode bb_RG_mend 16 = .ok (.iconst 0, 1) := by decide +kernel
theorem dd_RG_mend_17 : decode bb_RG_mend 17 = .ok (.istore_n 3, 1) := by decide +kernel
theorem dd_RG_mend_18 : decode bb_RG_mend 18 = .ok (.iconst 0, 1) := by decide +kernel
theorem dd_RG_mend_19 : decode bb_RG_mend 19 = .ok (.istore 4, 2) := by decide +kernel
theorem dd_RG_mend_21 : decode bb_RG_mend 21 = .ok (.iload 4, 2) := by decide +kernel
theorem dd_RG_mend_23 : decode bb_RG_mend 23 = .ok (.bipush 64, 2) := by decide +kernel
theorem dd_RG_mend_25 : decode bb_RG_mend 25 = .ok (.if_icmp .ge 38, 3) := by decide +kernel
theorem dd_RG_mend_28 : decode bb_RG_mend 28 = .ok (.aload_n 0, 1) := by decide +kernel
theorem dd_RG_mend_29 : decode bb_RG_mend 29 = .ok (.aload_n 2, 1) := by decide +kernel
theorem dd_RG_mend_30 : decode bb_RG_mend 30 = .ok (.invokevirtual 100, 3) := by decide +kernel
theorem dd_RG_mend_33 : decode bb_RG_mend 33 = .ok (.istore 5, 2) := by decide +kernel
theorem dd_RG_mend_35 : decode bb_RG_mend 35 = .ok (.iload 5, 2) := by decide +kernel
theorem dd_RG_mend_37 : decode bb_RG_mend 37 = .ok (.iconst (-1), 1) := by decide +kernel
theorem dd_RG_mend_38 : decode bb_RG_mend 38 = .ok (.if_icmp .ne 6, 3) := by decide +kernel
theorem dd_RG_mend_41 : decode bb_RG_mend 41 = .ok (.goto 22, 3) := by decide +kernel
theorem dd_RG_mend_44 : decode bb_RG_mend 44 = .ok (.aload_n 0, 1) := by decide +kernel
theorem dd_RG_mend_45 : decode bb_RG_mend 45 = .ok (.aload_n 2, 1) := by decide +kernel
theorem dd_RG_mend_46 : decode bb_RG_mend 46 = .ok (.iload 5, 2) := by decide +kernel
theorem dd_RG_mend_48 : decode bb_RG_mend 48 = .ok (.invokevirtual 97, 3) := by decide +kernel
theorem dd_RG_mend_51 : decode bb_RG_mend 51 = .ok (.ifCond .lt 6, 3) := by decide +kernel
theorem dd_RG_mend_54 : decode bb_RG_mend 54 = .ok (.iinc 3 1, 3) := by decide +kernel
theorem dd_RG_mend_57 : decode bb_RG_mend 57 = .ok (.iinc 4 1, 3) := by decide +kernel
theorem dd_RG_mend_60 : decode bb_RG_mend 60 = .ok (.goto (-39), 3) := by decide +kernel
theorem dd_RG_mend_63 : decode bb_RG_mend 63 = .ok (.iload_n 3, 1) := by decide +kernel
theorem dd_RG_mend_64 : decode bb_RG_mend 64 = .ok (.ireturn, 1) := by decide +kernel
theorem dd_RG_scrub_0 : decode bb_RG_scrub 0 = .ok (.iload_n 1, 1) := by decide +kernel
theorem dd_RG_scrub_1 : decode bb_RG_scrub 1 = .ok (.invokestatic 46, 3) := by decide +kernel
theorem dd_RG_scrub_4 : decode bb_RG_scrub 4 = .ok (.ifCond .ne 5, 3) := by decide +kernel
theorem dd_RG_scrub_7 : decode bb_RG_scrub 7 = .ok (.iconst (-1), 1) := by decide +kernel
theorem dd_RG_scrub_8 : decode bb_RG_scrub 8 = .ok (.ireturn, 1) := by decide +kernel
theorem dd_RG_scrub_9 : decode bb_RG_scrub 9 = .ok (.aload_n 0, 1) := by decide +kernel
theorem dd_RG_scrub_10 : decode bb_RG_scrub 10 = .ok (.getfield 27, 3) := by decide +kernel
theorem dd_RG_scrub_13 : decode bb_RG_scrub 13 = .ok (.iload_n 1, 1) := by decide +kernel
theorem dd_RG_scrub_14 : decode bb_RG_scrub 14 = .ok (.aaload, 1) := by decide +kernel
theorem dd_RG_scrub_15 : decode bb_RG_scrub 15 = .ok (.astore_n 2, 1) := by decide +kernel
theorem dd_RG_scrub_16 : decode bb_RG_scrub 16 = .ok (.iconst 0, 1) := by decide +kernel
theorem dd_RG_scrub_17 : decode bb_RG_scrub 17 = .ok (.istore_n 3, 1) := by decide +kernel
theorem dd_RG_scrub_18 : decode bb_RG_scrub 18 = .ok (.iconst 0, 1) := by decide +kernel
theorem dd_RG_scrub_19 : decode bb_RG_scrub 19 = .ok (.istore 4, 2) := by decide +kernel
theorem dd_RG_scrub_21 : decode bb_RG_scrub 21 = .ok (.iload 4, 2) := by decide +kernel
theorem dd_RG_scrub_23 : decode bb_RG_scrub 23 = .ok (.aload_n 0, 1) := by decide +kernel
theorem dd_RG_scrub_24 : decode bb_RG_scrub 24 = .ok (.getfield 12, 3) := by decide +kernel
theorem dd_RG_scrub_27 : decode bb_RG_scrub 27 = .ok (.getfield 31, 3) := by decide +kernel
theorem dd_RG_scrub_30 : decode bb_RG_scrub 30 = .ok (.if_icmp .ge 31, 3) := by decide +kernel
theorem dd_RG_scrub_33 : decode bb_RG_scrub 33 = .ok (.aload_n 2, 1) := by decide +kernel
theorem dd_RG_scrub_34 : decode bb_RG_scrub 34 = .ok (.iload 4, 2) := by decide +kernel
theorem dd_RG_scrub_36 : decode bb_RG_scrub 36 = .ok (.invokevirtual 50, 3) := by decide +kernel
theorem dd_RG_scrub_39 : decode bb_RG_scrub 39 = .ok (.ifCond .eq 16, 3) := by decide +kernel
theorem dd_RG_scrub_42 : decode bb_RG_scrub 42 = .ok (.aload_n 0, 1) := by decide +kernel
theorem dd_RG_scrub_43 : decode bb_RG_scrub 43 = .ok (.aload_n 2, 1) := by decide +kernel
theorem dd_RG_scrub_44 : decode bb_RG_scrub 44 = .ok (.iload 4, 2) := by decide +kernel
theorem dd_RG_scrub_46 : decode bb_RG_scrub 46 = .ok (.invokevirtual 53, 3) := by decide +kernel
theorem dd_RG_scrub_49 : decode bb_RG_scrub 49 = .ok (.ifCond .ne 6, 3) := by decide +kernel
theorem dd_RG_scrub_52 : decode bb_RG_scrub 52 = .ok (.iinc 3 1, 3) := by decide +kernel
theorem dd_RG_scrub_55 : decode bb_RG_scrub 55 = .ok (.iinc 4 1, 3) := by decide +kernel
theorem dd_RG_scrub_58 : decode bb_RG_scrub 58 = .ok (.goto (-37), 3) := by decide +kernel
theorem dd_RG_scrub_61 : decode bb_RG_scrub 61 = .ok (.iload_n 3, 1) := by decide +kernel
theorem dd_RG_scrub_62 : decode bb_RG_scrub 62 = .ok (.ireturn, 1) := by decide +kernel
theorem dd_RG_cost_0 : decode bb_RG_cost 0 = .ok (.aload_n 0, 1) := by decide +kernel
theorem dd_RG_cost_1 : decode bb_RG_cost 1 = .ok (.iload_n 1, 1) := by decide +kernel
theorem dd_RG_cost_2 : decode bb_RG_cost 2 = .ok (.iload_n 2, 1) := by decide +kernel
theorem dd_RG_cost_3 : decode bb_RG_cost 3 = .ok (.invokevirtual 69, 3) := by decide +kernel
theorem dd_RG_cost_6 : decode bb_RG_cost 6 = .ok (.ifCond .ne 5, 3) := by decide +kernel
theorem dd_RG_cost_9 : decode bb_RG_cost 9 = .ok (.iconst (-1), 1) := by decide +kernel
theorem dd_RG_cost_10 : decode bb_RG_cost 10 = .ok (.ireturn, 1) := by decide +kernel
theorem dd_RG_cost_11 : decode bb_RG_cost 11 = .ok (.aload_n 0, 1) := by decide +kernel
theorem dd_RG_cost_12 : decode bb_RG_cost 12 = .ok (.getfield 27, 3) := by decide +kernel
theorem dd_RG_cost_15 : decode bb_RG_cost 15 = .ok (.iload_n 1, 1) := by decide +kernel
theorem dd_RG_cost_16 : decode bb_RG_cost 16 = .ok (.aaload, 1) := by decide +kernel
theorem dd_RG_cost_17 : decode bb_RG_cost 17 = .ok (.iload_n 2, 1) := by decide +kernel
theorem dd_RG_cost_18 : decode bb_RG_cost 18 = .ok (.invokevirtual 50, 3) := by decide +kernel
theorem dd_RG_cost_21 : decode bb_RG_cost 21 = .ok (.ifCond .eq 5, 3) := by decide +kernel
theorem dd_RG_cost_24 : decode bb_RG_cost 24 = .ok (.iconst 0, 1) := by decide +kernel
theorem dd_RG_cost_25 : decode bb_RG_cost 25 = .ok (.ireturn, 1) := by decide +kernel
theorem dd_RG_cost_26 : decode bb_RG_cost 26 = .ok (.aload_n 0, 1) := by decide +kernel
theorem dd_RG_cost_27 : decode bb_RG_cost 27 = .ok (.aload_n 0, 1) := by decide +kernel
theorem dd_RG_cost_28 : decode bb_RG_cost 28 = .ok (.getfield 27, 3) := by decide +kernel
theorem dd_RG_cost_31 : decode bb_RG_cost 31 = .ok (.iload_n 1, 1) := by decide +kernel
theorem dd_RG_cost_32 : decode bb_RG_cost 32 = .ok (.aaload, 1) := by decide +kernel
theorem dd_RG_cost_33 : decode bb_RG_cost 33 = .ok (.iload_n 2, 1) := by decide +kernel
theorem dd_RG_cost_34 : decode bb_RG_cost 34 = .ok (.invokevirtual 104, 3) := by decide +kernel
theorem dd_RG_cost_37 : decode bb_RG_cost 37 = .ok (.istore_n 3, 1) := by decide +kernel
theorem dd_RG_cost_38 : decode bb_RG_cost 38 = .ok (.iload_n 3, 1) := by decide +kernel
theorem dd_RG_cost_39 : decode bb_RG_cost 39 = .ok (.ifCond .ne 8, 3) := by decide +kernel
theorem dd_RG_cost_42 : decode bb_RG_cost 42 = .ok (.bipush (-4), 2) := by decide +kernel
theorem dd_RG_cost_44 : decode bb_RG_cost 44 = .ok (.goto 7, 3) := by decide +kernel
theorem dd_RG_cost_47 : decode bb_RG_cost 47 = .ok (.iload_n 3, 1) := by decide +kernel
theorem dd_RG_cost_48 : decode bb_RG_cost 48 = .ok (.invokestatic 107, 3) := by decide +kernel
theorem dd_RG_cost_51 : decode bb_RG_cost 51 = .ok (.ireturn, 1) := by decide +kernel
theorem dd_RG_rank_0 : decode bb_RG_rank 0 = .ok (.iload_n 1, 1) := by decide +kernel
theorem dd_RG_rank_1 : decode bb_RG_rank 1 = .ok (.invokestatic 46, 3) := by decide +kernel
theorem dd_RG_rank_4 : decode bb_RG_rank 4 = .ok (.ifCond .ne 5, 3) := by decide +kernel
theorem dd_RG_rank_7 : decode bb_RG_rank 7 = .ok (.iconst (-1), 1) := by decide +kernel
theorem dd_RG_rank_8 : decode bb_RG_rank 8 = .ok (.ireturn, 1) := by decide +kernel
theorem dd_RG_rank_9 : decode bb_RG_rank 9 = .ok (.aload_n 0, 1) := by decide +kernel
theorem dd_RG_rank_10 : decode bb_RG_rank 10 = .ok (.aload_n 0, 1) := by decide +kernel
theorem dd_RG_rank_11 : decode bb_RG_rank 11 = .ok (.getfield 27, 3) := by decide +kernel
theorem dd_RG_rank_14 : decode bb_RG_rank 14 = .ok (.iload_n 1, 1) := by decide +kernel
theorem dd_RG_rank_15 : decode bb_RG_rank 15 = .ok (.aaload, 1) := by decide +kernel
theorem dd_RG_rank_16 : decode bb_RG_rank 16 = .ok (.invokevirtual 112, 3) := by decide +kernel
theorem dd_RG_rank_19 : decode bb_RG_rank 19 = .ok (.invokestatic 107, 3) := by decide +kernel
theorem dd_RG_rank_22 : decode bb_RG_rank 22 = .ok (.ireturn, 1) := by decide +kernel
theorem dd_RG_lost_0 : decode bb_RG_lost 0 = .ok (.iload_n 1, 1) := by decide +kernel
theorem dd_RG_lost_1 : decode bb_RG_lost 1 = .ok (.invokestatic 46, 3) := by decide +kernel
theorem dd_RG_lost_4 : decode bb_RG_lost 4 = .ok (.ifCond .eq 15, 3) := by decide +kernel
theorem dd_RG_lost_7 : decode bb_RG_lost 7 = .ok (.aload_n 0, 1) := by decide +kernel
theorem dd_RG_lost_8 : decode bb_RG_lost 8 = .ok (.getfield 27, 3) := by decide +kernel
theorem dd_RG_lost_11 : decode bb_RG_lost 11 = .ok (.iload_n 1, 1) := by decide +kernel
theorem dd_RG_lost_12 : decode bb_RG_lost 12 = .ok (.aaload, 1) := by decide +kernel
theorem dd_RG_lost_13 : decode bb_RG_lost 13 = .ok (.invokevirtual 115, 3) := by decide +kernel
theorem dd_RG_lost_16 : decode bb_RG_lost 16 = .ok (.goto 4, 3) := by decide +kernel
theorem dd_RG_lost_19 : decode bb_RG_lost 19 = .ok (.iconst (-1), 1) := by decide +kernel
theorem dd_RG_lost_20 : decode bb_RG_lost 20 = .ok (.ireturn, 1) := by decide +kernel
theorem dd_RG_content_0 : decode bb_RG_content 0 = .ok (.aload_n 0, 1) := by decide +kernel
theorem dd_RG_content_1 : decode bb_RG_content 1 = .ok (.iload_n 1, 1) := by decide +kernel
theorem dd_RG_content_2 : decode bb_RG_content 2 = .ok (.iload_n 2, 1) := by decide +kernel
theorem dd_RG_content_3 : decode bb_RG_content 3 = .ok (.invokevirtual 69, 3) := by decide +kernel
theorem dd_RG_content_6 : decode bb_RG_content 6 = .ok (.ifCond .eq 29, 3) := by decide +kernel
theorem dd_RG_content_9 : decode bb_RG_content 9 = .ok (.aload_n 0, 1) := by decide +kernel
theorem dd_RG_content_10 : decode bb_RG_content 10 = .ok (.getfield 27, 3) := by decide +kernel
theorem dd_RG_content_13 : decode bb_RG_content 13 = .ok (.iload_n 1, 1) := by decide +kernel
theorem dd_RG_content_14 : decode bb_RG_content 14 = .ok (.aaload, 1) := by decide +kernel
theorem dd_RG_content_15 : decode bb_RG_content 15 = .ok (.iload_n 2, 1) := by decide +kernel
theorem dd_RG_content_16 : decode bb_RG_content 16 = .ok (.invokevirtual 50, 3) := by decide +kernel
theorem dd_RG_content_19 : decode bb_RG_content 19 = .ok (.ifCond .eq 16, 3) := by decide +kernel
theorem dd_RG_content_22 : decode bb_RG_content 22 = .ok (.aload_n 0, 1) := by decide +kernel
theorem dd_RG_content_23 : decode bb_RG_content 23 = .ok (.getfield 27, 3) := by decide +kernel
theorem dd_RG_content_26 : decode bb_RG_content 26 = .ok (.iload_n 1, 1) := by decide +kernel
theorem dd_RG_content_27 : decode bb_RG_content 27 = .ok (.aaload, 1) := by decide +kernel
theorem dd_RG_content_28 : decode bb_RG_content 28 = .ok (.iload_n 2, 1) := by decide +kernel
theorem dd_RG_content_29 : decode bb_RG_content 29 = .ok (.invokevirtual 57, 3) := by decide +kernel
theorem dd_RG_content_32 : decode bb_RG_content 32 = .ok (.goto 4, 3) := by decide +kernel
theorem dd_RG_content_35 : decode bb_RG_content 35 = .ok (.lconst 0, 1) := by decide +kernel
theorem dd_RG_content_36 : decode bb_RG_content 36 = .ok (.lreturn, 1) := by decide +kernel
theorem dd_RG_node_0 : decode bb_RG_node 0 = .ok (.aload_n 0, 1) := by decide +kernel
theorem dd_RG_node_1 : decode bb_RG_node 1 = .ok (.iload_n 1, 1) := by decide +kernel
theorem dd_RG_node_2 : decode bb_RG_node 2 = .ok (.iload_n 2, 1) := by decide +kernel
theorem dd_RG_node_3 : decode bb_RG_node 3 = .ok (.invokevirtual 69, 3) := by decide +kernel
theorem dd_RG_node_6 : decode bb_RG_node 6 = .ok (.ifCond .eq 16, 3) := by decide +kernel
theorem dd_RG_node_9 : decode bb_RG_node 9 = .ok (.aload_n 0, 1) := by decide +kernel
theorem dd_RG_node_10 : decode bb_RG_node 10 = .ok (.getfield 27, 3) := by decide +kernel
theorem dd_RG_node_13 : decode bb_RG_node 13 = .ok (.iload_n 1, 1) := by decide +kernel
theorem dd_RG_node_14 : decode bb_RG_node 14 = .ok (.aaload, 1) := by decide +kernel
theorem dd_RG_node_15 : decode bb_RG_node 15 = .ok (.iload_n 2, 1) := by decide +kernel
theorem dd_RG_node_16 : decode bb_RG_node 16 = .ok (.invokevirtual 93, 3) := by decide +kernel
theorem dd_RG_node_19 : decode bb_RG_node 19 = .ok (.goto 4, 3) := by decide +kernel
theorem dd_RG_node_22 : decode bb_RG_node 22 = .ok (.iconst (-1), 1) := by decide +kernel
theorem dd_RG_node_23 : decode bb_RG_node 23 = .ok (.ireturn, 1) := by decide +kernel
theorem dd_RG_up_0 : decode bb_RG_up 0 = .ok (.iload_n 1, 1) := by decide +kernel
theorem dd_RG_up_1 : decode bb_RG_up 1 = .ok (.invokestatic 84, 3) := by decide +kernel
theorem dd_RG_up_4 : decode bb_RG_up 4 = .ok (.ifCond .eq 16, 3) := by decide +kernel
theorem dd_RG_up_7 : decode bb_RG_up 7 = .ok (.aload_n 0, 1) := by decide +kernel
theorem dd_RG_up_8 : decode bb_RG_up 8 = .ok (.getfield 38, 3) := by decide +kernel
theorem dd_RG_up_11 : decode bb_RG_up 11 = .ok (.iload_n 1, 1) := by decide +kernel
theorem dd_RG_up_12 : decode bb_RG_up 12 = .ok (.baload, 1) := by decide +kernel
theorem dd_RG_up_13 : decode bb_RG_up 13 = .ok (.ifCond .eq 7, 3) := by decide +kernel
theorem dd_RG_up_16 : decode bb_RG_up 16 = .ok (.iconst 1, 1) := by decide +kernel
theorem dd_RG_up_17 : decode bb_RG_up 17 = .ok (.goto 4, 3) := by decide +kernel
theorem dd_RG_up_20 : decode bb_RG_up 20 = .ok (.iconst 0, 1) := by decide +kernel
theorem dd_RG_up_21 : decode bb_RG_up 21 = .ok (.ireturn, 1) := by decide +kernel
theorem dd_RG_count_0 : decode bb_RG_count 0 = .ok (.iload_n 1, 1) := by decide +kernel
theorem dd_RG_count_1 : decode bb_RG_count 1 = .ok (.ifCond .lt 17, 3) := by decide +kernel
theorem dd_RG_count_4 : decode bb_RG_count 4 = .ok (.iload_n 1, 1) := by decide +kernel
theorem dd_RG_count_5 : decode bb_RG_count 5 = .ok (.iconst 4, 1) := by decide +kernel
theorem dd_RG_count_6 : decode bb_RG_count 6 = .ok (.if_icmp .ge 12, 3) := by decide +kernel
theorem dd_RG_count_9 : decode bb_RG_count 9 = .ok (.aload_n 0, 1) := by decide +kernel
theorem dd_RG_count_10 : decode bb_RG_count 10 = .ok (.getfield 42, 3) := by decide +kernel
theorem dd_RG_count_13 : decode bb_RG_count 13 = .ok (.iload_n 1, 1) := by decide +kernel
theorem dd_RG_count_14 : decode bb_RG_count 14 = .ok (.iaload, 1) := by decide +kernel
theorem dd_RG_count_15 : decode bb_RG_count 15 = .ok (.goto 4, 3) := by decide +kernel
theorem dd_RG_count_18 : decode bb_RG_count 18 = .ok (.iconst (-1), 1) := by decide +kernel
theorem dd_RG_count_19 : decode bb_RG_count 19 = .ok (.ireturn, 1) := by decide +kernel
theorem dd_RG_size_0 : decode bb_RG_size 0 = .ok (.aload_n 0, 1) := by decide +kernel
theorem dd_RG_size_1 : decode bb_RG_size 1 = .ok (.getfield 12, 3) := by decide +kernel
theorem dd_RG_size_4 : decode bb_RG_size 4 = .ok (.getfield 31, 3) := by decide +kernel
theorem dd_RG_size_7 : decode bb_RG_size 7 = .ok (.ireturn, 1) := by decide +kernel
theorem dd_RG_isStripe_0 : decode bb_RG_isStripe 0 = .ok (.iload_n 0, 1) := by decide +kernel
theorem dd_RG_isStripe_1 : decode bb_RG_isStripe 1 = .ok (.ifCond .lt 12, 3) := by decide +kernel
theorem dd_RG_isStripe_4 : decode bb_RG_isStripe 4 = .ok (.iload_n 0, 1) := by decide +kernel
theorem dd_RG_isStripe_5 : decode bb_RG_isStripe 5 = .ok (.iconst 3, 1) := by decide +kernel
theorem dd_RG_isStripe_6 : decode bb_RG_isStripe 6 = .ok (.if_icmp .ge 7, 3) := by decide +kernel
theorem dd_RG_isStripe_9 : decode bb_RG_isStripe 9 = .ok (.iconst 1, 1) := by decide +kernel
theorem dd_RG_isStripe_10 : decode bb_RG_isStripe 10 = .ok (.goto 4, 3) := by decide +kernel
theorem dd_RG_isStripe_13 : decode bb_RG_isStripe 13 = .ok (.iconst 0, 1) := by decide +kernel
theorem dd_RG_isStripe_14 : decode bb_RG_isStripe 14 = .ok (.ireturn, 1) := by decide +kernel
theorem dd_RG_isShard_0 : decode bb_RG_isShard 0 = .ok (.iload_n 1, 1) := by decide +kernel
theorem dd_RG_isShard_1 : decode bb_RG_isShard 1 = .ok (.invokestatic 46, 3) := by decide +kernel
theorem dd_RG_isShard_4 : decode bb_RG_isShard 4 = .ok (.ifCond .eq 22, 3) := by decide +kernel
theorem dd_RG_isShard_7 : decode bb_RG_isShard 7 = .ok (.iload_n 2, 1) := by decide +kernel
theorem dd_RG_isShard_8 : decode bb_RG_isShard 8 = .ok (.ifCond .lt 18, 3) := by decide +kernel
theorem dd_RG_isShard_11 : decode bb_RG_isShard 11 = .ok (.iload_n 2, 1) := by decide +kernel
theorem dd_RG_isShard_12 : decode bb_RG_isShard 12 = .ok (.aload_n 0, 1) := by decide +kernel
theorem dd_RG_isShard_13 : decode bb_RG_isShard 13 = .ok (.getfield 12, 3) := by decide +kernel
theorem dd_RG_isShard_16 : decode bb_RG_isShard 16 = .ok (.getfield 31, 3) := by decide +kernel
theorem dd_RG_isShard_19 : decode bb_RG_isShard 19 = .ok (.if_icmp .ge 7, 3) := by decide +kernel
theorem dd_RG_isShard_22 : decode bb_RG_isShard 22 = .ok (.iconst 1, 1) := by decide +kernel
theorem dd_RG_isShard_23 : decode bb_RG_isShard 23 = .ok (.goto 4, 3) := by decide +kernel
theorem dd_RG_isShard_26 : decode bb_RG_isShard 26 = .ok (.iconst 0, 1) := by decide +kernel
theorem dd_RG_isShard_27 : decode bb_RG_isShard 27 = .ok (.ireturn, 1) := by decide +kernel
theorem dd_RG_isNode_0 : decode bb_RG_isNode 0 = .ok (.iload_n 0, 1) := by decide +kernel
theorem dd_RG_isNode_1 : decode bb_RG_isNode 1 = .ok (.ifCond .lt 13, 3) := by decide +kernel
theorem dd_RG_isNode_4 : decode bb_RG_isNode 4 = .ok (.iload_n 0, 1) := by decide +kernel
theorem dd_RG_isNode_5 : decode bb_RG_isNode 5 = .ok (.bipush 12, 2) := by decide +kernel
theorem dd_RG_isNode_7 : decode bb_RG_isNode 7 = .ok (.if_icmp .ge 7, 3) := by decide +kernel
theorem dd_RG_isNode_10 : decode bb_RG_isNode 10 = .ok (.iconst 1, 1) := by decide +kernel
theorem dd_RG_isNode_11 : decode bb_RG_isNode 11 = .ok (.goto 4, 3) := by decide +kernel
theorem dd_RG_isNode_14 : decode bb_RG_isNode 14 = .ok (.iconst 0, 1) := by decide +kernel
theorem dd_RG_isNode_15 : decode bb_RG_isNode 15 = .ok (.ireturn, 1) := by decide +kernel
theorem dd_RG_readShard_0 : decode bb_RG_readShard 0 = .ok (.aload_n 0, 1) := by decide +kernel
theorem dd_RG_readShard_1 : decode bb_RG_readShard 1 = .ok (.getfield 42, 3) := by decide +kernel
theorem dd_RG_readShard_4 : decode bb_RG_readShard 4 = .ok (.iconst 0, 1) := by decide +kernel
theorem dd_RG_readShard_5 : decode bb_RG_readShard 5 = .ok (.dup2, 1) := by decide +kernel
theorem dd_RG_readShard_6 : decode bb_RG_readShard 6 = .ok (.iaload, 1) := by decide +kernel
theorem dd_RG_readShard_7 : decode bb_RG_readShard 7 = .ok (.iconst 1, 1) := by decide +kernel
theorem dd_RG_readShard_8 : decode bb_RG_readShard 8 = .ok (.iadd, 1) := by decide +kernel
theorem dd_RG_readShard_9 : decode bb_RG_readShard 9 = .ok (.iastore, 1) := by decide +kernel
theorem dd_RG_readShard_10 : decode bb_RG_readShard 10 = .ok (.aload_n 1, 1) := by decide +kernel
theorem dd_RG_readShard_11 : decode bb_RG_readShard 11 = .ok (.iload_n 2, 1) := by decide +kernel
theorem dd_RG_readShard_12 : decode bb_RG_readShard 12 = .ok (.invokevirtual 119, 3) := by decide +kernel
theorem dd_RG_readShard_15 : decode bb_RG_readShard 15 = .ok (.ifCond .eq 10, 3) := by decide +kernel
theorem dd_RG_readShard_18 : decode bb_RG_readShard 18 = .ok (.aload_n 1, 1) := by decide +kernel
theorem dd_RG_readShard_19 : decode bb_RG_readShard 19 = .ok (.iload_n 2, 1) := by decide +kernel
theorem dd_RG_readShard_20 : decode bb_RG_readShard 20 = .ok (.invokevirtual 122, 3) := by decide +kernel
theorem dd_RG_readShard_23 : decode bb_RG_readShard 23 = .ok (.iconst 0, 1) := by decide +kernel
theorem dd_RG_readShard_24 : decode bb_RG_readShard 24 = .ok (.ireturn, 1) := by decide +kernel
theorem dd_RG_readShard_25 : decode bb_RG_readShard 25 = .ok (.iconst 1, 1) := by decide +kernel
theorem dd_RG_readShard_26 : decode bb_RG_readShard 26 = .ok (.ireturn, 1) := by decide +kernel
theorem dd_RG_readShardFor_0 : decode bb_RG_readShardFor 0 = .ok (.aload_n 1, 1) := by decide +kernel
theorem dd_RG_readShardFor_1 : decode bb_RG_readShardFor 1 = .ok (.iload_n 2, 1) := by decide +kernel
theorem dd_RG_readShardFor_2 : decode bb_RG_readShardFor 2 = .ok (.invokevirtual 93, 3) := by decide +kernel
theorem dd_RG_readShardFor_5 : decode bb_RG_readShardFor 5 = .ok (.iconst 3, 1) := by decide +kernel
theorem dd_RG_readShardFor_6 : decode bb_RG_readShardFor 6 = .ok (.idiv, 1) := by decide +kernel
theorem dd_RG_readShardFor_7 : decode bb_RG_readShardFor 7 = .ok (.istore 4, 2) := by decide +kernel
theorem dd_RG_readShardFor_9 : decode bb_RG_readShardFor 9 = .ok (.iload 4, 2) := by decide +kernel
theorem dd_RG_readShardFor_11 : decode bb_RG_readShardFor 11 = .ok (.aload_n 1, 1) := by decide +kernel
theorem dd_RG_readShardFor_12 : decode bb_RG_readShardFor 12 = .ok (.iload_n 3, 1) := by decide +kernel
theorem dd_RG_readShardFor_13 : decode bb_RG_readShardFor 13 = .ok (.invokevirtual 93, 3) := by decide +kernel
theorem dd_RG_readShardFor_16 : decode bb_RG_readShardFor 16 = .ok (.iconst 3, 1) := by decide +kernel
theorem dd_RG_readShardFor_17 : decode bb_RG_readShardFor 17 = .ok (.idiv, 1) := by decide +kernel
theorem dd_RG_readShardFor_18 : decode bb_RG_readShardFor 18 = .ok (.if_icmp .eq 13, 3) := by decide +kernel
theorem dd_RG_readShardFor_21 : decode bb_RG_readShardFor 21 = .ok (.aload_n 0, 1) := by decide +kernel
theorem dd_RG_readShardFor_22 : decode bb_RG_readShardFor 22 = .ok (.getfield 42, 3) := by decide +kernel
theorem dd_RG_readShardFor_25 : decode bb_RG_readShardFor 25 = .ok (.iconst 2, 1) := by decide +kernel
theorem dd_RG_readShardFor_26 : decode bb_RG_readShardFor 26 = .ok (.dup2, 1) := by decide +kernel
theorem dd_RG_readShardFor_27 : decode bb_RG_readShardFor 27 = .ok (.iaload, 1) := by decide +kernel
theorem dd_RG_readShardFor_28 : decode bb_RG_readShardFor 28 = .ok (.iconst 1, 1) := by decide +kernel
theorem dd_RG_readShardFor_29 : decode bb_RG_readShardFor 29 = .ok (.iadd, 1) := by decide +kernel
theorem dd_RG_readShardFor_30 : decode bb_RG_readShardFor 30 = .ok (.iastore, 1) := by decide +kernel
theorem dd_RG_readShardFor_31 : decode bb_RG_readShardFor 31 = .ok (.aload_n 0, 1) := by decide +kernel
theorem dd_RG_readShardFor_32 : decode bb_RG_readShardFor 32 = .ok (.aload_n 1, 1) := by decide +kernel
theorem dd_RG_readShardFor_33 : decode bb_RG_readShardFor 33 = .ok (.iload_n 2, 1) := by decide +kernel
theorem dd_RG_readShardFor_34 : decode bb_RG_readShardFor 34 = .ok (.invokevirtual 53, 3) := by decide +kernel
theorem dd_RG_readShardFor_37 : decode bb_RG_readShardFor 37 = .ok (.ireturn, 1) := by decide +kernel
theorem dd_RG_writeShard_0 : decode bb_RG_writeShard 0 = .ok (.aload_n 0, 1) := by decide +kernel
theorem dd_RG_writeShard_1 : decode bb_RG_writeShard 1 = .ok (.getfield 42, 3) := by decide +kernel
theorem dd_RG_writeShard_4 : decode bb_RG_writeShard 4 = .ok (.iconst 1, 1) := by decide +kernel
theorem dd_RG_writeShard_5 : decode bb_RG_writeShard 5 = .ok (.dup2, 1) := by decide +kernel
theorem dd_RG_writeShard_6 : decode bb_RG_writeShard 6 = .ok (.iaload, 1) := by decide +kernel
theorem dd_RG_writeShard_7 : decode bb_RG_writeShard 7 = .ok (.iconst 1, 1) := by decide +kernel
theorem dd_RG_writeShard_8 : decode bb_RG_writeShard 8 = .ok (.iadd, 1) := by decide +kernel
theorem dd_RG_writeShard_9 : decode bb_RG_writeShard 9 = .ok (.iastore, 1) := by decide +kernel
theorem dd_RG_writeShard_10 : decode bb_RG_writeShard 10 = .ok (.aload_n 1, 1) := by decide +kernel
theorem dd_RG_writeShard_11 : decode bb_RG_writeShard 11 = .ok (.iload_n 2, 1) := by decide +kernel
theorem dd_RG_writeShard_12 : decode bb_RG_writeShard 12 = .ok (.lload_n 3, 1) := by decide +kernel
theorem dd_RG_writeShard_13 : decode bb_RG_writeShard 13 = .ok (.invokevirtual 125, 3) := by decide +kernel
theorem dd_RG_writeShard_16 : decode bb_RG_writeShard 16 = .ok (.return_, 1) := by decide +kernel
theorem dd_RG_updateCoded_0 : decode bb_RG_updateCoded 0 = .ok (.iconst 0, 1) := by decide +kernel
theorem dd_RG_updateCoded_1 : decode bb_RG_updateCoded 1 = .ok (.istore 5, 2) := by decide +kernel
theorem dd_RG_updateCoded_3 : decode bb_RG_updateCoded 3 = .ok (.bipush 6, 2) := by decide +kernel
theorem dd_RG_updateCoded_5 : decode bb_RG_updateCoded 5 = .ok (.istore 6, 2) := by decide +kernel
theorem dd_RG_updateCoded_7 : decode bb_RG_updateCoded 7 = .ok (.iload 6, 2) := by decide +kernel
theorem dd_RG_updateCoded_9 : decode bb_RG_updateCoded 9 = .ok (.aload_n 0, 1) := by decide +kernel
theorem dd_RG_updateCoded_10 : decode bb_RG_updateCoded 10 = .ok (.getfield 12, 3) := by decide +kernel
theorem dd_RG_updateCoded_13 : decode bb_RG_updateCoded 13 = .ok (.getfield 31, 3) := by decide +kernel
theorem dd_RG_updateCoded_16 : decode bb_RG_updateCoded 16 = .ok (.if_icmp .ge 73, 3) := by decide +kernel
theorem dd_RG_updateCoded_19 : decode bb_RG_updateCoded 19 = .ok (.aload_n 0, 1) := by decide +kernel
theorem dd_RG_updateCoded_20 : decode bb_RG_updateCoded 20 = .ok (.getfield 12, 3) := by decide +kernel
theorem dd_RG_updateCoded_23 : decode bb_RG_updateCoded 23 = .ok (.getfield 129, 3) := by decide +kernel
theorem dd_RG_updateCoded_26 : decode bb_RG_updateCoded 26 = .ok (.iload 6, 2) := by decide +kernel
theorem dd_RG_updateCoded_28 : decode bb_RG_updateCoded 28 = .ok (.laload, 1) := by decide +kernel
theorem dd_RG_updateCoded_29 : decode bb_RG_updateCoded 29 = .ok (.iload_n 2, 1) := by decide +kernel
theorem dd_RG_updateCoded_30 : decode bb_RG_updateCoded 30 = .ok (.invokestatic 133, 3) := by decide +kernel
theorem dd_RG_updateCoded_33 : decode bb_RG_updateCoded 33 = .ok (.istore 7, 2) := by decide +kernel
theorem dd_RG_updateCoded_35 : decode bb_RG_updateCoded 35 = .ok (.iload 7, 2) := by decide +kernel
theorem dd_RG_updateCoded_37 : decode bb_RG_updateCoded 37 = .ok (.ifCond .eq 46, 3) := by decide +kernel
theorem dd_RG_updateCoded_40 : decode bb_RG_updateCoded 40 = .ok (.aload_n 1, 1) := by decide +kernel
theorem dd_RG_updateCoded_41 : decode bb_RG_updateCoded 41 = .ok (.iload 6, 2) := by decide +kernel
theorem dd_RG_updateCoded_43 : decode bb_RG_updateCoded 43 = .ok (.invokevirtual 50, 3) := by decide +kernel
theorem dd_RG_updateCoded_46 : decode bb_RG_updateCoded 46 = .ok (.ifCond .eq 37, 3) := by decide +kernel
theorem dd_RG_updateCoded_49 : decode bb_RG_updateCoded 49 = .ok (.aload_n 0, 1) := by decide +kernel
theorem dd_RG_updateCoded_50 : decode bb_RG_updateCoded 50 = .ok (.aload_n 1, 1) := by decide +kernel
theorem dd_RG_updateCoded_51 : decode bb_RG_updateCoded 51 = .ok (.iload 6, 2) := by decide +kernel
theorem dd_RG_updateCoded_53 : decode bb_RG_updateCoded 53 = .ok (.iload_n 2, 1) := by decide +kernel
theorem dd_RG_updateCoded_54 : decode bb_RG_updateCoded 54 = .ok (.invokevirtual 139, 3) := by decide +kernel
theorem dd_RG_updateCoded_57 : decode bb_RG_updateCoded 57 = .ok (.ifCond .eq 26, 3) := by decide +kernel
theorem dd_RG_updateCoded_60 : decode bb_RG_updateCoded 60 = .ok (.aload_n 0, 1) := by decide +kernel
theorem dd_RG_updateCoded_61 : decode bb_RG_updateCoded 61 = .ok (.aload_n 1, 1) := by decide +kernel
theorem dd_RG_updateCoded_62 : decode bb_RG_updateCoded 62 = .ok (.iload 6, 2) := by decide +kernel
theorem dd_RG_updateCoded_64 : decode bb_RG_updateCoded 64 = .ok (.aload_n 1, 1) := by decide +kernel
theorem dd_RG_updateCoded_65 : decode bb_RG_updateCoded 65 = .ok (.iload 6, 2) := by decide +kernel
theorem dd_RG_updateCoded_67 : decode bb_RG_updateCoded 67 = .ok (.invokevirtual 57, 3) := by decide +kernel
theorem dd_RG_updateCoded_70 : decode bb_RG_updateCoded 70 = .ok (.iload 7, 2) := by decide +kernel
theorem dd_RG_updateCoded_72 : decode bb_RG_updateCoded 72 = .ok (.lload_n 3, 1) := by decide +kernel
theorem dd_RG_updateCoded_73 : decode bb_RG_updateCoded 73 = .ok (.invokestatic 143, 3) := by decide +kernel
theorem dd_RG_updateCoded_76 : decode bb_RG_updateCoded 76 = .ok (.lxor, 1) := by decide +kernel
theorem dd_RG_updateCoded_77 : decode bb_RG_updateCoded 77 = .ok (.invokevirtual 65, 3) := by decide +kernel
theorem dd_RG_updateCoded_80 : decode bb_RG_updateCoded 80 = .ok (.iinc 5 1, 3) := by decide +kernel
theorem dd_RG_updateCoded_83 : decode bb_RG_updateCoded 83 = .ok (.iinc 6 1, 3) := by decide +kernel
theorem dd_RG_updateCoded_86 : decode bb_RG_updateCoded 86 = .ok (.goto (-79), 3) := by decide +kernel
theorem dd_RG_updateCoded_89 : decode bb_RG_updateCoded 89 = .ok (.iload 5, 2) := by decide +kernel
theorem dd_RG_updateCoded_91 : decode bb_RG_updateCoded 91 = .ok (.ireturn, 1) := by decide +kernel
theorem dd_RG_dropShardsOn_0 : decode bb_RG_dropShardsOn 0 = .ok (.iconst 0, 1) := by decide +kernel
theorem dd_RG_dropShardsOn_1 : decode bb_RG_dropShardsOn 1 = .ok (.istore_n 3, 1) := by decide +kernel
theorem dd_RG_dropShardsOn_2 : decode bb_RG_dropShardsOn 2 = .ok (.iconst 0, 1) := by decide +kernel
theorem dd_RG_dropShardsOn_3 : decode bb_RG_dropShardsOn 3 = .ok (.istore 4, 2) := by decide +kernel
theorem dd_RG_dropShardsOn_5 : decode bb_RG_dropShardsOn 5 = .ok (.iload 4, 2) := by decide +kernel
theorem dd_RG_dropShardsOn_7 : decode bb_RG_dropShardsOn 7 = .ok (.aload_n 0, 1) := by decide +kernel
theorem dd_RG_dropShardsOn_8 : decode bb_RG_dropShardsOn 8 = .ok (.getfield 12, 3) := by decide +kernel
theorem dd_RG_dropShardsOn_11 : decode bb_RG_dropShardsOn 11 = .ok (.getfield 31, 3) := by decide +kernel
theorem dd_RG_dropShardsOn_14 : decode bb_RG_dropShardsOn 14 = .ok (.if_icmp .ge 37, 3) := by decide +kernel
theorem dd_RG_dropShardsOn_17 : decode bb_RG_dropShardsOn 17 = .ok (.aload_n 1, 1) := by decide +kernel
theorem dd_RG_dropShardsOn_18 : decode bb_RG_dropShardsOn 18 = .ok (.iload 4, 2) := by decide +kernel
theorem dd_RG_dropShardsOn_20 : decode bb_RG_dropShardsOn 20 = .ok (.invokevirtual 93, 3) := by decide +kernel
theorem dd_RG_dropShardsOn_23 : decode bb_RG_dropShardsOn 23 = .ok (.iload_n 2, 1) := by decide +kernel
theorem dd_RG_dropShardsOn_24 : decode bb_RG_dropShardsOn 24 = .ok (.if_icmp .ne 21, 3) := by decide +kernel
theorem dd_RG_dropShardsOn_27 : decode bb_RG_dropShardsOn 27 = .ok (.aload_n 1, 1) := by decide +kernel
theorem dd_RG_dropShardsOn_28 : decode bb_RG_dropShardsOn 28 = .ok (.iload 4, 2) := by decide +kernel
theorem dd_RG_dropShardsOn_30 : decode bb_RG_dropShardsOn 30 = .ok (.invokevirtual 50, 3) := by decide +kernel
theorem dd_RG_dropShardsOn_33 : decode bb_RG_dropShardsOn 33 = .ok (.ifCond .eq 12, 3) := by decide +kernel
theorem dd_RG_dropShardsOn_36 : decode bb_RG_dropShardsOn 36 = .ok (.aload_n 1, 1) := by decide +kernel
theorem dd_RG_dropShardsOn_37 : decode bb_RG_dropShardsOn 37 = .ok (.iload 4, 2) := by decide +kernel
theorem dd_RG_dropShardsOn_39 : decode bb_RG_dropShardsOn 39 = .ok (.invokevirtual 122, 3) := by decide +kernel
theorem dd_RG_dropShardsOn_42 : decode bb_RG_dropShardsOn 42 = .ok (.iinc 3 1, 3) := by decide +kernel
theorem dd_RG_dropShardsOn_45 : decode bb_RG_dropShardsOn 45 = .ok (.iinc 4 1, 3) := by decide +kernel
theorem dd_RG_dropShardsOn_48 : decode bb_RG_dropShardsOn 48 = .ok (.goto (-43), 3) := by decide +kernel
theorem dd_RG_dropShardsOn_51 : decode bb_RG_dropShardsOn 51 = .ok (.iload_n 3, 1) := by decide +kernel
theorem dd_RG_dropShardsOn_52 : decode bb_RG_dropShardsOn 52 = .ok (.ireturn, 1) := by decide +kernel
theorem dd_RG_rebuild_0 : decode bb_RG_rebuild 0 = .ok (.aload_n 0, 1) := by decide +kernel
theorem dd_RG_rebuild_1 : decode bb_RG_rebuild 1 = .ok (.aload_n 1, 1) := by decide +kernel
theorem dd_RG_rebuild_2 : decode bb_RG_rebuild 2 = .ok (.iload_n 2, 1) := by decide +kernel
theorem dd_RG_rebuild_3 : decode bb_RG_rebuild 3 = .ok (.invokevirtual 77, 3) := by decide +kernel
theorem dd_RG_rebuild_6 : decode bb_RG_rebuild 6 = .ok (.istore_n 3, 1) := by decide +kernel
theorem dd_RG_rebuild_7 : decode bb_RG_rebuild 7 = .ok (.iload_n 3, 1) := by decide +kernel
theorem dd_RG_rebuild_8 : decode bb_RG_rebuild 8 = .ok (.ifCond .lt 13, 3) := by decide +kernel
theorem dd_RG_rebuild_11 : decode bb_RG_rebuild 11 = .ok (.aload_n 0, 1) := by decide +kernel
theorem dd_RG_rebuild_12 : decode bb_RG_rebuild 12 = .ok (.aload_n 1, 1) := by decide +kernel
theorem dd_RG_rebuild_13 : decode bb_RG_rebuild 13 = .ok (.iload_n 2, 1) := by decide +kernel
theorem dd_RG_rebuild_14 : decode bb_RG_rebuild 14 = .ok (.aload_n 0, 1) := by decide +kernel
theorem dd_RG_rebuild_15 : decode bb_RG_rebuild 15 = .ok (.getfield 81, 3) := by decide +kernel
theorem dd_RG_rebuild_18 : decode bb_RG_rebuild 18 = .ok (.invokevirtual 65, 3) := by decide +kernel
theorem dd_RG_rebuild_21 : decode bb_RG_rebuild 21 = .ok (.iload_n 3, 1) := by decide +kernel
theorem dd_RG_rebuild_22 : decode bb_RG_rebuild 22 = .ok (.ireturn, 1) := by decide +kernel
theorem dd_RG_followPlans_0 : decode bb_RG_followPlans 0 = .ok (.iconst 1, 1) := by decide +kernel
theorem dd_RG_followPlans_1 : decode bb_RG_followPlans 1 = .ok (.istore_n 3, 1) := by decide +kernel
theorem dd_RG_followPlans_2 : decode bb_RG_followPlans 2 = .ok (.iload_n 3, 1) := by decide +kernel
theorem dd_RG_followPlans_3 : decode bb_RG_followPlans 3 = .ok (.bipush 32, 2) := by decide +kernel
theorem dd_RG_followPlans_5 : decode bb_RG_followPlans 5 = .ok (.if_icmp .gt 60, 3) := by decide +kernel
theorem dd_RG_followPlans_8 : decode bb_RG_followPlans 8 = .ok (.aload_n 0, 1) := by decide +kernel
theorem dd_RG_followPlans_9 : decode bb_RG_followPlans 9 = .ok (.aload_n 1, 1) := by decide +kernel
theorem dd_RG_followPlans_10 : decode bb_RG_followPlans 10 = .ok (.iload_n 2, 1) := by decide +kernel
theorem dd_RG_followPlans_11 : decode bb_RG_followPlans 11 = .ok (.invokevirtual 104, 3) := by decide +kernel
theorem dd_RG_followPlans_14 : decode bb_RG_followPlans 14 = .ok (.istore 4, 2) := by decide +kernel
theorem dd_RG_followPlans_16 : decode bb_RG_followPlans 16 = .ok (.iload 4, 2) := by decide +kernel
theorem dd_RG_followPlans_18 : decode bb_RG_followPlans 18 = .ok (.ifCond .ne 6, 3) := by decide +kernel
theorem dd_RG_followPlans_21 : decode bb_RG_followPlans 21 = .ok (.goto 44, 3) := by decide +kernel
theorem dd_RG_followPlans_24 : decode bb_RG_followPlans 24 = .ok (.aload_n 0, 1) := by decide +kernel
theorem dd_RG_followPlans_25 : decode bb_RG_followPlans 25 = .ok (.getfield 42, 3) := by decide +kernel
theorem dd_RG_followPlans_28 : decode bb_RG_followPlans 28 = .ok (.iconst 3, 1) := by decide +kernel
theorem dd_RG_followPlans_29 : decode bb_RG_followPlans 29 = .ok (.dup2, 1) := by decide +kernel
theorem dd_RG_followPlans_30 : decode bb_RG_followPlans 30 = .ok (.iaload, 1) := by decide +kernel
theorem dd_RG_followPlans_31 : decode bb_RG_followPlans 31 = .ok (.iconst 1, 1) := by decide +kernel
theorem dd_RG_followPlans_32 : decode bb_RG_followPlans 32 = .ok (.iadd, 1) := by decide +kernel
theorem dd_RG_followPlans_33 : decode bb_RG_followPlans 33 = .ok (.iastore, 1) := by decide +kernel
theorem dd_RG_followPlans_34 : decode bb_RG_followPlans 34 = .ok (.aload_n 0, 1) := by decide +kernel
theorem dd_RG_followPlans_35 : decode bb_RG_followPlans 35 = .ok (.aload_n 1, 1) := by decide +kernel
theorem dd_RG_followPlans_36 : decode bb_RG_followPlans 36 = .ok (.iload 4, 2) := by decide +kernel
theorem dd_RG_followPlans_38 : decode bb_RG_followPlans 38 = .ok (.iload_n 2, 1) := by decide +kernel
theorem dd_RG_followPlans_39 : decode bb_RG_followPlans 39 = .ok (.invokevirtual 147, 3) := by decide +kernel
theorem dd_RG_followPlans_42 : decode bb_RG_followPlans 42 = .ok (.ifCond .eq 17, 3) := by decide +kernel
theorem dd_RG_followPlans_45 : decode bb_RG_followPlans 45 = .ok (.aload_n 0, 1) := by decide +kernel
theorem dd_RG_followPlans_46 : decode bb_RG_followPlans 46 = .ok (.aload_n 0, 1) := by decide +kernel
theorem dd_RG_followPlans_47 : decode bb_RG_followPlans 47 = .ok (.aload_n 1, 1) := by decide +kernel
theorem dd_RG_followPlans_48 : decode bb_RG_followPlans 48 = .ok (.iload 4, 2) := by decide +kernel
theorem dd_RG_followPlans_50 : decode bb_RG_followPlans 50 = .ok (.iload_n 2, 1) := by decide +kernel
theorem dd_RG_followPlans_51 : decode bb_RG_followPlans 51 = .ok (.invokevirtual 150, 3) := by decide +kernel
theorem dd_RG_followPlans_54 : decode bb_RG_followPlans 54 = .ok (.putfield 81, 3) := by decide +kernel
theorem dd_RG_followPlans_57 : decode bb_RG_followPlans 57 = .ok (.iload_n 3, 1) := by decide +kernel
theorem dd_RG_followPlans_58 : decode bb_RG_followPlans 58 = .ok (.ireturn, 1) := by decide +kernel
theorem dd_RG_followPlans_59 : decode bb_RG_followPlans 59 = .ok (.iinc 3 1, 3) := by decide +kernel
theorem dd_RG_followPlans_62 : decode bb_RG_followPlans 62 = .ok (.goto (-60), 3) := by decide +kernel
theorem dd_RG_followPlans_65 : decode bb_RG_followPlans 65 = .ok (.bipush (-4), 2) := by decide +kernel
theorem dd_RG_followPlans_67 : decode bb_RG_followPlans 67 = .ok (.ireturn, 1) := by decide +kernel
theorem dd_RG_readPlan_0 : decode bb_RG_readPlan 0 = .ok (.iconst 0, 1) := by decide +kernel
theorem dd_RG_readPlan_1 : decode bb_RG_readPlan 1 = .ok (.istore 4, 2) := by decide +kernel
theorem dd_RG_readPlan_3 : decode bb_RG_readPlan 3 = .ok (.iload 4, 2) := by decide +kernel
theorem dd_RG_readPlan_5 : decode bb_RG_readPlan 5 = .ok (.aload_n 0, 1) := by decide +kernel
theorem dd_RG_readPlan_6 : decode bb_RG_readPlan 6 = .ok (.getfield 12, 3) := by decide +kernel
theorem dd_RG_readPlan_9 : decode bb_RG_readPlan 9 = .ok (.getfield 31, 3) := by decide +kernel
theorem dd_RG_readPlan_12 : decode bb_RG_readPlan 12 = .ok (.if_icmp .ge 31, 3) := by decide +kernel
theorem dd_RG_readPlan_15 : decode bb_RG_readPlan 15 = .ok (.iload_n 2, 1) := by decide +kernel
theorem dd_RG_readPlan_16 : decode bb_RG_readPlan 16 = .ok (.iload 4, 2) := by decide +kernel
theorem dd_RG_readPlan_18 : decode bb_RG_readPlan 18 = .ok (.invokestatic 154, 3) := by decide +kernel
theorem dd_RG_readPlan_21 : decode bb_RG_readPlan 21 = .ok (.ifCond .eq 16, 3) := by decide +kernel
theorem dd_RG_readPlan_24 : decode bb_RG_readPlan 24 = .ok (.aload_n 0, 1) := by decide +kernel
theorem dd_RG_readPlan_25 : decode bb_RG_readPlan 25 = .ok (.aload_n 1, 1) := by decide +kernel
theorem dd_RG_readPlan_26 : decode bb_RG_readPlan 26 = .ok (.iload 4, 2) := by decide +kernel
theorem dd_RG_readPlan_28 : decode bb_RG_readPlan 28 = .ok (.iload_n 3, 1) := by decide +kernel
theorem dd_RG_readPlan_29 : decode bb_RG_readPlan 29 = .ok (.invokevirtual 139, 3) := by decide +kernel
theorem dd_RG_readPlan_32 : decode bb_RG_readPlan 32 = .ok (.ifCond .ne 5, 3) := by decide +kernel
theorem dd_RG_readPlan_35 : decode bb_RG_readPlan 35 = .ok (.iconst 0, 1) := by decide +kernel
theorem dd_RG_readPlan_36 : decode bb_RG_readPlan 36 = .ok (.ireturn, 1) := by decide +kernel
theorem dd_RG_readPlan_37 : decode bb_RG_readPlan 37 = .ok (.iinc 4 1, 3) := by decide +kernel
theorem dd_RG_readPlan_40 : decode bb_RG_readPlan 40 = .ok (.goto (-37), 3) := by decide +kernel
theorem dd_RG_readPlan_43 : decode bb_RG_readPlan 43 = .ok (.iconst 1, 1) := by decide +kernel
theorem dd_RG_readPlan_44 : decode bb_RG_readPlan 44 = .ok (.ireturn, 1) := by decide +kernel
theorem dd_RG_decode_0 : decode bb_RG_decode 0 = .ok (.aload_n 0, 1) := by decide +kernel
theorem dd_RG_decode_1 : decode bb_RG_decode 1 = .ok (.getfield 21, 3) := by decide +kernel
theorem dd_RG_decode_4 : decode bb_RG_decode 4 = .ok (.invokevirtual 157, 3) := by decide +kernel
theorem dd_RG_decode_7 : decode bb_RG_decode 7 = .ok (.iconst 0, 1) := by decide +kernel
theorem dd_RG_decode_8 : decode bb_RG_decode 8 = .ok (.istore 4, 2) := by decide +kernel
theorem dd_RG_decode_10 : decode bb_RG_decode 10 = .ok (.iload 4, 2) := by decide +kernel
theorem dd_RG_decode_12 : decode bb_RG_decode 12 = .ok (.aload_n 0, 1) := by decide +kernel
theorem dd_RG_decode_13 : decode bb_RG_decode 13 = .ok (.getfield 12, 3) := by decide +kernel
theorem dd_RG_decode_16 : decode bb_RG_decode 16 = .ok (.getfield 31, 3) := by decide +kernel
theorem dd_RG_decode_19 : decode bb_RG_decode 19 = .ok (.if_icmp .ge 42, 3) := by decide +kernel
theorem dd_RG_decode_22 : decode bb_RG_decode 22 = .ok (.iload_n 2, 1) := by decide +kernel
theorem dd_RG_decode_23 : decode bb_RG_decode 23 = .ok (.iload 4, 2) := by decide +kernel
theorem dd_RG_decode_25 : decode bb_RG_decode 25 = .ok (.invokestatic 154, 3) := by decide +kernel
theorem dd_RG_decode_28 : decode bb_RG_decode 28 = .ok (.ifCond .eq 27, 3) := by decide +kernel
theorem dd_RG_decode_31 : decode bb_RG_decode 31 = .ok (.aload_n 0, 1) := by decide +kernel
theorem dd_RG_decode_32 : decode bb_RG_decode 32 = .ok (.getfield 21, 3) := by decide +kernel
theorem dd_RG_decode_35 : decode bb_RG_decode 35 = .ok (.aload_n 0, 1) := by decide +kernel
theorem dd_RG_decode_36 : decode bb_RG_decode 36 = .ok (.getfield 12, 3) := by decide +kernel
theorem dd_RG_decode_39 : decode bb_RG_decode 39 = .ok (.getfield 129, 3) := by decide +kernel
theorem dd_RG_decode_42 : decode bb_RG_decode 42 = .ok (.iload 4, 2) := by decide +kernel
theorem dd_RG_decode_44 : decode bb_RG_decode 44 = .ok (.laload, 1) := by decide +kernel
theorem dd_RG_decode_45 : decode bb_RG_decode 45 = .ok (.aload_n 1, 1) := by decide +kernel
theorem dd_RG_decode_46 : decode bb_RG_decode 46 = .ok (.iload 4, 2) := by decide +kernel
theorem dd_RG_decode_48 : decode bb_RG_decode 48 = .ok (.invokevirtual 57, 3) := by decide +kernel
theorem dd_RG_decode_51 : decode bb_RG_decode 51 = .ok (.invokevirtual 160, 3) := by decide +kernel
theorem dd_RG_decode_54 : decode bb_RG_decode 54 = .ok (.pop, 1) := by decide +kernel
theorem dd_RG_decode_55 : decode bb_RG_decode 55 = .ok (.iinc 4 1, 3) := by decide +kernel
theorem dd_RG_decode_58 : decode bb_RG_decode 58 = .ok (.goto (-48), 3) := by decide +kernel
theorem dd_RG_decode_61 : decode bb_RG_decode 61 = .ok (.aload_n 0, 1) := by decide +kernel
theorem dd_RG_decode_62 : decode bb_RG_decode 62 = .ok (.getfield 21, 3) := by decide +kernel
theorem dd_RG_decode_65 : decode bb_RG_decode 65 = .ok (.aload_n 0, 1) := by decide +kernel
theorem dd_RG_decode_66 : decode bb_RG_decode 66 = .ok (.getfield 12, 3) := by decide +kernel
theorem dd_RG_decode_69 : decode bb_RG_decode 69 = .ok (.getfield 129, 3) := by decide +kernel
theorem dd_RG_decode_72 : decode bb_RG_decode 72 = .ok (.iload_n 3, 1) := by decide +kernel
theorem dd_RG_decode_73 : decode bb_RG_decode 73 = .ok (.laload, 1) := by decide +kernel
theorem dd_RG_decode_74 : decode bb_RG_decode 74 = .ok (.invokevirtual 164, 3) := by decide +kernel
theorem dd_RG_decode_77 : decode bb_RG_decode 77 = .ok (.lreturn, 1) := by decide +kernel
theorem dd_RG_choosePlan_0 : decode bb_RG_choosePlan 0 = .ok (.aload_n 0, 1) := by decide +kernel
theorem dd_RG_choosePlan_1 : decode bb_RG_choosePlan 1 = .ok (.aload_n 1, 1) := by decide +kernel
theorem dd_RG_choosePlan_2 : decode bb_RG_choosePlan 2 = .ok (.iload_n 2, 1) := by decide +kernel
theorem dd_RG_choosePlan_3 : decode bb_RG_choosePlan 3 = .ok (.invokevirtual 168, 3) := by decide +kernel
theorem dd_RG_choosePlan_6 : decode bb_RG_choosePlan 6 = .ok (.istore_n 3, 1) := by decide +kernel
theorem dd_RG_choosePlan_7 : decode bb_RG_choosePlan 7 = .ok (.iload_n 3, 1) := by decide +kernel
theorem dd_RG_choosePlan_8 : decode bb_RG_choosePlan 8 = .ok (.ifCond .ne 14, 3) := by decide +kernel
theorem dd_RG_choosePlan_11 : decode bb_RG_choosePlan 11 = .ok (.aload_n 0, 1) := by decide +kernel
theorem dd_RG_choosePlan_12 : decode bb_RG_choosePlan 12 = .ok (.aload_n 1, 1) := by decide +kernel
theorem dd_RG_choosePlan_13 : decode bb_RG_choosePlan 13 = .ok (.invokevirtual 112, 3) := by decide +kernel
theorem dd_RG_choosePlan_16 : decode bb_RG_choosePlan 16 = .ok (.invokestatic 171, 3) := by decide +kernel
theorem dd_RG_choosePlan_19 : decode bb_RG_choosePlan 19 = .ok (.goto 4, 3) := by decide +kernel
theorem dd_RG_choosePlan_22 : decode bb_RG_choosePlan 22 = .ok (.iload_n 3, 1) := by decide +kernel
theorem dd_RG_choosePlan_23 : decode bb_RG_choosePlan 23 = .ok (.ireturn, 1) := by decide +kernel
theorem dd_RG_localPlan_0 : decode bb_RG_localPlan 0 = .ok (.aload_n 0, 1) := by decide +kernel
theorem dd_RG_localPlan_1 : decode bb_RG_localPlan 1 = .ok (.getfield 12, 3) := by decide +kernel
theorem dd_RG_localPlan_4 : decode bb_RG_localPlan 4 = .ok (.iload_n 2, 1) := by decide +kernel
theorem dd_RG_localPlan_5 : decode bb_RG_localPlan 5 = .ok (.invokevirtual 174, 3) := by decide +kernel
theorem dd_RG_localPlan_8 : decode bb_RG_localPlan 8 = .ok (.iconst 1, 1) := by decide +kernel
theorem dd_RG_localPlan_9 : decode bb_RG_localPlan 9 = .ok (.iload_n 2, 1) := by decide +kernel
theorem dd_RG_localPlan_10 : decode bb_RG_localPlan 10 = .ok (.ishl, 1) := by decide +kernel
theorem dd_RG_localPlan_11 : decode bb_RG_localPlan 11 = .ok (.iconst (-1), 1) := by decide +kernel
theorem dd_RG_localPlan_12 : decode bb_RG_localPlan 12 = .ok (.ixor, 1) := by decide +kernel
theorem dd_RG_localPlan_13 : decode bb_RG_localPlan 13 = .ok (.iand, 1) := by decide +kernel
theorem dd_RG_localPlan_14 : decode bb_RG_localPlan 14 = .ok (.istore_n 3, 1) := by decide +kernel
theorem dd_RG_localPlan_15 : decode bb_RG_localPlan 15 = .ok (.iload_n 3, 1) := by decide +kernel
theorem dd_RG_localPlan_16 : decode bb_RG_localPlan 16 = .ok (.aload_n 1, 1) := by decide +kernel
theorem dd_RG_localPlan_17 : decode bb_RG_localPlan 17 = .ok (.invokevirtual 115, 3) := by decide +kernel
theorem dd_RG_localPlan_20 : decode bb_RG_localPlan 20 = .ok (.iand, 1) := by decide +kernel
theorem dd_RG_localPlan_21 : decode bb_RG_localPlan 21 = .ok (.ifCond .ne 7, 3) := by decide +kernel
theorem dd_RG_localPlan_24 : decode bb_RG_localPlan 24 = .ok (.iload_n 3, 1) := by decide +kernel
theorem dd_RG_localPlan_25 : decode bb_RG_localPlan 25 = .ok (.goto 4, 3) := by decide +kernel
theorem dd_RG_localPlan_28 : decode bb_RG_localPlan 28 = .ok (.iconst 0, 1) := by decide +kernel
theorem dd_RG_localPlan_29 : decode bb_RG_localPlan 29 = .ok (.ireturn, 1) := by decide +kernel
theorem dd_RG_globalPlan_0 : decode bb_RG_globalPlan 0 = .ok (.iload_n 0, 1) := by decide +kernel
theorem dd_RG_globalPlan_1 : decode bb_RG_globalPlan 1 = .ok (.invokestatic 107, 3) := by decide +kernel
theorem dd_RG_globalPlan_4 : decode bb_RG_globalPlan 4 = .ok (.bipush 6, 2) := by decide +kernel
theorem dd_RG_globalPlan_6 : decode bb_RG_globalPlan 6 = .ok (.if_icmp .ne 7, 3) := by decide +kernel
theorem dd_RG_globalPlan_9 : decode bb_RG_globalPlan 9 = .ok (.iload_n 0, 1) := by decide +kernel
theorem dd_RG_globalPlan_10 : decode bb_RG_globalPlan 10 = .ok (.goto 4, 3) := by decide +kernel
theorem dd_RG_globalPlan_13 : decode bb_RG_globalPlan 13 = .ok (.iconst 0, 1) := by decide +kernel
theorem dd_RG_globalPlan_14 : decode bb_RG_globalPlan 14 = .ok (.ireturn, 1) := by decide +kernel
theorem dd_RG_independentShards_0 : decode bb_RG_independentShards 0 = .ok (.aload_n 0, 1) := by decide +kernel
theorem dd_RG_independentShards_1 : decode bb_RG_independentShards 1 = .ok (.getfield 21, 3) := by decide +kernel
theorem dd_RG_independentShards_4 : decode bb_RG_independentShards 4 = .ok (.invokevirtual 157, 3) := by decide +kernel
theorem dd_RG_independentShards_7 : decode bb_RG_independentShards 7 = .ok (.iconst 0, 1) := by decide +kernel
theorem dd_RG_independentShards_8 : decode bb_RG_independentShards 8 = .ok (.istore_n 2, 1) := by decide +kernel
theorem dd_RG_independentShards_9 : decode bb_RG_independentShards 9 = .ok (.iconst 0, 1) := by decide +kernel
theorem dd_RG_independentShards_10 : decode bb_RG_independentShards 10 = .ok (.istore_n 3, 1) := by decide +kernel
theorem dd_RG_independentShards_11 : decode bb_RG_independentShards 11 = .ok (.iload_n 3, 1) := by decide +kernel
theorem dd_RG_independentShards_12 : decode bb_RG_independentShards 12 = .ok (.aload_n 0, 1) := by decide +kernel
theorem dd_RG_independentShards_13 : decode bb_RG_independentShards 13 = .ok (.getfield 12, 3) := by decide +kernel
theorem dd_RG_independentShards_16 : decode bb_RG_independentShards 16 = .ok (.getfield 31, 3) := by decide +kernel
theorem dd_RG_independentShards_19 : decode bb_RG_independentShards 19 = .ok (.if_icmp .ge 43, 3) := by decide +kernel
theorem dd_RG_independentShards_22 : decode bb_RG_independentShards 22 = .ok (.aload_n 1, 1) := by decide +kernel
theorem dd_RG_independentShards_23 : decode bb_RG_independentShards 23 = .ok (.iload_n 3, 1) := by decide +kernel
theorem dd_RG_independentShards_24 : decode bb_RG_independentShards 24 = .ok (.invokevirtual 50, 3) := by decide +kernel
theorem dd_RG_independentShards_27 : decode bb_RG_independentShards 27 = .ok (.ifCond .eq 29, 3) := by decide +kernel
theorem dd_RG_independentShards_30 : decode bb_RG_independentShards 30 = .ok (.aload_n 0, 1) := by decide +kernel
theorem dd_RG_independentShards_31 : decode bb_RG_independentShards 31 = .ok (.getfield 21, 3) := by decide +kernel
theorem dd_RG_independentShards_34 : decode bb_RG_independentShards 34 = .ok (.aload_n 0, 1) := by decide +kernel
theorem dd_RG_independentShards_35 : decode bb_RG_independentShards 35 = .ok (.getfield 12, 3) := by decide +kernel
theorem dd_RG_independentShards_38 : decode bb_RG_independentShards 38 = .ok (.getfield 129, 3) := by decide +kernel
theorem dd_RG_independentShards_41 : decode bb_RG_independentShards 41 = .ok (.iload_n 3, 1) := by decide +kernel
theorem dd_RG_independentShards_42 : decode bb_RG_independentShards 42 = .ok (.laload, 1) := by decide +kernel
theorem dd_RG_independentShards_43 : decode bb_RG_independentShards 43 = .ok (.lconst 0, 1) := by decide +kernel
theorem dd_RG_independentShards_44 : decode bb_RG_independentShards 44 = .ok (.invokevirtual 160, 3) := by decide +kernel
theorem dd_RG_independentShards_47 : decode bb_RG_independentShards 47 = .ok (.ifCond .eq 9, 3) := by decide +kernel
theorem dd_RG_independentShards_50 : decode bb_RG_independentShards 50 = .ok (.iload_n 2, 1) := by decide +kernel
theorem dd_RG_independentShards_51 : decode bb_RG_independentShards 51 = .ok (.iconst 1, 1) := by decide +kernel
theorem dd_RG_independentShards_52 : decode bb_RG_independentShards 52 = .ok (.iload_n 3, 1) := by decide +kernel
theorem dd_RG_independentShards_53 : decode bb_RG_independentShards 53 = .ok (.ishl, 1) := by decide +kernel
theorem dd_RG_independentShards_54 : decode bb_RG_independentShards 54 = .ok (.ior, 1) := by decide +kernel
theorem dd_RG_independentShards_55 : decode bb_RG_independentShards 55 = .ok (.istore_n 2, 1) := by decide +kernel
theorem dd_RG_independentShards_56 : decode bb_RG_independentShards 56 = .ok (.iinc 3 1, 3) := by decide +kernel
theorem dd_RG_independentShards_59 : decode bb_RG_independentShards 59 = .ok (.goto (-48), 3) := by decide +kernel
theorem dd_RG_independentShards_62 : decode bb_RG_independentShards 62 = .ok (.iload_n 2, 1) := by decide +kernel
theorem dd_RG_independentShards_63 : decode bb_RG_independentShards 63 = .ok (.ireturn, 1) := by decide +kernel
theorem dd_RG_nextToMend_0 : decode bb_RG_nextToMend 0 = .ok (.iconst (-1), 1) := by decide +kernel
theorem dd_RG_nextToMend_1 : decode bb_RG_nextToMend 1 = .ok (.istore_n 2, 1) := by decide +kernel
theorem dd_RG_nextToMend_2 : decode bb_RG_nextToMend 2 = .ok (.aload_n 0, 1) := by decide +kernel
theorem dd_RG_nextToMend_3 : decode bb_RG_nextToMend 3 = .ok (.getfield 12, 3) := by decide +kernel
theorem dd_RG_nextToMend_6 : decode bb_RG_nextToMend 6 = .ok (.getfield 31, 3) := by decide +kernel
theorem dd_RG_nextToMend_9 : decode bb_RG_nextToMend 9 = .ok (.iconst 1, 1) := by decide +kernel
theorem dd_RG_nextToMend_10 : decode bb_RG_nextToMend 10 = .ok (.isub, 1) := by decide +kernel
theorem dd_RG_nextToMend_11 : decode bb_RG_nextToMend 11 = .ok (.istore_n 3, 1) := by decide +kernel
theorem dd_RG_nextToMend_12 : decode bb_RG_nextToMend 12 = .ok (.iload_n 3, 1) := by decide +kernel
theorem dd_RG_nextToMend_13 : decode bb_RG_nextToMend 13 = .ok (.ifCond .lt 20, 3) := by decide +kernel
theorem dd_RG_nextToMend_16 : decode bb_RG_nextToMend 16 = .ok (.aload_n 0, 1) := by decide +kernel
theorem dd_RG_nextToMend_17 : decode bb_RG_nextToMend 17 = .ok (.aload_n 1, 1) := by decide +kernel
theorem dd_RG_nextToMend_18 : decode bb_RG_nextToMend 18 = .ok (.iload_n 3, 1) := by decide +kernel
theorem dd_RG_nextToMend_19 : decode bb_RG_nextToMend 19 = .ok (.invokevirtual 177, 3) := by decide +kernel
theorem dd_RG_nextToMend_22 : decode bb_RG_nextToMend 22 = .ok (.ifCond .eq 5, 3) := by decide +kernel
theorem dd_RG_nextToMend_25 : decode bb_RG_nextToMend 25 = .ok (.iload_n 3, 1) := by decide +kernel
theorem dd_RG_nextToMend_26 : decode bb_RG_nextToMend 26 = .ok (.istore_n 2, 1) := by decide +kernel
theorem dd_RG_nextToMend_27 : decode bb_RG_nextToMend 27 = .ok (.iinc 3 (-1), 3) := by decide +kernel
theorem dd_RG_nextToMend_30 : decode bb_RG_nextToMend 30 = .ok (.goto (-18), 3) := by decide +kernel
theorem dd_RG_nextToMend_33 : decode bb_RG_nextToMend 33 = .ok (.iconst 0, 1) := by decide +kernel
theorem dd_RG_nextToMend_34 : decode bb_RG_nextToMend 34 = .ok (.istore_n 3, 1) := by decide +kernel
theorem dd_RG_nextToMend_35 : decode bb_RG_nextToMend 35 = .ok (.iload_n 3, 1) := by decide +kernel
theorem dd_RG_nextToMend_36 : decode bb_RG_nextToMend 36 = .ok (.aload_n 0, 1) := by decide +kernel
theorem dd_RG_nextToMend_37 : decode bb_RG_nextToMend 37 = .ok (.getfield 12, 3) := by decide +kernel
theorem dd_RG_nextToMend_40 : decode bb_RG_nextToMend 40 = .ok (.getfield 31, 3) := by decide +kernel
theorem dd_RG_nextToMend_43 : decode bb_RG_nextToMend 43 = .ok (.if_icmp .ge 29, 3) := by decide +kernel
theorem dd_RG_nextToMend_46 : decode bb_RG_nextToMend 46 = .ok (.aload_n 0, 1) := by decide +kernel
theorem dd_RG_nextToMend_47 : decode bb_RG_nextToMend 47 = .ok (.aload_n 1, 1) := by decide +kernel
theorem dd_RG_nextToMend_48 : decode bb_RG_nextToMend 48 = .ok (.iload_n 3, 1) := by decide +kernel
theorem dd_RG_nextToMend_49 : decode bb_RG_nextToMend 49 = .ok (.invokevirtual 177, 3) := by decide +kernel
theorem dd_RG_nextToMend_52 : decode bb_RG_nextToMend 52 = .ok (.ifCond .eq 14, 3) := by decide +kernel
theorem dd_RG_nextToMend_55 : decode bb_RG_nextToMend 55 = .ok (.aload_n 0, 1) := by decide +kernel
theorem dd_RG_nextToMend_56 : decode bb_RG_nextToMend 56 = .ok (.aload_n 1, 1) := by decide +kernel
theorem dd_RG_nextToMend_57 : decode bb_RG_nextToMend 57 = .ok (.iload_n 3, 1) := by decide +kernel
theorem dd_RG_nextToMend_58 : decode bb_RG_nextToMend 58 = .ok (.invokevirtual 168, 3) := by decide +kernel
theorem dd_RG_nextToMend_61 : decode bb_RG_nextToMend 61 = .ok (.ifCond .eq 5, 3) := by decide +kernel
theorem dd_RG_nextToMend_64 : decode bb_RG_nextToMend 64 = .ok (.iload_n 3, 1) := by decide +kernel
theorem dd_RG_nextToMend_65 : decode bb_RG_nextToMend 65 = .ok (.ireturn, 1) := by decide +kernel
theorem dd_RG_nextToMend_66 : decode bb_RG_nextToMend 66 = .ok (.iinc 3 1, 3) := by decide +kernel
theorem dd_RG_nextToMend_69 : decode bb_RG_nextToMend 69 = .ok (.goto (-34), 3) := by decide +kernel
theorem dd_RG_nextToMend_72 : decode bb_RG_nextToMend 72 = .ok (.aload_n 0, 1) := by decide +kernel
theorem dd_RG_nextToMend_73 : decode bb_RG_nextToMend 73 = .ok (.aload_n 1, 1) := by decide +kernel
theorem dd_RG_nextToMend_74 : decode bb_RG_nextToMend 74 = .ok (.invokevirtual 112, 3) := by decide +kernel
theorem dd_RG_nextToMend_77 : decode bb_RG_nextToMend 77 = .ok (.invokestatic 171, 3) := by decide +kernel
theorem dd_RG_nextToMend_80 : decode bb_RG_nextToMend 80 = .ok (.ifCond .ne 7, 3) := by decide +kernel
theorem dd_RG_nextToMend_83 : decode bb_RG_nextToMend 83 = .ok (.iconst (-1), 1) := by decide +kernel
theorem dd_RG_nextToMend_84 : decode bb_RG_nextToMend 84 = .ok (.goto 4, 3) := by decide +kernel
theorem dd_RG_nextToMend_87 : decode bb_RG_nextToMend 87 = .ok (.iload_n 2, 1) := by decide +kernel
theorem dd_RG_nextToMend_88 : decode bb_RG_nextToMend 88 = .ok (.ireturn, 1) := by decide +kernel
theorem dd_RG_canBeWritten_0 : decode bb_RG_canBeWritten 0 = .ok (.aload_n 1, 1) := by decide +kernel
theorem dd_RG_canBeWritten_1 : decode bb_RG_canBeWritten 1 = .ok (.iload_n 2, 1) := by decide +kernel
theorem dd_RG_canBeWritten_2 : decode bb_RG_canBeWritten 2 = .ok (.invokevirtual 50, 3) := by decide +kernel
theorem dd_RG_canBeWritten_5 : decode bb_RG_canBeWritten 5 = .ok (.ifCond .ne 20, 3) := by decide +kernel
theorem dd_RG_canBeWritten_8 : decode bb_RG_canBeWritten 8 = .ok (.aload_n 0, 1) := by decide +kernel
theorem dd_RG_canBeWritten_9 : decode bb_RG_canBeWritten 9 = .ok (.getfield 38, 3) := by decide +kernel
theorem dd_RG_canBeWritten_12 : decode bb_RG_canBeWritten 12 = .ok (.aload_n 1, 1) := by decide +kernel
theorem dd_RG_canBeWritten_13 : decode bb_RG_canBeWritten 13 = .ok (.iload_n 2, 1) := by decide +kernel
theorem dd_RG_canBeWritten_14 : decode bb_RG_canBeWritten 14 = .ok (.invokevirtual 93, 3) := by decide +kernel
theorem dd_RG_canBeWritten_17 : decode bb_RG_canBeWritten 17 = .ok (.baload, 1) := by decide +kernel
theorem dd_RG_canBeWritten_18 : decode bb_RG_canBeWritten 18 = .ok (.ifCond .eq 7, 3) := by decide +kernel
theorem dd_RG_canBeWritten_21 : decode bb_RG_canBeWritten 21 = .ok (.iconst 1, 1) := by decide +kernel
theorem dd_RG_canBeWritten_22 : decode bb_RG_canBeWritten 22 = .ok (.goto 4, 3) := by decide +kernel
theorem dd_RG_canBeWritten_25 : decode bb_RG_canBeWritten 25 = .ok (.iconst 0, 1) := by decide +kernel
theorem dd_RG_canBeWritten_26 : decode bb_RG_canBeWritten 26 = .ok (.ireturn, 1) := by decide +kernel
theorem dd_RG_isIn_0 : decode bb_RG_isIn 0 = .ok (.iload_n 0, 1) := by decide +kernel
theorem dd_RG_isIn_1 : decode bb_RG_isIn 1 = .ok (.iload_n 1, 1) := by decide +kernel
theorem dd_RG_isIn_2 : decode bb_RG_isIn 2 = .ok (.ishr, 1) := by decide +kernel
theorem dd_RG_isIn_3 : decode bb_RG_isIn 3 = .ok (.iconst 1, 1) := by decide +kernel
theorem dd_RG_isIn_4 : decode bb_RG_isIn 4 = .ok (.iand, 1) := by decide +kernel
theorem dd_RG_isIn_5 : decode bb_RG_isIn 5 = .ok (.ifCond .eq 7, 3) := by decide +kernel
theorem dd_RG_isIn_8 : decode bb_RG_isIn 8 = .ok (.iconst 1, 1) := by decide +kernel
theorem dd_RG_isIn_9 : decode bb_RG_isIn 9 = .ok (.goto 4, 3) := by decide +kernel
theorem dd_RG_isIn_12 : decode bb_RG_isIn 12 = .ok (.iconst 0, 1) := by decide +kernel
theorem dd_RG_isIn_13 : decode bb_RG_isIn 13 = .ok (.ireturn, 1) := by decide +kernel
theorem dd_By_at_0 : decode bb_By_at 0 = .ok (.lload_n 0, 1) := by decide +kernel
theorem dd_By_at_1 : decode bb_By_at 1 = .ok (.bipush 8, 2) := by decide +kernel
theorem dd_By_at_3 : decode bb_By_at 3 = .ok (.iload_n 2, 1) := by decide +kernel
theorem dd_By_at_4 : decode bb_By_at 4 = .ok (.imul, 1) := by decide +kernel
theorem dd_By_at_5 : decode bb_By_at 5 = .ok (.lushr, 1) := by decide +kernel
theorem dd_By_at_6 : decode bb_By_at 6 = .ok (.l2i, 1) := by decide +kernel
theorem dd_By_at_7 : decode bb_By_at 7 = .ok (.sipush 255, 3) := by decide +kernel
theorem dd_By_at_10 : decode bb_By_at 10 = .ok (.iand, 1) := by decide +kernel
theorem dd_By_at_11 : decode bb_By_at 11 = .ok (.ireturn, 1) := by decide +kernel
theorem dd_By_placed_0 : decode bb_By_placed 0 = .ok (.iload_n 0, 1) := by decide +kernel
theorem dd_By_placed_1 : decode bb_By_placed 1 = .ok (.i2l, 1) := by decide +kernel
theorem dd_By_placed_2 : decode bb_By_placed 2 = .ok (.bipush 8, 2) := by decide +kernel
theorem dd_By_placed_4 : decode bb_By_placed 4 = .ok (.iload_n 1, 1) := by decide +kernel
theorem dd_By_placed_5 : decode bb_By_placed 5 = .ok (.imul, 1) := by decide +kernel
theorem dd_By_placed_6 : decode bb_By_placed 6 = .ok (.lshl, 1) := by decide +kernel
theorem dd_By_placed_7 : decode bb_By_placed 7 = .ok (.lreturn, 1) := by decide +kernel
theorem dd_By_times_0 : decode bb_By_times 0 = .ok (.lconst 0, 1) := by decide +kernel
theorem dd_By_times_1 : decode bb_By_times 1 = .ok (.lstore_n 3, 1) := by decide +kernel
theorem dd_By_times_2 : decode bb_By_times 2 = .ok (.lload_n 1, 1) := by decide +kernel
theorem dd_By_times_3 : decode bb_By_times 3 = .ok (.lstore 5, 2) := by decide +kernel
theorem dd_By_times_5 : decode bb_By_times 5 = .ok (.iconst 0, 1) := by decide +kernel
theorem dd_By_times_6 : decode bb_By_times 6 = .ok (.istore 7, 2) := by decide +kernel
theorem dd_By_times_8 : decode bb_By_times 8 = .ok (.iload 7, 2) := by decide +kernel
theorem dd_By_times_10 : decode bb_By_times 10 = .ok (.bipush 8, 2) := by decide +kernel
theorem dd_By_times_12 : decode bb_By_times 12 = .ok (.if_icmp .ge 55, 3) := by decide +kernel
theorem dd_By_times_15 : decode bb_By_times 15 = .ok (.iload_n 0, 1) := by decide +kernel
theorem dd_By_times_16 : decode bb_By_times 16 = .ok (.iload 7, 2) := by decide +kernel
theorem dd_By_times_18 : decode bb_By_times 18 = .ok (.ishr, 1) := by decide +kernel
theorem dd_By_times_19 : decode bb_By_times 19 = .ok (.iconst 1, 1) := by decide +kernel
theorem dd_By_times_20 : decode bb_By_times 20 = .ok (.iand, 1) := by decide +kernel
theorem dd_By_times_21 : decode bb_By_times 21 = .ok (.ifCond .eq 8, 3) := by decide +kernel
theorem dd_By_times_24 : decode bb_By_times 24 = .ok (.lload_n 3, 1) := by decide +kernel
theorem dd_By_times_25 : decode bb_By_times 25 = .ok (.lload 5, 2) := by decide +kernel
theorem dd_By_times_27 : decode bb_By_times 27 = .ok (.lxor, 1) := by decide +kernel
theorem dd_By_times_28 : decode bb_By_times 28 = .ok (.lstore_n 3, 1) := by decide +kernel
theorem dd_By_times_29 : decode bb_By_times 29 = .ok (.lload 5, 2) := by decide +kernel
theorem dd_By_times_31 : decode bb_By_times 31 = .ok (.bipush 7, 2) := by decide +kernel
theorem dd_By_times_33 : decode bb_By_times 33 = .ok (.lushr, 1) := by decide +kernel
theorem dd_By_times_34 : decode bb_By_times 34 = .ok (.ldc2_w 9, 3) := by decide +kernel
theorem dd_By_times_37 : decode bb_By_times 37 = .ok (.land, 1) := by decide +kernel
theorem dd_By_times_38 : decode bb_By_times 38 = .ok (.lstore 8, 2) := by decide +kernel
theorem dd_By_times_40 : decode bb_By_times 40 = .ok (.lload 5, 2) := by decide +kernel
theorem dd_By_times_42 : decode bb_By_times 42 = .ok (.ldc2_w 11, 3) := by decide +kernel
theorem dd_By_times_45 : decode bb_By_times 45 = .ok (.land, 1) := by decide +kernel
theorem dd_By_times_46 : decode bb_By_times 46 = .ok (.lstore 10, 2) := by decide +kernel
theorem dd_By_times_48 : decode bb_By_times 48 = .ok (.lload 10, 2) := by decide +kernel
theorem dd_By_times_50 : decode bb_By_times 50 = .ok (.iconst 1, 1) := by decide +kernel
theorem dd_By_times_51 : decode bb_By_times 51 = .ok (.lshl, 1) := by decide +kernel
theorem dd_By_times_52 : decode bb_By_times 52 = .ok (.lload 8, 2) := by decide +kernel
theorem dd_By_times_54 : decode bb_By_times 54 = .ok (.ldc2_w 13, 3) := by decide +kernel
theorem dd_By_times_57 : decode bb_By_times 57 = .ok (.lmul, 1) := by decide +kernel
theorem dd_By_times_58 : decode bb_By_times 58 = .ok (.lxor, 1) := by decide +kernel
theorem dd_By_times_59 : decode bb_By_times 59 = .ok (.lstore 5, 2) := by decide +kernel
theorem dd_By_times_61 : decode bb_By_times 61 = .ok (.iinc 7 1, 3) := by decide +kernel
theorem dd_By_times_64 : decode bb_By_times 64 = .ok (.goto (-56), 3) := by decide +kernel
theorem dd_By_times_67 : decode bb_By_times 67 = .ok (.lload_n 3, 1) := by decide +kernel
theorem dd_By_times_68 : decode bb_By_times 68 = .ok (.lreturn, 1) := by decide +kernel
theorem dd_By_inverse_0 : decode bb_By_inverse 0 = .ok (.iload_n 0, 1) := by decide +kernel
theorem dd_By_inverse_1 : decode bb_By_inverse 1 = .ok (.istore_n 1, 1) := by decide +kernel
theorem dd_By_inverse_2 : decode bb_By_inverse 2 = .ok (.iconst 1, 1) := by decide +kernel
theorem dd_By_inverse_3 : decode bb_By_inverse 3 = .ok (.istore_n 2, 1) := by decide +kernel
theorem dd_By_inverse_4 : decode bb_By_inverse 4 = .ok (.iconst 1, 1) := by decide +kernel
theorem dd_By_inverse_5 : decode bb_By_inverse 5 = .ok (.istore_n 3, 1) := by decide +kernel
theorem dd_By_inverse_6 : decode bb_By_inverse 6 = .ok (.iload_n 3, 1) := by decide +kernel
theorem dd_By_inverse_7 : decode bb_By_inverse 7 = .ok (.bipush 8, 2) := by decide +kernel
theorem dd_By_inverse_9 : decode bb_By_inverse 9 = .ok (.if_icmp .ge 25, 3) := by decide +kernel
theorem dd_By_inverse_12 : decode bb_By_inverse 12 = .ok (.iload_n 1, 1) := by decide +kernel
theorem dd_By_inverse_13 : decode bb_By_inverse 13 = .ok (.iload_n 1, 1) := by decide +kernel
theorem dd_By_inverse_14 : decode bb_By_inverse 14 = .ok (.i2l, 1) := by decide +kernel
theorem dd_By_inverse_15 : decode bb_By_inverse 15 = .ok (.invokestatic 15, 3) := by decide +kernel
theorem dd_By_inverse_18 : decode bb_By_inverse 18 = .ok (.l2i, 1) := by decide +kernel
theorem dd_By_inverse_19 : decode bb_By_inverse 19 = .ok (.istore_n 1, 1) := by decide +kernel
theorem dd_By_inverse_20 : decode bb_By_inverse 20 = .ok (.iload_n 2, 1) := by decide +kernel
theorem dd_By_inverse_21 : decode bb_By_inverse 21 = .ok (.iload_n 1, 1) := by decide +kernel
theorem dd_By_inverse_22 : decode bb_By_inverse 22 = .ok (.i2l, 1) := by decide +kernel
theorem dd_By_inverse_23 : decode bb_By_inverse 23 = .ok (.invokestatic 15, 3) := by decide +kernel
theorem dd_By_inverse_26 : decode bb_By_inverse 26 = .ok (.l2i, 1) := by decide +kernel
theorem dd_By_inverse_27 : decode bb_By_inverse 27 = .ok (.istore_n 2, 1) := by decide +kernel
theorem dd_By_inverse_28 : decode bb_By_inverse 28 = .ok (.iinc 3 1, 3) := by decide +kernel
theorem dd_By_inverse_31 : decode bb_By_inverse 31 = .ok (.goto (-25), 3) := by decide +kernel
theorem dd_By_inverse_34 : decode bb_By_inverse 34 = .ok (.iload_n 2, 1) := by decide +kernel
theorem dd_By_inverse_35 : decode bb_By_inverse 35 = .ok (.ireturn, 1) := by decide +kernel
theorem dd_Co_init_0 : decode bb_Co_init 0 = .ok (.aload_n 0, 1) := by decide +kernel
theorem dd_Co_init_1 : decode bb_Co_init 1 = .ok (.invokespecial 3, 3) := by decide +kernel
theorem dd_Co_init_4 : decode bb_Co_init 4 = .ok (.aload_n 0, 1) := by decide +kernel
theorem dd_Co_init_5 : decode bb_Co_init 5 = .ok (.iload_n 1, 1) := by decide +kernel
theorem dd_Co_init_6 : decode bb_Co_init 6 = .ok (.iconst 2, 1) := by decide +kernel
theorem dd_Co_init_7 : decode bb_Co_init 7 = .ok (.if_icmp .ne 8, 3) := by decide +kernel
theorem dd_Co_init_10 : decode bb_Co_init 10 = .ok (.bipush 11, 2) := by decide +kernel
theorem dd_Co_init_12 : decode bb_Co_init 12 = .ok (.goto 5, 3) := by decide +kernel
theorem dd_Co_init_15 : decode bb_Co_init 15 = .ok (.bipush 10, 2) := by decide +kernel
theorem dd_Co_init_17 : decode bb_Co_init 17 = .ok (.putfield 11, 3) := by decide +kernel
theorem dd_Co_init_20 : decode bb_Co_init 20 = .ok (.aload_n 0, 1) := by decide +kernel
theorem dd_Co_init_21 : decode bb_Co_init 21 = .ok (.iload_n 1, 1) := by decide +kernel
theorem dd_Co_init_22 : decode bb_Co_init 22 = .ok (.iconst 1, 1) := by decide +kernel
theorem dd_Co_init_23 : decode bb_Co_init 23 = .ok (.if_icmp .eq 8, 3) := by decide +kernel
theorem dd_Co_init_26 : decode bb_Co_init 26 = .ok (.iload_n 1, 1) := by decide +kernel
theorem dd_Co_init_27 : decode bb_Co_init 27 = .ok (.iconst 2, 1) := by decide +kernel
theorem dd_Co_init_28 : decode bb_Co_init 28 = .ok (.if_icmp .ne 7, 3) := by decide +kernel
theorem dd_Co_init_31 : decode bb_Co_init 31 = .ok (.iconst 1, 1) := by decide +kernel
theorem dd_Co_init_32 : decode bb_Co_init 32 = .ok (.goto 4, 3) := by decide +kernel
theorem dd_Co_init_35 : decode bb_Co_init 35 = .ok (.iconst 0, 1) := by decide +kernel
theorem dd_Co_init_36 : decode bb_Co_init 36 = .ok (.putfield 15, 3) := by decide +kernel
theorem dd_Co_init_39 : decode bb_Co_init 39 = .ok (.aload_n 0, 1) := by decide +kernel
theorem dd_Co_init_40 : decode bb_Co_init 40 = .ok (.aload_n 0, 1) := by decide +kernel
theorem dd_Co_init_41 : decode bb_Co_init 41 = .ok (.getfield 11, 3) := by decide +kernel
theorem dd_Co_init_44 : decode bb_Co_init 44 = .ok (.newarray .long, 2) := by decide +kernel
theorem dd_Co_init_46 : decode bb_Co_init 46 = .ok (.putfield 19, 3) := by decide +kernel
theorem dd_Co_init_49 : decode bb_Co_init 49 = .ok (.iconst 0, 1) := by decide +kernel
theorem dd_Co_init_50 : decode bb_Co_init 50 = .ok (.istore_n 2, 1) := by decide +kernel
theorem dd_Co_init_51 : decode bb_Co_init 51 = .ok (.iload_n 2, 1) := by decide +kernel
theorem dd_Co_init_52 : decode bb_Co_init 52 = .ok (.aload_n 0, 1) := by decide +kernel
theorem dd_Co_init_53 : decode bb_Co_init 53 = .ok (.getfield 11, 3) := by decide +kernel
theorem dd_Co_init_56 : decode bb_Co_init 56 = .ok (.if_icmp .ge 33, 3) := by decide +kernel
theorem dd_Co_init_59 : decode bb_Co_init 59 = .ok (.aload_n 0, 1) := by decide +kernel
theorem dd_Co_init_60 : decode bb_Co_init 60 = .ok (.getfield 19, 3) := by decide +kernel
theorem dd_Co_init_63 : decode bb_Co_init 63 = .ok (.iload_n 2, 1) := by decide +kernel
theorem dd_Co_init_64 : decode bb_Co_init 64 = .ok (.aload_n 0, 1) := by decide +kernel
theorem dd_Co_init_65 : decode bb_Co_init 65 = .ok (.getfield 15, 3) := by decide +kernel
theorem dd_Co_init_68 : decode bb_Co_init 68 = .ok (.ifCond .eq 10, 3) := by decide +kernel
theorem dd_Co_init_71 : decode bb_Co_init 71 = .ok (.iload_n 2, 1) := by decide +kernel
theorem dd_Co_init_72 : decode bb_Co_init 72 = .ok (.invokestatic 23, 3) := by decide +kernel
theorem dd_Co_init_75 : decode bb_Co_init 75 = .ok (.goto 7, 3) := by decide +kernel
theorem dd_Co_init_78 : decode bb_Co_init 78 = .ok (.iload_n 2, 1) := by decide +kernel
theorem dd_Co_init_79 : decode bb_Co_init 79 = .ok (.invokestatic 27, 3) := by decide +kernel
theorem dd_Co_init_82 : decode bb_Co_init 82 = .ok (.lastore, 1) := by decide +kernel
theorem dd_Co_init_83 : decode bb_Co_init 83 = .ok (.iinc 2 1, 3) := by decide +kernel
theorem dd_Co_init_86 : decode bb_Co_init 86 = .ok (.goto (-35), 3) := by decide +kernel
theorem dd_Co_init_89 : decode bb_Co_init 89 = .ok (.return_, 1) := by decide +kernel
theorem dd_Co_plainRow_0 : decode bb_Co_plainRow 0 = .ok (.iload_n 0, 1) := by decide +kernel
theorem dd_Co_plainRow_1 : decode bb_Co_plainRow 1 = .ok (.bipush 6, 2) := by decide +kernel
theorem dd_Co_plainRow_3 : decode bb_Co_plainRow 3 = .ok (.if_icmp .ge 11, 3) := by decide +kernel
theorem dd_Co_plainRow_6 : decode bb_Co_plainRow 6 = .ok (.iconst 1, 1) := by decide +kernel
theorem dd_Co_plainRow_7 : decode bb_Co_plainRow 7 = .ok (.iload_n 0, 1) := by decide +kernel
theorem dd_Co_plainRow_8 : decode bb_Co_plainRow 8 = .ok (.invokestatic 30, 3) := by decide +kernel
theorem dd_Co_plainRow_11 : decode bb_Co_plainRow 11 = .ok (.goto 13, 3) := by decide +kernel
theorem dd_Co_plainRow_14 : decode bb_Co_plainRow 14 = .ok (.bipush 8, 2) := by decide +kernel
theorem dd_Co_plainRow_16 : decode bb_Co_plainRow 16 = .ok (.iload_n 0, 1) := by decide +kernel
theorem dd_Co_plainRow_17 : decode bb_Co_plainRow 17 = .ok (.iadd, 1) := by decide +kernel
theorem dd_Co_plainRow_18 : decode bb_Co_plainRow 18 = .ok (.bipush 6, 2) := by decide +kernel
theorem dd_Co_plainRow_20 : decode bb_Co_plainRow 20 = .ok (.isub, 1) := by decide +kernel
theorem dd_Co_plainRow_21 : decode bb_Co_plainRow 21 = .ok (.invokestatic 36, 3) := by decide +kernel
theorem dd_Co_plainRow_24 : decode bb_Co_plainRow 24 = .ok (.lreturn, 1) := by decide +kernel
theorem dd_Co_groupedRow_0 : decode bb_Co_groupedRow 0 = .ok (.iload_n 0, 1) := by decide +kernel
theorem dd_Co_groupedRow_1 : decode bb_Co_groupedRow 1 = .ok (.bipush 6, 2) := by decide +kernel
theorem dd_Co_groupedRow_3 : decode bb_Co_groupedRow 3 = .ok (.if_icmp .ge 9, 3) := by decide +kernel
theorem dd_Co_groupedRow_6 : decode bb_Co_groupedRow 6 = .ok (.iconst 1, 1) := by decide +kernel
theorem dd_Co_groupedRow_7 : decode bb_Co_groupedRow 7 = .ok (.iload_n 0, 1) := by decide +kernel
theorem dd_Co_groupedRow_8 : decode bb_Co_groupedRow 8 = .ok (.invokestatic 30, 3) := by decide +kernel
theorem dd_Co_groupedRow_11 : decode bb_Co_groupedRow 11 = .ok (.lreturn, 1) := by decide +kernel
theorem dd_Co_groupedRow_12 : decode bb_Co_groupedRow 12 = .ok (.iload_n 0, 1) := by decide +kernel
theorem dd_Co_groupedRow_13 : decode bb_Co_groupedRow 13 = .ok (.tableswitch 51 6 9 #[31, 35, 39, 45], 31) := by decide +kernel
theorem dd_Co_groupedRow_44 : decode bb_Co_groupedRow 44 = .ok (.ldc2_w 39, 3) := by decide +kernel
theorem dd_Co_groupedRow_47 : decode bb_Co_groupedRow 47 = .ok (.lreturn, 1) := by decide +kernel
theorem dd_Co_groupedRow_48 : decode bb_Co_groupedRow 48 = .ok (.ldc2_w 41, 3) := by decide +kernel
theorem dd_Co_groupedRow_51 : decode bb_Co_groupedRow 51 = .ok (.lreturn, 1) := by decide +kernel
theorem dd_Co_groupedRow_52 : decode bb_Co_groupedRow 52 = .ok (.bipush 8, 2) := by decide +kernel
theorem dd_Co_groupedRow_54 : decode bb_Co_groupedRow 54 = .ok (.invokestatic 36, 3) := by decide +kernel
theorem dd_Co_groupedRow_57 : decode bb_Co_groupedRow 57 = .ok (.lreturn, 1) := by decide +kernel
theorem dd_Co_groupedRow_58 : decode bb_Co_groupedRow 58 = .ok (.bipush 9, 2) := by decide +kernel
theorem dd_Co_groupedRow_60 : decode bb_Co_groupedRow 60 = .ok (.invokestatic 36, 3) := by decide +kernel
theorem dd_Co_groupedRow_63 : decode bb_Co_groupedRow 63 = .ok (.lreturn, 1) := by decide +kernel
theorem dd_Co_groupedRow_64 : decode bb_Co_groupedRow 64 = .ok (.bipush 8, 2) := by decide +kernel
theorem dd_Co_groupedRow_66 : decode bb_Co_groupedRow 66 = .ok (.invokestatic 36, 3) := by decide +kernel
theorem dd_Co_groupedRow_69 : decode bb_Co_groupedRow 69 = .ok (.bipush 9, 2) := by decide +kernel
theorem dd_Co_groupedRow_71 : decode bb_Co_groupedRow 71 = .ok (.invokestatic 36, 3) := by decide +kernel
theorem dd_Co_groupedRow_74 : decode bb_Co_groupedRow 74 = .ok (.lxor, 1) := by decide +kernel
theorem dd_Co_groupedRow_75 : decode bb_Co_groupedRow 75 = .ok (.lreturn, 1) := by decide +kernel
theorem dd_Co_inversesRow_0 : decode bb_Co_inversesRow 0 = .ok (.lconst 0, 1) := by decide +kernel
theorem dd_Co_inversesRow_1 : decode bb_Co_inversesRow 1 = .ok (.lstore_n 1, 1) := by decide +kernel
theorem dd_Co_inversesRow_2 : decode bb_Co_inversesRow 2 = .ok (.iconst 0, 1) := by decide +kernel
theorem dd_Co_inversesRow_3 : decode bb_Co_inversesRow 3 = .ok (.istore_n 3, 1) := by decide +kernel
theorem dd_Co_inversesRow_4 : decode bb_Co_inversesRow 4 = .ok (.iload_n 3, 1) := by decide +kernel
theorem dd_Co_inversesRow_5 : decode bb_Co_inversesRow 5 = .ok (.bipush 6, 2) := by decide +kernel
theorem dd_Co_inversesRow_7 : decode bb_Co_inversesRow 7 = .ok (.if_icmp .ge 22, 3) := by decide +kernel
theorem dd_Co_inversesRow_10 : decode bb_Co_inversesRow 10 = .ok (.lload_n 1, 1) := by decide +kernel
theorem dd_Co_inversesRow_11 : decode bb_Co_inversesRow 11 = .ok (.iload_n 0, 1) := by decide +kernel
theorem dd_Co_inversesRow_12 : decode bb_Co_inversesRow 12 = .ok (.iload_n 3, 1) := by decide +kernel
theorem dd_Co_inversesRow_13 : decode bb_Co_inversesRow 13 = .ok (.ixor, 1) := by decide +kernel
theorem dd_Co_inversesRow_14 : decode bb_Co_inversesRow 14 = .ok (.invokestatic 43, 3) := by decide +kernel
theorem dd_Co_inversesRow_17 : decode bb_Co_inversesRow 17 = .ok (.iload_n 3, 1) := by decide +kernel
theorem dd_Co_inversesRow_18 : decode bb_Co_inversesRow 18 = .ok (.invokestatic 30, 3) := by decide +kernel
theorem dd_Co_inversesRow_21 : decode bb_Co_inversesRow 21 = .ok (.lor, 1) := by decide +kernel
theorem dd_Co_inversesRow_22 : decode bb_Co_inversesRow 22 = .ok (.lstore_n 1, 1) := by decide +kernel
theorem dd_Co_inversesRow_23 : decode bb_Co_inversesRow 23 = .ok (.iinc 3 1, 3) := by decide +kernel
theorem dd_Co_inversesRow_26 : decode bb_Co_inversesRow 26 = .ok (.goto (-22), 3) := by decide +kernel
theorem dd_Co_inversesRow_29 : decode bb_Co_inversesRow 29 = .ok (.lload_n 1, 1) := by decide +kernel
theorem dd_Co_inversesRow_30 : decode bb_Co_inversesRow 30 = .ok (.lreturn, 1) := by decide +kernel
theorem dd_Co_groupOf_0 : decode bb_Co_groupOf 0 = .ok (.aload_n 0, 1) := by decide +kernel
theorem dd_Co_groupOf_1 : decode bb_Co_groupOf 1 = .ok (.getfield 15, 3) := by decide +kernel
theorem dd_Co_groupOf_4 : decode bb_Co_groupOf 4 = .ok (.ifCond .ne 5, 3) := by decide +kernel
theorem dd_Co_groupOf_7 : decode bb_Co_groupOf 7 = .ok (.iconst 0, 1) := by decide +kernel
theorem dd_Co_groupOf_8 : decode bb_Co_groupOf 8 = .ok (.ireturn, 1) := by decide +kernel
theorem dd_Co_groupOf_9 : decode bb_Co_groupOf 9 = .ok (.bipush 71, 2) := by decide +kernel
theorem dd_Co_groupOf_11 : decode bb_Co_groupOf 11 = .ok (.iload_n 1, 1) := by decide +kernel
theorem dd_Co_groupOf_12 : decode bb_Co_groupOf 12 = .ok (.invokestatic 47, 3) := by decide +kernel
theorem dd_Co_groupOf_15 : decode bb_Co_groupOf 15 = .ok (.ifCond .eq 6, 3) := by decide +kernel
theorem dd_Co_groupOf_18 : decode bb_Co_groupOf 18 = .ok (.bipush 71, 2) := by decide +kernel
theorem dd_Co_groupOf_20 : decode bb_Co_groupOf 20 = .ok (.ireturn, 1) := by decide +kernel
theorem dd_Co_groupOf_21 : decode bb_Co_groupOf 21 = .ok (.sipush 184, 3) := by decide +kernel
theorem dd_Co_groupOf_24 : decode bb_Co_groupOf 24 = .ok (.iload_n 1, 1) := by decide +kernel
theorem dd_Co_groupOf_25 : decode bb_Co_groupOf 25 = .ok (.invokestatic 47, 3) := by decide +kernel
theorem dd_Co_groupOf_28 : decode bb_Co_groupOf 28 = .ok (.ifCond .eq 7, 3) := by decide +kernel
theorem dd_Co_groupOf_31 : decode bb_Co_groupOf 31 = .ok (.sipush 184, 3) := by decide +kernel
theorem dd_Co_groupOf_34 : decode bb_Co_groupOf 34 = .ok (.ireturn, 1) := by decide +kernel
theorem dd_Co_groupOf_35 : decode bb_Co_groupOf 35 = .ok (.aload_n 0, 1) := by decide +kernel
theorem dd_Co_groupOf_36 : decode bb_Co_groupOf 36 = .ok (.getfield 11, 3) := by decide +kernel
theorem dd_Co_groupOf_39 : decode bb_Co_groupOf 39 = .ok (.bipush 11, 2) := by decide +kernel
theorem dd_Co_groupOf_41 : decode bb_Co_groupOf 41 = .ok (.if_icmp .ne 9, 3) := by decide +kernel
theorem dd_Co_groupOf_44 : decode bb_Co_groupOf 44 = .ok (.sipush 1792, 3) := by decide +kernel
theorem dd_Co_groupOf_47 : decode bb_Co_groupOf 47 = .ok (.goto 4, 3) := by decide +kernel
theorem dd_Co_groupOf_50 : decode bb_Co_groupOf 50 = .ok (.iconst 0, 1) := by decide +kernel
theorem dd_Co_groupOf_51 : decode bb_Co_groupOf 51 = .ok (.ireturn, 1) := by decide +kernel
theorem dd_Sp_init_0 : decode bb_Sp_init 0 = .ok (.aload_n 0, 1) := by decide +kernel
theorem dd_Sp_init_1 : decode bb_Sp_init 1 = .ok (.invokespecial 3, 3) := by decide +kernel
theorem dd_Sp_init_4 : decode bb_Sp_init 4 = .ok (.aload_n 0, 1) := by decide +kernel
theorem dd_Sp_init_5 : decode bb_Sp_init 5 = .ok (.bipush 6, 2) := by decide +kernel
theorem dd_Sp_init_7 : decode bb_Sp_init 7 = .ok (.newarray .long, 2) := by decide +kernel
theorem dd_Sp_init_9 : decode bb_Sp_init 9 = .ok (.putfield 9, 3) := by decide +kernel
theorem dd_Sp_init_12 : decode bb_Sp_init 12 = .ok (.aload_n 0, 1) := by decide +kernel
theorem dd_Sp_init_13 : decode bb_Sp_init 13 = .ok (.bipush 6, 2) := by decide +kernel
theorem dd_Sp_init_15 : decode bb_Sp_init 15 = .ok (.newarray .long, 2) := by decide +kernel
theorem dd_Sp_init_17 : decode bb_Sp_init 17 = .ok (.putfield 15, 3) := by decide +kernel
theorem dd_Sp_init_20 : decode bb_Sp_init 20 = .ok (.return_, 1) := by decide +kernel
theorem dd_Sp_clear_0 : decode bb_Sp_clear 0 = .ok (.iconst 0, 1) := by decide +kernel
theorem dd_Sp_clear_1 : decode bb_Sp_clear 1 = .ok (.istore_n 1, 1) := by decide +kernel
theorem dd_Sp_clear_2 : decode bb_Sp_clear 2 = .ok (.iload_n 1, 1) := by decide +kernel
theorem dd_Sp_clear_3 : decode bb_Sp_clear 3 = .ok (.bipush 6, 2) := by decide +kernel
theorem dd_Sp_clear_5 : decode bb_Sp_clear 5 = .ok (.if_icmp .ge 23, 3) := by decide +kernel
theorem dd_Sp_clear_8 : decode bb_Sp_clear 8 = .ok (.aload_n 0, 1) := by decide +kernel
theorem dd_Sp_clear_9 : decode bb_Sp_clear 9 = .ok (.getfield 9, 3) := by decide +kernel
theorem dd_Sp_clear_12 : decode bb_Sp_clear 12 = .ok (.iload_n 1, 1) := by decide +kernel
theorem dd_Sp_clear_13 : decode bb_Sp_clear 13 = .ok (.lconst 0, 1) := by decide +kernel
theorem dd_Sp_clear_14 : decode bb_Sp_clear 14 = .ok (.lastore, 1) := by decide +kernel
theorem dd_Sp_clear_15 : decode bb_Sp_clear 15 = .ok (.aload_n 0, 1) := by decide +kernel
theorem dd_Sp_clear_16 : decode bb_Sp_clear 16 = .ok (.getfield 15, 3) := by decide +kernel
theorem dd_Sp_clear_19 : decode bb_Sp_clear 19 = .ok (.iload_n 1, 1) := by decide +kernel
theorem dd_Sp_clear_20 : decode bb_Sp_clear 20 = .ok (.lconst 0, 1) := by decide +kernel
theorem dd_Sp_clear_21 : decode bb_Sp_clear 21 = .ok (.lastore, 1) := by decide +kernel
theorem dd_Sp_clear_22 : decode bb_Sp_clear 22 = .ok (.iinc 1 1, 3) := by decide +kernel
theorem dd_Sp_clear_25 : decode bb_Sp_clear 25 = .ok (.goto (-23), 3) := by decide +kernel
theorem dd_Sp_clear_28 : decode bb_Sp_clear 28 = .ok (.return_, 1) := by decide +kernel
theorem dd_Sp_take_0 : decode bb_Sp_take 0 = .ok (.lload_n 1, 1) := by decide +kernel
theorem dd_Sp_take_1 : decode bb_Sp_take 1 = .ok (.lstore 5, 2) := by decide +kernel
theorem dd_Sp_take_3 : decode bb_Sp_take 3 = .ok (.lload_n 3, 1) := by decide +kernel
theorem dd_Sp_take_4 : decode bb_Sp_take 4 = .ok (.lstore 7, 2) := by decide +kernel
theorem dd_Sp_take_6 : decode bb_Sp_take 6 = .ok (.iconst 0, 1) := by decide +kernel
theorem dd_Sp_take_7 : decode bb_Sp_take 7 = .ok (.istore 9, 2) := by decide +kernel
theorem dd_Sp_take_9 : decode bb_Sp_take 9 = .ok (.iload 9, 2) := by decide +kernel
theorem dd_Sp_take_11 : decode bb_Sp_take 11 = .ok (.bipush 6, 2) := by decide +kernel
theorem dd_Sp_take_13 : decode bb_Sp_take 13 = .ok (.if_icmp .ge 106, 3) := by decide +kernel
theorem dd_Sp_take_16 : decode bb_Sp_take 16 = .ok (.lload 5, 2) := by decide +kernel
theorem dd_Sp_take_18 : decode bb_Sp_take 18 = .ok (.iload 9, 2) := by decide +kernel
theorem dd_Sp_take_20 : decode bb_Sp_take 20 = .ok (.invokestatic 18, 3) := by decide +kernel
theorem dd_Sp_take_23 : decode bb_Sp_take 23 = .ok (.istore 10, 2) := by decide +kernel
theorem dd_Sp_take_25 : decode bb_Sp_take 25 = .ok (.iload 10, 2) := by decide +kernel
theorem dd_Sp_take_27 : decode bb_Sp_take 27 = .ok (.ifCond .eq 52, 3) := by decide +kernel
theorem dd_Sp_take_30 : decode bb_Sp_take 30 = .ok (.aload_n 0, 1) := by decide +kernel
theorem dd_Sp_take_31 : decode bb_Sp_take 31 = .ok (.getfield 9, 3) := by decide +kernel
theorem dd_Sp_take_34 : decode bb_Sp_take 34 = .ok (.iload 9, 2) := by decide +kernel
theorem dd_Sp_take_36 : decode bb_Sp_take 36 = .ok (.laload, 1) := by decide +kernel
theorem dd_Sp_take_37 : decode bb_Sp_take 37 = .ok (.lconst 0, 1) := by decide +kernel
theorem dd_Sp_take_38 : decode bb_Sp_take 38 = .ok (.lcmp, 1) := by decide +kernel
theorem dd_Sp_take_39 : decode bb_Sp_take 39 = .ok (.ifCond .ne 40, 3) := by decide +kernel
theorem dd_Sp_take_42 : decode bb_Sp_take 42 = .ok (.iload 10, 2) := by decide +kernel
theorem dd_Sp_take_44 : decode bb_Sp_take 44 = .ok (.invokestatic 24, 3) := by decide +kernel
theorem dd_Sp_take_47 : decode bb_Sp_take 47 = .ok (.istore 11, 2) := by decide +kernel
theorem dd_Sp_take_49 : decode bb_Sp_take 49 = .ok (.aload_n 0, 1) := by decide +kernel
theorem dd_Sp_take_50 : decode bb_Sp_take 50 = .ok (.getfield 9, 3) := by decide +kernel
theorem dd_Sp_take_53 : decode bb_Sp_take 53 = .ok (.iload 9, 2) := by decide +kernel
theorem dd_Sp_take_55 : decode bb_Sp_take 55 = .ok (.iload 11, 2) := by decide +kernel
theorem dd_Sp_take_57 : decode bb_Sp_take 57 = .ok (.lload 5, 2) := by decide +kernel
theorem dd_Sp_take_59 : decode bb_Sp_take 59 = .ok (.invokestatic 28, 3) := by decide +kernel
theorem dd_Sp_take_62 : decode bb_Sp_take 62 = .ok (.lastore, 1) := by decide +kernel
theorem dd_Sp_take_63 : decode bb_Sp_take 63 = .ok (.aload_n 0, 1) := by decide +kernel
theorem dd_Sp_take_64 : decode bb_Sp_take 64 = .ok (.getfield 15, 3) := by decide +kernel
theorem dd_Sp_take_67 : decode bb_Sp_take 67 = .ok (.iload 9, 2) := by decide +kernel
theorem dd_Sp_take_69 : decode bb_Sp_take 69 = .ok (.iload 11, 2) := by decide +kernel
theorem dd_Sp_take_71 : decode bb_Sp_take 71 = .ok (.lload 7, 2) := by decide +kernel
theorem dd_Sp_take_73 : decode bb_Sp_take 73 = .ok (.invokestatic 28, 3) := by decide +kernel
theorem dd_Sp_take_76 : decode bb_Sp_take 76 = .ok (.lastore, 1) := by decide +kernel
theorem dd_Sp_take_77 : decode bb_Sp_take 77 = .ok (.iconst 1, 1) := by decide +kernel
theorem dd_Sp_take_78 : decode bb_Sp_take 78 = .ok (.ireturn, 1) := by decide +kernel
theorem dd_Sp_take_79 : decode bb_Sp_take 79 = .ok (.lload 5, 2) := by decide +kernel
theorem dd_Sp_take_81 : decode bb_Sp_take 81 = .ok (.iload 10, 2) := by decide +kernel
theorem dd_Sp_take_83 : decode bb_Sp_take 83 = .ok (.aload_n 0, 1) := by decide +kernel
theorem dd_Sp_take_84 : decode bb_Sp_take 84 = .ok (.getfield 9, 3) := by decide +kernel
theorem dd_Sp_take_87 : decode bb_Sp_take 87 = .ok (.iload 9, 2) := by decide +kernel
theorem dd_Sp_take_89 : decode bb_Sp_take 89 = .ok (.laload, 1) := by decide +kernel
theorem dd_Sp_take_90 : decode bb_Sp_take 90 = .ok (.invokestatic 28, 3) := by decide +kernel
theorem dd_Sp_take_93 : decode bb_Sp_take 93 = .ok (.lxor, 1) := by decide +kernel
theorem dd_Sp_take_94 : decode bb_Sp_take 94 = .ok (.lstore 5, 2) := by decide +kernel
theorem dd_Sp_take_96 : decode bb_Sp_take 96 = .ok (.lload 7, 2) := by decide +kernel
theorem dd_Sp_take_98 : decode bb_Sp_take 98 = .ok (.iload 10, 2) := by decide +kernel
theorem dd_Sp_take_100 : decode bb_Sp_take 100 = .ok (.aload_n 0, 1) := by decide +kernel
theorem dd_Sp_take_101 : decode bb_Sp_take 101 = .ok (.getfield 15, 3) := by decide +kernel
theorem dd_Sp_take_104 : decode bb_Sp_take 104 = .ok (.iload 9, 2) := by decide +kernel
theorem dd_Sp_take_106 : decode bb_Sp_take 106 = .ok (.laload, 1) := by decide +kernel
theorem dd_Sp_take_107 : decode bb_Sp_take 107 = .ok (.invokestatic 28, 3) := by decide +kernel
theorem dd_Sp_take_110 : decode bb_Sp_take 110 = .ok (.lxor, 1) := by decide +kernel
theorem dd_Sp_take_111 : decode bb_Sp_take 111 = .ok (.lstore 7, 2) := by decide +kernel
theorem dd_Sp_take_113 : decode bb_Sp_take 113 = .ok (.iinc 9 1, 3) := by decide +kernel
theorem dd_Sp_take_116 : decode bb_Sp_take 116 = .ok (.goto (-107), 3) := by decide +kernel
theorem dd_Sp_take_119 : decode bb_Sp_take 119 = .ok (.iconst 0, 1) := by decide +kernel
theorem dd_Sp_take_120 : decode bb_Sp_take 120 = .ok (.ireturn, 1) := by decide +kernel
theorem dd_Sp_valueOf_0 : decode bb_Sp_valueOf 0 = .ok (.lload_n 1, 1) := by decide +kernel
theorem dd_Sp_valueOf_1 : decode bb_Sp_valueOf 1 = .ok (.lstore_n 3, 1) := by decide +kernel
theorem dd_Sp_valueOf_2 : decode bb_Sp_valueOf 2 = .ok (.lconst 0, 1) := by decide +kernel
theorem dd_Sp_valueOf_3 : decode bb_Sp_valueOf 3 = .ok (.lstore 5, 2) := by decide +kernel
theorem dd_Sp_valueOf_5 : decode bb_Sp_valueOf 5 = .ok (.iconst 0, 1) := by decide +kernel
theorem dd_Sp_valueOf_6 : decode bb_Sp_valueOf 6 = .ok (.istore 7, 2) := by decide +kernel
theorem dd_Sp_valueOf_8 : decode bb_Sp_valueOf 8 = .ok (.iload 7, 2) := by decide +kernel
theorem dd_Sp_valueOf_10 : decode bb_Sp_valueOf 10 = .ok (.bipush 6, 2) := by decide +kernel
theorem dd_Sp_valueOf_12 : decode bb_Sp_valueOf 12 = .ok (.if_icmp .ge 49, 3) := by decide +kernel
theorem dd_Sp_valueOf_15 : decode bb_Sp_valueOf 15 = .ok (.lload_n 3, 1) := by decide +kernel
theorem dd_Sp_valueOf_16 : decode bb_Sp_valueOf 16 = .ok (.iload 7, 2) := by decide +kernel
theorem dd_Sp_valueOf_18 : decode bb_Sp_valueOf 18 = .ok (.invokestatic 18, 3) := by decide +kernel
theorem dd_Sp_valueOf_21 : decode bb_Sp_valueOf 21 = .ok (.istore 8, 2) := by decide +kernel
theorem dd_Sp_valueOf_23 : decode bb_Sp_valueOf 23 = .ok (.lload_n 3, 1) := by decide +kernel
theorem dd_Sp_valueOf_24 : decode bb_Sp_valueOf 24 = .ok (.iload 8, 2) := by decide +kernel
theorem dd_Sp_valueOf_26 : decode bb_Sp_valueOf 26 = .ok (.aload_n 0, 1) := by decide +kernel
theorem dd_Sp_valueOf_27 : decode bb_Sp_valueOf 27 = .ok (.getfield 9, 3) := by decide +kernel
theorem dd_Sp_valueOf_30 : decode bb_Sp_valueOf 30 = .ok (.iload 7, 2) := by decide +kernel
theorem dd_Sp_valueOf_32 : decode bb_Sp_valueOf 32 = .ok (.laload, 1) := by decide +kernel
theorem dd_Sp_valueOf_33 : decode bb_Sp_valueOf 33 = .ok (.invokestatic 28, 3) := by decide +kernel
theorem dd_Sp_valueOf_36 : decode bb_Sp_valueOf 36 = .ok (.lxor, 1) := by decide +kernel
theorem dd_Sp_valueOf_37 : decode bb_Sp_valueOf 37 = .ok (.lstore_n 3, 1) := by decide +kernel
theorem dd_Sp_valueOf_38 : decode bb_Sp_valueOf 38 = .ok (.lload 5, 2) := by decide +kernel
theorem dd_Sp_valueOf_40 : decode bb_Sp_valueOf 40 = .ok (.iload 8, 2) := by decide +kernel
theorem dd_Sp_valueOf_42 : decode bb_Sp_valueOf 42 = .ok (.aload_n 0, 1) := by decide +kernel
theorem dd_Sp_valueOf_43 : decode bb_Sp_valueOf 43 = .ok (.getfield 15, 3) := by decide +kernel
theorem dd_Sp_valueOf_46 : decode bb_Sp_valueOf 46 = .ok (.iload 7, 2) := by decide +kernel
theorem dd_Sp_valueOf_48 : decode bb_Sp_valueOf 48 = .ok (.laload, 1) := by decide +kernel
theorem dd_Sp_valueOf_49 : decode bb_Sp_valueOf 49 = .ok (.invokestatic 28, 3) := by decide +kernel
theorem dd_Sp_valueOf_52 : decode bb_Sp_valueOf 52 = .ok (.lxor, 1) := by decide +kernel
theorem dd_Sp_valueOf_53 : decode bb_Sp_valueOf 53 = .ok (.lstore 5, 2) := by decide +kernel
theorem dd_Sp_valueOf_55 : decode bb_Sp_valueOf 55 = .ok (.iinc 7 1, 3) := by decide +kernel
theorem dd_Sp_valueOf_58 : decode bb_Sp_valueOf 58 = .ok (.goto (-50), 3) := by decide +kernel
theorem dd_Sp_valueOf_61 : decode bb_Sp_valueOf 61 = .ok (.lload 5, 2) := by decide +kernel
theorem dd_Sp_valueOf_63 : decode bb_Sp_valueOf 63 = .ok (.lreturn, 1) := by decide +kernel
theorem dd_Sq_init_0 : decode bb_Sq_init 0 = .ok (.aload_n 0, 1) := by decide +kernel
theorem dd_Sq_init_1 : decode bb_Sq_init 1 = .ok (.invokespecial 3, 3) := by decide +kernel
theorem dd_Sq_init_4 : decode bb_Sq_init 4 = .ok (.aload_n 0, 1) := by decide +kernel
theorem dd_Sq_init_5 : decode bb_Sq_init 5 = .ok (.iconst 5, 1) := by decide +kernel
theorem dd_Sq_init_6 : decode bb_Sq_init 6 = .ok (.iload_n 1, 1) := by decide +kernel
theorem dd_Sq_init_7 : decode bb_Sq_init 7 = .ok (.imul, 1) := by decide +kernel
theorem dd_Sq_init_8 : decode bb_Sq_init 8 = .ok (.putfield 11, 3) := by decide +kernel
theorem dd_Sq_init_11 : decode bb_Sq_init 11 = .ok (.aload_n 0, 1) := by decide +kernel
theorem dd_Sq_init_12 : decode bb_Sq_init 12 = .ok (.iconst 1, 1) := by decide +kernel
theorem dd_Sq_init_13 : decode bb_Sq_init 13 = .ok (.iload_n 2, 1) := by decide +kernel
theorem dd_Sq_init_14 : decode bb_Sq_init 14 = .ok (.ishl, 1) := by decide +kernel
theorem dd_Sq_init_15 : decode bb_Sq_init 15 = .ok (.iconst 1, 1) := by decide +kernel
theorem dd_Sq_init_16 : decode bb_Sq_init 16 = .ok (.isub, 1) := by decide +kernel
theorem dd_Sq_init_17 : decode bb_Sq_init 17 = .ok (.putfield 15, 3) := by decide +kernel
theorem dd_Sq_init_20 : decode bb_Sq_init 20 = .ok (.aload_n 0, 1) := by decide +kernel
theorem dd_Sq_init_21 : decode bb_Sq_init 21 = .ok (.iload_n 2, 1) := by decide +kernel
theorem dd_Sq_init_22 : decode bb_Sq_init 22 = .ok (.newarray .long, 2) := by decide +kernel
theorem dd_Sq_init_24 : decode bb_Sq_init 24 = .ok (.putfield 18, 3) := by decide +kernel
theorem dd_Sq_init_27 : decode bb_Sq_init 27 = .ok (.aload_n 0, 1) := by decide +kernel
theorem dd_Sq_init_28 : decode bb_Sq_init 28 = .ok (.iload_n 2, 1) := by decide +kernel
theorem dd_Sq_init_29 : decode bb_Sq_init 29 = .ok (.newarray .long, 2) := by decide +kernel
theorem dd_Sq_init_31 : decode bb_Sq_init 31 = .ok (.putfield 22, 3) := by decide +kernel
theorem dd_Sq_init_34 : decode bb_Sq_init 34 = .ok (.aload_n 0, 1) := by decide +kernel
theorem dd_Sq_init_35 : decode bb_Sq_init 35 = .ok (.aload_n 0, 1) := by decide +kernel
theorem dd_Sq_init_36 : decode bb_Sq_init 36 = .ok (.getfield 15, 3) := by decide +kernel
theorem dd_Sq_init_39 : decode bb_Sq_init 39 = .ok (.putfield 25, 3) := by decide +kernel
theorem dd_Sq_init_42 : decode bb_Sq_init 42 = .ok (.return_, 1) := by decide +kernel
theorem dd_Sq_nodeOf_0 : decode bb_Sq_nodeOf 0 = .ok (.aload_n 0, 1) := by decide +kernel
theorem dd_Sq_nodeOf_1 : decode bb_Sq_nodeOf 1 = .ok (.getfield 11, 3) := by decide +kernel
theorem dd_Sq_nodeOf_4 : decode bb_Sq_nodeOf 4 = .ok (.iload_n 1, 1) := by decide +kernel
theorem dd_Sq_nodeOf_5 : decode bb_Sq_nodeOf 5 = .ok (.iadd, 1) := by decide +kernel
theorem dd_Sq_nodeOf_6 : decode bb_Sq_nodeOf 6 = .ok (.bipush 12, 2) := by decide +kernel
theorem dd_Sq_nodeOf_8 : decode bb_Sq_nodeOf 8 = .ok (.irem, 1) := by decide +kernel
theorem dd_Sq_nodeOf_9 : decode bb_Sq_nodeOf 9 = .ok (.ireturn, 1) := by decide +kernel
theorem dd_Sq_isThere_0 : decode bb_Sq_isThere 0 = .ok (.aload_n 0, 1) := by decide +kernel
theorem dd_Sq_isThere_1 : decode bb_Sq_isThere 1 = .ok (.getfield 25, 3) := by decide +kernel
theorem dd_Sq_isThere_4 : decode bb_Sq_isThere 4 = .ok (.iload_n 1, 1) := by decide +kernel
theorem dd_Sq_isThere_5 : decode bb_Sq_isThere 5 = .ok (.invokestatic 28, 3) := by decide +kernel
theorem dd_Sq_isThere_8 : decode bb_Sq_isThere 8 = .ok (.ireturn, 1) := by decide +kernel
theorem dd_Sq_lostMask_0 : decode bb_Sq_lostMask 0 = .ok (.aload_n 0, 1) := by decide +kernel
theorem dd_Sq_lostMask_1 : decode bb_Sq_lostMask 1 = .ok (.getfield 15, 3) := by decide +kernel
theorem dd_Sq_lostMask_4 : decode bb_Sq_lostMask 4 = .ok (.aload_n 0, 1) := by decide +kernel
theorem dd_Sq_lostMask_5 : decode bb_Sq_lostMask 5 = .ok (.getfield 25, 3) := by decide +kernel
theorem dd_Sq_lostMask_8 : decode bb_Sq_lostMask 8 = .ok (.iconst (-1), 1) := by decide +kernel
theorem dd_Sq_lostMask_9 : decode bb_Sq_lostMask 9 = .ok (.ixor, 1) := by decide +kernel
theorem dd_Sq_lostMask_10 : decode bb_Sq_lostMask 10 = .ok (.iand, 1) := by decide +kernel
theorem dd_Sq_lostMask_11 : decode bb_Sq_lostMask 11 = .ok (.ireturn, 1) := by decide +kernel
theorem dd_Sq_isDamaged_0 : decode bb_Sq_isDamaged 0 = .ok (.aload_n 0, 1) := by decide +kernel
theorem dd_Sq_isDamaged_1 : decode bb_Sq_isDamaged 1 = .ok (.getfield 22, 3) := by decide +kernel
theorem dd_Sq_isDamaged_4 : decode bb_Sq_isDamaged 4 = .ok (.iload_n 1, 1) := by decide +kernel
theorem dd_Sq_isDamaged_5 : decode bb_Sq_isDamaged 5 = .ok (.laload, 1) := by decide +kernel
theorem dd_Sq_isDamaged_6 : decode bb_Sq_isDamaged 6 = .ok (.lconst 0, 1) := by decide +kernel
theorem dd_Sq_isDamaged_7 : decode bb_Sq_isDamaged 7 = .ok (.lcmp, 1) := by decide +kernel
theorem dd_Sq_isDamaged_8 : decode bb_Sq_isDamaged 8 = .ok (.ifCond .eq 7, 3) := by decide +kernel
theorem dd_Sq_isDamaged_11 : decode bb_Sq_isDamaged 11 = .ok (.iconst 1, 1) := by decide +kernel
theorem dd_Sq_isDamaged_12 : decode bb_Sq_isDamaged 12 = .ok (.goto 4, 3) := by decide +kernel
theorem dd_Sq_isDamaged_15 : decode bb_Sq_isDamaged 15 = .ok (.iconst 0, 1) := by decide +kernel
theorem dd_Sq_isDamaged_16 : decode bb_Sq_isDamaged 16 = .ok (.ireturn, 1) := by decide +kernel
theorem dd_Sq_held_0 : decode bb_Sq_held 0 = .ok (.aload_n 0, 1) := by decide +kernel
theorem dd_Sq_held_1 : decode bb_Sq_held 1 = .ok (.getfield 18, 3) := by decide +kernel
theorem dd_Sq_held_4 : decode bb_Sq_held 4 = .ok (.iload_n 1, 1) := by decide +kernel
theorem dd_Sq_held_5 : decode bb_Sq_held 5 = .ok (.laload, 1) := by decide +kernel
theorem dd_Sq_held_6 : decode bb_Sq_held 6 = .ok (.aload_n 0, 1) := by decide +kernel
theorem dd_Sq_held_7 : decode bb_Sq_held 7 = .ok (.getfield 22, 3) := by decide +kernel
theorem dd_Sq_held_10 : decode bb_Sq_held 10 = .ok (.iload_n 1, 1) := by decide +kernel
theorem dd_Sq_held_11 : decode bb_Sq_held 11 = .ok (.laload, 1) := by decide +kernel
theorem dd_Sq_held_12 : decode bb_Sq_held 12 = .ok (.lxor, 1) := by decide +kernel
theorem dd_Sq_held_13 : decode bb_Sq_held 13 = .ok (.lreturn, 1) := by decide +kernel
theorem dd_Sq_flip_0 : decode bb_Sq_flip 0 = .ok (.aload_n 0, 1) := by decide +kernel
theorem dd_Sq_flip_1 : decode bb_Sq_flip 1 = .ok (.getfield 22, 3) := by decide +kernel
theorem dd_Sq_flip_4 : decode bb_Sq_flip 4 = .ok (.iload_n 1, 1) := by decide +kernel
theorem dd_Sq_flip_5 : decode bb_Sq_flip 5 = .ok (.dup2, 1) := by decide +kernel
theorem dd_Sq_flip_6 : decode bb_Sq_flip 6 = .ok (.laload, 1) := by decide +kernel
theorem dd_Sq_flip_7 : decode bb_Sq_flip 7 = .ok (.lconst 1, 1) := by decide +kernel
theorem dd_Sq_flip_8 : decode bb_Sq_flip 8 = .ok (.iload_n 2, 1) := by decide +kernel
theorem dd_Sq_flip_9 : decode bb_Sq_flip 9 = .ok (.lshl, 1) := by decide +kernel
theorem dd_Sq_flip_10 : decode bb_Sq_flip 10 = .ok (.lxor, 1) := by decide +kernel
theorem dd_Sq_flip_11 : decode bb_Sq_flip 11 = .ok (.lastore, 1) := by decide +kernel
theorem dd_Sq_flip_12 : decode bb_Sq_flip 12 = .ok (.return_, 1) := by decide +kernel
theorem dd_Sq_lose_0 : decode bb_Sq_lose 0 = .ok (.aload_n 0, 1) := by decide +kernel
theorem dd_Sq_lose_1 : decode bb_Sq_lose 1 = .ok (.dup, 1) := by decide +kernel
theorem dd_Sq_lose_2 : decode bb_Sq_lose 2 = .ok (.getfield 25, 3) := by decide +kernel
theorem dd_Sq_lose_5 : decode bb_Sq_lose 5 = .ok (.iconst 1, 1) := by decide +kernel
theorem dd_Sq_lose_6 : decode bb_Sq_lose 6 = .ok (.iload_n 1, 1) := by decide +kernel
theorem dd_Sq_lose_7 : decode bb_Sq_lose 7 = .ok (.ishl, 1) := by decide +kernel
theorem dd_Sq_lose_8 : decode bb_Sq_lose 8 = .ok (.iconst (-1), 1) := by decide +kernel
theorem dd_Sq_lose_9 : decode bb_Sq_lose 9 = .ok (.ixor, 1) := by decide +kernel
theorem dd_Sq_lose_10 : decode bb_Sq_lose 10 = .ok (.iand, 1) := by decide +kernel
theorem dd_Sq_lose_11 : decode bb_Sq_lose 11 = .ok (.putfield 25, 3) := by decide +kernel
theorem dd_Sq_lose_14 : decode bb_Sq_lose 14 = .ok (.return_, 1) := by decide +kernel
theorem dd_Sq_store_0 : decode bb_Sq_store 0 = .ok (.aload_n 0, 1) := by decide +kernel
theorem dd_Sq_store_1 : decode bb_Sq_store 1 = .ok (.getfield 18, 3) := by decide +kernel
theorem dd_Sq_store_4 : decode bb_Sq_store 4 = .ok (.iload_n 1, 1) := by decide +kernel
theorem dd_Sq_store_5 : decode bb_Sq_store 5 = .ok (.lload_n 2, 1) := by decide +kernel
theorem dd_Sq_store_6 : decode bb_Sq_store 6 = .ok (.lastore, 1) := by decide +kernel
theorem dd_Sq_store_7 : decode bb_Sq_store 7 = .ok (.aload_n 0, 1) := by decide +kernel
theorem dd_Sq_store_8 : decode bb_Sq_store 8 = .ok (.getfield 22, 3) := by decide +kernel
theorem dd_Sq_store_11 : decode bb_Sq_store 11 = .ok (.iload_n 1, 1) := by decide +kernel
theorem dd_Sq_store_12 : decode bb_Sq_store 12 = .ok (.lconst 0, 1) := by decide +kernel
theorem dd_Sq_store_13 : decode bb_Sq_store 13 = .ok (.lastore, 1) := by decide +kernel
theorem dd_Sq_store_14 : decode bb_Sq_store 14 = .ok (.aload_n 0, 1) := by decide +kernel
theorem dd_Sq_store_15 : decode bb_Sq_store 15 = .ok (.dup, 1) := by decide +kernel
theorem dd_Sq_store_16 : decode bb_Sq_store 16 = .ok (.getfield 25, 3) := by decide +kernel
theorem dd_Sq_store_19 : decode bb_Sq_store 19 = .ok (.iconst 1, 1) := by decide +kernel
theorem dd_Sq_store_20 : decode bb_Sq_store 20 = .ok (.iload_n 1, 1) := by decide +kernel
theorem dd_Sq_store_21 : decode bb_Sq_store 21 = .ok (.ishl, 1) := by decide +kernel
theorem dd_Sq_store_22 : decode bb_Sq_store 22 = .ok (.ior, 1) := by decide +kernel
theorem dd_Sq_store_23 : decode bb_Sq_store 23 = .ok (.putfield 25, 3) := by decide +kernel
theorem dd_Sq_store_26 : decode bb_Sq_store 26 = .ok (.return_, 1) := by decide +kernel
theorem dd_In_bitCount_0 : decode bb_In_bitCount 0 = .ok (.iload_n 0, 1) := by decide +kernel
theorem dd_In_bitCount_1 : decode bb_In_bitCount 1 = .ok (.iload_n 0, 1) := by decide +kernel
theorem dd_In_bitCount_2 : decode bb_In_bitCount 2 = .ok (.iconst 1, 1) := by decide +kernel
theorem dd_In_bitCount_3 : decode bb_In_bitCount 3 = .ok (.iushr, 1) := by decide +kernel
theorem dd_In_bitCount_4 : decode bb_In_bitCount 4 = .ok (.ldc_w 265, 3) := by decide +kernel
theorem dd_In_bitCount_7 : decode bb_In_bitCount 7 = .ok (.iand, 1) := by decide +kernel
theorem dd_In_bitCount_8 : decode bb_In_bitCount 8 = .ok (.isub, 1) := by decide +kernel
theorem dd_In_bitCount_9 : decode bb_In_bitCount 9 = .ok (.istore_n 0, 1) := by decide +kernel
theorem dd_In_bitCount_10 : decode bb_In_bitCount 10 = .ok (.iload_n 0, 1) := by decide +kernel
theorem dd_In_bitCount_11 : decode bb_In_bitCount 11 = .ok (.ldc_w 266, 3) := by decide +kernel
theorem dd_In_bitCount_14 : decode bb_In_bitCount 14 = .ok (.iand, 1) := by decide +kernel
theorem dd_In_bitCount_15 : decode bb_In_bitCount 15 = .ok (.iload_n 0, 1) := by decide +kernel
theorem dd_In_bitCount_16 : decode bb_In_bitCount 16 = .ok (.iconst 2, 1) := by decide +kernel
theorem dd_In_bitCount_17 : decode bb_In_bitCount 17 = .ok (.iushr, 1) := by decide +kernel
theorem dd_In_bitCount_18 : decode bb_In_bitCount 18 = .ok (.ldc_w 266, 3) := by decide +kernel
theorem dd_In_bitCount_21 : decode bb_In_bitCount 21 = .ok (.iand, 1) := by decide +kernel
theorem dd_In_bitCount_22 : decode bb_In_bitCount 22 = .ok (.iadd, 1) := by decide +kernel
theorem dd_In_bitCount_23 : decode bb_In_bitCount 23 = .ok (.istore_n 0, 1) := by decide +kernel
theorem dd_In_bitCount_24 : decode bb_In_bitCount 24 = .ok (.iload_n 0, 1) := by decide +kernel
theorem dd_In_bitCount_25 : decode bb_In_bitCount 25 = .ok (.iload_n 0, 1) := by decide +kernel
theorem dd_In_bitCount_26 : decode bb_In_bitCount 26 = .ok (.iconst 4, 1) := by decide +kernel
theorem dd_In_bitCount_27 : decode bb_In_bitCount 27 = .ok (.iushr, 1) := by decide +kernel
theorem dd_In_bitCount_28 : decode bb_In_bitCount 28 = .ok (.iadd, 1) := by decide +kernel
theorem dd_In_bitCount_29 : decode bb_In_bitCount 29 = .ok (.ldc_w 267, 3) := by decide +kernel
theorem dd_In_bitCount_32 : decode bb_In_bitCount 32 = .ok (.iand, 1) := by decide +kernel
theorem dd_In_bitCount_33 : decode bb_In_bitCount 33 = .ok (.istore_n 0, 1) := by decide +kernel
theorem dd_In_bitCount_34 : decode bb_In_bitCount 34 = .ok (.iload_n 0, 1) := by decide +kernel
theorem dd_In_bitCount_35 : decode bb_In_bitCount 35 = .ok (.iload_n 0, 1) := by decide +kernel
theorem dd_In_bitCount_36 : decode bb_In_bitCount 36 = .ok (.bipush 8, 2) := by decide +kernel
theorem dd_In_bitCount_38 : decode bb_In_bitCount 38 = .ok (.iushr, 1) := by decide +kernel
theorem dd_In_bitCount_39 : decode bb_In_bitCount 39 = .ok (.iadd, 1) := by decide +kernel
theorem dd_In_bitCount_40 : decode bb_In_bitCount 40 = .ok (.istore_n 0, 1) := by decide +kernel
theorem dd_In_bitCount_41 : decode bb_In_bitCount 41 = .ok (.iload_n 0, 1) := by decide +kernel
theorem dd_In_bitCount_42 : decode bb_In_bitCount 42 = .ok (.iload_n 0, 1) := by decide +kernel
theorem dd_In_bitCount_43 : decode bb_In_bitCount 43 = .ok (.bipush 16, 2) := by decide +kernel
theorem dd_In_bitCount_45 : decode bb_In_bitCount 45 = .ok (.iushr, 1) := by decide +kernel
theorem dd_In_bitCount_46 : decode bb_In_bitCount 46 = .ok (.iadd, 1) := by decide +kernel
theorem dd_In_bitCount_47 : decode bb_In_bitCount 47 = .ok (.istore_n 0, 1) := by decide +kernel
theorem dd_In_bitCount_48 : decode bb_In_bitCount 48 = .ok (.iload_n 0, 1) := by decide +kernel
theorem dd_In_bitCount_49 : decode bb_In_bitCount 49 = .ok (.bipush 63, 2) := by decide +kernel
theorem dd_In_bitCount_51 : decode bb_In_bitCount 51 = .ok (.iand, 1) := by decide +kernel
theorem dd_In_bitCount_52 : decode bb_In_bitCount 52 = .ok (.ireturn, 1) := by decide +kernel
