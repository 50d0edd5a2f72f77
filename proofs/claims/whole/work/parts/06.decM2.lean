theorem d_M_install_291 : decode b_M_install 291 = .ok (.imul, 1) := by decide +kernel
theorem d_M_install_292 : decode b_M_install 292 = .ok (.iload_n 2, 1) := by decide +kernel
theorem d_M_install_293 : decode b_M_install 293 = .ok (.iadd, 1) := by decide +kernel
theorem d_M_install_294 : decode b_M_install 294 = .ok (.aload_n 0, 1) := by decide +kernel
theorem d_M_install_295 : decode b_M_install 295 = .ok (.getfield 47, 3) := by decide +kernel
theorem d_M_install_298 : decode b_M_install 298 = .ok (.sipush 192, 3) := by decide +kernel
theorem d_M_install_301 : decode b_M_install 301 = .ok (.iload_n 2, 1) := by decide +kernel
theorem d_M_install_302 : decode b_M_install 302 = .ok (.iadd, 1) := by decide +kernel
theorem d_M_install_303 : decode b_M_install 303 = .ok (.iaload, 1) := by decide +kernel
theorem d_M_install_304 : decode b_M_install 304 = .ok (.iastore, 1) := by decide +kernel
theorem d_M_install_305 : decode b_M_install 305 = .ok (.iinc 2 1, 3) := by decide +kernel
theorem d_M_install_308 : decode b_M_install 308 = .ok (.goto (-30), 3) := by decide +kernel
theorem d_M_install_311 : decode b_M_install 311 = .ok (.iload_n 1, 1) := by decide +kernel
theorem d_M_install_312 : decode b_M_install 312 = .ok (.ireturn, 1) := by decide +kernel
theorem d_M_remove_0 : decode b_M_remove 0 = .ok (.aload_n 0, 1) := by decide +kernel
theorem d_M_remove_1 : decode b_M_remove 1 = .ok (.iconst 0, 1) := by decide +kernel
theorem d_M_remove_2 : decode b_M_remove 2 = .ok (.putfield 90, 3) := by decide +kernel
theorem d_M_remove_5 : decode b_M_remove 5 = .ok (.aload_n 0, 1) := by decide +kernel
theorem d_M_remove_6 : decode b_M_remove 6 = .ok (.iload_n 1, 1) := by decide +kernel
theorem d_M_remove_7 : decode b_M_remove 7 = .ok (.invokevirtual 133, 3) := by decide +kernel
theorem d_M_remove_10 : decode b_M_remove 10 = .ok (.ifCond .ne 5, 3) := by decide +kernel
theorem d_M_remove_13 : decode b_M_remove 13 = .ok (.iconst 0, 1) := by decide +kernel
theorem d_M_remove_14 : decode b_M_remove 14 = .ok (.ireturn, 1) := by decide +kernel
theorem d_M_remove_15 : decode b_M_remove 15 = .ok (.aload_n 0, 1) := by decide +kernel
theorem d_M_remove_16 : decode b_M_remove 16 = .ok (.getfield 7, 3) := by decide +kernel
theorem d_M_remove_19 : decode b_M_remove 19 = .ok (.iload_n 1, 1) := by decide +kernel
theorem d_M_remove_20 : decode b_M_remove 20 = .ok (.iconst 0, 1) := by decide +kernel
theorem d_M_remove_21 : decode b_M_remove 21 = .ok (.bastore, 1) := by decide +kernel
theorem d_M_remove_22 : decode b_M_remove 22 = .ok (.aload_n 0, 1) := by decide +kernel
theorem d_M_remove_23 : decode b_M_remove 23 = .ok (.getfield 59, 3) := by decide +kernel
theorem d_M_remove_26 : decode b_M_remove 26 = .ok (.iload_n 1, 1) := by decide +kernel
theorem d_M_remove_27 : decode b_M_remove 27 = .ok (.iconst 0, 1) := by decide +kernel
theorem d_M_remove_28 : decode b_M_remove 28 = .ok (.bastore, 1) := by decide +kernel
theorem d_M_remove_29 : decode b_M_remove 29 = .ok (.aload_n 0, 1) := by decide +kernel
theorem d_M_remove_30 : decode b_M_remove 30 = .ok (.getfield 56, 3) := by decide +kernel
theorem d_M_remove_33 : decode b_M_remove 33 = .ok (.iload_n 1, 1) := by decide +kernel
theorem d_M_remove_34 : decode b_M_remove 34 = .ok (.iconst 0, 1) := by decide +kernel
theorem d_M_remove_35 : decode b_M_remove 35 = .ok (.iastore, 1) := by decide +kernel
theorem d_M_remove_36 : decode b_M_remove 36 = .ok (.iconst 0, 1) := by decide +kernel
theorem d_M_remove_37 : decode b_M_remove 37 = .ok (.istore_n 2, 1) := by decide +kernel
theorem d_M_remove_38 : decode b_M_remove 38 = .ok (.iload_n 2, 1) := by decide +kernel
theorem d_M_remove_39 : decode b_M_remove 39 = .ok (.bipush 8, 2) := by decide +kernel
theorem d_M_remove_41 : decode b_M_remove 41 = .ok (.if_icmp .ge 21, 3) := by decide +kernel
theorem d_M_remove_44 : decode b_M_remove 44 = .ok (.aload_n 0, 1) := by decide +kernel
theorem d_M_remove_45 : decode b_M_remove 45 = .ok (.getfield 50, 3) := by decide +kernel
theorem d_M_remove_48 : decode b_M_remove 48 = .ok (.bipush 8, 2) := by decide +kernel
theorem d_M_remove_50 : decode b_M_remove 50 = .ok (.iload_n 1, 1) := by decide +kernel
theorem d_M_remove_51 : decode b_M_remove 51 = .ok (.imul, 1) := by decide +kernel
theorem d_M_remove_52 : decode b_M_remove 52 = .ok (.iload_n 2, 1) := by decide +kernel
theorem d_M_remove_53 : decode b_M_remove 53 = .ok (.iadd, 1) := by decide +kernel
theorem d_M_remove_54 : decode b_M_remove 54 = .ok (.iconst 0, 1) := by decide +kernel
theorem d_M_remove_55 : decode b_M_remove 55 = .ok (.bastore, 1) := by decide +kernel
theorem d_M_remove_56 : decode b_M_remove 56 = .ok (.iinc 2 1, 3) := by decide +kernel
theorem d_M_remove_59 : decode b_M_remove 59 = .ok (.goto (-21), 3) := by decide +kernel
theorem d_M_remove_62 : decode b_M_remove 62 = .ok (.iconst 0, 1) := by decide +kernel
theorem d_M_remove_63 : decode b_M_remove 63 = .ok (.istore_n 2, 1) := by decide +kernel
theorem d_M_remove_64 : decode b_M_remove 64 = .ok (.iconst 0, 1) := by decide +kernel
theorem d_M_remove_65 : decode b_M_remove 65 = .ok (.istore_n 3, 1) := by decide +kernel
theorem d_M_remove_66 : decode b_M_remove 66 = .ok (.iload_n 3, 1) := by decide +kernel
theorem d_M_remove_67 : decode b_M_remove 67 = .ok (.aload_n 0, 1) := by decide +kernel
theorem d_M_remove_68 : decode b_M_remove 68 = .ok (.getfield 136, 3) := by decide +kernel
theorem d_M_remove_71 : decode b_M_remove 71 = .ok (.if_icmp .ge 28, 3) := by decide +kernel
theorem d_M_remove_74 : decode b_M_remove 74 = .ok (.aload_n 0, 1) := by decide +kernel
theorem d_M_remove_75 : decode b_M_remove 75 = .ok (.getfield 78, 3) := by decide +kernel
theorem d_M_remove_78 : decode b_M_remove 78 = .ok (.iload_n 3, 1) := by decide +kernel
theorem d_M_remove_79 : decode b_M_remove 79 = .ok (.iaload, 1) := by decide +kernel
theorem d_M_remove_80 : decode b_M_remove 80 = .ok (.iload_n 1, 1) := by decide +kernel
theorem d_M_remove_81 : decode b_M_remove 81 = .ok (.if_icmp .eq 12, 3) := by decide +kernel
theorem d_M_remove_84 : decode b_M_remove 84 = .ok (.aload_n 0, 1) := by decide +kernel
theorem d_M_remove_85 : decode b_M_remove 85 = .ok (.iload_n 3, 1) := by decide +kernel
theorem d_M_remove_86 : decode b_M_remove 86 = .ok (.iload_n 2, 1) := by decide +kernel
theorem d_M_remove_87 : decode b_M_remove 87 = .ok (.invokevirtual 139, 3) := by decide +kernel
theorem d_M_remove_90 : decode b_M_remove 90 = .ok (.iinc 2 1, 3) := by decide +kernel
theorem d_M_remove_93 : decode b_M_remove 93 = .ok (.iinc 3 1, 3) := by decide +kernel
theorem d_M_remove_96 : decode b_M_remove 96 = .ok (.goto (-30), 3) := by decide +kernel
theorem d_M_remove_99 : decode b_M_remove 99 = .ok (.aload_n 0, 1) := by decide +kernel
theorem d_M_remove_100 : decode b_M_remove 100 = .ok (.iload_n 2, 1) := by decide +kernel
theorem d_M_remove_101 : decode b_M_remove 101 = .ok (.putfield 136, 3) := by decide +kernel
theorem d_M_remove_104 : decode b_M_remove 104 = .ok (.iconst 1, 1) := by decide +kernel
theorem d_M_remove_105 : decode b_M_remove 105 = .ok (.ireturn, 1) := by decide +kernel
theorem d_M_grant_0 : decode b_M_grant 0 = .ok (.aload_n 0, 1) := by decide +kernel
theorem d_M_grant_1 : decode b_M_grant 1 = .ok (.iconst 0, 1) := by decide +kernel
theorem d_M_grant_2 : decode b_M_grant 2 = .ok (.putfield 90, 3) := by decide +kernel
theorem d_M_grant_5 : decode b_M_grant 5 = .ok (.aload_n 0, 1) := by decide +kernel
theorem d_M_grant_6 : decode b_M_grant 6 = .ok (.iload_n 1, 1) := by decide +kernel
theorem d_M_grant_7 : decode b_M_grant 7 = .ok (.invokevirtual 133, 3) := by decide +kernel
theorem d_M_grant_10 : decode b_M_grant 10 = .ok (.ifCond .eq 39, 3) := by decide +kernel
theorem d_M_grant_13 : decode b_M_grant 13 = .ok (.iload_n 2, 1) := by decide +kernel
theorem d_M_grant_14 : decode b_M_grant 14 = .ok (.bipush 8, 2) := by decide +kernel
theorem d_M_grant_16 : decode b_M_grant 16 = .ok (.invokestatic 93, 3) := by decide +kernel
theorem d_M_grant_19 : decode b_M_grant 19 = .ok (.ifCond .eq 30, 3) := by decide +kernel
theorem d_M_grant_22 : decode b_M_grant 22 = .ok (.aload_n 0, 1) := by decide +kernel
theorem d_M_grant_23 : decode b_M_grant 23 = .ok (.getfield 23, 3) := by decide +kernel
theorem d_M_grant_26 : decode b_M_grant 26 = .ok (.iload_n 1, 1) := by decide +kernel
theorem d_M_grant_27 : decode b_M_grant 27 = .ok (.iaload, 1) := by decide +kernel
theorem d_M_grant_28 : decode b_M_grant 28 = .ok (.iload_n 2, 1) := by decide +kernel
theorem d_M_grant_29 : decode b_M_grant 29 = .ok (.ishr, 1) := by decide +kernel
theorem d_M_grant_30 : decode b_M_grant 30 = .ok (.iconst 1, 1) := by decide +kernel
theorem d_M_grant_31 : decode b_M_grant 31 = .ok (.iand, 1) := by decide +kernel
theorem d_M_grant_32 : decode b_M_grant 32 = .ok (.ifCond .eq 17, 3) := by decide +kernel
theorem d_M_grant_35 : decode b_M_grant 35 = .ok (.aload_n 0, 1) := by decide +kernel
theorem d_M_grant_36 : decode b_M_grant 36 = .ok (.getfield 56, 3) := by decide +kernel
theorem d_M_grant_39 : decode b_M_grant 39 = .ok (.iload_n 1, 1) := by decide +kernel
theorem d_M_grant_40 : decode b_M_grant 40 = .ok (.iaload, 1) := by decide +kernel
theorem d_M_grant_41 : decode b_M_grant 41 = .ok (.iload_n 2, 1) := by decide +kernel
theorem d_M_grant_42 : decode b_M_grant 42 = .ok (.ishr, 1) := by decide +kernel
theorem d_M_grant_43 : decode b_M_grant 43 = .ok (.iconst 1, 1) := by decide +kernel
theorem d_M_grant_44 : decode b_M_grant 44 = .ok (.iand, 1) := by decide +kernel
theorem d_M_grant_45 : decode b_M_grant 45 = .ok (.iconst 1, 1) := by decide +kernel
theorem d_M_grant_46 : decode b_M_grant 46 = .ok (.if_icmp .ne 5, 3) := by decide +kernel
theorem d_M_grant_49 : decode b_M_grant 49 = .ok (.iconst 0, 1) := by decide +kernel
theorem d_M_grant_50 : decode b_M_grant 50 = .ok (.ireturn, 1) := by decide +kernel
theorem d_M_grant_51 : decode b_M_grant 51 = .ok (.aload_n 0, 1) := by decide +kernel
theorem d_M_grant_52 : decode b_M_grant 52 = .ok (.getfield 56, 3) := by decide +kernel
theorem d_M_grant_55 : decode b_M_grant 55 = .ok (.iload_n 1, 1) := by decide +kernel
theorem d_M_grant_56 : decode b_M_grant 56 = .ok (.aload_n 0, 1) := by decide +kernel
theorem d_M_grant_57 : decode b_M_grant 57 = .ok (.getfield 56, 3) := by decide +kernel
theorem d_M_grant_60 : decode b_M_grant 60 = .ok (.iload_n 1, 1) := by decide +kernel
theorem d_M_grant_61 : decode b_M_grant 61 = .ok (.iaload, 1) := by decide +kernel
theorem d_M_grant_62 : decode b_M_grant 62 = .ok (.iconst 1, 1) := by decide +kernel
theorem d_M_grant_63 : decode b_M_grant 63 = .ok (.iload_n 2, 1) := by decide +kernel
theorem d_M_grant_64 : decode b_M_grant 64 = .ok (.ishl, 1) := by decide +kernel
theorem d_M_grant_65 : decode b_M_grant 65 = .ok (.ior, 1) := by decide +kernel
theorem d_M_grant_66 : decode b_M_grant 66 = .ok (.iastore, 1) := by decide +kernel
theorem d_M_grant_67 : decode b_M_grant 67 = .ok (.iconst 1, 1) := by decide +kernel
theorem d_M_grant_68 : decode b_M_grant 68 = .ok (.ireturn, 1) := by decide +kernel
theorem d_M_revoke_0 : decode b_M_revoke 0 = .ok (.aload_n 0, 1) := by decide +kernel
theorem d_M_revoke_1 : decode b_M_revoke 1 = .ok (.iconst 0, 1) := by decide +kernel
theorem d_M_revoke_2 : decode b_M_revoke 2 = .ok (.putfield 90, 3) := by decide +kernel
theorem d_M_revoke_5 : decode b_M_revoke 5 = .ok (.aload_n 0, 1) := by decide +kernel
theorem d_M_revoke_6 : decode b_M_revoke 6 = .ok (.iload_n 1, 1) := by decide +kernel
theorem d_M_revoke_7 : decode b_M_revoke 7 = .ok (.invokevirtual 133, 3) := by decide +kernel
theorem d_M_revoke_10 : decode b_M_revoke 10 = .ok (.ifCond .eq 25, 3) := by decide +kernel
theorem d_M_revoke_13 : decode b_M_revoke 13 = .ok (.iload_n 2, 1) := by decide +kernel
theorem d_M_revoke_14 : decode b_M_revoke 14 = .ok (.bipush 8, 2) := by decide +kernel
theorem d_M_revoke_16 : decode b_M_revoke 16 = .ok (.invokestatic 93, 3) := by decide +kernel
theorem d_M_revoke_19 : decode b_M_revoke 19 = .ok (.ifCond .eq 16, 3) := by decide +kernel
theorem d_M_revoke_22 : decode b_M_revoke 22 = .ok (.aload_n 0, 1) := by decide +kernel
theorem d_M_revoke_23 : decode b_M_revoke 23 = .ok (.getfield 56, 3) := by decide +kernel
theorem d_M_revoke_26 : decode b_M_revoke 26 = .ok (.iload_n 1, 1) := by decide +kernel
theorem d_M_revoke_27 : decode b_M_revoke 27 = .ok (.iaload, 1) := by decide +kernel
theorem d_M_revoke_28 : decode b_M_revoke 28 = .ok (.iload_n 2, 1) := by decide +kernel
theorem d_M_revoke_29 : decode b_M_revoke 29 = .ok (.ishr, 1) := by decide +kernel
theorem d_M_revoke_30 : decode b_M_revoke 30 = .ok (.iconst 1, 1) := by decide +kernel
theorem d_M_revoke_31 : decode b_M_revoke 31 = .ok (.iand, 1) := by decide +kernel
theorem d_M_revoke_32 : decode b_M_revoke 32 = .ok (.ifCond .ne 5, 3) := by decide +kernel
theorem d_M_revoke_35 : decode b_M_revoke 35 = .ok (.iconst 0, 1) := by decide +kernel
theorem d_M_revoke_36 : decode b_M_revoke 36 = .ok (.ireturn, 1) := by decide +kernel
theorem d_M_revoke_37 : decode b_M_revoke 37 = .ok (.aload_n 0, 1) := by decide +kernel
theorem d_M_revoke_38 : decode b_M_revoke 38 = .ok (.getfield 56, 3) := by decide +kernel
theorem d_M_revoke_41 : decode b_M_revoke 41 = .ok (.iload_n 1, 1) := by decide +kernel
theorem d_M_revoke_42 : decode b_M_revoke 42 = .ok (.aload_n 0, 1) := by decide +kernel
theorem d_M_revoke_43 : decode b_M_revoke 43 = .ok (.getfield 56, 3) := by decide +kernel
theorem d_M_revoke_46 : decode b_M_revoke 46 = .ok (.iload_n 1, 1) := by decide +kernel
theorem d_M_revoke_47 : decode b_M_revoke 47 = .ok (.iaload, 1) := by decide +kernel
theorem d_M_revoke_48 : decode b_M_revoke 48 = .ok (.iconst 1, 1) := by decide +kernel
theorem d_M_revoke_49 : decode b_M_revoke 49 = .ok (.iload_n 2, 1) := by decide +kernel
theorem d_M_revoke_50 : decode b_M_revoke 50 = .ok (.ishl, 1) := by decide +kernel
theorem d_M_revoke_51 : decode b_M_revoke 51 = .ok (.iconst (-1), 1) := by decide +kernel
theorem d_M_revoke_52 : decode b_M_revoke 52 = .ok (.ixor, 1) := by decide +kernel
theorem d_M_revoke_53 : decode b_M_revoke 53 = .ok (.iand, 1) := by decide +kernel
theorem d_M_revoke_54 : decode b_M_revoke 54 = .ok (.iastore, 1) := by decide +kernel
theorem d_M_revoke_55 : decode b_M_revoke 55 = .ok (.iconst 1, 1) := by decide +kernel
theorem d_M_revoke_56 : decode b_M_revoke 56 = .ok (.ireturn, 1) := by decide +kernel
theorem d_M_may_0 : decode b_M_may 0 = .ok (.aload_n 0, 1) := by decide +kernel
theorem d_M_may_1 : decode b_M_may 1 = .ok (.iload_n 1, 1) := by decide +kernel
theorem d_M_may_2 : decode b_M_may 2 = .ok (.invokevirtual 133, 3) := by decide +kernel
theorem d_M_may_5 : decode b_M_may 5 = .ok (.ifCond .eq 25, 3) := by decide +kernel
theorem d_M_may_8 : decode b_M_may 8 = .ok (.iload_n 2, 1) := by decide +kernel
theorem d_M_may_9 : decode b_M_may 9 = .ok (.bipush 8, 2) := by decide +kernel
theorem d_M_may_11 : decode b_M_may 11 = .ok (.invokestatic 93, 3) := by decide +kernel
theorem d_M_may_14 : decode b_M_may 14 = .ok (.ifCond .eq 16, 3) := by decide +kernel
theorem d_M_may_17 : decode b_M_may 17 = .ok (.aload_n 0, 1) := by decide +kernel
theorem d_M_may_18 : decode b_M_may 18 = .ok (.getfield 23, 3) := by decide +kernel
theorem d_M_may_21 : decode b_M_may 21 = .ok (.iload_n 1, 1) := by decide +kernel
theorem d_M_may_22 : decode b_M_may 22 = .ok (.iaload, 1) := by decide +kernel
theorem d_M_may_23 : decode b_M_may 23 = .ok (.iload_n 2, 1) := by decide +kernel
theorem d_M_may_24 : decode b_M_may 24 = .ok (.ishr, 1) := by decide +kernel
theorem d_M_may_25 : decode b_M_may 25 = .ok (.iconst 1, 1) := by decide +kernel
theorem d_M_may_26 : decode b_M_may 26 = .ok (.iand, 1) := by decide +kernel
theorem d_M_may_27 : decode b_M_may 27 = .ok (.ifCond .ne 5, 3) := by decide +kernel
theorem d_M_may_30 : decode b_M_may 30 = .ok (.iconst 0, 1) := by decide +kernel
theorem d_M_may_31 : decode b_M_may 31 = .ok (.ireturn, 1) := by decide +kernel
theorem d_M_may_32 : decode b_M_may 32 = .ok (.iconst 0, 1) := by decide +kernel
theorem d_M_may_33 : decode b_M_may 33 = .ok (.istore_n 3, 1) := by decide +kernel
theorem d_M_may_34 : decode b_M_may 34 = .ok (.iconst 0, 1) := by decide +kernel
theorem d_M_may_35 : decode b_M_may 35 = .ok (.istore 4, 2) := by decide +kernel
theorem d_M_may_37 : decode b_M_may 37 = .ok (.iload 4, 2) := by decide +kernel
theorem d_M_may_39 : decode b_M_may 39 = .ok (.bipush 8, 2) := by decide +kernel
theorem d_M_may_41 : decode b_M_may 41 = .ok (.if_icmp .ge 96, 3) := by decide +kernel
theorem d_M_may_44 : decode b_M_may 44 = .ok (.aload_n 0, 1) := by decide +kernel
theorem d_M_may_45 : decode b_M_may 45 = .ok (.getfield 7, 3) := by decide +kernel
theorem d_M_may_48 : decode b_M_may 48 = .ok (.iload 4, 2) := by decide +kernel
theorem d_M_may_50 : decode b_M_may 50 = .ok (.baload, 1) := by decide +kernel
theorem d_M_may_51 : decode b_M_may 51 = .ok (.ifCond .eq 20, 3) := by decide +kernel
theorem d_M_may_54 : decode b_M_may 54 = .ok (.aload_n 0, 1) := by decide +kernel
theorem d_M_may_55 : decode b_M_may 55 = .ok (.getfield 26, 3) := by decide +kernel
theorem d_M_may_58 : decode b_M_may 58 = .ok (.bipush 8, 2) := by decide +kernel
theorem d_M_may_60 : decode b_M_may 60 = .ok (.iload 4, 2) := by decide +kernel
theorem d_M_may_62 : decode b_M_may 62 = .ok (.imul, 1) := by decide +kernel
theorem d_M_may_63 : decode b_M_may 63 = .ok (.iload_n 2, 1) := by decide +kernel
theorem d_M_may_64 : decode b_M_may 64 = .ok (.iadd, 1) := by decide +kernel
theorem d_M_may_65 : decode b_M_may 65 = .ok (.iaload, 1) := by decide +kernel
theorem d_M_may_66 : decode b_M_may 66 = .ok (.iconst 1, 1) := by decide +kernel
theorem d_M_may_67 : decode b_M_may 67 = .ok (.isub, 1) := by decide +kernel
theorem d_M_may_68 : decode b_M_may 68 = .ok (.goto 4, 3) := by decide +kernel
theorem d_M_may_71 : decode b_M_may 71 = .ok (.iconst (-1), 1) := by decide +kernel
theorem d_M_may_72 : decode b_M_may 72 = .ok (.istore 5, 2) := by decide +kernel
theorem d_M_may_74 : decode b_M_may 74 = .ok (.iload_n 3, 1) := by decide +kernel
theorem d_M_may_75 : decode b_M_may 75 = .ok (.ifCond .ne 50, 3) := by decide +kernel
theorem d_M_may_78 : decode b_M_may 78 = .ok (.iload 5, 2) := by decide +kernel
theorem d_M_may_80 : decode b_M_may 80 = .ok (.ifCond .eq 45, 3) := by decide +kernel
theorem d_M_may_83 : decode b_M_may 83 = .ok (.iload 5, 2) := by decide +kernel
theorem d_M_may_85 : decode b_M_may 85 = .ok (.iconst 1, 1) := by decide +kernel
theorem d_M_may_86 : decode b_M_may 86 = .ok (.if_icmp .ne 17, 3) := by decide +kernel
theorem d_M_may_89 : decode b_M_may 89 = .ok (.aload_n 0, 1) := by decide +kernel
theorem d_M_may_90 : decode b_M_may 90 = .ok (.getfield 56, 3) := by decide +kernel
theorem d_M_may_93 : decode b_M_may 93 = .ok (.iload_n 1, 1) := by decide +kernel
theorem d_M_may_94 : decode b_M_may 94 = .ok (.iaload, 1) := by decide +kernel
theorem d_M_may_95 : decode b_M_may 95 = .ok (.iload_n 2, 1) := by decide +kernel
theorem d_M_may_96 : decode b_M_may 96 = .ok (.ishr, 1) := by decide +kernel
theorem d_M_may_97 : decode b_M_may 97 = .ok (.iconst 1, 1) := by decide +kernel
theorem d_M_may_98 : decode b_M_may 98 = .ok (.iand, 1) := by decide +kernel
theorem d_M_may_99 : decode b_M_may 99 = .ok (.iconst 1, 1) := by decide +kernel
theorem d_M_may_100 : decode b_M_may 100 = .ok (.if_icmp .eq 25, 3) := by decide +kernel
theorem d_M_may_103 : decode b_M_may 103 = .ok (.iload 5, 2) := by decide +kernel
theorem d_M_may_105 : decode b_M_may 105 = .ok (.iconst 2, 1) := by decide +kernel
theorem d_M_may_106 : decode b_M_may 106 = .ok (.if_icmp .ne 23, 3) := by decide +kernel
theorem d_M_may_109 : decode b_M_may 109 = .ok (.aload_n 0, 1) := by decide +kernel
theorem d_M_may_110 : decode b_M_may 110 = .ok (.getfield 17, 3) := by decide +kernel
theorem d_M_may_113 : decode b_M_may 113 = .ok (.iload 4, 2) := by decide +kernel
theorem d_M_may_115 : decode b_M_may 115 = .ok (.iaload, 1) := by decide +kernel
theorem d_M_may_116 : decode b_M_may 116 = .ok (.aload_n 0, 1) := by decide +kernel
theorem d_M_may_117 : decode b_M_may 117 = .ok (.getfield 17, 3) := by decide +kernel
theorem d_M_may_120 : decode b_M_may 120 = .ok (.iload_n 1, 1) := by decide +kernel
theorem d_M_may_121 : decode b_M_may 121 = .ok (.iaload, 1) := by decide +kernel
theorem d_M_may_122 : decode b_M_may 122 = .ok (.if_icmp .ne 7, 3) := by decide +kernel
theorem d_M_may_125 : decode b_M_may 125 = .ok (.iconst 1, 1) := by decide +kernel
theorem d_M_may_126 : decode b_M_may 126 = .ok (.goto 4, 3) := by decide +kernel
theorem d_M_may_129 : decode b_M_may 129 = .ok (.iconst 0, 1) := by decide +kernel
theorem d_M_may_130 : decode b_M_may 130 = .ok (.istore_n 3, 1) := by decide +kernel
theorem d_M_may_131 : decode b_M_may 131 = .ok (.iinc 4 1, 3) := by decide +kernel
theorem d_M_may_134 : decode b_M_may 134 = .ok (.goto (-97), 3) := by decide +kernel
theorem d_M_may_137 : decode b_M_may 137 = .ok (.iload_n 3, 1) := by decide +kernel
theorem d_M_may_138 : decode b_M_may 138 = .ok (.ireturn, 1) := by decide +kernel
theorem d_M_holds_0 : decode b_M_holds 0 = .ok (.aload_n 0, 1) := by decide +kernel
theorem d_M_holds_1 : decode b_M_holds 1 = .ok (.iconst 0, 1) := by decide +kernel
theorem d_M_holds_2 : decode b_M_holds 2 = .ok (.putfield 90, 3) := by decide +kernel
theorem d_M_holds_5 : decode b_M_holds 5 = .ok (.aload_n 0, 1) := by decide +kernel
theorem d_M_holds_6 : decode b_M_holds 6 = .ok (.iload_n 1, 1) := by decide +kernel
theorem d_M_holds_7 : decode b_M_holds 7 = .ok (.iload_n 2, 1) := by decide +kernel
theorem d_M_holds_8 : decode b_M_holds 8 = .ok (.invokevirtual 143, 3) := by decide +kernel
theorem d_M_holds_11 : decode b_M_holds 11 = .ok (.ireturn, 1) := by decide +kernel
theorem d_M_move_0 : decode b_M_move 0 = .ok (.aload_n 0, 1) := by decide +kernel
theorem d_M_move_1 : decode b_M_move 1 = .ok (.getfield 78, 3) := by decide +kernel
theorem d_M_move_4 : decode b_M_move 4 = .ok (.iload_n 2, 1) := by decide +kernel
theorem d_M_move_5 : decode b_M_move 5 = .ok (.aload_n 0, 1) := by decide +kernel
theorem d_M_move_6 : decode b_M_move 6 = .ok (.getfield 78, 3) := by decide +kernel
theorem d_M_move_9 : decode b_M_move 9 = .ok (.iload_n 1, 1) := by decide +kernel
theorem d_M_move_10 : decode b_M_move 10 = .ok (.iaload, 1) := by decide +kernel
theorem d_M_move_11 : decode b_M_move 11 = .ok (.iastore, 1) := by decide +kernel
theorem d_M_move_12 : decode b_M_move 12 = .ok (.aload_n 0, 1) := by decide +kernel
theorem d_M_move_13 : decode b_M_move 13 = .ok (.getfield 81, 3) := by decide +kernel
theorem d_M_move_16 : decode b_M_move 16 = .ok (.iload_n 2, 1) := by decide +kernel
theorem d_M_move_17 : decode b_M_move 17 = .ok (.aload_n 0, 1) := by decide +kernel
theorem d_M_move_18 : decode b_M_move 18 = .ok (.getfield 81, 3) := by decide +kernel
theorem d_M_move_21 : decode b_M_move 21 = .ok (.iload_n 1, 1) := by decide +kernel
theorem d_M_move_22 : decode b_M_move 22 = .ok (.iaload, 1) := by decide +kernel
theorem d_M_move_23 : decode b_M_move 23 = .ok (.iastore, 1) := by decide +kernel
theorem d_M_move_24 : decode b_M_move 24 = .ok (.aload_n 0, 1) := by decide +kernel
theorem d_M_move_25 : decode b_M_move 25 = .ok (.getfield 84, 3) := by decide +kernel
theorem d_M_move_28 : decode b_M_move 28 = .ok (.iload_n 2, 1) := by decide +kernel
theorem d_M_move_29 : decode b_M_move 29 = .ok (.aload_n 0, 1) := by decide +kernel
theorem d_M_move_30 : decode b_M_move 30 = .ok (.getfield 84, 3) := by decide +kernel
theorem d_M_move_33 : decode b_M_move 33 = .ok (.iload_n 1, 1) := by decide +kernel
theorem d_M_move_34 : decode b_M_move 34 = .ok (.iaload, 1) := by decide +kernel
theorem d_M_move_35 : decode b_M_move 35 = .ok (.iastore, 1) := by decide +kernel
theorem d_M_move_36 : decode b_M_move 36 = .ok (.return_, 1) := by decide +kernel
theorem d_M_post_0 : decode b_M_post 0 = .ok (.aload_n 0, 1) := by decide +kernel
theorem d_M_post_1 : decode b_M_post 1 = .ok (.getfield 136, 3) := by decide +kernel
theorem d_M_post_4 : decode b_M_post 4 = .ok (.bipush 8, 2) := by decide +kernel
theorem d_M_post_6 : decode b_M_post 6 = .ok (.if_icmp .ge 43, 3) := by decide +kernel
theorem d_M_post_9 : decode b_M_post 9 = .ok (.aload_n 0, 1) := by decide +kernel
theorem d_M_post_10 : decode b_M_post 10 = .ok (.getfield 78, 3) := by decide +kernel
theorem d_M_post_13 : decode b_M_post 13 = .ok (.aload_n 0, 1) := by decide +kernel
theorem d_M_post_14 : decode b_M_post 14 = .ok (.getfield 136, 3) := by decide +kernel
theorem d_M_post_17 : decode b_M_post 17 = .ok (.iload_n 1, 1) := by decide +kernel
theorem d_M_post_18 : decode b_M_post 18 = .ok (.iastore, 1) := by decide +kernel
theorem d_M_post_19 : decode b_M_post 19 = .ok (.aload_n 0, 1) := by decide +kernel
theorem d_M_post_20 : decode b_M_post 20 = .ok (.getfield 81, 3) := by decide +kernel
theorem d_M_post_23 : decode b_M_post 23 = .ok (.aload_n 0, 1) := by decide +kernel
theorem d_M_post_24 : decode b_M_post 24 = .ok (.getfield 136, 3) := by decide +kernel
theorem d_M_post_27 : decode b_M_post 27 = .ok (.iload_n 2, 1) := by decide +kernel
theorem d_M_post_28 : decode b_M_post 28 = .ok (.iastore, 1) := by decide +kernel
theorem d_M_post_29 : decode b_M_post 29 = .ok (.aload_n 0, 1) := by decide +kernel
theorem d_M_post_30 : decode b_M_post 30 = .ok (.getfield 84, 3) := by decide +kernel
theorem d_M_post_33 : decode b_M_post 33 = .ok (.aload_n 0, 1) := by decide +kernel
theorem d_M_post_34 : decode b_M_post 34 = .ok (.getfield 136, 3) := by decide +kernel
theorem d_M_post_37 : decode b_M_post 37 = .ok (.iload_n 3, 1) := by decide +kernel
theorem d_M_post_38 : decode b_M_post 38 = .ok (.iastore, 1) := by decide +kernel
theorem d_M_post_39 : decode b_M_post 39 = .ok (.aload_n 0, 1) := by decide +kernel
theorem d_M_post_40 : decode b_M_post 40 = .ok (.dup, 1) := by decide +kernel
theorem d_M_post_41 : decode b_M_post 41 = .ok (.getfield 136, 3) := by decide +kernel
theorem d_M_post_44 : decode b_M_post 44 = .ok (.iconst 1, 1) := by decide +kernel
theorem d_M_post_45 : decode b_M_post 45 = .ok (.iadd, 1) := by decide +kernel
theorem d_M_post_46 : decode b_M_post 46 = .ok (.putfield 136, 3) := by decide +kernel
theorem d_M_post_49 : decode b_M_post 49 = .ok (.return_, 1) := by decide +kernel
theorem d_M_send_0 : decode b_M_send 0 = .ok (.aload_n 0, 1) := by decide +kernel
theorem d_M_send_1 : decode b_M_send 1 = .ok (.iconst 0, 1) := by decide +kernel
theorem d_M_send_2 : decode b_M_send 2 = .ok (.putfield 90, 3) := by decide +kernel
theorem d_M_send_5 : decode b_M_send 5 = .ok (.aload_n 0, 1) := by decide +kernel
theorem d_M_send_6 : decode b_M_send 6 = .ok (.iload_n 1, 1) := by decide +kernel
theorem d_M_send_7 : decode b_M_send 7 = .ok (.invokevirtual 133, 3) := by decide +kernel
theorem d_M_send_10 : decode b_M_send 10 = .ok (.ifCond .eq 21, 3) := by decide +kernel
theorem d_M_send_13 : decode b_M_send 13 = .ok (.iload_n 2, 1) := by decide +kernel
theorem d_M_send_14 : decode b_M_send 14 = .ok (.bipush 10, 2) := by decide +kernel
theorem d_M_send_16 : decode b_M_send 16 = .ok (.invokestatic 93, 3) := by decide +kernel
theorem d_M_send_19 : decode b_M_send 19 = .ok (.ifCond .eq 12, 3) := by decide +kernel
theorem d_M_send_22 : decode b_M_send 22 = .ok (.aload_n 0, 1) := by decide +kernel
theorem d_M_send_23 : decode b_M_send 23 = .ok (.getfield 136, 3) := by decide +kernel
theorem d_M_send_26 : decode b_M_send 26 = .ok (.bipush 8, 2) := by decide +kernel
theorem d_M_send_28 : decode b_M_send 28 = .ok (.if_icmp .ne 5, 3) := by decide +kernel
theorem d_M_send_31 : decode b_M_send 31 = .ok (.iconst 0, 1) := by decide +kernel
theorem d_M_send_32 : decode b_M_send 32 = .ok (.ireturn, 1) := by decide +kernel
theorem d_M_send_33 : decode b_M_send 33 = .ok (.aload_n 0, 1) := by decide +kernel
theorem d_M_send_34 : decode b_M_send 34 = .ok (.iload_n 1, 1) := by decide +kernel
theorem d_M_send_35 : decode b_M_send 35 = .ok (.iload_n 2, 1) := by decide +kernel
theorem d_M_send_36 : decode b_M_send 36 = .ok (.iload_n 3, 1) := by decide +kernel
theorem d_M_send_37 : decode b_M_send 37 = .ok (.invokevirtual 146, 3) := by decide +kernel
theorem d_M_send_40 : decode b_M_send 40 = .ok (.iconst 1, 1) := by decide +kernel
theorem d_M_send_41 : decode b_M_send 41 = .ok (.ireturn, 1) := by decide +kernel
theorem d_M_takes_0 : decode b_M_takes 0 = .ok (.iconst 4, 1) := by decide +kernel
theorem d_M_takes_1 : decode b_M_takes 1 = .ok (.iload_n 1, 1) := by decide +kernel
theorem d_M_takes_2 : decode b_M_takes 2 = .ok (.imul, 1) := by decide +kernel
theorem d_M_takes_3 : decode b_M_takes 3 = .ok (.iload_n 2, 1) := by decide +kernel
theorem d_M_takes_4 : decode b_M_takes 4 = .ok (.iadd, 1) := by decide +kernel
theorem d_M_takes_5 : decode b_M_takes 5 = .ok (.istore 5, 2) := by decide +kernel
theorem d_M_takes_7 : decode b_M_takes 7 = .ok (.iload_n 2, 1) := by decide +kernel
theorem d_M_takes_8 : decode b_M_takes 8 = .ok (.aload_n 0, 1) := by decide +kernel
theorem d_M_takes_9 : decode b_M_takes 9 = .ok (.getfield 29, 3) := by decide +kernel
theorem d_M_takes_12 : decode b_M_takes 12 = .ok (.iload_n 1, 1) := by decide +kernel
theorem d_M_takes_13 : decode b_M_takes 13 = .ok (.iaload, 1) := by decide +kernel
theorem d_M_takes_14 : decode b_M_takes 14 = .ok (.if_icmp .ge 59, 3) := by decide +kernel
theorem d_M_takes_17 : decode b_M_takes 17 = .ok (.aload_n 0, 1) := by decide +kernel
theorem d_M_takes_18 : decode b_M_takes 18 = .ok (.getfield 32, 3) := by decide +kernel
theorem d_M_takes_21 : decode b_M_takes 21 = .ok (.iload 5, 2) := by decide +kernel
theorem d_M_takes_23 : decode b_M_takes 23 = .ok (.iaload, 1) := by decide +kernel
theorem d_M_takes_24 : decode b_M_takes 24 = .ok (.iload 4, 2) := by decide +kernel
theorem d_M_takes_26 : decode b_M_takes 26 = .ok (.if_icmp .ne 47, 3) := by decide +kernel
theorem d_M_takes_29 : decode b_M_takes 29 = .ok (.aload_n 0, 1) := by decide +kernel
theorem d_M_takes_30 : decode b_M_takes 30 = .ok (.getfield 35, 3) := by decide +kernel
theorem d_M_takes_33 : decode b_M_takes 33 = .ok (.iload 5, 2) := by decide +kernel
theorem d_M_takes_35 : decode b_M_takes 35 = .ok (.baload, 1) := by decide +kernel
theorem d_M_takes_36 : decode b_M_takes 36 = .ok (.ifCond .ne 8, 3) := by decide +kernel
theorem d_M_takes_39 : decode b_M_takes 39 = .ok (.iload_n 1, 1) := by decide +kernel
theorem d_M_takes_40 : decode b_M_takes 40 = .ok (.iload_n 3, 1) := by decide +kernel
theorem d_M_takes_41 : decode b_M_takes 41 = .ok (.if_icmp .ne 32, 3) := by decide +kernel
theorem d_M_takes_44 : decode b_M_takes 44 = .ok (.aload_n 0, 1) := by decide +kernel
theorem d_M_takes_45 : decode b_M_takes 45 = .ok (.getfield 38, 3) := by decide +kernel
theorem d_M_takes_48 : decode b_M_takes 48 = .ok (.iload 5, 2) := by decide +kernel
theorem d_M_takes_50 : decode b_M_takes 50 = .ok (.iaload, 1) := by decide +kernel
theorem d_M_takes_51 : decode b_M_takes 51 = .ok (.ifCond .lt 18, 3) := by decide +kernel
theorem d_M_takes_54 : decode b_M_takes 54 = .ok (.aload_n 0, 1) := by decide +kernel
theorem d_M_takes_55 : decode b_M_takes 55 = .ok (.iload_n 3, 1) := by decide +kernel
theorem d_M_takes_56 : decode b_M_takes 56 = .ok (.aload_n 0, 1) := by decide +kernel
theorem d_M_takes_57 : decode b_M_takes 57 = .ok (.getfield 38, 3) := by decide +kernel
theorem d_M_takes_60 : decode b_M_takes 60 = .ok (.iload 5, 2) := by decide +kernel
theorem d_M_takes_62 : decode b_M_takes 62 = .ok (.iaload, 1) := by decide +kernel
theorem d_M_takes_63 : decode b_M_takes 63 = .ok (.invokevirtual 143, 3) := by decide +kernel
theorem d_M_takes_66 : decode b_M_takes 66 = .ok (.ifCond .eq 7, 3) := by decide +kernel
theorem d_M_takes_69 : decode b_M_takes 69 = .ok (.iconst 1, 1) := by decide +kernel
theorem d_M_takes_70 : decode b_M_takes 70 = .ok (.goto 4, 3) := by decide +kernel
theorem d_M_takes_73 : decode b_M_takes 73 = .ok (.iconst 0, 1) := by decide +kernel
theorem d_M_takes_74 : decode b_M_takes 74 = .ok (.ireturn, 1) := by decide +kernel
theorem d_M_deliver_0 : decode b_M_deliver 0 = .ok (.aload_n 0, 1) := by decide +kernel
theorem d_M_deliver_1 : decode b_M_deliver 1 = .ok (.iconst 0, 1) := by decide +kernel
theorem d_M_deliver_2 : decode b_M_deliver 2 = .ok (.putfield 90, 3) := by decide +kernel
theorem d_M_deliver_5 : decode b_M_deliver 5 = .ok (.aload_n 0, 1) := by decide +kernel
theorem d_M_deliver_6 : decode b_M_deliver 6 = .ok (.getfield 136, 3) := by decide +kernel
theorem d_M_deliver_9 : decode b_M_deliver 9 = .ok (.ifCond .ne 5, 3) := by decide +kernel
theorem d_M_deliver_12 : decode b_M_deliver 12 = .ok (.iconst (-1), 1) := by decide +kernel
theorem d_M_deliver_13 : decode b_M_deliver 13 = .ok (.ireturn, 1) := by decide +kernel
theorem d_M_deliver_14 : decode b_M_deliver 14 = .ok (.aload_n 0, 1) := by decide +kernel
theorem d_M_deliver_15 : decode b_M_deliver 15 = .ok (.getfield 78, 3) := by decide +kernel
theorem d_M_deliver_18 : decode b_M_deliver 18 = .ok (.iconst 0, 1) := by decide +kernel
theorem d_M_deliver_19 : decode b_M_deliver 19 = .ok (.iaload, 1) := by decide +kernel
theorem d_M_deliver_20 : decode b_M_deliver 20 = .ok (.istore_n 1, 1) := by decide +kernel
theorem d_M_deliver_21 : decode b_M_deliver 21 = .ok (.aload_n 0, 1) := by decide +kernel
theorem d_M_deliver_22 : decode b_M_deliver 22 = .ok (.getfield 81, 3) := by decide +kernel
theorem d_M_deliver_25 : decode b_M_deliver 25 = .ok (.iconst 0, 1) := by decide +kernel
theorem d_M_deliver_26 : decode b_M_deliver 26 = .ok (.iaload, 1) := by decide +kernel
theorem d_M_deliver_27 : decode b_M_deliver 27 = .ok (.istore_n 2, 1) := by decide +kernel
theorem d_M_deliver_28 : decode b_M_deliver 28 = .ok (.aload_n 0, 1) := by decide +kernel
theorem d_M_deliver_29 : decode b_M_deliver 29 = .ok (.getfield 84, 3) := by decide +kernel
theorem d_M_deliver_32 : decode b_M_deliver 32 = .ok (.iconst 0, 1) := by decide +kernel
theorem d_M_deliver_33 : decode b_M_deliver 33 = .ok (.iaload, 1) := by decide +kernel
theorem d_M_deliver_34 : decode b_M_deliver 34 = .ok (.istore_n 3, 1) := by decide +kernel
theorem d_M_deliver_35 : decode b_M_deliver 35 = .ok (.aload_n 0, 1) := by decide +kernel
theorem d_M_deliver_36 : decode b_M_deliver 36 = .ok (.dup, 1) := by decide +kernel
theorem d_M_deliver_37 : decode b_M_deliver 37 = .ok (.getfield 136, 3) := by decide +kernel
theorem d_M_deliver_40 : decode b_M_deliver 40 = .ok (.iconst 1, 1) := by decide +kernel
theorem d_M_deliver_41 : decode b_M_deliver 41 = .ok (.isub, 1) := by decide +kernel
theorem d_M_deliver_42 : decode b_M_deliver 42 = .ok (.putfield 136, 3) := by decide +kernel
theorem d_M_deliver_45 : decode b_M_deliver 45 = .ok (.iconst 0, 1) := by decide +kernel
theorem d_M_deliver_46 : decode b_M_deliver 46 = .ok (.istore 4, 2) := by decide +kernel
theorem d_M_deliver_48 : decode b_M_deliver 48 = .ok (.iload 4, 2) := by decide +kernel
theorem d_M_deliver_50 : decode b_M_deliver 50 = .ok (.aload_n 0, 1) := by decide +kernel
theorem d_M_deliver_51 : decode b_M_deliver 51 = .ok (.getfield 136, 3) := by decide +kernel
theorem d_M_deliver_54 : decode b_M_deliver 54 = .ok (.if_icmp .ge 19, 3) := by decide +kernel
theorem d_M_deliver_57 : decode b_M_deliver 57 = .ok (.aload_n 0, 1) := by decide +kernel
theorem d_M_deliver_58 : decode b_M_deliver 58 = .ok (.iload 4, 2) := by decide +kernel
theorem d_M_deliver_60 : decode b_M_deliver 60 = .ok (.iconst 1, 1) := by decide +kernel
theorem d_M_deliver_61 : decode b_M_deliver 61 = .ok (.iadd, 1) := by decide +kernel
theorem d_M_deliver_62 : decode b_M_deliver 62 = .ok (.iload 4, 2) := by decide +kernel
theorem d_M_deliver_64 : decode b_M_deliver 64 = .ok (.invokevirtual 139, 3) := by decide +kernel
theorem d_M_deliver_67 : decode b_M_deliver 67 = .ok (.iinc 4 1, 3) := by decide +kernel
theorem d_M_deliver_70 : decode b_M_deliver 70 = .ok (.goto (-22), 3) := by decide +kernel
theorem d_M_deliver_73 : decode b_M_deliver 73 = .ok (.iconst 0, 1) := by decide +kernel
theorem d_M_deliver_74 : decode b_M_deliver 74 = .ok (.istore 4, 2) := by decide +kernel
theorem d_M_deliver_76 : decode b_M_deliver 76 = .ok (.iload 4, 2) := by decide +kernel
theorem d_M_deliver_78 : decode b_M_deliver 78 = .ok (.bipush 8, 2) := by decide +kernel
theorem d_M_deliver_80 : decode b_M_deliver 80 = .ok (.if_icmp .ge 141, 3) := by decide +kernel
theorem d_M_deliver_83 : decode b_M_deliver 83 = .ok (.iconst 0, 1) := by decide +kernel
theorem d_M_deliver_84 : decode b_M_deliver 84 = .ok (.istore 5, 2) := by decide +kernel
theorem d_M_deliver_86 : decode b_M_deliver 86 = .ok (.iload 5, 2) := by decide +kernel
theorem d_M_deliver_88 : decode b_M_deliver 88 = .ok (.iconst 4, 1) := by decide +kernel
theorem d_M_deliver_89 : decode b_M_deliver 89 = .ok (.if_icmp .ge 126, 3) := by decide +kernel
theorem d_M_deliver_92 : decode b_M_deliver 92 = .ok (.aload_n 0, 1) := by decide +kernel
theorem d_M_deliver_93 : decode b_M_deliver 93 = .ok (.getfield 7, 3) := by decide +kernel
theorem d_M_deliver_96 : decode b_M_deliver 96 = .ok (.iload 4, 2) := by decide +kernel
theorem d_M_deliver_98 : decode b_M_deliver 98 = .ok (.baload, 1) := by decide +kernel
theorem d_M_deliver_99 : decode b_M_deliver 99 = .ok (.ifCond .eq 110, 3) := by decide +kernel
theorem d_M_deliver_102 : decode b_M_deliver 102 = .ok (.aload_n 0, 1) := by decide +kernel
theorem d_M_deliver_103 : decode b_M_deliver 103 = .ok (.getfield 59, 3) := by decide +kernel
theorem d_M_deliver_106 : decode b_M_deliver 106 = .ok (.iload 4, 2) := by decide +kernel
theorem d_M_deliver_108 : decode b_M_deliver 108 = .ok (.baload, 1) := by decide +kernel
theorem d_M_deliver_109 : decode b_M_deliver 109 = .ok (.ifCond .ne 100, 3) := by decide +kernel
theorem d_M_deliver_112 : decode b_M_deliver 112 = .ok (.aload_n 0, 1) := by decide +kernel
theorem d_M_deliver_113 : decode b_M_deliver 113 = .ok (.iload 4, 2) := by decide +kernel
theorem d_M_deliver_115 : decode b_M_deliver 115 = .ok (.iload 5, 2) := by decide +kernel
theorem d_M_deliver_117 : decode b_M_deliver 117 = .ok (.iload_n 1, 1) := by decide +kernel
theorem d_M_deliver_118 : decode b_M_deliver 118 = .ok (.iload_n 2, 1) := by decide +kernel
theorem d_M_deliver_119 : decode b_M_deliver 119 = .ok (.invokevirtual 150, 3) := by decide +kernel
theorem d_M_deliver_122 : decode b_M_deliver 122 = .ok (.ifCond .eq 87, 3) := by decide +kernel
theorem d_M_deliver_125 : decode b_M_deliver 125 = .ok (.aload_n 0, 1) := by decide +kernel
theorem d_M_deliver_126 : decode b_M_deliver 126 = .ok (.getfield 59, 3) := by decide +kernel
theorem d_M_deliver_129 : decode b_M_deliver 129 = .ok (.iload 4, 2) := by decide +kernel
theorem d_M_deliver_131 : decode b_M_deliver 131 = .ok (.iconst 1, 1) := by decide +kernel
theorem d_M_deliver_132 : decode b_M_deliver 132 = .ok (.bastore, 1) := by decide +kernel
theorem d_M_deliver_133 : decode b_M_deliver 133 = .ok (.aload_n 0, 1) := by decide +kernel
theorem d_M_deliver_134 : decode b_M_deliver 134 = .ok (.getfield 62, 3) := by decide +kernel
theorem d_M_deliver_137 : decode b_M_deliver 137 = .ok (.iload 4, 2) := by decide +kernel
theorem d_M_deliver_139 : decode b_M_deliver 139 = .ok (.aload_n 0, 1) := by decide +kernel
theorem d_M_deliver_140 : decode b_M_deliver 140 = .ok (.getfield 41, 3) := by decide +kernel
theorem d_M_deliver_143 : decode b_M_deliver 143 = .ok (.iconst 4, 1) := by decide +kernel
theorem d_M_deliver_144 : decode b_M_deliver 144 = .ok (.iload 4, 2) := by decide +kernel
theorem d_M_deliver_146 : decode b_M_deliver 146 = .ok (.imul, 1) := by decide +kernel
theorem d_M_deliver_147 : decode b_M_deliver 147 = .ok (.iload 5, 2) := by decide +kernel
theorem d_M_deliver_149 : decode b_M_deliver 149 = .ok (.iadd, 1) := by decide +kernel
theorem d_M_deliver_150 : decode b_M_deliver 150 = .ok (.iaload, 1) := by decide +kernel
theorem d_M_deliver_151 : decode b_M_deliver 151 = .ok (.iastore, 1) := by decide +kernel
theorem d_M_deliver_152 : decode b_M_deliver 152 = .ok (.aload_n 0, 1) := by decide +kernel
theorem d_M_deliver_153 : decode b_M_deliver 153 = .ok (.getfield 65, 3) := by decide +kernel
theorem d_M_deliver_156 : decode b_M_deliver 156 = .ok (.iload 4, 2) := by decide +kernel
theorem d_M_deliver_158 : decode b_M_deliver 158 = .ok (.iconst 0, 1) := by decide +kernel
theorem d_M_deliver_159 : decode b_M_deliver 159 = .ok (.iastore, 1) := by decide +kernel
theorem d_M_deliver_160 : decode b_M_deliver 160 = .ok (.aload_n 0, 1) := by decide +kernel
theorem d_M_deliver_161 : decode b_M_deliver 161 = .ok (.getfield 71, 3) := by decide +kernel
theorem d_M_deliver_164 : decode b_M_deliver 164 = .ok (.iconst 4, 1) := by decide +kernel
theorem d_M_deliver_165 : decode b_M_deliver 165 = .ok (.iload 4, 2) := by decide +kernel
theorem d_M_deliver_167 : decode b_M_deliver 167 = .ok (.imul, 1) := by decide +kernel
theorem d_M_deliver_168 : decode b_M_deliver 168 = .ok (.iload_n 3, 1) := by decide +kernel
theorem d_M_deliver_169 : decode b_M_deliver 169 = .ok (.iastore, 1) := by decide +kernel
theorem d_M_deliver_170 : decode b_M_deliver 170 = .ok (.aload_n 0, 1) := by decide +kernel
theorem d_M_deliver_171 : decode b_M_deliver 171 = .ok (.getfield 71, 3) := by decide +kernel
theorem d_M_deliver_174 : decode b_M_deliver 174 = .ok (.iconst 4, 1) := by decide +kernel
theorem d_M_deliver_175 : decode b_M_deliver 175 = .ok (.iload 4, 2) := by decide +kernel
theorem d_M_deliver_177 : decode b_M_deliver 177 = .ok (.imul, 1) := by decide +kernel
theorem d_M_deliver_178 : decode b_M_deliver 178 = .ok (.iconst 1, 1) := by decide +kernel
theorem d_M_deliver_179 : decode b_M_deliver 179 = .ok (.iadd, 1) := by decide +kernel
theorem d_M_deliver_180 : decode b_M_deliver 180 = .ok (.iload_n 1, 1) := by decide +kernel
theorem d_M_deliver_181 : decode b_M_deliver 181 = .ok (.iastore, 1) := by decide +kernel
theorem d_M_deliver_182 : decode b_M_deliver 182 = .ok (.aload_n 0, 1) := by decide +kernel
theorem d_M_deliver_183 : decode b_M_deliver 183 = .ok (.getfield 71, 3) := by decide +kernel
theorem d_M_deliver_186 : decode b_M_deliver 186 = .ok (.iconst 4, 1) := by decide +kernel
theorem d_M_deliver_187 : decode b_M_deliver 187 = .ok (.iload 4, 2) := by decide +kernel
theorem d_M_deliver_189 : decode b_M_deliver 189 = .ok (.imul, 1) := by decide +kernel
theorem d_M_deliver_190 : decode b_M_deliver 190 = .ok (.iconst 2, 1) := by decide +kernel
theorem d_M_deliver_191 : decode b_M_deliver 191 = .ok (.iadd, 1) := by decide +kernel
theorem d_M_deliver_192 : decode b_M_deliver 192 = .ok (.iconst 0, 1) := by decide +kernel
theorem d_M_deliver_193 : decode b_M_deliver 193 = .ok (.iastore, 1) := by decide +kernel
theorem d_M_deliver_194 : decode b_M_deliver 194 = .ok (.aload_n 0, 1) := by decide +kernel
theorem d_M_deliver_195 : decode b_M_deliver 195 = .ok (.getfield 71, 3) := by decide +kernel
theorem d_M_deliver_198 : decode b_M_deliver 198 = .ok (.iconst 4, 1) := by decide +kernel
theorem d_M_deliver_199 : decode b_M_deliver 199 = .ok (.iload 4, 2) := by decide +kernel
theorem d_M_deliver_201 : decode b_M_deliver 201 = .ok (.imul, 1) := by decide +kernel
theorem d_M_deliver_202 : decode b_M_deliver 202 = .ok (.iconst 3, 1) := by decide +kernel
theorem d_M_deliver_203 : decode b_M_deliver 203 = .ok (.iadd, 1) := by decide +kernel
theorem d_M_deliver_204 : decode b_M_deliver 204 = .ok (.iconst 0, 1) := by decide +kernel
theorem d_M_deliver_205 : decode b_M_deliver 205 = .ok (.iastore, 1) := by decide +kernel
theorem d_M_deliver_206 : decode b_M_deliver 206 = .ok (.iload 4, 2) := by decide +kernel
theorem d_M_deliver_208 : decode b_M_deliver 208 = .ok (.ireturn, 1) := by decide +kernel
theorem d_M_deliver_209 : decode b_M_deliver 209 = .ok (.iinc 5 1, 3) := by decide +kernel
theorem d_M_deliver_212 : decode b_M_deliver 212 = .ok (.goto (-126), 3) := by decide +kernel
theorem d_M_deliver_215 : decode b_M_deliver 215 = .ok (.iinc 4 1, 3) := by decide +kernel
theorem d_M_deliver_218 : decode b_M_deliver 218 = .ok (.goto (-142), 3) := by decide +kernel
theorem d_M_deliver_221 : decode b_M_deliver 221 = .ok (.iconst (-1), 1) := by decide +kernel
theorem d_M_deliver_222 : decode b_M_deliver 222 = .ok (.ireturn, 1) := by decide +kernel
theorem d_M_top_0 : decode b_M_top 0 = .ok (.aload_n 0, 1) := by decide +kernel
theorem d_M_top_1 : decode b_M_top 1 = .ok (.getfield 68, 3) := by decide +kernel
theorem d_M_top_4 : decode b_M_top 4 = .ok (.bipush 6, 2) := by decide +kernel
theorem d_M_top_6 : decode b_M_top 6 = .ok (.iload_n 1, 1) := by decide +kernel
theorem d_M_top_7 : decode b_M_top 7 = .ok (.imul, 1) := by decide +kernel
theorem d_M_top_8 : decode b_M_top 8 = .ok (.aload_n 0, 1) := by decide +kernel
theorem d_M_top_9 : decode b_M_top 9 = .ok (.getfield 65, 3) := by decide +kernel
theorem d_M_top_12 : decode b_M_top 12 = .ok (.iload_n 1, 1) := by decide +kernel
theorem d_M_top_13 : decode b_M_top 13 = .ok (.iaload, 1) := by decide +kernel
theorem d_M_top_14 : decode b_M_top 14 = .ok (.iadd, 1) := by decide +kernel
theorem d_M_top_15 : decode b_M_top 15 = .ok (.iconst 1, 1) := by decide +kernel
theorem d_M_top_16 : decode b_M_top 16 = .ok (.isub, 1) := by decide +kernel
theorem d_M_top_17 : decode b_M_top 17 = .ok (.iload_n 2, 1) := by decide +kernel
theorem d_M_top_18 : decode b_M_top 18 = .ok (.isub, 1) := by decide +kernel
theorem d_M_top_19 : decode b_M_top 19 = .ok (.iaload, 1) := by decide +kernel
theorem d_M_top_20 : decode b_M_top 20 = .ok (.ireturn, 1) := by decide +kernel
theorem d_M_push_0 : decode b_M_push 0 = .ok (.aload_n 0, 1) := by decide +kernel
theorem d_M_push_1 : decode b_M_push 1 = .ok (.getfield 68, 3) := by decide +kernel
theorem d_M_push_4 : decode b_M_push 4 = .ok (.bipush 6, 2) := by decide +kernel
theorem d_M_push_6 : decode b_M_push 6 = .ok (.iload_n 1, 1) := by decide +kernel
theorem d_M_push_7 : decode b_M_push 7 = .ok (.imul, 1) := by decide +kernel
theorem d_M_push_8 : decode b_M_push 8 = .ok (.aload_n 0, 1) := by decide +kernel
theorem d_M_push_9 : decode b_M_push 9 = .ok (.getfield 65, 3) := by decide +kernel
theorem d_M_push_12 : decode b_M_push 12 = .ok (.iload_n 1, 1) := by decide +kernel
theorem d_M_push_13 : decode b_M_push 13 = .ok (.iaload, 1) := by decide +kernel
theorem d_M_push_14 : decode b_M_push 14 = .ok (.iadd, 1) := by decide +kernel
theorem d_M_push_15 : decode b_M_push 15 = .ok (.iload_n 2, 1) := by decide +kernel
theorem d_M_push_16 : decode b_M_push 16 = .ok (.iastore, 1) := by decide +kernel
theorem d_M_push_17 : decode b_M_push 17 = .ok (.aload_n 0, 1) := by decide +kernel
theorem d_M_push_18 : decode b_M_push 18 = .ok (.getfield 65, 3) := by decide +kernel
theorem d_M_push_21 : decode b_M_push 21 = .ok (.iload_n 1, 1) := by decide +kernel
theorem d_M_push_22 : decode b_M_push 22 = .ok (.dup2, 1) := by decide +kernel
theorem d_M_push_23 : decode b_M_push 23 = .ok (.iaload, 1) := by decide +kernel
theorem d_M_push_24 : decode b_M_push 24 = .ok (.iconst 1, 1) := by decide +kernel
theorem d_M_push_25 : decode b_M_push 25 = .ok (.iadd, 1) := by decide +kernel
theorem d_M_push_26 : decode b_M_push 26 = .ok (.iastore, 1) := by decide +kernel
theorem d_M_push_27 : decode b_M_push 27 = .ok (.return_, 1) := by decide +kernel
theorem d_M_keys_0 : decode b_M_keys 0 = .ok (.iconst 0, 1) := by decide +kernel
theorem d_M_keys_1 : decode b_M_keys 1 = .ok (.istore_n 2, 1) := by decide +kernel
theorem d_M_keys_2 : decode b_M_keys 2 = .ok (.iconst 0, 1) := by decide +kernel
theorem d_M_keys_3 : decode b_M_keys 3 = .ok (.istore_n 3, 1) := by decide +kernel
theorem d_M_keys_4 : decode b_M_keys 4 = .ok (.iload_n 3, 1) := by decide +kernel
theorem d_M_keys_5 : decode b_M_keys 5 = .ok (.bipush 8, 2) := by decide +kernel
theorem d_M_keys_7 : decode b_M_keys 7 = .ok (.if_icmp .ge 31, 3) := by decide +kernel
theorem d_M_keys_10 : decode b_M_keys 10 = .ok (.aload_n 0, 1) := by decide +kernel
theorem d_M_keys_11 : decode b_M_keys 11 = .ok (.getfield 50, 3) := by decide +kernel
theorem d_M_keys_14 : decode b_M_keys 14 = .ok (.bipush 8, 2) := by decide +kernel
theorem d_M_keys_16 : decode b_M_keys 16 = .ok (.iload_n 1, 1) := by decide +kernel
theorem d_M_keys_17 : decode b_M_keys 17 = .ok (.imul, 1) := by decide +kernel
theorem d_M_keys_18 : decode b_M_keys 18 = .ok (.iload_n 3, 1) := by decide +kernel
theorem d_M_keys_19 : decode b_M_keys 19 = .ok (.iadd, 1) := by decide +kernel
theorem d_M_keys_20 : decode b_M_keys 20 = .ok (.baload, 1) := by decide +kernel
theorem d_M_keys_21 : decode b_M_keys 21 = .ok (.ifCond .eq 9, 3) := by decide +kernel
theorem d_M_keys_24 : decode b_M_keys 24 = .ok (.iload_n 2, 1) := by decide +kernel
theorem d_M_keys_25 : decode b_M_keys 25 = .ok (.iconst 1, 1) := by decide +kernel
theorem d_M_keys_26 : decode b_M_keys 26 = .ok (.iadd, 1) := by decide +kernel
theorem d_M_keys_27 : decode b_M_keys 27 = .ok (.goto 4, 3) := by decide +kernel
theorem d_M_keys_30 : decode b_M_keys 30 = .ok (.iload_n 2, 1) := by decide +kernel
theorem d_M_keys_31 : decode b_M_keys 31 = .ok (.istore_n 2, 1) := by decide +kernel
theorem d_M_keys_32 : decode b_M_keys 32 = .ok (.iinc 3 1, 3) := by decide +kernel
theorem d_M_keys_35 : decode b_M_keys 35 = .ok (.goto (-31), 3) := by decide +kernel
theorem d_M_keys_38 : decode b_M_keys 38 = .ok (.iload_n 2, 1) := by decide +kernel
theorem d_M_keys_39 : decode b_M_keys 39 = .ok (.ireturn, 1) := by decide +kernel
theorem d_M_fails_0 : decode b_M_fails 0 = .ok (.iload_n 2, 1) := by decide +kernel
theorem d_M_fails_1 : decode b_M_fails 1 = .ok (.bipush 10, 2) := by decide +kernel
theorem d_M_fails_3 : decode b_M_fails 3 = .ok (.if_icmp .ne 23, 3) := by decide +kernel
theorem d_M_fails_6 : decode b_M_fails 6 = .ok (.aload_n 0, 1) := by decide +kernel
theorem d_M_fails_7 : decode b_M_fails 7 = .ok (.iload_n 1, 1) := by decide +kernel
theorem d_M_fails_8 : decode b_M_fails 8 = .ok (.iconst 0, 1) := by decide +kernel
theorem d_M_fails_9 : decode b_M_fails 9 = .ok (.invokevirtual 154, 3) := by decide +kernel
theorem d_M_fails_12 : decode b_M_fails 12 = .ok (.bipush 8, 2) := by decide +kernel
theorem d_M_fails_14 : decode b_M_fails 14 = .ok (.invokestatic 93, 3) := by decide +kernel
theorem d_M_fails_17 : decode b_M_fails 17 = .ok (.ifCond .ne 7, 3) := by decide +kernel
theorem d_M_fails_20 : decode b_M_fails 20 = .ok (.iconst 1, 1) := by decide +kernel
theorem d_M_fails_21 : decode b_M_fails 21 = .ok (.goto 4, 3) := by decide +kernel
theorem d_M_fails_24 : decode b_M_fails 24 = .ok (.iconst 0, 1) := by decide +kernel
theorem d_M_fails_25 : decode b_M_fails 25 = .ok (.ireturn, 1) := by decide +kernel
theorem d_M_fails_26 : decode b_M_fails 26 = .ok (.iload_n 2, 1) := by decide +kernel
theorem d_M_fails_27 : decode b_M_fails 27 = .ok (.bipush 11, 2) := by decide +kernel
theorem d_M_fails_29 : decode b_M_fails 29 = .ok (.if_icmp .ne 48, 3) := by decide +kernel
theorem d_M_fails_32 : decode b_M_fails 32 = .ok (.aload_n 0, 1) := by decide +kernel
theorem d_M_fails_33 : decode b_M_fails 33 = .ok (.iload_n 1, 1) := by decide +kernel
theorem d_M_fails_34 : decode b_M_fails 34 = .ok (.iconst 1, 1) := by decide +kernel
theorem d_M_fails_35 : decode b_M_fails 35 = .ok (.invokevirtual 154, 3) := by decide +kernel
theorem d_M_fails_38 : decode b_M_fails 38 = .ok (.istore_n 3, 1) := by decide +kernel
theorem d_M_fails_39 : decode b_M_fails 39 = .ok (.iload_n 3, 1) := by decide +kernel
theorem d_M_fails_40 : decode b_M_fails 40 = .ok (.bipush 8, 2) := by decide +kernel
theorem d_M_fails_42 : decode b_M_fails 42 = .ok (.invokestatic 93, 3) := by decide +kernel
theorem d_M_fails_45 : decode b_M_fails 45 = .ok (.ifCond .eq 26, 3) := by decide +kernel
theorem d_M_fails_48 : decode b_M_fails 48 = .ok (.aload_n 0, 1) := by decide +kernel
theorem d_M_fails_49 : decode b_M_fails 49 = .ok (.getfield 50, 3) := by decide +kernel
theorem d_M_fails_52 : decode b_M_fails 52 = .ok (.bipush 8, 2) := by decide +kernel
theorem d_M_fails_54 : decode b_M_fails 54 = .ok (.iload_n 1, 1) := by decide +kernel
theorem d_M_fails_55 : decode b_M_fails 55 = .ok (.imul, 1) := by decide +kernel
theorem d_M_fails_56 : decode b_M_fails 56 = .ok (.iload_n 3, 1) := by decide +kernel
theorem d_M_fails_57 : decode b_M_fails 57 = .ok (.iadd, 1) := by decide +kernel
theorem d_M_fails_58 : decode b_M_fails 58 = .ok (.baload, 1) := by decide +kernel
theorem d_M_fails_59 : decode b_M_fails 59 = .ok (.ifCond .ne 16, 3) := by decide +kernel
theorem d_M_fails_62 : decode b_M_fails 62 = .ok (.aload_n 0, 1) := by decide +kernel
theorem d_M_fails_63 : decode b_M_fails 63 = .ok (.iload_n 1, 1) := by decide +kernel
theorem d_M_fails_64 : decode b_M_fails 64 = .ok (.invokevirtual 157, 3) := by decide +kernel
theorem d_M_fails_67 : decode b_M_fails 67 = .ok (.iconst 3, 1) := by decide +kernel
theorem d_M_fails_68 : decode b_M_fails 68 = .ok (.if_icmp .ne 7, 3) := by decide +kernel
theorem d_M_fails_71 : decode b_M_fails 71 = .ok (.iconst 1, 1) := by decide +kernel
theorem d_M_fails_72 : decode b_M_fails 72 = .ok (.goto 4, 3) := by decide +kernel
theorem d_M_fails_75 : decode b_M_fails 75 = .ok (.iconst 0, 1) := by decide +kernel
theorem d_M_fails_76 : decode b_M_fails 76 = .ok (.ireturn, 1) := by decide +kernel
theorem d_M_fails_77 : decode b_M_fails 77 = .ok (.iload_n 2, 1) := by decide +kernel
theorem d_M_fails_78 : decode b_M_fails 78 = .ok (.bipush 12, 2) := by decide +kernel
theorem d_M_fails_80 : decode b_M_fails 80 = .ok (.if_icmp .ne 21, 3) := by decide +kernel
theorem d_M_fails_83 : decode b_M_fails 83 = .ok (.aload_n 0, 1) := by decide +kernel
theorem d_M_fails_84 : decode b_M_fails 84 = .ok (.iload_n 1, 1) := by decide +kernel
theorem d_M_fails_85 : decode b_M_fails 85 = .ok (.iconst 1, 1) := by decide +kernel
theorem d_M_fails_86 : decode b_M_fails 86 = .ok (.invokevirtual 154, 3) := by decide +kernel
theorem d_M_fails_89 : decode b_M_fails 89 = .ok (.bipush 10, 2) := by decide +kernel
theorem d_M_fails_91 : decode b_M_fails 91 = .ok (.invokestatic 93, 3) := by decide +kernel
theorem d_M_fails_94 : decode b_M_fails 94 = .ok (.ifCond .ne 7, 3) := by decide +kernel
theorem d_M_fails_97 : decode b_M_fails 97 = .ok (.iconst 1, 1) := by decide +kernel
theorem d_M_fails_98 : decode b_M_fails 98 = .ok (.goto 4, 3) := by decide +kernel
theorem d_M_fails_101 : decode b_M_fails 101 = .ok (.iconst 0, 1) := by decide +kernel
theorem d_M_fails_102 : decode b_M_fails 102 = .ok (.ireturn, 1) := by decide +kernel
theorem d_M_step_0 : decode b_M_step 0 = .ok (.aload_n 0, 1) := by decide +kernel
theorem d_M_step_1 : decode b_M_step 1 = .ok (.iconst 0, 1) := by decide +kernel
theorem d_M_step_2 : decode b_M_step 2 = .ok (.putfield 90, 3) := by decide +kernel
theorem d_M_step_5 : decode b_M_step 5 = .ok (.iconst (-1), 1) := by decide +kernel
theorem d_M_step_6 : decode b_M_step 6 = .ok (.istore_n 1, 1) := by decide +kernel
theorem d_M_step_7 : decode b_M_step 7 = .ok (.bipush 7, 2) := by decide +kernel
theorem d_M_step_9 : decode b_M_step 9 = .ok (.istore_n 2, 1) := by decide +kernel
theorem d_M_step_10 : decode b_M_step 10 = .ok (.iload_n 2, 1) := by decide +kernel
theorem d_M_step_11 : decode b_M_step 11 = .ok (.ifCond .lt 24, 3) := by decide +kernel
theorem d_M_step_14 : decode b_M_step 14 = .ok (.aload_n 0, 1) := by decide +kernel
theorem d_M_step_15 : decode b_M_step 15 = .ok (.getfield 59, 3) := by decide +kernel
theorem d_M_step_18 : decode b_M_step 18 = .ok (.iload_n 2, 1) := by decide +kernel
theorem d_M_step_19 : decode b_M_step 19 = .ok (.baload, 1) := by decide +kernel
theorem d_M_step_20 : decode b_M_step 20 = .ok (.ifCond .eq 7, 3) := by decide +kernel
theorem d_M_step_23 : decode b_M_step 23 = .ok (.iload_n 2, 1) := by decide +kernel
theorem d_M_step_24 : decode b_M_step 24 = .ok (.goto 4, 3) := by decide +kernel
theorem d_M_step_27 : decode b_M_step 27 = .ok (.iload_n 1, 1) := by decide +kernel
theorem d_M_step_28 : decode b_M_step 28 = .ok (.istore_n 1, 1) := by decide +kernel
theorem d_M_step_29 : decode b_M_step 29 = .ok (.iinc 2 (-1), 3) := by decide +kernel
theorem d_M_step_32 : decode b_M_step 32 = .ok (.goto (-22), 3) := by decide +kernel
theorem d_M_step_35 : decode b_M_step 35 = .ok (.bipush 7, 2) := by decide +kernel
theorem d_M_step_37 : decode b_M_step 37 = .ok (.istore_n 2, 1) := by decide +kernel
theorem d_M_step_38 : decode b_M_step 38 = .ok (.iload_n 2, 1) := by decide +kernel
theorem d_M_step_39 : decode b_M_step 39 = .ok (.aload_n 0, 1) := by decide +kernel
theorem d_M_step_40 : decode b_M_step 40 = .ok (.getfield 74, 3) := by decide +kernel
theorem d_M_step_43 : decode b_M_step 43 = .ok (.if_icmp .le 24, 3) := by decide +kernel
theorem d_M_step_46 : decode b_M_step 46 = .ok (.aload_n 0, 1) := by decide +kernel
theorem d_M_step_47 : decode b_M_step 47 = .ok (.getfield 59, 3) := by decide +kernel
theorem d_M_step_50 : decode b_M_step 50 = .ok (.iload_n 2, 1) := by decide +kernel
theorem d_M_step_51 : decode b_M_step 51 = .ok (.baload, 1) := by decide +kernel
theorem d_M_step_52 : decode b_M_step 52 = .ok (.ifCond .eq 7, 3) := by decide +kernel
theorem d_M_step_55 : decode b_M_step 55 = .ok (.iload_n 2, 1) := by decide +kernel
theorem d_M_step_56 : decode b_M_step 56 = .ok (.goto 4, 3) := by decide +kernel
theorem d_M_step_59 : decode b_M_step 59 = .ok (.iload_n 1, 1) := by decide +kernel
theorem d_M_step_60 : decode b_M_step 60 = .ok (.istore_n 1, 1) := by decide +kernel
theorem d_M_step_61 : decode b_M_step 61 = .ok (.iinc 2 (-1), 3) := by decide +kernel
theorem d_M_step_64 : decode b_M_step 64 = .ok (.goto (-26), 3) := by decide +kernel
theorem d_M_step_67 : decode b_M_step 67 = .ok (.iload_n 1, 1) := by decide +kernel
theorem d_M_step_68 : decode b_M_step 68 = .ok (.ifCond .ge 5, 3) := by decide +kernel
theorem d_M_step_71 : decode b_M_step 71 = .ok (.iconst (-1), 1) := by decide +kernel
theorem d_M_step_72 : decode b_M_step 72 = .ok (.ireturn, 1) := by decide +kernel
theorem d_M_step_73 : decode b_M_step 73 = .ok (.aload_n 0, 1) := by decide +kernel
theorem d_M_step_74 : decode b_M_step 74 = .ok (.iload_n 1, 1) := by decide +kernel
theorem d_M_step_75 : decode b_M_step 75 = .ok (.putfield 74, 3) := by decide +kernel
theorem d_M_step_78 : decode b_M_step 78 = .ok (.aload_n 0, 1) := by decide +kernel
theorem d_M_step_79 : decode b_M_step 79 = .ok (.getfield 47, 3) := by decide +kernel
theorem d_M_step_82 : decode b_M_step 82 = .ok (.bipush 24, 2) := by decide +kernel
theorem d_M_step_84 : decode b_M_step 84 = .ok (.iload_n 1, 1) := by decide +kernel
theorem d_M_step_85 : decode b_M_step 85 = .ok (.imul, 1) := by decide +kernel
theorem d_M_step_86 : decode b_M_step 86 = .ok (.aload_n 0, 1) := by decide +kernel
theorem d_M_step_87 : decode b_M_step 87 = .ok (.getfield 62, 3) := by decide +kernel
theorem d_M_step_90 : decode b_M_step 90 = .ok (.iload_n 1, 1) := by decide +kernel
theorem d_M_step_91 : decode b_M_step 91 = .ok (.iaload, 1) := by decide +kernel
theorem d_M_step_92 : decode b_M_step 92 = .ok (.iadd, 1) := by decide +kernel
theorem d_M_step_93 : decode b_M_step 93 = .ok (.iaload, 1) := by decide +kernel
theorem d_M_step_94 : decode b_M_step 94 = .ok (.istore_n 2, 1) := by decide +kernel
theorem d_M_step_95 : decode b_M_step 95 = .ok (.aload_n 0, 1) := by decide +kernel
theorem d_M_step_96 : decode b_M_step 96 = .ok (.iload_n 1, 1) := by decide +kernel
theorem d_M_step_97 : decode b_M_step 97 = .ok (.iload_n 2, 1) := by decide +kernel
theorem d_M_step_98 : decode b_M_step 98 = .ok (.bipush 15, 2) := by decide +kernel
theorem d_M_step_100 : decode b_M_step 100 = .ok (.iand, 1) := by decide +kernel
theorem d_M_step_101 : decode b_M_step 101 = .ok (.invokevirtual 160, 3) := by decide +kernel
theorem d_M_step_104 : decode b_M_step 104 = .ok (.ifCond .eq 17, 3) := by decide +kernel
theorem d_M_step_107 : decode b_M_step 107 = .ok (.aload_n 0, 1) := by decide +kernel
theorem d_M_step_108 : decode b_M_step 108 = .ok (.getfield 59, 3) := by decide +kernel
theorem d_M_step_111 : decode b_M_step 111 = .ok (.iload_n 1, 1) := by decide +kernel
theorem d_M_step_112 : decode b_M_step 112 = .ok (.iconst 0, 1) := by decide +kernel
theorem d_M_step_113 : decode b_M_step 113 = .ok (.bastore, 1) := by decide +kernel
theorem d_M_step_114 : decode b_M_step 114 = .ok (.aload_n 0, 1) := by decide +kernel
theorem d_M_step_115 : decode b_M_step 115 = .ok (.iconst 1, 1) := by decide +kernel
theorem d_M_step_116 : decode b_M_step 116 = .ok (.putfield 90, 3) := by decide +kernel
theorem d_M_step_119 : decode b_M_step 119 = .ok (.iconst 0, 1) := by decide +kernel
theorem d_M_step_120 : decode b_M_step 120 = .ok (.ireturn, 1) := by decide +kernel
theorem d_M_step_121 : decode b_M_step 121 = .ok (.aload_n 0, 1) := by decide +kernel
theorem d_M_step_122 : decode b_M_step 122 = .ok (.iload_n 1, 1) := by decide +kernel
theorem d_M_step_123 : decode b_M_step 123 = .ok (.iload_n 2, 1) := by decide +kernel
theorem d_M_step_124 : decode b_M_step 124 = .ok (.bipush 15, 2) := by decide +kernel
theorem d_M_step_126 : decode b_M_step 126 = .ok (.iand, 1) := by decide +kernel
theorem d_M_step_127 : decode b_M_step 127 = .ok (.iload_n 2, 1) := by decide +kernel
theorem d_M_step_128 : decode b_M_step 128 = .ok (.iconst 4, 1) := by decide +kernel
theorem d_M_step_129 : decode b_M_step 129 = .ok (.ishr, 1) := by decide +kernel
theorem d_M_step_130 : decode b_M_step 130 = .ok (.invokevirtual 163, 3) := by decide +kernel
theorem d_M_step_133 : decode b_M_step 133 = .ok (.iload_n 1, 1) := by decide +kernel
theorem d_M_step_134 : decode b_M_step 134 = .ok (.ireturn, 1) := by decide +kernel
theorem d_M_does_0 : decode b_M_does 0 = .ok (.aload_n 0, 1) := by decide +kernel
theorem d_M_does_1 : decode b_M_does 1 = .ok (.getfield 65, 3) := by decide +kernel
theorem d_M_does_4 : decode b_M_does 4 = .ok (.iload_n 1, 1) := by decide +kernel
theorem d_M_does_5 : decode b_M_does 5 = .ok (.iaload, 1) := by decide +kernel
theorem d_M_does_6 : decode b_M_does 6 = .ok (.istore 4, 2) := by decide +kernel
theorem d_M_does_8 : decode b_M_does 8 = .ok (.aload_n 0, 1) := by decide +kernel
theorem d_M_does_9 : decode b_M_does 9 = .ok (.getfield 62, 3) := by decide +kernel
theorem d_M_does_12 : decode b_M_does 12 = .ok (.iload_n 1, 1) := by decide +kernel
theorem d_M_does_13 : decode b_M_does 13 = .ok (.iaload, 1) := by decide +kernel
theorem d_M_does_14 : decode b_M_does 14 = .ok (.iconst 1, 1) := by decide +kernel
theorem d_M_does_15 : decode b_M_does 15 = .ok (.iadd, 1) := by decide +kernel
theorem d_M_does_16 : decode b_M_does 16 = .ok (.istore 5, 2) := by decide +kernel
theorem d_M_does_18 : decode b_M_does 18 = .ok (.iload_n 2, 1) := by decide +kernel
theorem d_M_does_19 : decode b_M_does 19 = .ok (.ifCond .ne 13, 3) := by decide +kernel
theorem d_M_does_22 : decode b_M_does 22 = .ok (.aload_n 0, 1) := by decide +kernel
theorem d_M_does_23 : decode b_M_does 23 = .ok (.getfield 59, 3) := by decide +kernel
theorem d_M_does_26 : decode b_M_does 26 = .ok (.iload_n 1, 1) := by decide +kernel
theorem d_M_does_27 : decode b_M_does 27 = .ok (.iconst 0, 1) := by decide +kernel
theorem d_M_does_28 : decode b_M_does 28 = .ok (.bastore, 1) := by decide +kernel
theorem d_M_does_29 : decode b_M_does 29 = .ok (.goto 246, 3) := by decide +kernel
theorem d_M_does_32 : decode b_M_does 32 = .ok (.iload_n 2, 1) := by decide +kernel
theorem d_M_does_33 : decode b_M_does 33 = .ok (.iconst 1, 1) := by decide +kernel
theorem d_M_does_34 : decode b_M_does 34 = .ok (.if_icmp .ne 12, 3) := by decide +kernel
theorem d_M_does_37 : decode b_M_does 37 = .ok (.aload_n 0, 1) := by decide +kernel
theorem d_M_does_38 : decode b_M_does 38 = .ok (.iload_n 1, 1) := by decide +kernel
theorem d_M_does_39 : decode b_M_does 39 = .ok (.iload_n 3, 1) := by decide +kernel
theorem d_M_does_40 : decode b_M_does 40 = .ok (.invokevirtual 166, 3) := by decide +kernel
theorem d_M_does_43 : decode b_M_does 43 = .ok (.goto 232, 3) := by decide +kernel
theorem d_M_does_46 : decode b_M_does 46 = .ok (.iload_n 2, 1) := by decide +kernel
theorem d_M_does_47 : decode b_M_does 47 = .ok (.iconst 2, 1) := by decide +kernel
theorem d_M_does_48 : decode b_M_does 48 = .ok (.if_icmp .eq 8, 3) := by decide +kernel
theorem d_M_does_51 : decode b_M_does 51 = .ok (.iload_n 2, 1) := by decide +kernel
theorem d_M_does_52 : decode b_M_does 52 = .ok (.iconst 3, 1) := by decide +kernel
theorem d_M_does_53 : decode b_M_does 53 = .ok (.if_icmp .ne 55, 3) := by decide +kernel
theorem d_M_does_56 : decode b_M_does 56 = .ok (.aload_n 0, 1) := by decide +kernel
theorem d_M_does_57 : decode b_M_does 57 = .ok (.iload_n 1, 1) := by decide +kernel
theorem d_M_does_58 : decode b_M_does 58 = .ok (.iconst 0, 1) := by decide +kernel
theorem d_M_does_59 : decode b_M_does 59 = .ok (.invokevirtual 154, 3) := by decide +kernel
theorem d_M_does_62 : decode b_M_does 62 = .ok (.istore 6, 2) := by decide +kernel
theorem d_M_does_64 : decode b_M_does 64 = .ok (.aload_n 0, 1) := by decide +kernel
theorem d_M_does_65 : decode b_M_does 65 = .ok (.iload_n 1, 1) := by decide +kernel
theorem d_M_does_66 : decode b_M_does 66 = .ok (.iconst 1, 1) := by decide +kernel
theorem d_M_does_67 : decode b_M_does 67 = .ok (.invokevirtual 154, 3) := by decide +kernel
theorem d_M_does_70 : decode b_M_does 70 = .ok (.istore 7, 2) := by decide +kernel
theorem d_M_does_72 : decode b_M_does 72 = .ok (.aload_n 0, 1) := by decide +kernel
theorem d_M_does_73 : decode b_M_does 73 = .ok (.getfield 65, 3) := by decide +kernel
theorem d_M_does_76 : decode b_M_does 76 = .ok (.iload_n 1, 1) := by decide +kernel
theorem d_M_does_77 : decode b_M_does 77 = .ok (.iload 4, 2) := by decide +kernel
theorem d_M_does_79 : decode b_M_does 79 = .ok (.iconst 2, 1) := by decide +kernel
theorem d_M_does_80 : decode b_M_does 80 = .ok (.isub, 1) := by decide +kernel
theorem d_M_does_81 : decode b_M_does 81 = .ok (.iastore, 1) := by decide +kernel
theorem d_M_does_82 : decode b_M_does 82 = .ok (.aload_n 0, 1) := by decide +kernel
theorem d_M_does_83 : decode b_M_does 83 = .ok (.iload_n 1, 1) := by decide +kernel
theorem d_M_does_84 : decode b_M_does 84 = .ok (.iload_n 2, 1) := by decide +kernel
theorem d_M_does_85 : decode b_M_does 85 = .ok (.iconst 2, 1) := by decide +kernel
theorem d_M_does_86 : decode b_M_does 86 = .ok (.if_icmp .ne 11, 3) := by decide +kernel
theorem d_M_does_89 : decode b_M_does 89 = .ok (.iload 7, 2) := by decide +kernel
theorem d_M_does_91 : decode b_M_does 91 = .ok (.iload 6, 2) := by decide +kernel
theorem d_M_does_93 : decode b_M_does 93 = .ok (.iadd, 1) := by decide +kernel
theorem d_M_does_94 : decode b_M_does 94 = .ok (.goto 8, 3) := by decide +kernel
theorem d_M_does_97 : decode b_M_does 97 = .ok (.iload 7, 2) := by decide +kernel
theorem d_M_does_99 : decode b_M_does 99 = .ok (.iload 6, 2) := by decide +kernel
theorem d_M_does_101 : decode b_M_does 101 = .ok (.isub, 1) := by decide +kernel
theorem d_M_does_102 : decode b_M_does 102 = .ok (.invokevirtual 166, 3) := by decide +kernel
theorem d_M_does_105 : decode b_M_does 105 = .ok (.goto 170, 3) := by decide +kernel
theorem d_M_does_108 : decode b_M_does 108 = .ok (.iload_n 2, 1) := by decide +kernel
theorem d_M_does_109 : decode b_M_does 109 = .ok (.iconst 4, 1) := by decide +kernel
theorem d_M_does_110 : decode b_M_does 110 = .ok (.if_icmp .ne 17, 3) := by decide +kernel
theorem d_M_does_113 : decode b_M_does 113 = .ok (.aload_n 0, 1) := by decide +kernel
theorem d_M_does_114 : decode b_M_does 114 = .ok (.iload_n 1, 1) := by decide +kernel
theorem d_M_does_115 : decode b_M_does 115 = .ok (.aload_n 0, 1) := by decide +kernel
theorem d_M_does_116 : decode b_M_does 116 = .ok (.iload_n 1, 1) := by decide +kernel
theorem d_M_does_117 : decode b_M_does 117 = .ok (.iconst 0, 1) := by decide +kernel
theorem d_M_does_118 : decode b_M_does 118 = .ok (.invokevirtual 154, 3) := by decide +kernel
theorem d_M_does_121 : decode b_M_does 121 = .ok (.invokevirtual 166, 3) := by decide +kernel
theorem d_M_does_124 : decode b_M_does 124 = .ok (.goto 151, 3) := by decide +kernel
theorem d_M_does_127 : decode b_M_does 127 = .ok (.iload_n 2, 1) := by decide +kernel
theorem d_M_does_128 : decode b_M_does 128 = .ok (.iconst 5, 1) := by decide +kernel
theorem d_M_does_129 : decode b_M_does 129 = .ok (.if_icmp .ne 16, 3) := by decide +kernel
theorem d_M_does_132 : decode b_M_does 132 = .ok (.aload_n 0, 1) := by decide +kernel
theorem d_M_does_133 : decode b_M_does 133 = .ok (.getfield 65, 3) := by decide +kernel
theorem d_M_does_136 : decode b_M_does 136 = .ok (.iload_n 1, 1) := by decide +kernel
theorem d_M_does_137 : decode b_M_does 137 = .ok (.iload 4, 2) := by decide +kernel
theorem d_M_does_139 : decode b_M_does 139 = .ok (.iconst 1, 1) := by decide +kernel
theorem d_M_does_140 : decode b_M_does 140 = .ok (.isub, 1) := by decide +kernel
theorem d_M_does_141 : decode b_M_does 141 = .ok (.iastore, 1) := by decide +kernel
theorem d_M_does_142 : decode b_M_does 142 = .ok (.goto 133, 3) := by decide +kernel
theorem d_M_does_145 : decode b_M_does 145 = .ok (.iload_n 2, 1) := by decide +kernel
theorem d_M_does_146 : decode b_M_does 146 = .ok (.bipush 6, 2) := by decide +kernel
theorem d_M_does_148 : decode b_M_does 148 = .ok (.if_icmp .ne 21, 3) := by decide +kernel
theorem d_M_does_151 : decode b_M_does 151 = .ok (.aload_n 0, 1) := by decide +kernel
theorem d_M_does_152 : decode b_M_does 152 = .ok (.iload_n 1, 1) := by decide +kernel
theorem d_M_does_153 : decode b_M_does 153 = .ok (.aload_n 0, 1) := by decide +kernel
theorem d_M_does_154 : decode b_M_does 154 = .ok (.getfield 71, 3) := by decide +kernel
theorem d_M_does_157 : decode b_M_does 157 = .ok (.iconst 4, 1) := by decide +kernel
theorem d_M_does_158 : decode b_M_does 158 = .ok (.iload_n 1, 1) := by decide +kernel
theorem d_M_does_159 : decode b_M_does 159 = .ok (.imul, 1) := by decide +kernel
theorem d_M_does_160 : decode b_M_does 160 = .ok (.iload_n 3, 1) := by decide +kernel
theorem d_M_does_161 : decode b_M_does 161 = .ok (.iadd, 1) := by decide +kernel
theorem d_M_does_162 : decode b_M_does 162 = .ok (.iaload, 1) := by decide +kernel
theorem d_M_does_163 : decode b_M_does 163 = .ok (.invokevirtual 166, 3) := by decide +kernel
theorem d_M_does_166 : decode b_M_does 166 = .ok (.goto 109, 3) := by decide +kernel
theorem d_M_does_169 : decode b_M_does 169 = .ok (.iload_n 2, 1) := by decide +kernel
theorem d_M_does_170 : decode b_M_does 170 = .ok (.bipush 7, 2) := by decide +kernel
theorem d_M_does_172 : decode b_M_does 172 = .ok (.if_icmp .ne 32, 3) := by decide +kernel
theorem d_M_does_175 : decode b_M_does 175 = .ok (.aload_n 0, 1) := by decide +kernel
theorem d_M_does_176 : decode b_M_does 176 = .ok (.getfield 71, 3) := by decide +kernel
theorem d_M_does_179 : decode b_M_does 179 = .ok (.iconst 4, 1) := by decide +kernel
theorem d_M_does_180 : decode b_M_does 180 = .ok (.iload_n 1, 1) := by decide +kernel
theorem d_M_does_181 : decode b_M_does 181 = .ok (.imul, 1) := by decide +kernel
theorem d_M_does_182 : decode b_M_does 182 = .ok (.iload_n 3, 1) := by decide +kernel
theorem d_M_does_183 : decode b_M_does 183 = .ok (.iadd, 1) := by decide +kernel
theorem d_M_does_184 : decode b_M_does 184 = .ok (.aload_n 0, 1) := by decide +kernel
theorem d_M_does_185 : decode b_M_does 185 = .ok (.iload_n 1, 1) := by decide +kernel
theorem d_M_does_186 : decode b_M_does 186 = .ok (.iconst 0, 1) := by decide +kernel
theorem d_M_does_187 : decode b_M_does 187 = .ok (.invokevirtual 154, 3) := by decide +kernel
theorem d_M_does_190 : decode b_M_does 190 = .ok (.iastore, 1) := by decide +kernel
theorem d_M_does_191 : decode b_M_does 191 = .ok (.aload_n 0, 1) := by decide +kernel
theorem d_M_does_192 : decode b_M_does 192 = .ok (.getfield 65, 3) := by decide +kernel
theorem d_M_does_195 : decode b_M_does 195 = .ok (.iload_n 1, 1) := by decide +kernel
theorem d_M_does_196 : decode b_M_does 196 = .ok (.iload 4, 2) := by decide +kernel
theorem d_M_does_198 : decode b_M_does 198 = .ok (.iconst 1, 1) := by decide +kernel
theorem d_M_does_199 : decode b_M_does 199 = .ok (.isub, 1) := by decide +kernel
theorem d_M_does_200 : decode b_M_does 200 = .ok (.iastore, 1) := by decide +kernel
theorem d_M_does_201 : decode b_M_does 201 = .ok (.goto 74, 3) := by decide +kernel
theorem d_M_does_204 : decode b_M_does 204 = .ok (.iload_n 2, 1) := by decide +kernel
theorem d_M_does_205 : decode b_M_does 205 = .ok (.bipush 8, 2) := by decide +kernel
theorem d_M_does_207 : decode b_M_does 207 = .ok (.if_icmp .ne 16, 3) := by decide +kernel
theorem d_M_does_210 : decode b_M_does 210 = .ok (.aload_n 0, 1) := by decide +kernel
theorem d_M_does_211 : decode b_M_does 211 = .ok (.getfield 62, 3) := by decide +kernel
theorem d_M_does_214 : decode b_M_does 214 = .ok (.iload_n 1, 1) := by decide +kernel
theorem d_M_does_215 : decode b_M_does 215 = .ok (.iaload, 1) := by decide +kernel
theorem d_M_does_216 : decode b_M_does 216 = .ok (.iload_n 3, 1) := by decide +kernel
theorem d_M_does_217 : decode b_M_does 217 = .ok (.iadd, 1) := by decide +kernel
theorem d_M_does_218 : decode b_M_does 218 = .ok (.istore 5, 2) := by decide +kernel
theorem d_M_does_220 : decode b_M_does 220 = .ok (.goto 55, 3) := by decide +kernel
theorem d_M_does_223 : decode b_M_does 223 = .ok (.iload_n 2, 1) := by decide +kernel
theorem d_M_does_224 : decode b_M_does 224 = .ok (.bipush 9, 2) := by decide +kernel
theorem d_M_does_226 : decode b_M_does 226 = .ok (.if_icmp .ne 40, 3) := by decide +kernel
theorem d_M_does_229 : decode b_M_does 229 = .ok (.aload_n 0, 1) := by decide +kernel
theorem d_M_does_230 : decode b_M_does 230 = .ok (.iload_n 1, 1) := by decide +kernel
theorem d_M_does_231 : decode b_M_does 231 = .ok (.iconst 0, 1) := by decide +kernel
theorem d_M_does_232 : decode b_M_does 232 = .ok (.invokevirtual 154, 3) := by decide +kernel
theorem d_M_does_235 : decode b_M_does 235 = .ok (.ifCond .ne 14, 3) := by decide +kernel
theorem d_M_does_238 : decode b_M_does 238 = .ok (.aload_n 0, 1) := by decide +kernel
theorem d_M_does_239 : decode b_M_does 239 = .ok (.getfield 62, 3) := by decide +kernel
theorem d_M_does_242 : decode b_M_does 242 = .ok (.iload_n 1, 1) := by decide +kernel
theorem d_M_does_243 : decode b_M_does 243 = .ok (.iaload, 1) := by decide +kernel
theorem d_M_does_244 : decode b_M_does 244 = .ok (.iload_n 3, 1) := by decide +kernel
theorem d_M_does_245 : decode b_M_does 245 = .ok (.iadd, 1) := by decide +kernel
theorem d_M_does_246 : decode b_M_does 246 = .ok (.goto 5, 3) := by decide +kernel
theorem d_M_does_249 : decode b_M_does 249 = .ok (.iload 5, 2) := by decide +kernel
theorem d_M_does_251 : decode b_M_does 251 = .ok (.istore 5, 2) := by decide +kernel
theorem d_M_does_253 : decode b_M_does 253 = .ok (.aload_n 0, 1) := by decide +kernel
theorem d_M_does_254 : decode b_M_does 254 = .ok (.getfield 65, 3) := by decide +kernel
theorem d_M_does_257 : decode b_M_does 257 = .ok (.iload_n 1, 1) := by decide +kernel
theorem d_M_does_258 : decode b_M_does 258 = .ok (.iload 4, 2) := by decide +kernel
theorem d_M_does_260 : decode b_M_does 260 = .ok (.iconst 1, 1) := by decide +kernel
theorem d_M_does_261 : decode b_M_does 261 = .ok (.isub, 1) := by decide +kernel
theorem d_M_does_262 : decode b_M_does 262 = .ok (.iastore, 1) := by decide +kernel
theorem d_M_does_263 : decode b_M_does 263 = .ok (.goto 12, 3) := by decide +kernel
theorem d_M_does_266 : decode b_M_does 266 = .ok (.aload_n 0, 1) := by decide +kernel
theorem d_M_does_267 : decode b_M_does 267 = .ok (.iload_n 1, 1) := by decide +kernel
theorem d_M_does_268 : decode b_M_does 268 = .ok (.iload_n 2, 1) := by decide +kernel
theorem d_M_does_269 : decode b_M_does 269 = .ok (.iload_n 3, 1) := by decide +kernel
theorem d_M_does_270 : decode b_M_does 270 = .ok (.iload 4, 2) := by decide +kernel
theorem d_M_does_272 : decode b_M_does 272 = .ok (.invokevirtual 169, 3) := by decide +kernel
theorem d_M_does_275 : decode b_M_does 275 = .ok (.aload_n 0, 1) := by decide +kernel
theorem d_M_does_276 : decode b_M_does 276 = .ok (.getfield 62, 3) := by decide +kernel
theorem d_M_does_279 : decode b_M_does 279 = .ok (.iload_n 1, 1) := by decide +kernel
theorem d_M_does_280 : decode b_M_does 280 = .ok (.iload 5, 2) := by decide +kernel
theorem d_M_does_282 : decode b_M_does 282 = .ok (.iastore, 1) := by decide +kernel
theorem d_M_does_283 : decode b_M_does 283 = .ok (.return_, 1) := by decide +kernel
theorem d_M_acts_0 : decode b_M_acts 0 = .ok (.iload_n 2, 1) := by decide +kernel
theorem d_M_acts_1 : decode b_M_acts 1 = .ok (.bipush 13, 2) := by decide +kernel
theorem d_M_acts_3 : decode b_M_acts 3 = .ok (.if_icmp .ne 23, 3) := by decide +kernel
theorem d_M_acts_6 : decode b_M_acts 6 = .ok (.aload_n 0, 1) := by decide +kernel
theorem d_M_acts_7 : decode b_M_acts 7 = .ok (.iload_n 1, 1) := by decide +kernel
theorem d_M_acts_8 : decode b_M_acts 8 = .ok (.aload_n 0, 1) := by decide +kernel
theorem d_M_acts_9 : decode b_M_acts 9 = .ok (.iload_n 1, 1) := by decide +kernel
theorem d_M_acts_10 : decode b_M_acts 10 = .ok (.iload_n 3, 1) := by decide +kernel
theorem d_M_acts_11 : decode b_M_acts 11 = .ok (.invokevirtual 143, 3) := by decide +kernel
theorem d_M_acts_14 : decode b_M_acts 14 = .ok (.ifCond .eq 7, 3) := by decide +kernel
theorem d_M_acts_17 : decode b_M_acts 17 = .ok (.iconst 1, 1) := by decide +kernel
theorem d_M_acts_18 : decode b_M_acts 18 = .ok (.goto 4, 3) := by decide +kernel
theorem d_M_acts_21 : decode b_M_acts 21 = .ok (.iconst 0, 1) := by decide +kernel
theorem d_M_acts_22 : decode b_M_acts 22 = .ok (.invokevirtual 166, 3) := by decide +kernel
theorem d_M_acts_25 : decode b_M_acts 25 = .ok (.return_, 1) := by decide +kernel
theorem d_M_acts_26 : decode b_M_acts 26 = .ok (.aload_n 0, 1) := by decide +kernel
theorem d_M_acts_27 : decode b_M_acts 27 = .ok (.iload_n 1, 1) := by decide +kernel
theorem d_M_acts_28 : decode b_M_acts 28 = .ok (.iconst 0, 1) := by decide +kernel
theorem d_M_acts_29 : decode b_M_acts 29 = .ok (.invokevirtual 154, 3) := by decide +kernel
theorem d_M_acts_32 : decode b_M_acts 32 = .ok (.istore 5, 2) := by decide +kernel
theorem d_M_acts_34 : decode b_M_acts 34 = .ok (.iload_n 2, 1) := by decide +kernel
theorem d_M_acts_35 : decode b_M_acts 35 = .ok (.bipush 10, 2) := by decide +kernel
theorem d_M_acts_37 : decode b_M_acts 37 = .ok (.if_icmp .ne 54, 3) := by decide +kernel
theorem d_M_acts_40 : decode b_M_acts 40 = .ok (.aload_n 0, 1) := by decide +kernel
theorem d_M_acts_41 : decode b_M_acts 41 = .ok (.getfield 50, 3) := by decide +kernel
theorem d_M_acts_44 : decode b_M_acts 44 = .ok (.bipush 8, 2) := by decide +kernel
theorem d_M_acts_46 : decode b_M_acts 46 = .ok (.iload_n 1, 1) := by decide +kernel
theorem d_M_acts_47 : decode b_M_acts 47 = .ok (.imul, 1) := by decide +kernel
theorem d_M_acts_48 : decode b_M_acts 48 = .ok (.iload 5, 2) := by decide +kernel
theorem d_M_acts_50 : decode b_M_acts 50 = .ok (.iadd, 1) := by decide +kernel
theorem d_M_acts_51 : decode b_M_acts 51 = .ok (.baload, 1) := by decide +kernel
theorem d_M_acts_52 : decode b_M_acts 52 = .ok (.ifCond .eq 18, 3) := by decide +kernel
theorem d_M_acts_55 : decode b_M_acts 55 = .ok (.aload_n 0, 1) := by decide +kernel
theorem d_M_acts_56 : decode b_M_acts 56 = .ok (.getfield 53, 3) := by decide +kernel
theorem d_M_acts_59 : decode b_M_acts 59 = .ok (.bipush 8, 2) := by decide +kernel
theorem d_M_acts_61 : decode b_M_acts 61 = .ok (.iload_n 1, 1) := by decide +kernel
theorem d_M_acts_62 : decode b_M_acts 62 = .ok (.imul, 1) := by decide +kernel
theorem d_M_acts_63 : decode b_M_acts 63 = .ok (.iload 5, 2) := by decide +kernel
theorem d_M_acts_65 : decode b_M_acts 65 = .ok (.iadd, 1) := by decide +kernel
theorem d_M_acts_66 : decode b_M_acts 66 = .ok (.iaload, 1) := by decide +kernel
theorem d_M_acts_67 : decode b_M_acts 67 = .ok (.goto 4, 3) := by decide +kernel
theorem d_M_acts_70 : decode b_M_acts 70 = .ok (.iconst 0, 1) := by decide +kernel
theorem d_M_acts_71 : decode b_M_acts 71 = .ok (.istore 6, 2) := by decide +kernel
theorem d_M_acts_73 : decode b_M_acts 73 = .ok (.aload_n 0, 1) := by decide +kernel
theorem d_M_acts_74 : decode b_M_acts 74 = .ok (.getfield 65, 3) := by decide +kernel
theorem d_M_acts_77 : decode b_M_acts 77 = .ok (.iload_n 1, 1) := by decide +kernel
theorem d_M_acts_78 : decode b_M_acts 78 = .ok (.iload 4, 2) := by decide +kernel
theorem d_M_acts_80 : decode b_M_acts 80 = .ok (.iconst 1, 1) := by decide +kernel
theorem d_M_acts_81 : decode b_M_acts 81 = .ok (.isub, 1) := by decide +kernel
theorem d_M_acts_82 : decode b_M_acts 82 = .ok (.iastore, 1) := by decide +kernel
theorem d_M_acts_83 : decode b_M_acts 83 = .ok (.aload_n 0, 1) := by decide +kernel
theorem d_M_acts_84 : decode b_M_acts 84 = .ok (.iload_n 1, 1) := by decide +kernel
theorem d_M_acts_85 : decode b_M_acts 85 = .ok (.iload 6, 2) := by decide +kernel
theorem d_M_acts_87 : decode b_M_acts 87 = .ok (.invokevirtual 166, 3) := by decide +kernel
theorem d_M_acts_90 : decode b_M_acts 90 = .ok (.return_, 1) := by decide +kernel
theorem d_M_acts_91 : decode b_M_acts 91 = .ok (.aload_n 0, 1) := by decide +kernel
theorem d_M_acts_92 : decode b_M_acts 92 = .ok (.iload_n 1, 1) := by decide +kernel
theorem d_M_acts_93 : decode b_M_acts 93 = .ok (.iconst 1, 1) := by decide +kernel
theorem d_M_acts_94 : decode b_M_acts 94 = .ok (.invokevirtual 154, 3) := by decide +kernel
theorem d_M_acts_97 : decode b_M_acts 97 = .ok (.istore 6, 2) := by decide +kernel
theorem d_M_acts_99 : decode b_M_acts 99 = .ok (.aload_n 0, 1) := by decide +kernel
theorem d_M_acts_100 : decode b_M_acts 100 = .ok (.getfield 65, 3) := by decide +kernel
theorem d_M_acts_103 : decode b_M_acts 103 = .ok (.iload_n 1, 1) := by decide +kernel
theorem d_M_acts_104 : decode b_M_acts 104 = .ok (.iload 4, 2) := by decide +kernel
theorem d_M_acts_106 : decode b_M_acts 106 = .ok (.iconst 2, 1) := by decide +kernel
theorem d_M_acts_107 : decode b_M_acts 107 = .ok (.isub, 1) := by decide +kernel
theorem d_M_acts_108 : decode b_M_acts 108 = .ok (.iastore, 1) := by decide +kernel
theorem d_M_acts_109 : decode b_M_acts 109 = .ok (.iload_n 2, 1) := by decide +kernel
theorem d_M_acts_110 : decode b_M_acts 110 = .ok (.bipush 11, 2) := by decide +kernel
theorem d_M_acts_112 : decode b_M_acts 112 = .ok (.if_icmp .ne 33, 3) := by decide +kernel
theorem d_M_acts_115 : decode b_M_acts 115 = .ok (.aload_n 0, 1) := by decide +kernel
theorem d_M_acts_116 : decode b_M_acts 116 = .ok (.getfield 50, 3) := by decide +kernel
theorem d_M_acts_119 : decode b_M_acts 119 = .ok (.bipush 8, 2) := by decide +kernel
theorem d_M_acts_121 : decode b_M_acts 121 = .ok (.iload_n 1, 1) := by decide +kernel
theorem d_M_acts_122 : decode b_M_acts 122 = .ok (.imul, 1) := by decide +kernel
theorem d_M_acts_123 : decode b_M_acts 123 = .ok (.iload 6, 2) := by decide +kernel
theorem d_M_acts_125 : decode b_M_acts 125 = .ok (.iadd, 1) := by decide +kernel
theorem d_M_acts_126 : decode b_M_acts 126 = .ok (.iconst 1, 1) := by decide +kernel
theorem d_M_acts_127 : decode b_M_acts 127 = .ok (.bastore, 1) := by decide +kernel
theorem d_M_acts_128 : decode b_M_acts 128 = .ok (.aload_n 0, 1) := by decide +kernel
theorem d_M_acts_129 : decode b_M_acts 129 = .ok (.getfield 53, 3) := by decide +kernel
theorem d_M_acts_132 : decode b_M_acts 132 = .ok (.bipush 8, 2) := by decide +kernel
theorem d_M_acts_134 : decode b_M_acts 134 = .ok (.iload_n 1, 1) := by decide +kernel
theorem d_M_acts_135 : decode b_M_acts 135 = .ok (.imul, 1) := by decide +kernel
theorem d_M_acts_136 : decode b_M_acts 136 = .ok (.iload 6, 2) := by decide +kernel
theorem d_M_acts_138 : decode b_M_acts 138 = .ok (.iadd, 1) := by decide +kernel
theorem d_M_acts_139 : decode b_M_acts 139 = .ok (.iload 5, 2) := by decide +kernel
theorem d_M_acts_141 : decode b_M_acts 141 = .ok (.iastore, 1) := by decide +kernel
theorem d_M_acts_142 : decode b_M_acts 142 = .ok (.goto 12, 3) := by decide +kernel
theorem d_M_acts_145 : decode b_M_acts 145 = .ok (.aload_n 0, 1) := by decide +kernel
theorem d_M_acts_146 : decode b_M_acts 146 = .ok (.iload_n 1, 1) := by decide +kernel
theorem d_M_acts_147 : decode b_M_acts 147 = .ok (.iload 6, 2) := by decide +kernel
theorem d_M_acts_149 : decode b_M_acts 149 = .ok (.iload 5, 2) := by decide +kernel
theorem d_M_acts_151 : decode b_M_acts 151 = .ok (.invokevirtual 146, 3) := by decide +kernel
theorem d_M_acts_154 : decode b_M_acts 154 = .ok (.return_, 1) := by decide +kernel
theorem d_M_app_0 : decode b_M_app 0 = .ok (.aload_n 0, 1) := by decide +kernel
theorem d_M_app_1 : decode b_M_app 1 = .ok (.iconst 0, 1) := by decide +kernel
theorem d_M_app_2 : decode b_M_app 2 = .ok (.putfield 90, 3) := by decide +kernel
theorem d_M_app_5 : decode b_M_app 5 = .ok (.aload_n 0, 1) := by decide +kernel
theorem d_M_app_6 : decode b_M_app 6 = .ok (.iload_n 1, 1) := by decide +kernel
theorem d_M_app_7 : decode b_M_app 7 = .ok (.invokevirtual 133, 3) := by decide +kernel
theorem d_M_app_10 : decode b_M_app 10 = .ok (.ifCond .eq 13, 3) := by decide +kernel
theorem d_M_app_13 : decode b_M_app 13 = .ok (.iload_n 2, 1) := by decide +kernel
theorem d_M_app_14 : decode b_M_app 14 = .ok (.ifCond .lt 9, 3) := by decide +kernel
theorem d_M_app_17 : decode b_M_app 17 = .ok (.iload_n 2, 1) := by decide +kernel
theorem d_M_app_18 : decode b_M_app 18 = .ok (.bipush 6, 2) := by decide +kernel
theorem d_M_app_20 : decode b_M_app 20 = .ok (.if_icmp .le 5, 3) := by decide +kernel
theorem d_M_app_23 : decode b_M_app 23 = .ok (.iconst (-1), 1) := by decide +kernel
theorem d_M_app_24 : decode b_M_app 24 = .ok (.ireturn, 1) := by decide +kernel
theorem d_M_app_25 : decode b_M_app 25 = .ok (.iload_n 2, 1) := by decide +kernel
theorem d_M_app_26 : decode b_M_app 26 = .ok (.iconst 3, 1) := by decide +kernel
theorem d_M_app_27 : decode b_M_app 27 = .ok (.if_icmp .ge 45, 3) := by decide +kernel
theorem d_M_app_30 : decode b_M_app 30 = .ok (.iload_n 2, 1) := by decide +kernel
theorem d_M_app_31 : decode b_M_app 31 = .ok (.ifCond .ne 12, 3) := by decide +kernel
theorem d_M_app_34 : decode b_M_app 34 = .ok (.aload_n 0, 1) := by decide +kernel
theorem d_M_app_35 : decode b_M_app 35 = .ok (.getfield 13, 3) := by decide +kernel
theorem d_M_app_38 : decode b_M_app 38 = .ok (.iload_n 1, 1) := by decide +kernel
theorem d_M_app_39 : decode b_M_app 39 = .ok (.iaload, 1) := by decide +kernel
theorem d_M_app_40 : decode b_M_app 40 = .ok (.goto 31, 3) := by decide +kernel
theorem d_M_app_43 : decode b_M_app 43 = .ok (.iload_n 2, 1) := by decide +kernel
theorem d_M_app_44 : decode b_M_app 44 = .ok (.iconst 1, 1) := by decide +kernel
theorem d_M_app_45 : decode b_M_app 45 = .ok (.if_icmp .ne 12, 3) := by decide +kernel
theorem d_M_app_48 : decode b_M_app 48 = .ok (.aload_n 0, 1) := by decide +kernel
theorem d_M_app_49 : decode b_M_app 49 = .ok (.getfield 17, 3) := by decide +kernel
theorem d_M_app_52 : decode b_M_app 52 = .ok (.iload_n 1, 1) := by decide +kernel
theorem d_M_app_53 : decode b_M_app 53 = .ok (.iaload, 1) := by decide +kernel
theorem d_M_app_54 : decode b_M_app 54 = .ok (.goto 17, 3) := by decide +kernel
theorem d_M_app_57 : decode b_M_app 57 = .ok (.aload_n 0, 1) := by decide +kernel
theorem d_M_app_58 : decode b_M_app 58 = .ok (.getfield 59, 3) := by decide +kernel
theorem d_M_app_61 : decode b_M_app 61 = .ok (.iload_n 1, 1) := by decide +kernel
theorem d_M_app_62 : decode b_M_app 62 = .ok (.baload, 1) := by decide +kernel
theorem d_M_app_63 : decode b_M_app 63 = .ok (.ifCond .eq 7, 3) := by decide +kernel
theorem d_M_app_66 : decode b_M_app 66 = .ok (.iconst 1, 1) := by decide +kernel
theorem d_M_app_67 : decode b_M_app 67 = .ok (.goto 4, 3) := by decide +kernel
theorem d_M_app_70 : decode b_M_app 70 = .ok (.iconst 0, 1) := by decide +kernel
theorem d_M_app_71 : decode b_M_app 71 = .ok (.ireturn, 1) := by decide +kernel
theorem d_M_app_72 : decode b_M_app 72 = .ok (.iload_n 2, 1) := by decide +kernel
theorem d_M_app_73 : decode b_M_app 73 = .ok (.bipush 6, 2) := by decide +kernel
theorem d_M_app_75 : decode b_M_app 75 = .ok (.if_icmp .ne 9, 3) := by decide +kernel
theorem d_M_app_78 : decode b_M_app 78 = .ok (.aload_n 0, 1) := by decide +kernel
theorem d_M_app_79 : decode b_M_app 79 = .ok (.iload_n 1, 1) := by decide +kernel
theorem d_M_app_80 : decode b_M_app 80 = .ok (.invokevirtual 157, 3) := by decide +kernel
theorem d_M_app_83 : decode b_M_app 83 = .ok (.ireturn, 1) := by decide +kernel
theorem d_M_app_84 : decode b_M_app 84 = .ok (.aload_n 0, 1) := by decide +kernel
theorem d_M_app_85 : decode b_M_app 85 = .ok (.getfield 59, 3) := by decide +kernel
theorem d_M_app_88 : decode b_M_app 88 = .ok (.iload_n 1, 1) := by decide +kernel
theorem d_M_app_89 : decode b_M_app 89 = .ok (.baload, 1) := by decide +kernel
theorem d_M_app_90 : decode b_M_app 90 = .ok (.ifCond .ne 5, 3) := by decide +kernel
theorem d_M_app_93 : decode b_M_app 93 = .ok (.iconst 0, 1) := by decide +kernel
theorem d_M_app_94 : decode b_M_app 94 = .ok (.ireturn, 1) := by decide +kernel
theorem d_M_app_95 : decode b_M_app 95 = .ok (.iload_n 2, 1) := by decide +kernel
theorem d_M_app_96 : decode b_M_app 96 = .ok (.iconst 3, 1) := by decide +kernel
theorem d_M_app_97 : decode b_M_app 97 = .ok (.if_icmp .ne 12, 3) := by decide +kernel
theorem d_M_app_100 : decode b_M_app 100 = .ok (.aload_n 0, 1) := by decide +kernel
theorem d_M_app_101 : decode b_M_app 101 = .ok (.getfield 62, 3) := by decide +kernel
theorem d_M_app_104 : decode b_M_app 104 = .ok (.iload_n 1, 1) := by decide +kernel
theorem d_M_app_105 : decode b_M_app 105 = .ok (.iaload, 1) := by decide +kernel
theorem d_M_app_106 : decode b_M_app 106 = .ok (.goto 36, 3) := by decide +kernel
theorem d_M_app_109 : decode b_M_app 109 = .ok (.iload_n 2, 1) := by decide +kernel
theorem d_M_app_110 : decode b_M_app 110 = .ok (.iconst 4, 1) := by decide +kernel
theorem d_M_app_111 : decode b_M_app 111 = .ok (.if_icmp .ne 12, 3) := by decide +kernel
theorem d_M_app_114 : decode b_M_app 114 = .ok (.aload_n 0, 1) := by decide +kernel
theorem d_M_app_115 : decode b_M_app 115 = .ok (.getfield 65, 3) := by decide +kernel
theorem d_M_app_118 : decode b_M_app 118 = .ok (.iload_n 1, 1) := by decide +kernel
theorem d_M_app_119 : decode b_M_app 119 = .ok (.iaload, 1) := by decide +kernel
theorem d_M_app_120 : decode b_M_app 120 = .ok (.goto 22, 3) := by decide +kernel
theorem d_M_app_123 : decode b_M_app 123 = .ok (.aload_n 0, 1) := by decide +kernel
theorem d_M_app_124 : decode b_M_app 124 = .ok (.getfield 65, 3) := by decide +kernel
theorem d_M_app_127 : decode b_M_app 127 = .ok (.iload_n 1, 1) := by decide +kernel
theorem d_M_app_128 : decode b_M_app 128 = .ok (.iaload, 1) := by decide +kernel
theorem d_M_app_129 : decode b_M_app 129 = .ok (.ifCond .le 12, 3) := by decide +kernel
theorem d_M_app_132 : decode b_M_app 132 = .ok (.aload_n 0, 1) := by decide +kernel
theorem d_M_app_133 : decode b_M_app 133 = .ok (.iload_n 1, 1) := by decide +kernel
theorem d_M_app_134 : decode b_M_app 134 = .ok (.iconst 0, 1) := by decide +kernel
theorem d_M_app_135 : decode b_M_app 135 = .ok (.invokevirtual 154, 3) := by decide +kernel
theorem d_M_app_138 : decode b_M_app 138 = .ok (.goto 4, 3) := by decide +kernel
theorem d_M_app_141 : decode b_M_app 141 = .ok (.iconst 0, 1) := by decide +kernel
theorem d_M_app_142 : decode b_M_app 142 = .ok (.ireturn, 1) := by decide +kernel
theorem d_M_kept_0 : decode b_M_kept 0 = .ok (.aload_n 0, 1) := by decide +kernel
theorem d_M_kept_1 : decode b_M_kept 1 = .ok (.iconst 0, 1) := by decide +kernel
theorem d_M_kept_2 : decode b_M_kept 2 = .ok (.putfield 90, 3) := by decide +kernel
theorem d_M_kept_5 : decode b_M_kept 5 = .ok (.aload_n 0, 1) := by decide +kernel
theorem d_M_kept_6 : decode b_M_kept 6 = .ok (.iload_n 1, 1) := by decide +kernel
theorem d_M_kept_7 : decode b_M_kept 7 = .ok (.invokevirtual 133, 3) := by decide +kernel
theorem d_M_kept_10 : decode b_M_kept 10 = .ok (.ifCond .eq 40, 3) := by decide +kernel
theorem d_M_kept_13 : decode b_M_kept 13 = .ok (.iload_n 2, 1) := by decide +kernel
theorem d_M_kept_14 : decode b_M_kept 14 = .ok (.bipush 8, 2) := by decide +kernel
theorem d_M_kept_16 : decode b_M_kept 16 = .ok (.invokestatic 93, 3) := by decide +kernel
theorem d_M_kept_19 : decode b_M_kept 19 = .ok (.ifCond .eq 31, 3) := by decide +kernel
theorem d_M_kept_22 : decode b_M_kept 22 = .ok (.aload_n 0, 1) := by decide +kernel
theorem d_M_kept_23 : decode b_M_kept 23 = .ok (.getfield 50, 3) := by decide +kernel
theorem d_M_kept_26 : decode b_M_kept 26 = .ok (.bipush 8, 2) := by decide +kernel
theorem d_M_kept_28 : decode b_M_kept 28 = .ok (.iload_n 1, 1) := by decide +kernel
theorem d_M_kept_29 : decode b_M_kept 29 = .ok (.imul, 1) := by decide +kernel
theorem d_M_kept_30 : decode b_M_kept 30 = .ok (.iload_n 2, 1) := by decide +kernel
theorem d_M_kept_31 : decode b_M_kept 31 = .ok (.iadd, 1) := by decide +kernel
theorem d_M_kept_32 : decode b_M_kept 32 = .ok (.baload, 1) := by decide +kernel
theorem d_M_kept_33 : decode b_M_kept 33 = .ok (.ifCond .eq 17, 3) := by decide +kernel
theorem d_M_kept_36 : decode b_M_kept 36 = .ok (.aload_n 0, 1) := by decide +kernel
theorem d_M_kept_37 : decode b_M_kept 37 = .ok (.getfield 53, 3) := by decide +kernel
theorem d_M_kept_40 : decode b_M_kept 40 = .ok (.bipush 8, 2) := by decide +kernel
theorem d_M_kept_42 : decode b_M_kept 42 = .ok (.iload_n 1, 1) := by decide +kernel
theorem d_M_kept_43 : decode b_M_kept 43 = .ok (.imul, 1) := by decide +kernel
theorem d_M_kept_44 : decode b_M_kept 44 = .ok (.iload_n 2, 1) := by decide +kernel
theorem d_M_kept_45 : decode b_M_kept 45 = .ok (.iadd, 1) := by decide +kernel
theorem d_M_kept_46 : decode b_M_kept 46 = .ok (.iaload, 1) := by decide +kernel
theorem d_M_kept_47 : decode b_M_kept 47 = .ok (.goto 4, 3) := by decide +kernel
theorem d_M_kept_50 : decode b_M_kept 50 = .ok (.iconst 0, 1) := by decide +kernel
theorem d_M_kept_51 : decode b_M_kept 51 = .ok (.ireturn, 1) := by decide +kernel
theorem d_M_queued_0 : decode b_M_queued 0 = .ok (.aload_n 0, 1) := by decide +kernel
theorem d_M_queued_1 : decode b_M_queued 1 = .ok (.iconst 0, 1) := by decide +kernel
theorem d_M_queued_2 : decode b_M_queued 2 = .ok (.putfield 90, 3) := by decide +kernel
theorem d_M_queued_5 : decode b_M_queued 5 = .ok (.aload_n 0, 1) := by decide +kernel
theorem d_M_queued_6 : decode b_M_queued 6 = .ok (.getfield 136, 3) := by decide +kernel
theorem d_M_queued_9 : decode b_M_queued 9 = .ok (.ireturn, 1) := by decide +kernel
