theorem d_D_init_0 : decode b_D_init 0 = .ok (.aload_n 0, 1) := by decide +kernel
theorem d_D_init_1 : decode b_D_init 1 = .ok (.invokespecial 1, 3) := by decide +kernel
theorem d_D_init_4 : decode b_D_init 4 = .ok (.aload_n 0, 1) := by decide +kernel
theorem d_D_init_5 : decode b_D_init 5 = .ok (.new 7, 3) := by decide +kernel
theorem d_D_init_8 : decode b_D_init 8 = .ok (.dup, 1) := by decide +kernel
theorem d_D_init_9 : decode b_D_init 9 = .ok (.invokespecial 9, 3) := by decide +kernel
theorem d_D_init_12 : decode b_D_init 12 = .ok (.putfield 10, 3) := by decide +kernel
theorem d_D_init_15 : decode b_D_init 15 = .ok (.aload_n 0, 1) := by decide +kernel
theorem d_D_init_16 : decode b_D_init 16 = .ok (.bipush 8, 2) := by decide +kernel
theorem d_D_init_18 : decode b_D_init 18 = .ok (.anewarray 16, 3) := by decide +kernel
theorem d_D_init_21 : decode b_D_init 21 = .ok (.putfield 18, 3) := by decide +kernel
theorem d_D_init_24 : decode b_D_init 24 = .ok (.iconst 0, 1) := by decide +kernel
theorem d_D_init_25 : decode b_D_init 25 = .ok (.istore_n 1, 1) := by decide +kernel
theorem d_D_init_26 : decode b_D_init 26 = .ok (.iload_n 1, 1) := by decide +kernel
theorem d_D_init_27 : decode b_D_init 27 = .ok (.bipush 8, 2) := by decide +kernel
theorem d_D_init_29 : decode b_D_init 29 = .ok (.if_icmp .ge 22, 3) := by decide +kernel
theorem d_D_init_32 : decode b_D_init 32 = .ok (.aload_n 0, 1) := by decide +kernel
theorem d_D_init_33 : decode b_D_init 33 = .ok (.getfield 18, 3) := by decide +kernel
theorem d_D_init_36 : decode b_D_init 36 = .ok (.iload_n 1, 1) := by decide +kernel
theorem d_D_init_37 : decode b_D_init 37 = .ok (.new 16, 3) := by decide +kernel
theorem d_D_init_40 : decode b_D_init 40 = .ok (.dup, 1) := by decide +kernel
theorem d_D_init_41 : decode b_D_init 41 = .ok (.invokespecial 22, 3) := by decide +kernel
theorem d_D_init_44 : decode b_D_init 44 = .ok (.aastore, 1) := by decide +kernel
theorem d_D_init_45 : decode b_D_init 45 = .ok (.iinc 1 1, 3) := by decide +kernel
theorem d_D_init_48 : decode b_D_init 48 = .ok (.goto (-22), 3) := by decide +kernel
theorem d_D_init_51 : decode b_D_init 51 = .ok (.aload_n 0, 1) := by decide +kernel
theorem d_D_init_52 : decode b_D_init 52 = .ok (.new 23, 3) := by decide +kernel
theorem d_D_init_55 : decode b_D_init 55 = .ok (.dup, 1) := by decide +kernel
theorem d_D_init_56 : decode b_D_init 56 = .ok (.invokespecial 25, 3) := by decide +kernel
theorem d_D_init_59 : decode b_D_init 59 = .ok (.putfield 26, 3) := by decide +kernel
theorem d_D_init_62 : decode b_D_init 62 = .ok (.aload_n 0, 1) := by decide +kernel
theorem d_D_init_63 : decode b_D_init 63 = .ok (.new 30, 3) := by decide +kernel
theorem d_D_init_66 : decode b_D_init 66 = .ok (.dup, 1) := by decide +kernel
theorem d_D_init_67 : decode b_D_init 67 = .ok (.invokespecial 32, 3) := by decide +kernel
theorem d_D_init_70 : decode b_D_init 70 = .ok (.putfield 33, 3) := by decide +kernel
theorem d_D_init_73 : decode b_D_init 73 = .ok (.aload_n 0, 1) := by decide +kernel
theorem d_D_init_74 : decode b_D_init 74 = .ok (.iconst (-1), 1) := by decide +kernel
theorem d_D_init_75 : decode b_D_init 75 = .ok (.putfield 37, 3) := by decide +kernel
theorem d_D_init_78 : decode b_D_init 78 = .ok (.return_, 1) := by decide +kernel
theorem d_D_draft_0 : decode b_D_draft 0 = .ok (.iload_n 1, 1) := by decide +kernel
theorem d_D_draft_1 : decode b_D_draft 1 = .ok (.bipush 8, 2) := by decide +kernel
theorem d_D_draft_3 : decode b_D_draft 3 = .ok (.invokestatic 41, 3) := by decide +kernel
theorem d_D_draft_6 : decode b_D_draft 6 = .ok (.ifCond .eq 16, 3) := by decide +kernel
theorem d_D_draft_9 : decode b_D_draft 9 = .ok (.iload_n 3, 1) := by decide +kernel
theorem d_D_draft_10 : decode b_D_draft 10 = .ok (.iconst 4, 1) := by decide +kernel
theorem d_D_draft_11 : decode b_D_draft 11 = .ok (.invokestatic 41, 3) := by decide +kernel
theorem d_D_draft_14 : decode b_D_draft 14 = .ok (.ifCond .eq 8, 3) := by decide +kernel
theorem d_D_draft_17 : decode b_D_draft 17 = .ok (.iload_n 2, 1) := by decide +kernel
theorem d_D_draft_18 : decode b_D_draft 18 = .ok (.iconst 1, 1) := by decide +kernel
theorem d_D_draft_19 : decode b_D_draft 19 = .ok (.if_icmp .ge 5, 3) := by decide +kernel
theorem d_D_draft_22 : decode b_D_draft 22 = .ok (.iconst 0, 1) := by decide +kernel
theorem d_D_draft_23 : decode b_D_draft 23 = .ok (.ireturn, 1) := by decide +kernel
theorem d_D_draft_24 : decode b_D_draft 24 = .ok (.aload_n 0, 1) := by decide +kernel
theorem d_D_draft_25 : decode b_D_draft 25 = .ok (.getfield 10, 3) := by decide +kernel
theorem d_D_draft_28 : decode b_D_draft 28 = .ok (.iload_n 1, 1) := by decide +kernel
theorem d_D_draft_29 : decode b_D_draft 29 = .ok (.iload_n 2, 1) := by decide +kernel
theorem d_D_draft_30 : decode b_D_draft 30 = .ok (.iload_n 3, 1) := by decide +kernel
theorem d_D_draft_31 : decode b_D_draft 31 = .ok (.invokevirtual 45, 3) := by decide +kernel
theorem d_D_draft_34 : decode b_D_draft 34 = .ok (.iconst 1, 1) := by decide +kernel
theorem d_D_draft_35 : decode b_D_draft 35 = .ok (.ireturn, 1) := by decide +kernel
theorem d_D_word_0 : decode b_D_word 0 = .ok (.aload_n 0, 1) := by decide +kernel
theorem d_D_word_1 : decode b_D_word 1 = .ok (.getfield 10, 3) := by decide +kernel
theorem d_D_word_4 : decode b_D_word 4 = .ok (.iload_n 1, 1) := by decide +kernel
theorem d_D_word_5 : decode b_D_word 5 = .ok (.invokevirtual 49, 3) := by decide +kernel
theorem d_D_word_8 : decode b_D_word 8 = .ok (.ireturn, 1) := by decide +kernel
theorem d_D_part_0 : decode b_D_part 0 = .ok (.iload_n 1, 1) := by decide +kernel
theorem d_D_part_1 : decode b_D_part 1 = .ok (.bipush 10, 2) := by decide +kernel
theorem d_D_part_3 : decode b_D_part 3 = .ok (.invokestatic 41, 3) := by decide +kernel
theorem d_D_part_6 : decode b_D_part 6 = .ok (.ifCond .eq 17, 3) := by decide +kernel
theorem d_D_part_9 : decode b_D_part 9 = .ok (.iload_n 3, 1) := by decide +kernel
theorem d_D_part_10 : decode b_D_part 10 = .ok (.iconst (-1), 1) := by decide +kernel
theorem d_D_part_11 : decode b_D_part 11 = .ok (.if_icmp .eq 14, 3) := by decide +kernel
theorem d_D_part_14 : decode b_D_part 14 = .ok (.iload_n 3, 1) := by decide +kernel
theorem d_D_part_15 : decode b_D_part 15 = .ok (.bipush 8, 2) := by decide +kernel
theorem d_D_part_17 : decode b_D_part 17 = .ok (.invokestatic 41, 3) := by decide +kernel
theorem d_D_part_20 : decode b_D_part 20 = .ok (.ifCond .ne 5, 3) := by decide +kernel
theorem d_D_part_23 : decode b_D_part 23 = .ok (.iconst 0, 1) := by decide +kernel
theorem d_D_part_24 : decode b_D_part 24 = .ok (.ireturn, 1) := by decide +kernel
theorem d_D_part_25 : decode b_D_part 25 = .ok (.aload_n 0, 1) := by decide +kernel
theorem d_D_part_26 : decode b_D_part 26 = .ok (.getfield 10, 3) := by decide +kernel
theorem d_D_part_29 : decode b_D_part 29 = .ok (.iload_n 1, 1) := by decide +kernel
theorem d_D_part_30 : decode b_D_part 30 = .ok (.iload_n 2, 1) := by decide +kernel
theorem d_D_part_31 : decode b_D_part 31 = .ok (.iload_n 3, 1) := by decide +kernel
theorem d_D_part_32 : decode b_D_part 32 = .ok (.iload 4, 2) := by decide +kernel
theorem d_D_part_34 : decode b_D_part 34 = .ok (.invokevirtual 53, 3) := by decide +kernel
theorem d_D_part_37 : decode b_D_part 37 = .ok (.ireturn, 1) := by decide +kernel
theorem d_D_ask_0 : decode b_D_ask 0 = .ok (.iload_n 1, 1) := by decide +kernel
theorem d_D_ask_1 : decode b_D_ask 1 = .ok (.bipush 8, 2) := by decide +kernel
theorem d_D_ask_3 : decode b_D_ask 3 = .ok (.invokestatic 41, 3) := by decide +kernel
theorem d_D_ask_6 : decode b_D_ask 6 = .ok (.ifCond .eq 14, 3) := by decide +kernel
theorem d_D_ask_9 : decode b_D_ask 9 = .ok (.aload_n 0, 1) := by decide +kernel
theorem d_D_ask_10 : decode b_D_ask 10 = .ok (.getfield 10, 3) := by decide +kernel
theorem d_D_ask_13 : decode b_D_ask 13 = .ok (.iload_n 1, 1) := by decide +kernel
theorem d_D_ask_14 : decode b_D_ask 14 = .ok (.invokevirtual 57, 3) := by decide +kernel
theorem d_D_ask_17 : decode b_D_ask 17 = .ok (.ifCond .eq 5, 3) := by decide +kernel
theorem d_D_ask_20 : decode b_D_ask 20 = .ok (.iconst 0, 1) := by decide +kernel
theorem d_D_ask_21 : decode b_D_ask 21 = .ok (.ireturn, 1) := by decide +kernel
theorem d_D_ask_22 : decode b_D_ask 22 = .ok (.aload_n 0, 1) := by decide +kernel
theorem d_D_ask_23 : decode b_D_ask 23 = .ok (.getfield 10, 3) := by decide +kernel
theorem d_D_ask_26 : decode b_D_ask 26 = .ok (.dup, 1) := by decide +kernel
theorem d_D_ask_27 : decode b_D_ask 27 = .ok (.getfield 60, 3) := by decide +kernel
theorem d_D_ask_30 : decode b_D_ask 30 = .ok (.iconst 1, 1) := by decide +kernel
theorem d_D_ask_31 : decode b_D_ask 31 = .ok (.iload_n 1, 1) := by decide +kernel
theorem d_D_ask_32 : decode b_D_ask 32 = .ok (.ishl, 1) := by decide +kernel
theorem d_D_ask_33 : decode b_D_ask 33 = .ok (.ior, 1) := by decide +kernel
theorem d_D_ask_34 : decode b_D_ask 34 = .ok (.putfield 60, 3) := by decide +kernel
theorem d_D_ask_37 : decode b_D_ask 37 = .ok (.iconst 1, 1) := by decide +kernel
theorem d_D_ask_38 : decode b_D_ask 38 = .ok (.ireturn, 1) := by decide +kernel
theorem d_D_declare_0 : decode b_D_declare 0 = .ok (.iload_n 1, 1) := by decide +kernel
theorem d_D_declare_1 : decode b_D_declare 1 = .ok (.bipush 8, 2) := by decide +kernel
theorem d_D_declare_3 : decode b_D_declare 3 = .ok (.invokestatic 41, 3) := by decide +kernel
theorem d_D_declare_6 : decode b_D_declare 6 = .ok (.ifCond .eq 22, 3) := by decide +kernel
theorem d_D_declare_9 : decode b_D_declare 9 = .ok (.iload_n 2, 1) := by decide +kernel
theorem d_D_declare_10 : decode b_D_declare 10 = .ok (.iconst 3, 1) := by decide +kernel
theorem d_D_declare_11 : decode b_D_declare 11 = .ok (.invokestatic 41, 3) := by decide +kernel
theorem d_D_declare_14 : decode b_D_declare 14 = .ok (.ifCond .eq 14, 3) := by decide +kernel
theorem d_D_declare_17 : decode b_D_declare 17 = .ok (.aload_n 0, 1) := by decide +kernel
theorem d_D_declare_18 : decode b_D_declare 18 = .ok (.getfield 10, 3) := by decide +kernel
theorem d_D_declare_21 : decode b_D_declare 21 = .ok (.iload_n 1, 1) := by decide +kernel
theorem d_D_declare_22 : decode b_D_declare 22 = .ok (.invokevirtual 63, 3) := by decide +kernel
theorem d_D_declare_25 : decode b_D_declare 25 = .ok (.ifCond .eq 5, 3) := by decide +kernel
theorem d_D_declare_28 : decode b_D_declare 28 = .ok (.iconst 0, 1) := by decide +kernel
theorem d_D_declare_29 : decode b_D_declare 29 = .ok (.ireturn, 1) := by decide +kernel
theorem d_D_declare_30 : decode b_D_declare 30 = .ok (.aload_n 0, 1) := by decide +kernel
theorem d_D_declare_31 : decode b_D_declare 31 = .ok (.getfield 10, 3) := by decide +kernel
theorem d_D_declare_34 : decode b_D_declare 34 = .ok (.getfield 66, 3) := by decide +kernel
theorem d_D_declare_37 : decode b_D_declare 37 = .ok (.iload_n 1, 1) := by decide +kernel
theorem d_D_declare_38 : decode b_D_declare 38 = .ok (.iload_n 2, 1) := by decide +kernel
theorem d_D_declare_39 : decode b_D_declare 39 = .ok (.iastore, 1) := by decide +kernel
theorem d_D_declare_40 : decode b_D_declare 40 = .ok (.iconst 1, 1) := by decide +kernel
theorem d_D_declare_41 : decode b_D_declare 41 = .ok (.ireturn, 1) := by decide +kernel
theorem d_D_sign_0 : decode b_D_sign 0 = .ok (.aload_n 0, 1) := by decide +kernel
theorem d_D_sign_1 : decode b_D_sign 1 = .ok (.getfield 10, 3) := by decide +kernel
theorem d_D_sign_4 : decode b_D_sign 4 = .ok (.aload_n 0, 1) := by decide +kernel
theorem d_D_sign_5 : decode b_D_sign 5 = .ok (.getfield 10, 3) := by decide +kernel
theorem d_D_sign_8 : decode b_D_sign 8 = .ok (.invokevirtual 70, 3) := by decide +kernel
theorem d_D_sign_11 : decode b_D_sign 11 = .ok (.putfield 74, 3) := by decide +kernel
theorem d_D_sign_14 : decode b_D_sign 14 = .ok (.aload_n 0, 1) := by decide +kernel
theorem d_D_sign_15 : decode b_D_sign 15 = .ok (.getfield 10, 3) := by decide +kernel
theorem d_D_sign_18 : decode b_D_sign 18 = .ok (.getfield 74, 3) := by decide +kernel
theorem d_D_sign_21 : decode b_D_sign 21 = .ok (.ireturn, 1) := by decide +kernel
theorem d_D_seal_0 : decode b_D_seal 0 = .ok (.aload_n 0, 1) := by decide +kernel
theorem d_D_seal_1 : decode b_D_seal 1 = .ok (.getfield 10, 3) := by decide +kernel
theorem d_D_seal_4 : decode b_D_seal 4 = .ok (.iload_n 1, 1) := by decide +kernel
theorem d_D_seal_5 : decode b_D_seal 5 = .ok (.putfield 74, 3) := by decide +kernel
theorem d_D_seal_8 : decode b_D_seal 8 = .ok (.return_, 1) := by decide +kernel
theorem d_D_install_0 : decode b_D_install 0 = .ok (.aload_n 0, 1) := by decide +kernel
theorem d_D_install_1 : decode b_D_install 1 = .ok (.aload_n 0, 1) := by decide +kernel
theorem d_D_install_2 : decode b_D_install 2 = .ok (.getfield 10, 3) := by decide +kernel
theorem d_D_install_5 : decode b_D_install 5 = .ok (.invokevirtual 77, 3) := by decide +kernel
theorem d_D_install_8 : decode b_D_install 8 = .ok (.ifCond .ne 11, 3) := by decide +kernel
theorem d_D_install_11 : decode b_D_install 11 = .ok (.new 81, 3) := by decide +kernel
theorem d_D_install_14 : decode b_D_install 14 = .ok (.dup, 1) := by decide +kernel
theorem d_D_install_15 : decode b_D_install 15 = .ok (.invokespecial 83, 3) := by decide +kernel
theorem d_D_install_18 : decode b_D_install 18 = .ok (.athrow, 1) := by decide +kernel
theorem d_D_install_19 : decode b_D_install 19 = .ok (.aload_n 0, 1) := by decide +kernel
theorem d_D_install_20 : decode b_D_install 20 = .ok (.aload_n 0, 1) := by decide +kernel
theorem d_D_install_21 : decode b_D_install 21 = .ok (.getfield 10, 3) := by decide +kernel
theorem d_D_install_24 : decode b_D_install 24 = .ok (.invokevirtual 84, 3) := by decide +kernel
theorem d_D_install_27 : decode b_D_install 27 = .ok (.ifCond .ne 11, 3) := by decide +kernel
theorem d_D_install_30 : decode b_D_install 30 = .ok (.new 87, 3) := by decide +kernel
theorem d_D_install_33 : decode b_D_install 33 = .ok (.dup, 1) := by decide +kernel
theorem d_D_install_34 : decode b_D_install 34 = .ok (.invokespecial 89, 3) := by decide +kernel
theorem d_D_install_37 : decode b_D_install 37 = .ok (.athrow, 1) := by decide +kernel
theorem d_D_install_38 : decode b_D_install 38 = .ok (.aload_n 0, 1) := by decide +kernel
theorem d_D_install_39 : decode b_D_install 39 = .ok (.getfield 18, 3) := by decide +kernel
theorem d_D_install_42 : decode b_D_install 42 = .ok (.aload_n 0, 1) := by decide +kernel
theorem d_D_install_43 : decode b_D_install 43 = .ok (.getfield 10, 3) := by decide +kernel
theorem d_D_install_46 : decode b_D_install 46 = .ok (.getfield 90, 3) := by decide +kernel
theorem d_D_install_49 : decode b_D_install 49 = .ok (.aaload, 1) := by decide +kernel
theorem d_D_install_50 : decode b_D_install 50 = .ok (.aload_n 0, 1) := by decide +kernel
theorem d_D_install_51 : decode b_D_install 51 = .ok (.getfield 10, 3) := by decide +kernel
theorem d_D_install_54 : decode b_D_install 54 = .ok (.invokevirtual 93, 3) := by decide +kernel
theorem d_D_install_57 : decode b_D_install 57 = .ok (.aload_n 0, 1) := by decide +kernel
theorem d_D_install_58 : decode b_D_install 58 = .ok (.getfield 10, 3) := by decide +kernel
theorem d_D_install_61 : decode b_D_install 61 = .ok (.getfield 90, 3) := by decide +kernel
theorem d_D_install_64 : decode b_D_install 64 = .ok (.ireturn, 1) := by decide +kernel
theorem d_D_remove_0 : decode b_D_remove 0 = .ok (.aload_n 0, 1) := by decide +kernel
theorem d_D_remove_1 : decode b_D_remove 1 = .ok (.iload_n 1, 1) := by decide +kernel
theorem d_D_remove_2 : decode b_D_remove 2 = .ok (.invokevirtual 97, 3) := by decide +kernel
theorem d_D_remove_5 : decode b_D_remove 5 = .ok (.ifCond .ne 5, 3) := by decide +kernel
theorem d_D_remove_8 : decode b_D_remove 8 = .ok (.iconst 0, 1) := by decide +kernel
theorem d_D_remove_9 : decode b_D_remove 9 = .ok (.ireturn, 1) := by decide +kernel
theorem d_D_remove_10 : decode b_D_remove 10 = .ok (.aload_n 0, 1) := by decide +kernel
theorem d_D_remove_11 : decode b_D_remove 11 = .ok (.getfield 18, 3) := by decide +kernel
theorem d_D_remove_14 : decode b_D_remove 14 = .ok (.iload_n 1, 1) := by decide +kernel
theorem d_D_remove_15 : decode b_D_remove 15 = .ok (.aaload, 1) := by decide +kernel
theorem d_D_remove_16 : decode b_D_remove 16 = .ok (.invokevirtual 100, 3) := by decide +kernel
theorem d_D_remove_19 : decode b_D_remove 19 = .ok (.aload_n 0, 1) := by decide +kernel
theorem d_D_remove_20 : decode b_D_remove 20 = .ok (.getfield 26, 3) := by decide +kernel
theorem d_D_remove_23 : decode b_D_remove 23 = .ok (.iload_n 1, 1) := by decide +kernel
theorem d_D_remove_24 : decode b_D_remove 24 = .ok (.invokevirtual 103, 3) := by decide +kernel
theorem d_D_remove_27 : decode b_D_remove 27 = .ok (.iconst 1, 1) := by decide +kernel
theorem d_D_remove_28 : decode b_D_remove 28 = .ok (.ireturn, 1) := by decide +kernel
theorem d_D_grant_0 : decode b_D_grant 0 = .ok (.aload_n 0, 1) := by decide +kernel
theorem d_D_grant_1 : decode b_D_grant 1 = .ok (.iload_n 1, 1) := by decide +kernel
theorem d_D_grant_2 : decode b_D_grant 2 = .ok (.invokevirtual 97, 3) := by decide +kernel
theorem d_D_grant_5 : decode b_D_grant 5 = .ok (.ifCond .eq 32, 3) := by decide +kernel
theorem d_D_grant_8 : decode b_D_grant 8 = .ok (.aload_n 0, 1) := by decide +kernel
theorem d_D_grant_9 : decode b_D_grant 9 = .ok (.getfield 18, 3) := by decide +kernel
theorem d_D_grant_12 : decode b_D_grant 12 = .ok (.iload_n 1, 1) := by decide +kernel
theorem d_D_grant_13 : decode b_D_grant 13 = .ok (.aaload, 1) := by decide +kernel
theorem d_D_grant_14 : decode b_D_grant 14 = .ok (.getfield 107, 3) := by decide +kernel
theorem d_D_grant_17 : decode b_D_grant 17 = .ok (.iload_n 2, 1) := by decide +kernel
theorem d_D_grant_18 : decode b_D_grant 18 = .ok (.invokevirtual 57, 3) := by decide +kernel
theorem d_D_grant_21 : decode b_D_grant 21 = .ok (.ifCond .eq 16, 3) := by decide +kernel
theorem d_D_grant_24 : decode b_D_grant 24 = .ok (.aload_n 0, 1) := by decide +kernel
theorem d_D_grant_25 : decode b_D_grant 25 = .ok (.getfield 18, 3) := by decide +kernel
theorem d_D_grant_28 : decode b_D_grant 28 = .ok (.iload_n 1, 1) := by decide +kernel
theorem d_D_grant_29 : decode b_D_grant 29 = .ok (.aaload, 1) := by decide +kernel
theorem d_D_grant_30 : decode b_D_grant 30 = .ok (.iload_n 2, 1) := by decide +kernel
theorem d_D_grant_31 : decode b_D_grant 31 = .ok (.invokevirtual 110, 3) := by decide +kernel
theorem d_D_grant_34 : decode b_D_grant 34 = .ok (.ifCond .eq 5, 3) := by decide +kernel
theorem d_D_grant_37 : decode b_D_grant 37 = .ok (.iconst 0, 1) := by decide +kernel
theorem d_D_grant_38 : decode b_D_grant 38 = .ok (.ireturn, 1) := by decide +kernel
theorem d_D_grant_39 : decode b_D_grant 39 = .ok (.aload_n 0, 1) := by decide +kernel
theorem d_D_grant_40 : decode b_D_grant 40 = .ok (.getfield 18, 3) := by decide +kernel
theorem d_D_grant_43 : decode b_D_grant 43 = .ok (.iload_n 1, 1) := by decide +kernel
theorem d_D_grant_44 : decode b_D_grant 44 = .ok (.aaload, 1) := by decide +kernel
theorem d_D_grant_45 : decode b_D_grant 45 = .ok (.dup, 1) := by decide +kernel
theorem d_D_grant_46 : decode b_D_grant 46 = .ok (.getfield 113, 3) := by decide +kernel
theorem d_D_grant_49 : decode b_D_grant 49 = .ok (.iconst 1, 1) := by decide +kernel
theorem d_D_grant_50 : decode b_D_grant 50 = .ok (.iload_n 2, 1) := by decide +kernel
theorem d_D_grant_51 : decode b_D_grant 51 = .ok (.ishl, 1) := by decide +kernel
theorem d_D_grant_52 : decode b_D_grant 52 = .ok (.ior, 1) := by decide +kernel
theorem d_D_grant_53 : decode b_D_grant 53 = .ok (.putfield 113, 3) := by decide +kernel
theorem d_D_grant_56 : decode b_D_grant 56 = .ok (.iconst 1, 1) := by decide +kernel
theorem d_D_grant_57 : decode b_D_grant 57 = .ok (.ireturn, 1) := by decide +kernel
theorem d_D_revoke_0 : decode b_D_revoke 0 = .ok (.aload_n 0, 1) := by decide +kernel
theorem d_D_revoke_1 : decode b_D_revoke 1 = .ok (.iload_n 1, 1) := by decide +kernel
theorem d_D_revoke_2 : decode b_D_revoke 2 = .ok (.invokevirtual 97, 3) := by decide +kernel
theorem d_D_revoke_5 : decode b_D_revoke 5 = .ok (.ifCond .eq 16, 3) := by decide +kernel
theorem d_D_revoke_8 : decode b_D_revoke 8 = .ok (.aload_n 0, 1) := by decide +kernel
theorem d_D_revoke_9 : decode b_D_revoke 9 = .ok (.getfield 18, 3) := by decide +kernel
theorem d_D_revoke_12 : decode b_D_revoke 12 = .ok (.iload_n 1, 1) := by decide +kernel
theorem d_D_revoke_13 : decode b_D_revoke 13 = .ok (.aaload, 1) := by decide +kernel
theorem d_D_revoke_14 : decode b_D_revoke 14 = .ok (.iload_n 2, 1) := by decide +kernel
theorem d_D_revoke_15 : decode b_D_revoke 15 = .ok (.invokevirtual 110, 3) := by decide +kernel
theorem d_D_revoke_18 : decode b_D_revoke 18 = .ok (.ifCond .ne 5, 3) := by decide +kernel
theorem d_D_revoke_21 : decode b_D_revoke 21 = .ok (.iconst 0, 1) := by decide +kernel
theorem d_D_revoke_22 : decode b_D_revoke 22 = .ok (.ireturn, 1) := by decide +kernel
theorem d_D_revoke_23 : decode b_D_revoke 23 = .ok (.aload_n 0, 1) := by decide +kernel
theorem d_D_revoke_24 : decode b_D_revoke 24 = .ok (.getfield 18, 3) := by decide +kernel
theorem d_D_revoke_27 : decode b_D_revoke 27 = .ok (.iload_n 1, 1) := by decide +kernel
theorem d_D_revoke_28 : decode b_D_revoke 28 = .ok (.aaload, 1) := by decide +kernel
theorem d_D_revoke_29 : decode b_D_revoke 29 = .ok (.dup, 1) := by decide +kernel
theorem d_D_revoke_30 : decode b_D_revoke 30 = .ok (.getfield 113, 3) := by decide +kernel
theorem d_D_revoke_33 : decode b_D_revoke 33 = .ok (.iconst 1, 1) := by decide +kernel
theorem d_D_revoke_34 : decode b_D_revoke 34 = .ok (.iload_n 2, 1) := by decide +kernel
theorem d_D_revoke_35 : decode b_D_revoke 35 = .ok (.ishl, 1) := by decide +kernel
theorem d_D_revoke_36 : decode b_D_revoke 36 = .ok (.iconst (-1), 1) := by decide +kernel
theorem d_D_revoke_37 : decode b_D_revoke 37 = .ok (.ixor, 1) := by decide +kernel
theorem d_D_revoke_38 : decode b_D_revoke 38 = .ok (.iand, 1) := by decide +kernel
theorem d_D_revoke_39 : decode b_D_revoke 39 = .ok (.putfield 113, 3) := by decide +kernel
theorem d_D_revoke_42 : decode b_D_revoke 42 = .ok (.iconst 1, 1) := by decide +kernel
theorem d_D_revoke_43 : decode b_D_revoke 43 = .ok (.ireturn, 1) := by decide +kernel
theorem d_D_send_0 : decode b_D_send 0 = .ok (.aload_n 0, 1) := by decide +kernel
theorem d_D_send_1 : decode b_D_send 1 = .ok (.iload_n 1, 1) := by decide +kernel
theorem d_D_send_2 : decode b_D_send 2 = .ok (.invokevirtual 97, 3) := by decide +kernel
theorem d_D_send_5 : decode b_D_send 5 = .ok (.ifCond .eq 12, 3) := by decide +kernel
theorem d_D_send_8 : decode b_D_send 8 = .ok (.iload_n 2, 1) := by decide +kernel
theorem d_D_send_9 : decode b_D_send 9 = .ok (.bipush 10, 2) := by decide +kernel
theorem d_D_send_11 : decode b_D_send 11 = .ok (.invokestatic 41, 3) := by decide +kernel
theorem d_D_send_14 : decode b_D_send 14 = .ok (.ifCond .ne 5, 3) := by decide +kernel
theorem d_D_send_17 : decode b_D_send 17 = .ok (.iconst 0, 1) := by decide +kernel
theorem d_D_send_18 : decode b_D_send 18 = .ok (.ireturn, 1) := by decide +kernel
theorem d_D_send_19 : decode b_D_send 19 = .ok (.aload_n 0, 1) := by decide +kernel
theorem d_D_send_20 : decode b_D_send 20 = .ok (.getfield 26, 3) := by decide +kernel
theorem d_D_send_23 : decode b_D_send 23 = .ok (.iload_n 1, 1) := by decide +kernel
theorem d_D_send_24 : decode b_D_send 24 = .ok (.iload_n 2, 1) := by decide +kernel
theorem d_D_send_25 : decode b_D_send 25 = .ok (.iload_n 3, 1) := by decide +kernel
theorem d_D_send_26 : decode b_D_send 26 = .ok (.invokevirtual 116, 3) := by decide +kernel
theorem d_D_send_29 : decode b_D_send 29 = .ok (.ireturn, 1) := by decide +kernel
theorem d_D_deliver_0 : decode b_D_deliver 0 = .ok (.aload_n 0, 1) := by decide +kernel
theorem d_D_deliver_1 : decode b_D_deliver 1 = .ok (.getfield 26, 3) := by decide +kernel
theorem d_D_deliver_4 : decode b_D_deliver 4 = .ok (.getfield 120, 3) := by decide +kernel
theorem d_D_deliver_7 : decode b_D_deliver 7 = .ok (.ifCond .ne 5, 3) := by decide +kernel
theorem d_D_deliver_10 : decode b_D_deliver 10 = .ok (.iconst (-1), 1) := by decide +kernel
theorem d_D_deliver_11 : decode b_D_deliver 11 = .ok (.ireturn, 1) := by decide +kernel
theorem d_D_deliver_12 : decode b_D_deliver 12 = .ok (.aload_n 0, 1) := by decide +kernel
theorem d_D_deliver_13 : decode b_D_deliver 13 = .ok (.getfield 26, 3) := by decide +kernel
theorem d_D_deliver_16 : decode b_D_deliver 16 = .ok (.getfield 123, 3) := by decide +kernel
theorem d_D_deliver_19 : decode b_D_deliver 19 = .ok (.iconst 0, 1) := by decide +kernel
theorem d_D_deliver_20 : decode b_D_deliver 20 = .ok (.iaload, 1) := by decide +kernel
theorem d_D_deliver_21 : decode b_D_deliver 21 = .ok (.istore_n 1, 1) := by decide +kernel
theorem d_D_deliver_22 : decode b_D_deliver 22 = .ok (.aload_n 0, 1) := by decide +kernel
theorem d_D_deliver_23 : decode b_D_deliver 23 = .ok (.getfield 26, 3) := by decide +kernel
theorem d_D_deliver_26 : decode b_D_deliver 26 = .ok (.getfield 126, 3) := by decide +kernel
theorem d_D_deliver_29 : decode b_D_deliver 29 = .ok (.iconst 0, 1) := by decide +kernel
theorem d_D_deliver_30 : decode b_D_deliver 30 = .ok (.iaload, 1) := by decide +kernel
theorem d_D_deliver_31 : decode b_D_deliver 31 = .ok (.istore_n 2, 1) := by decide +kernel
theorem d_D_deliver_32 : decode b_D_deliver 32 = .ok (.aload_n 0, 1) := by decide +kernel
theorem d_D_deliver_33 : decode b_D_deliver 33 = .ok (.getfield 26, 3) := by decide +kernel
theorem d_D_deliver_36 : decode b_D_deliver 36 = .ok (.getfield 129, 3) := by decide +kernel
theorem d_D_deliver_39 : decode b_D_deliver 39 = .ok (.iconst 0, 1) := by decide +kernel
theorem d_D_deliver_40 : decode b_D_deliver 40 = .ok (.iaload, 1) := by decide +kernel
theorem d_D_deliver_41 : decode b_D_deliver 41 = .ok (.istore_n 3, 1) := by decide +kernel
theorem d_D_deliver_42 : decode b_D_deliver 42 = .ok (.aload_n 0, 1) := by decide +kernel
theorem d_D_deliver_43 : decode b_D_deliver 43 = .ok (.getfield 26, 3) := by decide +kernel
theorem d_D_deliver_46 : decode b_D_deliver 46 = .ok (.invokevirtual 132, 3) := by decide +kernel
theorem d_D_deliver_49 : decode b_D_deliver 49 = .ok (.iconst 0, 1) := by decide +kernel
theorem d_D_deliver_50 : decode b_D_deliver 50 = .ok (.istore 4, 2) := by decide +kernel
theorem d_D_deliver_52 : decode b_D_deliver 52 = .ok (.iload 4, 2) := by decide +kernel
theorem d_D_deliver_54 : decode b_D_deliver 54 = .ok (.bipush 8, 2) := by decide +kernel
theorem d_D_deliver_56 : decode b_D_deliver 56 = .ok (.if_icmp .ge 42, 3) := by decide +kernel
theorem d_D_deliver_59 : decode b_D_deliver 59 = .ok (.aload_n 0, 1) := by decide +kernel
theorem d_D_deliver_60 : decode b_D_deliver 60 = .ok (.iload 4, 2) := by decide +kernel
theorem d_D_deliver_62 : decode b_D_deliver 62 = .ok (.iload_n 1, 1) := by decide +kernel
theorem d_D_deliver_63 : decode b_D_deliver 63 = .ok (.iload_n 2, 1) := by decide +kernel
theorem d_D_deliver_64 : decode b_D_deliver 64 = .ok (.invokevirtual 135, 3) := by decide +kernel
theorem d_D_deliver_67 : decode b_D_deliver 67 = .ok (.istore 5, 2) := by decide +kernel
theorem d_D_deliver_69 : decode b_D_deliver 69 = .ok (.iload 5, 2) := by decide +kernel
theorem d_D_deliver_71 : decode b_D_deliver 71 = .ok (.iconst (-1), 1) := by decide +kernel
theorem d_D_deliver_72 : decode b_D_deliver 72 = .ok (.if_icmp .eq 20, 3) := by decide +kernel
theorem d_D_deliver_75 : decode b_D_deliver 75 = .ok (.aload_n 0, 1) := by decide +kernel
theorem d_D_deliver_76 : decode b_D_deliver 76 = .ok (.getfield 18, 3) := by decide +kernel
theorem d_D_deliver_79 : decode b_D_deliver 79 = .ok (.iload 4, 2) := by decide +kernel
theorem d_D_deliver_81 : decode b_D_deliver 81 = .ok (.aaload, 1) := by decide +kernel
theorem d_D_deliver_82 : decode b_D_deliver 82 = .ok (.iload 5, 2) := by decide +kernel
theorem d_D_deliver_84 : decode b_D_deliver 84 = .ok (.iload_n 3, 1) := by decide +kernel
theorem d_D_deliver_85 : decode b_D_deliver 85 = .ok (.iload_n 1, 1) := by decide +kernel
theorem d_D_deliver_86 : decode b_D_deliver 86 = .ok (.invokevirtual 139, 3) := by decide +kernel
theorem d_D_deliver_89 : decode b_D_deliver 89 = .ok (.iload 4, 2) := by decide +kernel
theorem d_D_deliver_91 : decode b_D_deliver 91 = .ok (.ireturn, 1) := by decide +kernel
theorem d_D_deliver_92 : decode b_D_deliver 92 = .ok (.iinc 4 1, 3) := by decide +kernel
theorem d_D_deliver_95 : decode b_D_deliver 95 = .ok (.goto (-43), 3) := by decide +kernel
theorem d_D_deliver_98 : decode b_D_deliver 98 = .ok (.iconst (-1), 1) := by decide +kernel
theorem d_D_deliver_99 : decode b_D_deliver 99 = .ok (.ireturn, 1) := by decide +kernel
theorem d_D_step_0 : decode b_D_step 0 = .ok (.aload_n 0, 1) := by decide +kernel
theorem d_D_step_1 : decode b_D_step 1 = .ok (.invokevirtual 142, 3) := by decide +kernel
theorem d_D_step_4 : decode b_D_step 4 = .ok (.istore_n 1, 1) := by decide +kernel
theorem d_D_step_5 : decode b_D_step 5 = .ok (.iload_n 1, 1) := by decide +kernel
theorem d_D_step_6 : decode b_D_step 6 = .ok (.iconst (-1), 1) := by decide +kernel
theorem d_D_step_7 : decode b_D_step 7 = .ok (.if_icmp .ne 5, 3) := by decide +kernel
theorem d_D_step_10 : decode b_D_step 10 = .ok (.iconst (-1), 1) := by decide +kernel
theorem d_D_step_11 : decode b_D_step 11 = .ok (.ireturn, 1) := by decide +kernel
theorem d_D_step_12 : decode b_D_step 12 = .ok (.aload_n 0, 1) := by decide +kernel
theorem d_D_step_13 : decode b_D_step 13 = .ok (.iload_n 1, 1) := by decide +kernel
theorem d_D_step_14 : decode b_D_step 14 = .ok (.putfield 37, 3) := by decide +kernel
theorem d_D_step_17 : decode b_D_step 17 = .ok (.aload_n 0, 1) := by decide +kernel
theorem d_D_step_18 : decode b_D_step 18 = .ok (.iload_n 1, 1) := by decide +kernel
theorem d_D_step_19 : decode b_D_step 19 = .ok (.invokevirtual 145, 3) := by decide +kernel
theorem d_D_step_22 : decode b_D_step 22 = .ok (.ifCond .ne 21, 3) := by decide +kernel
theorem d_D_step_25 : decode b_D_step 25 = .ok (.aload_n 0, 1) := by decide +kernel
theorem d_D_step_26 : decode b_D_step 26 = .ok (.getfield 18, 3) := by decide +kernel
theorem d_D_step_29 : decode b_D_step 29 = .ok (.iload_n 1, 1) := by decide +kernel
theorem d_D_step_30 : decode b_D_step 30 = .ok (.aaload, 1) := by decide +kernel
theorem d_D_step_31 : decode b_D_step 31 = .ok (.iconst 0, 1) := by decide +kernel
theorem d_D_step_32 : decode b_D_step 32 = .ok (.putfield 148, 3) := by decide +kernel
theorem d_D_step_35 : decode b_D_step 35 = .ok (.new 87, 3) := by decide +kernel
theorem d_D_step_38 : decode b_D_step 38 = .ok (.dup, 1) := by decide +kernel
theorem d_D_step_39 : decode b_D_step 39 = .ok (.invokespecial 89, 3) := by decide +kernel
theorem d_D_step_42 : decode b_D_step 42 = .ok (.athrow, 1) := by decide +kernel
theorem d_D_step_43 : decode b_D_step 43 = .ok (.iload_n 1, 1) := by decide +kernel
theorem d_D_step_44 : decode b_D_step 44 = .ok (.ireturn, 1) := by decide +kernel
theorem d_D_app_0 : decode b_D_app 0 = .ok (.aload_n 0, 1) := by decide +kernel
theorem d_D_app_1 : decode b_D_app 1 = .ok (.iload_n 1, 1) := by decide +kernel
theorem d_D_app_2 : decode b_D_app 2 = .ok (.invokevirtual 97, 3) := by decide +kernel
theorem d_D_app_5 : decode b_D_app 5 = .ok (.ifCond .ne 5, 3) := by decide +kernel
theorem d_D_app_8 : decode b_D_app 8 = .ok (.iconst (-1), 1) := by decide +kernel
theorem d_D_app_9 : decode b_D_app 9 = .ok (.ireturn, 1) := by decide +kernel
theorem d_D_app_10 : decode b_D_app 10 = .ok (.aload_n 0, 1) := by decide +kernel
theorem d_D_app_11 : decode b_D_app 11 = .ok (.getfield 18, 3) := by decide +kernel
theorem d_D_app_14 : decode b_D_app 14 = .ok (.iload_n 1, 1) := by decide +kernel
theorem d_D_app_15 : decode b_D_app 15 = .ok (.aaload, 1) := by decide +kernel
theorem d_D_app_16 : decode b_D_app 16 = .ok (.astore_n 3, 1) := by decide +kernel
theorem d_D_app_17 : decode b_D_app 17 = .ok (.iload_n 2, 1) := by decide +kernel
theorem d_D_app_18 : decode b_D_app 18 = .ok (.tableswitch 127 0 6 #[42, 50, 58, 71, 87, 103, 119], 42) := by decide +kernel
theorem d_D_app_60 : decode b_D_app 60 = .ok (.aload_n 3, 1) := by decide +kernel
theorem d_D_app_61 : decode b_D_app 61 = .ok (.getfield 107, 3) := by decide +kernel
theorem d_D_app_64 : decode b_D_app 64 = .ok (.getfield 152, 3) := by decide +kernel
theorem d_D_app_67 : decode b_D_app 67 = .ok (.ireturn, 1) := by decide +kernel
theorem d_D_app_68 : decode b_D_app 68 = .ok (.aload_n 3, 1) := by decide +kernel
theorem d_D_app_69 : decode b_D_app 69 = .ok (.getfield 107, 3) := by decide +kernel
theorem d_D_app_72 : decode b_D_app 72 = .ok (.getfield 155, 3) := by decide +kernel
theorem d_D_app_75 : decode b_D_app 75 = .ok (.ireturn, 1) := by decide +kernel
theorem d_D_app_76 : decode b_D_app 76 = .ok (.aload_n 3, 1) := by decide +kernel
theorem d_D_app_77 : decode b_D_app 77 = .ok (.getfield 148, 3) := by decide +kernel
theorem d_D_app_80 : decode b_D_app 80 = .ok (.ifCond .eq 7, 3) := by decide +kernel
theorem d_D_app_83 : decode b_D_app 83 = .ok (.iconst 1, 1) := by decide +kernel
theorem d_D_app_84 : decode b_D_app 84 = .ok (.goto 4, 3) := by decide +kernel
theorem d_D_app_87 : decode b_D_app 87 = .ok (.iconst 0, 1) := by decide +kernel
theorem d_D_app_88 : decode b_D_app 88 = .ok (.ireturn, 1) := by decide +kernel
theorem d_D_app_89 : decode b_D_app 89 = .ok (.aload_n 3, 1) := by decide +kernel
theorem d_D_app_90 : decode b_D_app 90 = .ok (.getfield 148, 3) := by decide +kernel
theorem d_D_app_93 : decode b_D_app 93 = .ok (.ifCond .eq 10, 3) := by decide +kernel
theorem d_D_app_96 : decode b_D_app 96 = .ok (.aload_n 3, 1) := by decide +kernel
theorem d_D_app_97 : decode b_D_app 97 = .ok (.getfield 158, 3) := by decide +kernel
theorem d_D_app_100 : decode b_D_app 100 = .ok (.goto 4, 3) := by decide +kernel
theorem d_D_app_103 : decode b_D_app 103 = .ok (.iconst 0, 1) := by decide +kernel
theorem d_D_app_104 : decode b_D_app 104 = .ok (.ireturn, 1) := by decide +kernel
theorem d_D_app_105 : decode b_D_app 105 = .ok (.aload_n 3, 1) := by decide +kernel
theorem d_D_app_106 : decode b_D_app 106 = .ok (.getfield 148, 3) := by decide +kernel
theorem d_D_app_109 : decode b_D_app 109 = .ok (.ifCond .eq 10, 3) := by decide +kernel
theorem d_D_app_112 : decode b_D_app 112 = .ok (.aload_n 3, 1) := by decide +kernel
theorem d_D_app_113 : decode b_D_app 113 = .ok (.getfield 161, 3) := by decide +kernel
theorem d_D_app_116 : decode b_D_app 116 = .ok (.goto 4, 3) := by decide +kernel
theorem d_D_app_119 : decode b_D_app 119 = .ok (.iconst 0, 1) := by decide +kernel
theorem d_D_app_120 : decode b_D_app 120 = .ok (.ireturn, 1) := by decide +kernel
theorem d_D_app_121 : decode b_D_app 121 = .ok (.aload_n 3, 1) := by decide +kernel
theorem d_D_app_122 : decode b_D_app 122 = .ok (.getfield 148, 3) := by decide +kernel
theorem d_D_app_125 : decode b_D_app 125 = .ok (.ifCond .eq 10, 3) := by decide +kernel
theorem d_D_app_128 : decode b_D_app 128 = .ok (.aload_n 3, 1) := by decide +kernel
theorem d_D_app_129 : decode b_D_app 129 = .ok (.invokevirtual 164, 3) := by decide +kernel
theorem d_D_app_132 : decode b_D_app 132 = .ok (.goto 4, 3) := by decide +kernel
theorem d_D_app_135 : decode b_D_app 135 = .ok (.iconst 0, 1) := by decide +kernel
theorem d_D_app_136 : decode b_D_app 136 = .ok (.ireturn, 1) := by decide +kernel
theorem d_D_app_137 : decode b_D_app 137 = .ok (.aload_n 3, 1) := by decide +kernel
theorem d_D_app_138 : decode b_D_app 138 = .ok (.getfield 167, 3) := by decide +kernel
theorem d_D_app_141 : decode b_D_app 141 = .ok (.invokestatic 170, 3) := by decide +kernel
theorem d_D_app_144 : decode b_D_app 144 = .ok (.ireturn, 1) := by decide +kernel
theorem d_D_app_145 : decode b_D_app 145 = .ok (.iconst (-1), 1) := by decide +kernel
theorem d_D_app_146 : decode b_D_app 146 = .ok (.ireturn, 1) := by decide +kernel
theorem d_D_holds_0 : decode b_D_holds 0 = .ok (.aload_n 0, 1) := by decide +kernel
theorem d_D_holds_1 : decode b_D_holds 1 = .ok (.iload_n 1, 1) := by decide +kernel
theorem d_D_holds_2 : decode b_D_holds 2 = .ok (.invokevirtual 97, 3) := by decide +kernel
theorem d_D_holds_5 : decode b_D_holds 5 = .ok (.ifCond .eq 19, 3) := by decide +kernel
theorem d_D_holds_8 : decode b_D_holds 8 = .ok (.aload_n 0, 1) := by decide +kernel
theorem d_D_holds_9 : decode b_D_holds 9 = .ok (.getfield 18, 3) := by decide +kernel
theorem d_D_holds_12 : decode b_D_holds 12 = .ok (.iload_n 1, 1) := by decide +kernel
theorem d_D_holds_13 : decode b_D_holds 13 = .ok (.aaload, 1) := by decide +kernel
theorem d_D_holds_14 : decode b_D_holds 14 = .ok (.getfield 107, 3) := by decide +kernel
theorem d_D_holds_17 : decode b_D_holds 17 = .ok (.iload_n 2, 1) := by decide +kernel
theorem d_D_holds_18 : decode b_D_holds 18 = .ok (.invokevirtual 57, 3) := by decide +kernel
theorem d_D_holds_21 : decode b_D_holds 21 = .ok (.ifCond .ne 5, 3) := by decide +kernel
theorem d_D_holds_24 : decode b_D_holds 24 = .ok (.iconst 0, 1) := by decide +kernel
theorem d_D_holds_25 : decode b_D_holds 25 = .ok (.ireturn, 1) := by decide +kernel
theorem d_D_holds_26 : decode b_D_holds 26 = .ok (.aload_n 0, 1) := by decide +kernel
theorem d_D_holds_27 : decode b_D_holds 27 = .ok (.iload_n 2, 1) := by decide +kernel
theorem d_D_holds_28 : decode b_D_holds 28 = .ok (.invokevirtual 176, 3) := by decide +kernel
theorem d_D_holds_31 : decode b_D_holds 31 = .ok (.istore_n 3, 1) := by decide +kernel
theorem d_D_holds_32 : decode b_D_holds 32 = .ok (.iload_n 3, 1) := by decide +kernel
theorem d_D_holds_33 : decode b_D_holds 33 = .ok (.iconst (-1), 1) := by decide +kernel
theorem d_D_holds_34 : decode b_D_holds 34 = .ok (.if_icmp .ne 5, 3) := by decide +kernel
theorem d_D_holds_37 : decode b_D_holds 37 = .ok (.iconst 0, 1) := by decide +kernel
theorem d_D_holds_38 : decode b_D_holds 38 = .ok (.ireturn, 1) := by decide +kernel
theorem d_D_holds_39 : decode b_D_holds 39 = .ok (.aload_n 0, 1) := by decide +kernel
theorem d_D_holds_40 : decode b_D_holds 40 = .ok (.getfield 18, 3) := by decide +kernel
theorem d_D_holds_43 : decode b_D_holds 43 = .ok (.iload_n 3, 1) := by decide +kernel
theorem d_D_holds_44 : decode b_D_holds 44 = .ok (.aaload, 1) := by decide +kernel
theorem d_D_holds_45 : decode b_D_holds 45 = .ok (.getfield 107, 3) := by decide +kernel
theorem d_D_holds_48 : decode b_D_holds 48 = .ok (.getfield 66, 3) := by decide +kernel
theorem d_D_holds_51 : decode b_D_holds 51 = .ok (.iload_n 2, 1) := by decide +kernel
theorem d_D_holds_52 : decode b_D_holds 52 = .ok (.iaload, 1) := by decide +kernel
theorem d_D_holds_53 : decode b_D_holds 53 = .ok (.istore 4, 2) := by decide +kernel
theorem d_D_holds_55 : decode b_D_holds 55 = .ok (.iload 4, 2) := by decide +kernel
theorem d_D_holds_57 : decode b_D_holds 57 = .ok (.ifCond .ne 5, 3) := by decide +kernel
theorem d_D_holds_60 : decode b_D_holds 60 = .ok (.iconst 1, 1) := by decide +kernel
theorem d_D_holds_61 : decode b_D_holds 61 = .ok (.ireturn, 1) := by decide +kernel
theorem d_D_holds_62 : decode b_D_holds 62 = .ok (.iload 4, 2) := by decide +kernel
theorem d_D_holds_64 : decode b_D_holds 64 = .ok (.iconst 1, 1) := by decide +kernel
theorem d_D_holds_65 : decode b_D_holds 65 = .ok (.if_icmp .ne 14, 3) := by decide +kernel
theorem d_D_holds_68 : decode b_D_holds 68 = .ok (.aload_n 0, 1) := by decide +kernel
theorem d_D_holds_69 : decode b_D_holds 69 = .ok (.getfield 18, 3) := by decide +kernel
theorem d_D_holds_72 : decode b_D_holds 72 = .ok (.iload_n 1, 1) := by decide +kernel
theorem d_D_holds_73 : decode b_D_holds 73 = .ok (.aaload, 1) := by decide +kernel
theorem d_D_holds_74 : decode b_D_holds 74 = .ok (.iload_n 2, 1) := by decide +kernel
theorem d_D_holds_75 : decode b_D_holds 75 = .ok (.invokevirtual 110, 3) := by decide +kernel
theorem d_D_holds_78 : decode b_D_holds 78 = .ok (.ireturn, 1) := by decide +kernel
theorem d_D_holds_79 : decode b_D_holds 79 = .ok (.aload_n 0, 1) := by decide +kernel
theorem d_D_holds_80 : decode b_D_holds 80 = .ok (.getfield 18, 3) := by decide +kernel
theorem d_D_holds_83 : decode b_D_holds 83 = .ok (.iload_n 1, 1) := by decide +kernel
theorem d_D_holds_84 : decode b_D_holds 84 = .ok (.aaload, 1) := by decide +kernel
theorem d_D_holds_85 : decode b_D_holds 85 = .ok (.getfield 107, 3) := by decide +kernel
theorem d_D_holds_88 : decode b_D_holds 88 = .ok (.getfield 155, 3) := by decide +kernel
theorem d_D_holds_91 : decode b_D_holds 91 = .ok (.aload_n 0, 1) := by decide +kernel
theorem d_D_holds_92 : decode b_D_holds 92 = .ok (.getfield 18, 3) := by decide +kernel
theorem d_D_holds_95 : decode b_D_holds 95 = .ok (.iload_n 3, 1) := by decide +kernel
theorem d_D_holds_96 : decode b_D_holds 96 = .ok (.aaload, 1) := by decide +kernel
theorem d_D_holds_97 : decode b_D_holds 97 = .ok (.getfield 107, 3) := by decide +kernel
theorem d_D_holds_100 : decode b_D_holds 100 = .ok (.getfield 155, 3) := by decide +kernel
theorem d_D_holds_103 : decode b_D_holds 103 = .ok (.if_icmp .ne 7, 3) := by decide +kernel
theorem d_D_holds_106 : decode b_D_holds 106 = .ok (.iconst 1, 1) := by decide +kernel
theorem d_D_holds_107 : decode b_D_holds 107 = .ok (.goto 4, 3) := by decide +kernel
theorem d_D_holds_110 : decode b_D_holds 110 = .ok (.iconst 0, 1) := by decide +kernel
theorem d_D_holds_111 : decode b_D_holds 111 = .ok (.ireturn, 1) := by decide +kernel
theorem d_D_kept_0 : decode b_D_kept 0 = .ok (.aload_n 0, 1) := by decide +kernel
theorem d_D_kept_1 : decode b_D_kept 1 = .ok (.iload_n 1, 1) := by decide +kernel
theorem d_D_kept_2 : decode b_D_kept 2 = .ok (.invokevirtual 97, 3) := by decide +kernel
theorem d_D_kept_5 : decode b_D_kept 5 = .ok (.ifCond .eq 16, 3) := by decide +kernel
theorem d_D_kept_8 : decode b_D_kept 8 = .ok (.aload_n 0, 1) := by decide +kernel
theorem d_D_kept_9 : decode b_D_kept 9 = .ok (.getfield 18, 3) := by decide +kernel
theorem d_D_kept_12 : decode b_D_kept 12 = .ok (.iload_n 1, 1) := by decide +kernel
theorem d_D_kept_13 : decode b_D_kept 13 = .ok (.aaload, 1) := by decide +kernel
theorem d_D_kept_14 : decode b_D_kept 14 = .ok (.iload_n 2, 1) := by decide +kernel
theorem d_D_kept_15 : decode b_D_kept 15 = .ok (.invokevirtual 179, 3) := by decide +kernel
theorem d_D_kept_18 : decode b_D_kept 18 = .ok (.goto 4, 3) := by decide +kernel
theorem d_D_kept_21 : decode b_D_kept 21 = .ok (.iconst 0, 1) := by decide +kernel
theorem d_D_kept_22 : decode b_D_kept 22 = .ok (.ireturn, 1) := by decide +kernel
theorem d_D_queued_0 : decode b_D_queued 0 = .ok (.aload_n 0, 1) := by decide +kernel
theorem d_D_queued_1 : decode b_D_queued 1 = .ok (.getfield 26, 3) := by decide +kernel
theorem d_D_queued_4 : decode b_D_queued 4 = .ok (.getfield 120, 3) := by decide +kernel
theorem d_D_queued_7 : decode b_D_queued 7 = .ok (.ireturn, 1) := by decide +kernel
theorem d_D_isBelow_0 : decode b_D_isBelow 0 = .ok (.iload_n 0, 1) := by decide +kernel
theorem d_D_isBelow_1 : decode b_D_isBelow 1 = .ok (.ifCond .lt 12, 3) := by decide +kernel
theorem d_D_isBelow_4 : decode b_D_isBelow 4 = .ok (.iload_n 0, 1) := by decide +kernel
theorem d_D_isBelow_5 : decode b_D_isBelow 5 = .ok (.iload_n 1, 1) := by decide +kernel
theorem d_D_isBelow_6 : decode b_D_isBelow 6 = .ok (.if_icmp .ge 7, 3) := by decide +kernel
theorem d_D_isBelow_9 : decode b_D_isBelow 9 = .ok (.iconst 1, 1) := by decide +kernel
theorem d_D_isBelow_10 : decode b_D_isBelow 10 = .ok (.goto 4, 3) := by decide +kernel
theorem d_D_isBelow_13 : decode b_D_isBelow 13 = .ok (.iconst 0, 1) := by decide +kernel
theorem d_D_isBelow_14 : decode b_D_isBelow 14 = .ok (.ireturn, 1) := by decide +kernel
theorem d_D_hasBit_0 : decode b_D_hasBit 0 = .ok (.iload_n 1, 1) := by decide +kernel
theorem d_D_hasBit_1 : decode b_D_hasBit 1 = .ok (.iload_n 2, 1) := by decide +kernel
theorem d_D_hasBit_2 : decode b_D_hasBit 2 = .ok (.invokestatic 41, 3) := by decide +kernel
theorem d_D_hasBit_5 : decode b_D_hasBit 5 = .ok (.ifCond .eq 16, 3) := by decide +kernel
theorem d_D_hasBit_8 : decode b_D_hasBit 8 = .ok (.iload_n 0, 1) := by decide +kernel
theorem d_D_hasBit_9 : decode b_D_hasBit 9 = .ok (.iload_n 1, 1) := by decide +kernel
theorem d_D_hasBit_10 : decode b_D_hasBit 10 = .ok (.ishr, 1) := by decide +kernel
theorem d_D_hasBit_11 : decode b_D_hasBit 11 = .ok (.iconst 1, 1) := by decide +kernel
theorem d_D_hasBit_12 : decode b_D_hasBit 12 = .ok (.iand, 1) := by decide +kernel
theorem d_D_hasBit_13 : decode b_D_hasBit 13 = .ok (.iconst 1, 1) := by decide +kernel
theorem d_D_hasBit_14 : decode b_D_hasBit 14 = .ok (.if_icmp .ne 7, 3) := by decide +kernel
theorem d_D_hasBit_17 : decode b_D_hasBit 17 = .ok (.iconst 1, 1) := by decide +kernel
theorem d_D_hasBit_18 : decode b_D_hasBit 18 = .ok (.goto 4, 3) := by decide +kernel
theorem d_D_hasBit_21 : decode b_D_hasBit 21 = .ok (.iconst 0, 1) := by decide +kernel
theorem d_D_hasBit_22 : decode b_D_hasBit 22 = .ok (.ireturn, 1) := by decide +kernel
theorem d_D_operationOf_0 : decode b_D_operationOf 0 = .ok (.iload_n 0, 1) := by decide +kernel
theorem d_D_operationOf_1 : decode b_D_operationOf 1 = .ok (.bipush 15, 2) := by decide +kernel
theorem d_D_operationOf_3 : decode b_D_operationOf 3 = .ok (.iand, 1) := by decide +kernel
theorem d_D_operationOf_4 : decode b_D_operationOf 4 = .ok (.ireturn, 1) := by decide +kernel
theorem d_D_argumentOf_0 : decode b_D_argumentOf 0 = .ok (.iload_n 0, 1) := by decide +kernel
theorem d_D_argumentOf_1 : decode b_D_argumentOf 1 = .ok (.iconst 4, 1) := by decide +kernel
theorem d_D_argumentOf_2 : decode b_D_argumentOf 2 = .ok (.ishr, 1) := by decide +kernel
theorem d_D_argumentOf_3 : decode b_D_argumentOf 3 = .ok (.ireturn, 1) := by decide +kernel
theorem d_D_isInstalled_0 : decode b_D_isInstalled 0 = .ok (.iload_n 1, 1) := by decide +kernel
theorem d_D_isInstalled_1 : decode b_D_isInstalled 1 = .ok (.bipush 8, 2) := by decide +kernel
theorem d_D_isInstalled_3 : decode b_D_isInstalled 3 = .ok (.invokestatic 41, 3) := by decide +kernel
theorem d_D_isInstalled_6 : decode b_D_isInstalled 6 = .ok (.ifCond .eq 19, 3) := by decide +kernel
theorem d_D_isInstalled_9 : decode b_D_isInstalled 9 = .ok (.aload_n 0, 1) := by decide +kernel
theorem d_D_isInstalled_10 : decode b_D_isInstalled 10 = .ok (.getfield 18, 3) := by decide +kernel
theorem d_D_isInstalled_13 : decode b_D_isInstalled 13 = .ok (.iload_n 1, 1) := by decide +kernel
theorem d_D_isInstalled_14 : decode b_D_isInstalled 14 = .ok (.aaload, 1) := by decide +kernel
theorem d_D_isInstalled_15 : decode b_D_isInstalled 15 = .ok (.getfield 182, 3) := by decide +kernel
theorem d_D_isInstalled_18 : decode b_D_isInstalled 18 = .ok (.ifCond .eq 7, 3) := by decide +kernel
theorem d_D_isInstalled_21 : decode b_D_isInstalled 21 = .ok (.iconst 1, 1) := by decide +kernel
theorem d_D_isInstalled_22 : decode b_D_isInstalled 22 = .ok (.goto 4, 3) := by decide +kernel
theorem d_D_isInstalled_25 : decode b_D_isInstalled 25 = .ok (.iconst 0, 1) := by decide +kernel
theorem d_D_isInstalled_26 : decode b_D_isInstalled 26 = .ok (.ireturn, 1) := by decide +kernel
theorem d_D_declarerOf_0 : decode b_D_declarerOf 0 = .ok (.iconst 0, 1) := by decide +kernel
theorem d_D_declarerOf_1 : decode b_D_declarerOf 1 = .ok (.istore_n 2, 1) := by decide +kernel
theorem d_D_declarerOf_2 : decode b_D_declarerOf 2 = .ok (.iload_n 2, 1) := by decide +kernel
theorem d_D_declarerOf_3 : decode b_D_declarerOf 3 = .ok (.bipush 8, 2) := by decide +kernel
theorem d_D_declarerOf_5 : decode b_D_declarerOf 5 = .ok (.if_icmp .ge 39, 3) := by decide +kernel
theorem d_D_declarerOf_8 : decode b_D_declarerOf 8 = .ok (.aload_n 0, 1) := by decide +kernel
theorem d_D_declarerOf_9 : decode b_D_declarerOf 9 = .ok (.getfield 18, 3) := by decide +kernel
theorem d_D_declarerOf_12 : decode b_D_declarerOf 12 = .ok (.iload_n 2, 1) := by decide +kernel
theorem d_D_declarerOf_13 : decode b_D_declarerOf 13 = .ok (.aaload, 1) := by decide +kernel
theorem d_D_declarerOf_14 : decode b_D_declarerOf 14 = .ok (.getfield 182, 3) := by decide +kernel
theorem d_D_declarerOf_17 : decode b_D_declarerOf 17 = .ok (.ifCond .eq 21, 3) := by decide +kernel
theorem d_D_declarerOf_20 : decode b_D_declarerOf 20 = .ok (.aload_n 0, 1) := by decide +kernel
theorem d_D_declarerOf_21 : decode b_D_declarerOf 21 = .ok (.getfield 18, 3) := by decide +kernel
theorem d_D_declarerOf_24 : decode b_D_declarerOf 24 = .ok (.iload_n 2, 1) := by decide +kernel
theorem d_D_declarerOf_25 : decode b_D_declarerOf 25 = .ok (.aaload, 1) := by decide +kernel
theorem d_D_declarerOf_26 : decode b_D_declarerOf 26 = .ok (.getfield 107, 3) := by decide +kernel
theorem d_D_declarerOf_29 : decode b_D_declarerOf 29 = .ok (.iload_n 1, 1) := by decide +kernel
theorem d_D_declarerOf_30 : decode b_D_declarerOf 30 = .ok (.invokevirtual 63, 3) := by decide +kernel
theorem d_D_declarerOf_33 : decode b_D_declarerOf 33 = .ok (.ifCond .eq 5, 3) := by decide +kernel
theorem d_D_declarerOf_36 : decode b_D_declarerOf 36 = .ok (.iload_n 2, 1) := by decide +kernel
theorem d_D_declarerOf_37 : decode b_D_declarerOf 37 = .ok (.ireturn, 1) := by decide +kernel
theorem d_D_declarerOf_38 : decode b_D_declarerOf 38 = .ok (.iinc 2 1, 3) := by decide +kernel
theorem d_D_declarerOf_41 : decode b_D_declarerOf 41 = .ok (.goto (-39), 3) := by decide +kernel
theorem d_D_declarerOf_44 : decode b_D_declarerOf 44 = .ok (.iconst (-1), 1) := by decide +kernel
theorem d_D_declarerOf_45 : decode b_D_declarerOf 45 = .ok (.ireturn, 1) := by decide +kernel
theorem d_D_isSound_0 : decode b_D_isSound 0 = .ok (.aload_n 1, 1) := by decide +kernel
theorem d_D_isSound_1 : decode b_D_isSound 1 = .ok (.getfield 185, 3) := by decide +kernel
theorem d_D_isSound_4 : decode b_D_isSound 4 = .ok (.ifCond .le 36, 3) := by decide +kernel
theorem d_D_isSound_7 : decode b_D_isSound 7 = .ok (.aload_n 1, 1) := by decide +kernel
theorem d_D_isSound_8 : decode b_D_isSound 8 = .ok (.getfield 188, 3) := by decide +kernel
theorem d_D_isSound_11 : decode b_D_isSound 11 = .ok (.ifCond .le 29, 3) := by decide +kernel
theorem d_D_isSound_14 : decode b_D_isSound 14 = .ok (.aload_n 1, 1) := by decide +kernel
theorem d_D_isSound_15 : decode b_D_isSound 15 = .ok (.getfield 74, 3) := by decide +kernel
theorem d_D_isSound_18 : decode b_D_isSound 18 = .ok (.aload_n 1, 1) := by decide +kernel
theorem d_D_isSound_19 : decode b_D_isSound 19 = .ok (.invokevirtual 70, 3) := by decide +kernel
theorem d_D_isSound_22 : decode b_D_isSound 22 = .ok (.if_icmp .ne 18, 3) := by decide +kernel
theorem d_D_isSound_25 : decode b_D_isSound 25 = .ok (.aload_n 0, 1) := by decide +kernel
theorem d_D_isSound_26 : decode b_D_isSound 26 = .ok (.getfield 33, 3) := by decide +kernel
theorem d_D_isSound_29 : decode b_D_isSound 29 = .ok (.aload_n 1, 1) := by decide +kernel
theorem d_D_isSound_30 : decode b_D_isSound 30 = .ok (.invokevirtual 191, 3) := by decide +kernel
theorem d_D_isSound_33 : decode b_D_isSound 33 = .ok (.ifCond .eq 7, 3) := by decide +kernel
theorem d_D_isSound_36 : decode b_D_isSound 36 = .ok (.iconst 1, 1) := by decide +kernel
theorem d_D_isSound_37 : decode b_D_isSound 37 = .ok (.goto 4, 3) := by decide +kernel
theorem d_D_isSound_40 : decode b_D_isSound 40 = .ok (.iconst 0, 1) := by decide +kernel
theorem d_D_isSound_41 : decode b_D_isSound 41 = .ok (.ireturn, 1) := by decide +kernel
theorem d_D_mayEnter_0 : decode b_D_mayEnter 0 = .ok (.aload_n 0, 1) := by decide +kernel
theorem d_D_mayEnter_1 : decode b_D_mayEnter 1 = .ok (.getfield 18, 3) := by decide +kernel
theorem d_D_mayEnter_4 : decode b_D_mayEnter 4 = .ok (.aload_n 1, 1) := by decide +kernel
theorem d_D_mayEnter_5 : decode b_D_mayEnter 5 = .ok (.getfield 90, 3) := by decide +kernel
theorem d_D_mayEnter_8 : decode b_D_mayEnter 8 = .ok (.aaload, 1) := by decide +kernel
theorem d_D_mayEnter_9 : decode b_D_mayEnter 9 = .ok (.astore_n 2, 1) := by decide +kernel
theorem d_D_mayEnter_10 : decode b_D_mayEnter 10 = .ok (.aload_n 2, 1) := by decide +kernel
theorem d_D_mayEnter_11 : decode b_D_mayEnter 11 = .ok (.getfield 182, 3) := by decide +kernel
theorem d_D_mayEnter_14 : decode b_D_mayEnter 14 = .ok (.ifCond .eq 33, 3) := by decide +kernel
theorem d_D_mayEnter_17 : decode b_D_mayEnter 17 = .ok (.aload_n 2, 1) := by decide +kernel
theorem d_D_mayEnter_18 : decode b_D_mayEnter 18 = .ok (.getfield 107, 3) := by decide +kernel
theorem d_D_mayEnter_21 : decode b_D_mayEnter 21 = .ok (.getfield 155, 3) := by decide +kernel
theorem d_D_mayEnter_24 : decode b_D_mayEnter 24 = .ok (.aload_n 1, 1) := by decide +kernel
theorem d_D_mayEnter_25 : decode b_D_mayEnter 25 = .ok (.getfield 155, 3) := by decide +kernel
theorem d_D_mayEnter_28 : decode b_D_mayEnter 28 = .ok (.if_icmp .ne 17, 3) := by decide +kernel
theorem d_D_mayEnter_31 : decode b_D_mayEnter 31 = .ok (.aload_n 2, 1) := by decide +kernel
theorem d_D_mayEnter_32 : decode b_D_mayEnter 32 = .ok (.getfield 107, 3) := by decide +kernel
theorem d_D_mayEnter_35 : decode b_D_mayEnter 35 = .ok (.getfield 152, 3) := by decide +kernel
theorem d_D_mayEnter_38 : decode b_D_mayEnter 38 = .ok (.aload_n 1, 1) := by decide +kernel
theorem d_D_mayEnter_39 : decode b_D_mayEnter 39 = .ok (.getfield 152, 3) := by decide +kernel
theorem d_D_mayEnter_42 : decode b_D_mayEnter 42 = .ok (.if_icmp .lt 5, 3) := by decide +kernel
theorem d_D_mayEnter_45 : decode b_D_mayEnter 45 = .ok (.iconst 0, 1) := by decide +kernel
theorem d_D_mayEnter_46 : decode b_D_mayEnter 46 = .ok (.ireturn, 1) := by decide +kernel
theorem d_D_mayEnter_47 : decode b_D_mayEnter 47 = .ok (.iconst 0, 1) := by decide +kernel
theorem d_D_mayEnter_48 : decode b_D_mayEnter 48 = .ok (.istore_n 3, 1) := by decide +kernel
theorem d_D_mayEnter_49 : decode b_D_mayEnter 49 = .ok (.iload_n 3, 1) := by decide +kernel
theorem d_D_mayEnter_50 : decode b_D_mayEnter 50 = .ok (.bipush 8, 2) := by decide +kernel
theorem d_D_mayEnter_52 : decode b_D_mayEnter 52 = .ok (.if_icmp .ge 31, 3) := by decide +kernel
theorem d_D_mayEnter_55 : decode b_D_mayEnter 55 = .ok (.aload_n 1, 1) := by decide +kernel
theorem d_D_mayEnter_56 : decode b_D_mayEnter 56 = .ok (.iload_n 3, 1) := by decide +kernel
theorem d_D_mayEnter_57 : decode b_D_mayEnter 57 = .ok (.invokevirtual 63, 3) := by decide +kernel
theorem d_D_mayEnter_60 : decode b_D_mayEnter 60 = .ok (.ifCond .eq 17, 3) := by decide +kernel
theorem d_D_mayEnter_63 : decode b_D_mayEnter 63 = .ok (.aload_n 0, 1) := by decide +kernel
theorem d_D_mayEnter_64 : decode b_D_mayEnter 64 = .ok (.iload_n 3, 1) := by decide +kernel
theorem d_D_mayEnter_65 : decode b_D_mayEnter 65 = .ok (.aload_n 1, 1) := by decide +kernel
theorem d_D_mayEnter_66 : decode b_D_mayEnter 66 = .ok (.getfield 90, 3) := by decide +kernel
theorem d_D_mayEnter_69 : decode b_D_mayEnter 69 = .ok (.invokevirtual 194, 3) := by decide +kernel
theorem d_D_mayEnter_72 : decode b_D_mayEnter 72 = .ok (.ifCond .eq 5, 3) := by decide +kernel
theorem d_D_mayEnter_75 : decode b_D_mayEnter 75 = .ok (.iconst 0, 1) := by decide +kernel
theorem d_D_mayEnter_76 : decode b_D_mayEnter 76 = .ok (.ireturn, 1) := by decide +kernel
theorem d_D_mayEnter_77 : decode b_D_mayEnter 77 = .ok (.iinc 3 1, 3) := by decide +kernel
theorem d_D_mayEnter_80 : decode b_D_mayEnter 80 = .ok (.goto (-31), 3) := by decide +kernel
theorem d_D_mayEnter_83 : decode b_D_mayEnter 83 = .ok (.iconst 1, 1) := by decide +kernel
theorem d_D_mayEnter_84 : decode b_D_mayEnter 84 = .ok (.ireturn, 1) := by decide +kernel
theorem d_D_isDeclaredByOther_0 : decode b_D_isDeclaredByOther 0 = .ok (.aload_n 0, 1) := by decide +kernel
theorem d_D_isDeclaredByOther_1 : decode b_D_isDeclaredByOther 1 = .ok (.iload_n 1, 1) := by decide +kernel
theorem d_D_isDeclaredByOther_2 : decode b_D_isDeclaredByOther 2 = .ok (.invokevirtual 176, 3) := by decide +kernel
theorem d_D_isDeclaredByOther_5 : decode b_D_isDeclaredByOther 5 = .ok (.istore_n 3, 1) := by decide +kernel
theorem d_D_isDeclaredByOther_6 : decode b_D_isDeclaredByOther 6 = .ok (.iload_n 3, 1) := by decide +kernel
theorem d_D_isDeclaredByOther_7 : decode b_D_isDeclaredByOther 7 = .ok (.iconst (-1), 1) := by decide +kernel
theorem d_D_isDeclaredByOther_8 : decode b_D_isDeclaredByOther 8 = .ok (.if_icmp .eq 12, 3) := by decide +kernel
theorem d_D_isDeclaredByOther_11 : decode b_D_isDeclaredByOther 11 = .ok (.iload_n 3, 1) := by decide +kernel
theorem d_D_isDeclaredByOther_12 : decode b_D_isDeclaredByOther 12 = .ok (.iload_n 2, 1) := by decide +kernel
theorem d_D_isDeclaredByOther_13 : decode b_D_isDeclaredByOther 13 = .ok (.if_icmp .eq 7, 3) := by decide +kernel
theorem d_D_isDeclaredByOther_16 : decode b_D_isDeclaredByOther 16 = .ok (.iconst 1, 1) := by decide +kernel
theorem d_D_isDeclaredByOther_17 : decode b_D_isDeclaredByOther 17 = .ok (.goto 4, 3) := by decide +kernel
theorem d_D_isDeclaredByOther_20 : decode b_D_isDeclaredByOther 20 = .ok (.iconst 0, 1) := by decide +kernel
theorem d_D_isDeclaredByOther_21 : decode b_D_isDeclaredByOther 21 = .ok (.ireturn, 1) := by decide +kernel
theorem d_D_placeToBegin_0 : decode b_D_placeToBegin 0 = .ok (.aload_n 0, 1) := by decide +kernel
theorem d_D_placeToBegin_1 : decode b_D_placeToBegin 1 = .ok (.getfield 18, 3) := by decide +kernel
theorem d_D_placeToBegin_4 : decode b_D_placeToBegin 4 = .ok (.iload_n 1, 1) := by decide +kernel
theorem d_D_placeToBegin_5 : decode b_D_placeToBegin 5 = .ok (.aaload, 1) := by decide +kernel
theorem d_D_placeToBegin_6 : decode b_D_placeToBegin 6 = .ok (.astore 4, 2) := by decide +kernel
theorem d_D_placeToBegin_8 : decode b_D_placeToBegin 8 = .ok (.aload 4, 2) := by decide +kernel
theorem d_D_placeToBegin_10 : decode b_D_placeToBegin 10 = .ok (.getfield 182, 3) := by decide +kernel
theorem d_D_placeToBegin_13 : decode b_D_placeToBegin 13 = .ok (.ifCond .eq 11, 3) := by decide +kernel
theorem d_D_placeToBegin_16 : decode b_D_placeToBegin 16 = .ok (.aload 4, 2) := by decide +kernel
theorem d_D_placeToBegin_18 : decode b_D_placeToBegin 18 = .ok (.getfield 148, 3) := by decide +kernel
theorem d_D_placeToBegin_21 : decode b_D_placeToBegin 21 = .ok (.ifCond .eq 5, 3) := by decide +kernel
theorem d_D_placeToBegin_24 : decode b_D_placeToBegin 24 = .ok (.iconst (-1), 1) := by decide +kernel
theorem d_D_placeToBegin_25 : decode b_D_placeToBegin 25 = .ok (.ireturn, 1) := by decide +kernel
theorem d_D_placeToBegin_26 : decode b_D_placeToBegin 26 = .ok (.aload 4, 2) := by decide +kernel
theorem d_D_placeToBegin_28 : decode b_D_placeToBegin 28 = .ok (.getfield 107, 3) := by decide +kernel
theorem d_D_placeToBegin_31 : decode b_D_placeToBegin 31 = .ok (.astore 5, 2) := by decide +kernel
theorem d_D_placeToBegin_33 : decode b_D_placeToBegin 33 = .ok (.iconst 0, 1) := by decide +kernel
theorem d_D_placeToBegin_34 : decode b_D_placeToBegin 34 = .ok (.istore 6, 2) := by decide +kernel
theorem d_D_placeToBegin_36 : decode b_D_placeToBegin 36 = .ok (.iload 6, 2) := by decide +kernel
theorem d_D_placeToBegin_38 : decode b_D_placeToBegin 38 = .ok (.aload 5, 2) := by decide +kernel
theorem d_D_placeToBegin_40 : decode b_D_placeToBegin 40 = .ok (.getfield 185, 3) := by decide +kernel
theorem d_D_placeToBegin_43 : decode b_D_placeToBegin 43 = .ok (.if_icmp .ge 75, 3) := by decide +kernel
theorem d_D_placeToBegin_46 : decode b_D_placeToBegin 46 = .ok (.aload 5, 2) := by decide +kernel
theorem d_D_placeToBegin_48 : decode b_D_placeToBegin 48 = .ok (.getfield 197, 3) := by decide +kernel
theorem d_D_placeToBegin_51 : decode b_D_placeToBegin 51 = .ok (.iload 6, 2) := by decide +kernel
theorem d_D_placeToBegin_53 : decode b_D_placeToBegin 53 = .ok (.iaload, 1) := by decide +kernel
theorem d_D_placeToBegin_54 : decode b_D_placeToBegin 54 = .ok (.iconst 1, 1) := by decide +kernel
theorem d_D_placeToBegin_55 : decode b_D_placeToBegin 55 = .ok (.if_icmp .eq 8, 3) := by decide +kernel
theorem d_D_placeToBegin_58 : decode b_D_placeToBegin 58 = .ok (.iload_n 1, 1) := by decide +kernel
theorem d_D_placeToBegin_59 : decode b_D_placeToBegin 59 = .ok (.iload_n 2, 1) := by decide +kernel
theorem d_D_placeToBegin_60 : decode b_D_placeToBegin 60 = .ok (.if_icmp .ne 7, 3) := by decide +kernel
theorem d_D_placeToBegin_63 : decode b_D_placeToBegin 63 = .ok (.iconst 1, 1) := by decide +kernel
theorem d_D_placeToBegin_64 : decode b_D_placeToBegin 64 = .ok (.goto 4, 3) := by decide +kernel
theorem d_D_placeToBegin_67 : decode b_D_placeToBegin 67 = .ok (.iconst 0, 1) := by decide +kernel
theorem d_D_placeToBegin_68 : decode b_D_placeToBegin 68 = .ok (.istore 7, 2) := by decide +kernel
theorem d_D_placeToBegin_70 : decode b_D_placeToBegin 70 = .ok (.aload 5, 2) := by decide +kernel
theorem d_D_placeToBegin_72 : decode b_D_placeToBegin 72 = .ok (.getfield 200, 3) := by decide +kernel
theorem d_D_placeToBegin_75 : decode b_D_placeToBegin 75 = .ok (.iload 6, 2) := by decide +kernel
theorem d_D_placeToBegin_77 : decode b_D_placeToBegin 77 = .ok (.iaload, 1) := by decide +kernel
theorem d_D_placeToBegin_78 : decode b_D_placeToBegin 78 = .ok (.iload_n 3, 1) := by decide +kernel
theorem d_D_placeToBegin_79 : decode b_D_placeToBegin 79 = .ok (.if_icmp .ne 33, 3) := by decide +kernel
theorem d_D_placeToBegin_82 : decode b_D_placeToBegin 82 = .ok (.iload 7, 2) := by decide +kernel
theorem d_D_placeToBegin_84 : decode b_D_placeToBegin 84 = .ok (.ifCond .eq 28, 3) := by decide +kernel
theorem d_D_placeToBegin_87 : decode b_D_placeToBegin 87 = .ok (.aload_n 0, 1) := by decide +kernel
theorem d_D_placeToBegin_88 : decode b_D_placeToBegin 88 = .ok (.iload_n 2, 1) := by decide +kernel
theorem d_D_placeToBegin_89 : decode b_D_placeToBegin 89 = .ok (.aload 5, 2) := by decide +kernel
theorem d_D_placeToBegin_91 : decode b_D_placeToBegin 91 = .ok (.getfield 201, 3) := by decide +kernel
theorem d_D_placeToBegin_94 : decode b_D_placeToBegin 94 = .ok (.iload 6, 2) := by decide +kernel
theorem d_D_placeToBegin_96 : decode b_D_placeToBegin 96 = .ok (.iaload, 1) := by decide +kernel
theorem d_D_placeToBegin_97 : decode b_D_placeToBegin 97 = .ok (.invokevirtual 204, 3) := by decide +kernel
theorem d_D_placeToBegin_100 : decode b_D_placeToBegin 100 = .ok (.ifCond .eq 12, 3) := by decide +kernel
theorem d_D_placeToBegin_103 : decode b_D_placeToBegin 103 = .ok (.aload 5, 2) := by decide +kernel
theorem d_D_placeToBegin_105 : decode b_D_placeToBegin 105 = .ok (.getfield 207, 3) := by decide +kernel
theorem d_D_placeToBegin_108 : decode b_D_placeToBegin 108 = .ok (.iload 6, 2) := by decide +kernel
theorem d_D_placeToBegin_110 : decode b_D_placeToBegin 110 = .ok (.iaload, 1) := by decide +kernel
theorem d_D_placeToBegin_111 : decode b_D_placeToBegin 111 = .ok (.ireturn, 1) := by decide +kernel
theorem d_D_placeToBegin_112 : decode b_D_placeToBegin 112 = .ok (.iinc 6 1, 3) := by decide +kernel
theorem d_D_placeToBegin_115 : decode b_D_placeToBegin 115 = .ok (.goto (-79), 3) := by decide +kernel
theorem d_D_placeToBegin_118 : decode b_D_placeToBegin 118 = .ok (.iconst (-1), 1) := by decide +kernel
theorem d_D_placeToBegin_119 : decode b_D_placeToBegin 119 = .ok (.ireturn, 1) := by decide +kernel
theorem d_D_passesGuard_0 : decode b_D_passesGuard 0 = .ok (.iload_n 2, 1) := by decide +kernel
theorem d_D_passesGuard_1 : decode b_D_passesGuard 1 = .ok (.iconst (-1), 1) := by decide +kernel
theorem d_D_passesGuard_2 : decode b_D_passesGuard 2 = .ok (.if_icmp .eq 12, 3) := by decide +kernel
theorem d_D_passesGuard_5 : decode b_D_passesGuard 5 = .ok (.aload_n 0, 1) := by decide +kernel
theorem d_D_passesGuard_6 : decode b_D_passesGuard 6 = .ok (.iload_n 1, 1) := by decide +kernel
theorem d_D_passesGuard_7 : decode b_D_passesGuard 7 = .ok (.iload_n 2, 1) := by decide +kernel
theorem d_D_passesGuard_8 : decode b_D_passesGuard 8 = .ok (.invokevirtual 210, 3) := by decide +kernel
theorem d_D_passesGuard_11 : decode b_D_passesGuard 11 = .ok (.ifCond .eq 7, 3) := by decide +kernel
theorem d_D_passesGuard_14 : decode b_D_passesGuard 14 = .ok (.iconst 1, 1) := by decide +kernel
theorem d_D_passesGuard_15 : decode b_D_passesGuard 15 = .ok (.goto 4, 3) := by decide +kernel
theorem d_D_passesGuard_18 : decode b_D_passesGuard 18 = .ok (.iconst 0, 1) := by decide +kernel
theorem d_D_passesGuard_19 : decode b_D_passesGuard 19 = .ok (.ireturn, 1) := by decide +kernel
theorem d_D_nextInTurn_0 : decode b_D_nextInTurn 0 = .ok (.iconst 1, 1) := by decide +kernel
theorem d_D_nextInTurn_1 : decode b_D_nextInTurn 1 = .ok (.istore_n 1, 1) := by decide +kernel
theorem d_D_nextInTurn_2 : decode b_D_nextInTurn 2 = .ok (.iload_n 1, 1) := by decide +kernel
theorem d_D_nextInTurn_3 : decode b_D_nextInTurn 3 = .ok (.bipush 8, 2) := by decide +kernel
theorem d_D_nextInTurn_5 : decode b_D_nextInTurn 5 = .ok (.if_icmp .gt 33, 3) := by decide +kernel
theorem d_D_nextInTurn_8 : decode b_D_nextInTurn 8 = .ok (.aload_n 0, 1) := by decide +kernel
theorem d_D_nextInTurn_9 : decode b_D_nextInTurn 9 = .ok (.getfield 37, 3) := by decide +kernel
theorem d_D_nextInTurn_12 : decode b_D_nextInTurn 12 = .ok (.iload_n 1, 1) := by decide +kernel
theorem d_D_nextInTurn_13 : decode b_D_nextInTurn 13 = .ok (.iadd, 1) := by decide +kernel
theorem d_D_nextInTurn_14 : decode b_D_nextInTurn 14 = .ok (.bipush 8, 2) := by decide +kernel
theorem d_D_nextInTurn_16 : decode b_D_nextInTurn 16 = .ok (.irem, 1) := by decide +kernel
theorem d_D_nextInTurn_17 : decode b_D_nextInTurn 17 = .ok (.istore_n 2, 1) := by decide +kernel
theorem d_D_nextInTurn_18 : decode b_D_nextInTurn 18 = .ok (.aload_n 0, 1) := by decide +kernel
theorem d_D_nextInTurn_19 : decode b_D_nextInTurn 19 = .ok (.getfield 18, 3) := by decide +kernel
theorem d_D_nextInTurn_22 : decode b_D_nextInTurn 22 = .ok (.iload_n 2, 1) := by decide +kernel
theorem d_D_nextInTurn_23 : decode b_D_nextInTurn 23 = .ok (.aaload, 1) := by decide +kernel
theorem d_D_nextInTurn_24 : decode b_D_nextInTurn 24 = .ok (.getfield 148, 3) := by decide +kernel
theorem d_D_nextInTurn_27 : decode b_D_nextInTurn 27 = .ok (.ifCond .eq 5, 3) := by decide +kernel
theorem d_D_nextInTurn_30 : decode b_D_nextInTurn 30 = .ok (.iload_n 2, 1) := by decide +kernel
theorem d_D_nextInTurn_31 : decode b_D_nextInTurn 31 = .ok (.ireturn, 1) := by decide +kernel
theorem d_D_nextInTurn_32 : decode b_D_nextInTurn 32 = .ok (.iinc 1 1, 3) := by decide +kernel
theorem d_D_nextInTurn_35 : decode b_D_nextInTurn 35 = .ok (.goto (-33), 3) := by decide +kernel
theorem d_D_nextInTurn_38 : decode b_D_nextInTurn 38 = .ok (.iconst (-1), 1) := by decide +kernel
theorem d_D_nextInTurn_39 : decode b_D_nextInTurn 39 = .ok (.ireturn, 1) := by decide +kernel
theorem d_D_doWord_0 : decode b_D_doWord 0 = .ok (.aload_n 0, 1) := by decide +kernel
theorem d_D_doWord_1 : decode b_D_doWord 1 = .ok (.getfield 18, 3) := by decide +kernel
theorem d_D_doWord_4 : decode b_D_doWord 4 = .ok (.iload_n 1, 1) := by decide +kernel
theorem d_D_doWord_5 : decode b_D_doWord 5 = .ok (.aaload, 1) := by decide +kernel
theorem d_D_doWord_6 : decode b_D_doWord 6 = .ok (.astore_n 2, 1) := by decide +kernel
theorem d_D_doWord_7 : decode b_D_doWord 7 = .ok (.aload_n 2, 1) := by decide +kernel
theorem d_D_doWord_8 : decode b_D_doWord 8 = .ok (.invokevirtual 213, 3) := by decide +kernel
theorem d_D_doWord_11 : decode b_D_doWord 11 = .ok (.istore_n 3, 1) := by decide +kernel
theorem d_D_doWord_12 : decode b_D_doWord 12 = .ok (.iload_n 3, 1) := by decide +kernel
theorem d_D_doWord_13 : decode b_D_doWord 13 = .ok (.invokestatic 216, 3) := by decide +kernel
theorem d_D_doWord_16 : decode b_D_doWord 16 = .ok (.tableswitch 135 0 13 #[121, 135, 135, 135, 135, 135, 135, 135, 121, 121, 111, 116, 72, 78], 72) := by decide +kernel
theorem d_D_doWord_88 : decode b_D_doWord 88 = .ok (.aload_n 0, 1) := by decide +kernel
theorem d_D_doWord_89 : decode b_D_doWord 89 = .ok (.iload_n 1, 1) := by decide +kernel
theorem d_D_doWord_90 : decode b_D_doWord 90 = .ok (.invokevirtual 219, 3) := by decide +kernel
theorem d_D_doWord_93 : decode b_D_doWord 93 = .ok (.ireturn, 1) := by decide +kernel
theorem d_D_doWord_94 : decode b_D_doWord 94 = .ok (.aload_n 2, 1) := by decide +kernel
theorem d_D_doWord_95 : decode b_D_doWord 95 = .ok (.aload_n 0, 1) := by decide +kernel
theorem d_D_doWord_96 : decode b_D_doWord 96 = .ok (.iload_n 1, 1) := by decide +kernel
theorem d_D_doWord_97 : decode b_D_doWord 97 = .ok (.iload_n 3, 1) := by decide +kernel
theorem d_D_doWord_98 : decode b_D_doWord 98 = .ok (.invokestatic 222, 3) := by decide +kernel
theorem d_D_doWord_101 : decode b_D_doWord 101 = .ok (.invokevirtual 210, 3) := by decide +kernel
theorem d_D_doWord_104 : decode b_D_doWord 104 = .ok (.ifCond .eq 7, 3) := by decide +kernel
theorem d_D_doWord_107 : decode b_D_doWord 107 = .ok (.iconst 1, 1) := by decide +kernel
theorem d_D_doWord_108 : decode b_D_doWord 108 = .ok (.goto 4, 3) := by decide +kernel
theorem d_D_doWord_111 : decode b_D_doWord 111 = .ok (.iconst 0, 1) := by decide +kernel
theorem d_D_doWord_112 : decode b_D_doWord 112 = .ok (.invokevirtual 225, 3) := by decide +kernel
theorem d_D_doWord_115 : decode b_D_doWord 115 = .ok (.aload_n 2, 1) := by decide +kernel
theorem d_D_doWord_116 : decode b_D_doWord 116 = .ok (.dup, 1) := by decide +kernel
theorem d_D_doWord_117 : decode b_D_doWord 117 = .ok (.getfield 158, 3) := by decide +kernel
theorem d_D_doWord_120 : decode b_D_doWord 120 = .ok (.iconst 1, 1) := by decide +kernel
theorem d_D_doWord_121 : decode b_D_doWord 121 = .ok (.iadd, 1) := by decide +kernel
theorem d_D_doWord_122 : decode b_D_doWord 122 = .ok (.putfield 158, 3) := by decide +kernel
theorem d_D_doWord_125 : decode b_D_doWord 125 = .ok (.iconst 1, 1) := by decide +kernel
theorem d_D_doWord_126 : decode b_D_doWord 126 = .ok (.ireturn, 1) := by decide +kernel
theorem d_D_doWord_127 : decode b_D_doWord 127 = .ok (.aload_n 2, 1) := by decide +kernel
theorem d_D_doWord_128 : decode b_D_doWord 128 = .ok (.invokevirtual 228, 3) := by decide +kernel
theorem d_D_doWord_131 : decode b_D_doWord 131 = .ok (.ireturn, 1) := by decide +kernel
theorem d_D_doWord_132 : decode b_D_doWord 132 = .ok (.aload_n 2, 1) := by decide +kernel
theorem d_D_doWord_133 : decode b_D_doWord 133 = .ok (.invokevirtual 232, 3) := by decide +kernel
theorem d_D_doWord_136 : decode b_D_doWord 136 = .ok (.ireturn, 1) := by decide +kernel
theorem d_D_doWord_137 : decode b_D_doWord 137 = .ok (.aload_n 2, 1) := by decide +kernel
theorem d_D_doWord_138 : decode b_D_doWord 138 = .ok (.iload_n 3, 1) := by decide +kernel
theorem d_D_doWord_139 : decode b_D_doWord 139 = .ok (.invokestatic 216, 3) := by decide +kernel
theorem d_D_doWord_142 : decode b_D_doWord 142 = .ok (.iload_n 3, 1) := by decide +kernel
theorem d_D_doWord_143 : decode b_D_doWord 143 = .ok (.invokestatic 222, 3) := by decide +kernel
theorem d_D_doWord_146 : decode b_D_doWord 146 = .ok (.invokevirtual 235, 3) := by decide +kernel
theorem d_D_doWord_149 : decode b_D_doWord 149 = .ok (.iconst 1, 1) := by decide +kernel
theorem d_D_doWord_150 : decode b_D_doWord 150 = .ok (.ireturn, 1) := by decide +kernel
theorem d_D_doWord_151 : decode b_D_doWord 151 = .ok (.aload_n 2, 1) := by decide +kernel
theorem d_D_doWord_152 : decode b_D_doWord 152 = .ok (.iload_n 3, 1) := by decide +kernel
theorem d_D_doWord_153 : decode b_D_doWord 153 = .ok (.invokestatic 216, 3) := by decide +kernel
theorem d_D_doWord_156 : decode b_D_doWord 156 = .ok (.iload_n 3, 1) := by decide +kernel
theorem d_D_doWord_157 : decode b_D_doWord 157 = .ok (.invokestatic 222, 3) := by decide +kernel
theorem d_D_doWord_160 : decode b_D_doWord 160 = .ok (.invokevirtual 239, 3) := by decide +kernel
theorem d_D_doWord_163 : decode b_D_doWord 163 = .ok (.iconst 1, 1) := by decide +kernel
theorem d_D_doWord_164 : decode b_D_doWord 164 = .ok (.ireturn, 1) := by decide +kernel
theorem d_D_sendFromStack_0 : decode b_D_sendFromStack 0 = .ok (.aload_n 0, 1) := by decide +kernel
theorem d_D_sendFromStack_1 : decode b_D_sendFromStack 1 = .ok (.getfield 18, 3) := by decide +kernel
theorem d_D_sendFromStack_4 : decode b_D_sendFromStack 4 = .ok (.iload_n 1, 1) := by decide +kernel
theorem d_D_sendFromStack_5 : decode b_D_sendFromStack 5 = .ok (.aaload, 1) := by decide +kernel
theorem d_D_sendFromStack_6 : decode b_D_sendFromStack 6 = .ok (.astore_n 2, 1) := by decide +kernel
theorem d_D_sendFromStack_7 : decode b_D_sendFromStack 7 = .ok (.aload_n 2, 1) := by decide +kernel
theorem d_D_sendFromStack_8 : decode b_D_sendFromStack 8 = .ok (.invokevirtual 242, 3) := by decide +kernel
theorem d_D_sendFromStack_11 : decode b_D_sendFromStack 11 = .ok (.istore_n 3, 1) := by decide +kernel
theorem d_D_sendFromStack_12 : decode b_D_sendFromStack 12 = .ok (.iload_n 3, 1) := by decide +kernel
theorem d_D_sendFromStack_13 : decode b_D_sendFromStack 13 = .ok (.bipush 10, 2) := by decide +kernel
theorem d_D_sendFromStack_15 : decode b_D_sendFromStack 15 = .ok (.invokestatic 41, 3) := by decide +kernel
theorem d_D_sendFromStack_18 : decode b_D_sendFromStack 18 = .ok (.ifCond .ne 5, 3) := by decide +kernel
theorem d_D_sendFromStack_21 : decode b_D_sendFromStack 21 = .ok (.iconst 0, 1) := by decide +kernel
theorem d_D_sendFromStack_22 : decode b_D_sendFromStack 22 = .ok (.ireturn, 1) := by decide +kernel
theorem d_D_sendFromStack_23 : decode b_D_sendFromStack 23 = .ok (.aload_n 2, 1) := by decide +kernel
theorem d_D_sendFromStack_24 : decode b_D_sendFromStack 24 = .ok (.invokevirtual 245, 3) := by decide +kernel
theorem d_D_sendFromStack_27 : decode b_D_sendFromStack 27 = .ok (.istore 4, 2) := by decide +kernel
theorem d_D_sendFromStack_29 : decode b_D_sendFromStack 29 = .ok (.aload_n 2, 1) := by decide +kernel
theorem d_D_sendFromStack_30 : decode b_D_sendFromStack 30 = .ok (.invokevirtual 245, 3) := by decide +kernel
theorem d_D_sendFromStack_33 : decode b_D_sendFromStack 33 = .ok (.pop, 1) := by decide +kernel
theorem d_D_sendFromStack_34 : decode b_D_sendFromStack 34 = .ok (.aload_n 0, 1) := by decide +kernel
theorem d_D_sendFromStack_35 : decode b_D_sendFromStack 35 = .ok (.getfield 26, 3) := by decide +kernel
theorem d_D_sendFromStack_38 : decode b_D_sendFromStack 38 = .ok (.iload_n 1, 1) := by decide +kernel
theorem d_D_sendFromStack_39 : decode b_D_sendFromStack 39 = .ok (.iload_n 3, 1) := by decide +kernel
theorem d_D_sendFromStack_40 : decode b_D_sendFromStack 40 = .ok (.iload 4, 2) := by decide +kernel
theorem d_D_sendFromStack_42 : decode b_D_sendFromStack 42 = .ok (.invokevirtual 116, 3) := by decide +kernel
theorem d_D_sendFromStack_45 : decode b_D_sendFromStack 45 = .ok (.pop, 1) := by decide +kernel
theorem d_D_sendFromStack_46 : decode b_D_sendFromStack 46 = .ok (.aload_n 2, 1) := by decide +kernel
theorem d_D_sendFromStack_47 : decode b_D_sendFromStack 47 = .ok (.dup, 1) := by decide +kernel
theorem d_D_sendFromStack_48 : decode b_D_sendFromStack 48 = .ok (.getfield 158, 3) := by decide +kernel
theorem d_D_sendFromStack_51 : decode b_D_sendFromStack 51 = .ok (.iconst 1, 1) := by decide +kernel
theorem d_D_sendFromStack_52 : decode b_D_sendFromStack 52 = .ok (.iadd, 1) := by decide +kernel
theorem d_D_sendFromStack_53 : decode b_D_sendFromStack 53 = .ok (.putfield 158, 3) := by decide +kernel
theorem d_D_sendFromStack_56 : decode b_D_sendFromStack 56 = .ok (.iconst 1, 1) := by decide +kernel
theorem d_D_sendFromStack_57 : decode b_D_sendFromStack 57 = .ok (.ireturn, 1) := by decide +kernel
