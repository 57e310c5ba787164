/-! decode rows (written by wip/whole/gen02.py) -/
theorem dd_Le_init_0 : decode cc_Le_init 0 = .ok (.aload_n 0, 1) := by decide +kernel
theorem dd_Le_init_1 : decode cc_Le_init 1 = .ok (.invokespecial 3, 3) := by decide +kernel
theorem dd_Le_init_4 : decode cc_Le_init 4 = .ok (.aload_n 0, 1) := by decide +kernel
theorem dd_Le_init_5 : decode cc_Le_init 5 = .ok (.new 9, 3) := by decide +kernel
theorem dd_Le_init_8 : decode cc_Le_init 8 = .ok (.dup, 1) := by decide +kernel
theorem dd_Le_init_9 : decode cc_Le_init 9 = .ok (.invokespecial 11, 3) := by decide +kernel
theorem dd_Le_init_12 : decode cc_Le_init 12 = .ok (.putfield 12, 3) := by decide +kernel
theorem dd_Le_init_15 : decode cc_Le_init 15 = .ok (.aload_n 0, 1) := by decide +kernel
theorem dd_Le_init_16 : decode cc_Le_init 16 = .ok (.new 16, 3) := by decide +kernel
theorem dd_Le_init_19 : decode cc_Le_init 19 = .ok (.dup, 1) := by decide +kernel
theorem dd_Le_init_20 : decode cc_Le_init 20 = .ok (.invokespecial 18, 3) := by decide +kernel
theorem dd_Le_init_23 : decode cc_Le_init 23 = .ok (.putfield 19, 3) := by decide +kernel
theorem dd_Le_init_26 : decode cc_Le_init 26 = .ok (.aload_n 0, 1) := by decide +kernel
theorem dd_Le_init_27 : decode cc_Le_init 27 = .ok (.new 23, 3) := by decide +kernel
theorem dd_Le_init_30 : decode cc_Le_init 30 = .ok (.dup, 1) := by decide +kernel
theorem dd_Le_init_31 : decode cc_Le_init 31 = .ok (.invokespecial 25, 3) := by decide +kernel
theorem dd_Le_init_34 : decode cc_Le_init 34 = .ok (.putfield 26, 3) := by decide +kernel
theorem dd_Le_init_37 : decode cc_Le_init 37 = .ok (.aload_n 0, 1) := by decide +kernel
theorem dd_Le_init_38 : decode cc_Le_init 38 = .ok (.iconst 4, 1) := by decide +kernel
theorem dd_Le_init_39 : decode cc_Le_init 39 = .ok (.anewarray 30, 3) := by decide +kernel
theorem dd_Le_init_42 : decode cc_Le_init 42 = .ok (.putfield 32, 3) := by decide +kernel
theorem dd_Le_init_45 : decode cc_Le_init 45 = .ok (.iconst 0, 1) := by decide +kernel
theorem dd_Le_init_46 : decode cc_Le_init 46 = .ok (.istore_n 1, 1) := by decide +kernel
theorem dd_Le_init_47 : decode cc_Le_init 47 = .ok (.iload_n 1, 1) := by decide +kernel
theorem dd_Le_init_48 : decode cc_Le_init 48 = .ok (.iconst 4, 1) := by decide +kernel
theorem dd_Le_init_49 : decode cc_Le_init 49 = .ok (.if_icmp .ge 35, 3) := by decide +kernel
theorem dd_Le_init_52 : decode cc_Le_init 52 = .ok (.aload_n 0, 1) := by decide +kernel
theorem dd_Le_init_53 : decode cc_Le_init 53 = .ok (.getfield 32, 3) := by decide +kernel
theorem dd_Le_init_56 : decode cc_Le_init 56 = .ok (.iload_n 1, 1) := by decide +kernel
theorem dd_Le_init_57 : decode cc_Le_init 57 = .ok (.new 30, 3) := by decide +kernel
theorem dd_Le_init_60 : decode cc_Le_init 60 = .ok (.dup, 1) := by decide +kernel
theorem dd_Le_init_61 : decode cc_Le_init 61 = .ok (.iload_n 1, 1) := by decide +kernel
theorem dd_Le_init_62 : decode cc_Le_init 62 = .ok (.aload_n 0, 1) := by decide +kernel
theorem dd_Le_init_63 : decode cc_Le_init 63 = .ok (.getfield 26, 3) := by decide +kernel
theorem dd_Le_init_66 : decode cc_Le_init 66 = .ok (.aload_n 0, 1) := by decide +kernel
theorem dd_Le_init_67 : decode cc_Le_init 67 = .ok (.getfield 19, 3) := by decide +kernel
theorem dd_Le_init_70 : decode cc_Le_init 70 = .ok (.aload_n 0, 1) := by decide +kernel
theorem dd_Le_init_71 : decode cc_Le_init 71 = .ok (.getfield 12, 3) := by decide +kernel
theorem dd_Le_init_74 : decode cc_Le_init 74 = .ok (.invokespecial 36, 3) := by decide +kernel
theorem dd_Le_init_77 : decode cc_Le_init 77 = .ok (.aastore, 1) := by decide +kernel
theorem dd_Le_init_78 : decode cc_Le_init 78 = .ok (.iinc 1 1, 3) := by decide +kernel
theorem dd_Le_init_81 : decode cc_Le_init 81 = .ok (.goto (-34), 3) := by decide +kernel
theorem dd_Le_init_84 : decode cc_Le_init 84 = .ok (.aload_n 0, 1) := by decide +kernel
theorem dd_Le_init_85 : decode cc_Le_init 85 = .ok (.iconst (-1), 1) := by decide +kernel
theorem dd_Le_init_86 : decode cc_Le_init 86 = .ok (.putfield 39, 3) := by decide +kernel
theorem dd_Le_init_89 : decode cc_Le_init 89 = .ok (.return_, 1) := by decide +kernel
theorem dd_Re_init_0 : decode cc_Re_init 0 = .ok (.aload_n 0, 1) := by decide +kernel
theorem dd_Re_init_1 : decode cc_Re_init 1 = .ok (.invokespecial 3, 3) := by decide +kernel
theorem dd_Re_init_4 : decode cc_Re_init 4 = .ok (.aload_n 0, 1) := by decide +kernel
theorem dd_Re_init_5 : decode cc_Re_init 5 = .ok (.new 9, 3) := by decide +kernel
theorem dd_Re_init_8 : decode cc_Re_init 8 = .ok (.dup, 1) := by decide +kernel
theorem dd_Re_init_9 : decode cc_Re_init 9 = .ok (.invokespecial 11, 3) := by decide +kernel
theorem dd_Re_init_12 : decode cc_Re_init 12 = .ok (.putfield 12, 3) := by decide +kernel
theorem dd_Re_init_15 : decode cc_Re_init 15 = .ok (.aload_n 0, 1) := by decide +kernel
theorem dd_Re_init_16 : decode cc_Re_init 16 = .ok (.new 18, 3) := by decide +kernel
theorem dd_Re_init_19 : decode cc_Re_init 19 = .ok (.dup, 1) := by decide +kernel
theorem dd_Re_init_20 : decode cc_Re_init 20 = .ok (.invokespecial 20, 3) := by decide +kernel
theorem dd_Re_init_23 : decode cc_Re_init 23 = .ok (.putfield 21, 3) := by decide +kernel
theorem dd_Re_init_26 : decode cc_Re_init 26 = .ok (.aload_n 0, 1) := by decide +kernel
theorem dd_Re_init_27 : decode cc_Re_init 27 = .ok (.iconst 1, 1) := by decide +kernel
theorem dd_Re_init_28 : decode cc_Re_init 28 = .ok (.putfield 25, 3) := by decide +kernel
theorem dd_Re_init_31 : decode cc_Re_init 31 = .ok (.aload_n 0, 1) := by decide +kernel
theorem dd_Re_init_32 : decode cc_Re_init 32 = .ok (.iload_n 1, 1) := by decide +kernel
theorem dd_Re_init_33 : decode cc_Re_init 33 = .ok (.putfield 29, 3) := by decide +kernel
theorem dd_Re_init_36 : decode cc_Re_init 36 = .ok (.aload_n 0, 1) := by decide +kernel
theorem dd_Re_init_37 : decode cc_Re_init 37 = .ok (.aload_n 2, 1) := by decide +kernel
theorem dd_Re_init_38 : decode cc_Re_init 38 = .ok (.putfield 32, 3) := by decide +kernel
theorem dd_Re_init_41 : decode cc_Re_init 41 = .ok (.aload_n 0, 1) := by decide +kernel
theorem dd_Re_init_42 : decode cc_Re_init 42 = .ok (.aload_n 3, 1) := by decide +kernel
theorem dd_Re_init_43 : decode cc_Re_init 43 = .ok (.putfield 36, 3) := by decide +kernel
theorem dd_Re_init_46 : decode cc_Re_init 46 = .ok (.aload_n 0, 1) := by decide +kernel
theorem dd_Re_init_47 : decode cc_Re_init 47 = .ok (.new 40, 3) := by decide +kernel
theorem dd_Re_init_50 : decode cc_Re_init 50 = .ok (.dup, 1) := by decide +kernel
theorem dd_Re_init_51 : decode cc_Re_init 51 = .ok (.aload_n 3, 1) := by decide +kernel
theorem dd_Re_init_52 : decode cc_Re_init 52 = .ok (.invokespecial 42, 3) := by decide +kernel
theorem dd_Re_init_55 : decode cc_Re_init 55 = .ok (.putfield 45, 3) := by decide +kernel
theorem dd_Re_init_58 : decode cc_Re_init 58 = .ok (.aload_n 0, 1) := by decide +kernel
theorem dd_Re_init_59 : decode cc_Re_init 59 = .ok (.new 49, 3) := by decide +kernel
theorem dd_Re_init_62 : decode cc_Re_init 62 = .ok (.dup, 1) := by decide +kernel
theorem dd_Re_init_63 : decode cc_Re_init 63 = .ok (.aload 4, 2) := by decide +kernel
theorem dd_Re_init_65 : decode cc_Re_init 65 = .ok (.invokespecial 51, 3) := by decide +kernel
theorem dd_Re_init_68 : decode cc_Re_init 68 = .ok (.putfield 54, 3) := by decide +kernel
theorem dd_Re_init_71 : decode cc_Re_init 71 = .ok (.aload_n 0, 1) := by decide +kernel
theorem dd_Re_init_72 : decode cc_Re_init 72 = .ok (.new 58, 3) := by decide +kernel
theorem dd_Re_init_75 : decode cc_Re_init 75 = .ok (.dup, 1) := by decide +kernel
theorem dd_Re_init_76 : decode cc_Re_init 76 = .ok (.aload_n 3, 1) := by decide +kernel
theorem dd_Re_init_77 : decode cc_Re_init 77 = .ok (.aload_n 0, 1) := by decide +kernel
theorem dd_Re_init_78 : decode cc_Re_init 78 = .ok (.getfield 45, 3) := by decide +kernel
theorem dd_Re_init_81 : decode cc_Re_init 81 = .ok (.aload_n 0, 1) := by decide +kernel
theorem dd_Re_init_82 : decode cc_Re_init 82 = .ok (.getfield 54, 3) := by decide +kernel
theorem dd_Re_init_85 : decode cc_Re_init 85 = .ok (.invokespecial 60, 3) := by decide +kernel
theorem dd_Re_init_88 : decode cc_Re_init 88 = .ok (.putfield 63, 3) := by decide +kernel
theorem dd_Re_init_91 : decode cc_Re_init 91 = .ok (.return_, 1) := by decide +kernel
theorem dd_Le_forge_0 : decode cc_Le_forge 0 = .ok (.aload_n 0, 1) := by decide +kernel
theorem dd_Le_forge_1 : decode cc_Le_forge 1 = .ok (.getfield 39, 3) := by decide +kernel
theorem dd_Le_forge_4 : decode cc_Le_forge 4 = .ok (.iconst (-1), 1) := by decide +kernel
theorem dd_Le_forge_5 : decode cc_Le_forge 5 = .ok (.if_icmp .eq 61, 3) := by decide +kernel
theorem dd_Le_forge_8 : decode cc_Le_forge 8 = .ok (.iload_n 1, 1) := by decide +kernel
theorem dd_Le_forge_9 : decode cc_Le_forge 9 = .ok (.iconst 1, 1) := by decide +kernel
theorem dd_Le_forge_10 : decode cc_Le_forge 10 = .ok (.if_icmp .lt 56, 3) := by decide +kernel
theorem dd_Le_forge_13 : decode cc_Le_forge 13 = .ok (.iload_n 1, 1) := by decide +kernel
theorem dd_Le_forge_14 : decode cc_Le_forge 14 = .ok (.bipush 14, 2) := by decide +kernel
theorem dd_Le_forge_16 : decode cc_Le_forge 16 = .ok (.if_icmp .gt 50, 3) := by decide +kernel
theorem dd_Le_forge_19 : decode cc_Le_forge 19 = .ok (.iload_n 2, 1) := by decide +kernel
theorem dd_Le_forge_20 : decode cc_Le_forge 20 = .ok (.ifCond .lt 46, 3) := by decide +kernel
theorem dd_Le_forge_23 : decode cc_Le_forge 23 = .ok (.iload_n 2, 1) := by decide +kernel
theorem dd_Le_forge_24 : decode cc_Le_forge 24 = .ok (.bipush 15, 2) := by decide +kernel
theorem dd_Le_forge_26 : decode cc_Le_forge 26 = .ok (.if_icmp .gt 40, 3) := by decide +kernel
theorem dd_Le_forge_29 : decode cc_Le_forge 29 = .ok (.aload_n 0, 1) := by decide +kernel
theorem dd_Le_forge_30 : decode cc_Le_forge 30 = .ok (.iload_n 3, 1) := by decide +kernel
theorem dd_Le_forge_31 : decode cc_Le_forge 31 = .ok (.invokevirtual 106, 3) := by decide +kernel
theorem dd_Le_forge_34 : decode cc_Le_forge 34 = .ok (.ifCond .eq 32, 3) := by decide +kernel
theorem dd_Le_forge_37 : decode cc_Le_forge 37 = .ok (.aload_n 0, 1) := by decide +kernel
theorem dd_Le_forge_38 : decode cc_Le_forge 38 = .ok (.iload 4, 2) := by decide +kernel
theorem dd_Le_forge_40 : decode cc_Le_forge 40 = .ok (.invokevirtual 106, 3) := by decide +kernel
theorem dd_Le_forge_43 : decode cc_Le_forge 43 = .ok (.ifCond .eq 23, 3) := by decide +kernel
theorem dd_Le_forge_46 : decode cc_Le_forge 46 = .ok (.aload_n 0, 1) := by decide +kernel
theorem dd_Le_forge_47 : decode cc_Le_forge 47 = .ok (.getfield 19, 3) := by decide +kernel
theorem dd_Le_forge_50 : decode cc_Le_forge 50 = .ok (.invokevirtual 109, 3) := by decide +kernel
theorem dd_Le_forge_53 : decode cc_Le_forge 53 = .ok (.ifCond .ne 13, 3) := by decide +kernel
theorem dd_Le_forge_56 : decode cc_Le_forge 56 = .ok (.aload_n 0, 1) := by decide +kernel
theorem dd_Le_forge_57 : decode cc_Le_forge 57 = .ok (.getfield 26, 3) := by decide +kernel
theorem dd_Le_forge_60 : decode cc_Le_forge 60 = .ok (.invokevirtual 81, 3) := by decide +kernel
theorem dd_Le_forge_63 : decode cc_Le_forge 63 = .ok (.ifCond .eq 5, 3) := by decide +kernel
theorem dd_Le_forge_66 : decode cc_Le_forge 66 = .ok (.iconst (-1), 1) := by decide +kernel
theorem dd_Le_forge_67 : decode cc_Le_forge 67 = .ok (.ireturn, 1) := by decide +kernel
theorem dd_Le_forge_68 : decode cc_Le_forge 68 = .ok (.aload_n 0, 1) := by decide +kernel
theorem dd_Le_forge_69 : decode cc_Le_forge 69 = .ok (.getfield 19, 3) := by decide +kernel
theorem dd_Le_forge_72 : decode cc_Le_forge 72 = .ok (.aload_n 0, 1) := by decide +kernel
theorem dd_Le_forge_73 : decode cc_Le_forge 73 = .ok (.getfield 39, 3) := by decide +kernel
theorem dd_Le_forge_76 : decode cc_Le_forge 76 = .ok (.iload_n 1, 1) := by decide +kernel
theorem dd_Le_forge_77 : decode cc_Le_forge 77 = .ok (.iload_n 2, 1) := by decide +kernel
theorem dd_Le_forge_78 : decode cc_Le_forge 78 = .ok (.iload_n 3, 1) := by decide +kernel
theorem dd_Le_forge_79 : decode cc_Le_forge 79 = .ok (.iload 4, 2) := by decide +kernel
theorem dd_Le_forge_81 : decode cc_Le_forge 81 = .ok (.invokevirtual 110, 3) := by decide +kernel
theorem dd_Le_forge_84 : decode cc_Le_forge 84 = .ok (.istore 5, 2) := by decide +kernel
theorem dd_Le_forge_86 : decode cc_Le_forge 86 = .ok (.aload_n 0, 1) := by decide +kernel
theorem dd_Le_forge_87 : decode cc_Le_forge 87 = .ok (.getfield 26, 3) := by decide +kernel
theorem dd_Le_forge_90 : decode cc_Le_forge 90 = .ok (.iconst 0, 1) := by decide +kernel
theorem dd_Le_forge_91 : decode cc_Le_forge 91 = .ok (.aload_n 0, 1) := by decide +kernel
theorem dd_Le_forge_92 : decode cc_Le_forge 92 = .ok (.getfield 39, 3) := by decide +kernel
theorem dd_Le_forge_95 : decode cc_Le_forge 95 = .ok (.iload 5, 2) := by decide +kernel
theorem dd_Le_forge_97 : decode cc_Le_forge 97 = .ok (.invokevirtual 113, 3) := by decide +kernel
theorem dd_Le_forge_100 : decode cc_Le_forge 100 = .ok (.pop, 1) := by decide +kernel
theorem dd_Le_forge_101 : decode cc_Le_forge 101 = .ok (.iload 5, 2) := by decide +kernel
theorem dd_Le_forge_103 : decode cc_Le_forge 103 = .ok (.ireturn, 1) := by decide +kernel
theorem dd_Le_isTransferOrNone_0 : decode cc_Le_isTransferOrNone 0 = .ok (.iload_n 1, 1) := by decide +kernel
theorem dd_Le_isTransferOrNone_1 : decode cc_Le_isTransferOrNone 1 = .ok (.iconst (-1), 1) := by decide +kernel
theorem dd_Le_isTransferOrNone_2 : decode cc_Le_isTransferOrNone 2 = .ok (.if_icmp .eq 14, 3) := by decide +kernel
theorem dd_Le_isTransferOrNone_5 : decode cc_Le_isTransferOrNone 5 = .ok (.aload_n 0, 1) := by decide +kernel
theorem dd_Le_isTransferOrNone_6 : decode cc_Le_isTransferOrNone 6 = .ok (.getfield 12, 3) := by decide +kernel
theorem dd_Le_isTransferOrNone_9 : decode cc_Le_isTransferOrNone 9 = .ok (.iload_n 1, 1) := by decide +kernel
theorem dd_Le_isTransferOrNone_10 : decode cc_Le_isTransferOrNone 10 = .ok (.invokevirtual 202, 3) := by decide +kernel
theorem dd_Le_isTransferOrNone_13 : decode cc_Le_isTransferOrNone 13 = .ok (.ifCond .eq 7, 3) := by decide +kernel
theorem dd_Le_isTransferOrNone_16 : decode cc_Le_isTransferOrNone 16 = .ok (.iconst 1, 1) := by decide +kernel
theorem dd_Le_isTransferOrNone_17 : decode cc_Le_isTransferOrNone 17 = .ok (.goto 4, 3) := by decide +kernel
theorem dd_Le_isTransferOrNone_20 : decode cc_Le_isTransferOrNone 20 = .ok (.iconst 0, 1) := by decide +kernel
theorem dd_Le_isTransferOrNone_21 : decode cc_Le_isTransferOrNone 21 = .ok (.ireturn, 1) := by decide +kernel
theorem dd_Le_send_0 : decode cc_Le_send 0 = .ok (.aload_n 0, 1) := by decide +kernel
theorem dd_Le_send_1 : decode cc_Le_send 1 = .ok (.getfield 39, 3) := by decide +kernel
theorem dd_Le_send_4 : decode cc_Le_send 4 = .ok (.iconst (-1), 1) := by decide +kernel
theorem dd_Le_send_5 : decode cc_Le_send 5 = .ok (.if_icmp .eq 33, 3) := by decide +kernel
theorem dd_Le_send_8 : decode cc_Le_send 8 = .ok (.iload_n 1, 1) := by decide +kernel
theorem dd_Le_send_9 : decode cc_Le_send 9 = .ok (.ifCond .lt 29, 3) := by decide +kernel
theorem dd_Le_send_12 : decode cc_Le_send 12 = .ok (.iload_n 1, 1) := by decide +kernel
theorem dd_Le_send_13 : decode cc_Le_send 13 = .ok (.iconst 2, 1) := by decide +kernel
theorem dd_Le_send_14 : decode cc_Le_send 14 = .ok (.if_icmp .gt 24, 3) := by decide +kernel
theorem dd_Le_send_17 : decode cc_Le_send 17 = .ok (.aload_n 0, 1) := by decide +kernel
theorem dd_Le_send_18 : decode cc_Le_send 18 = .ok (.getfield 19, 3) := by decide +kernel
theorem dd_Le_send_21 : decode cc_Le_send 21 = .ok (.iload_n 2, 1) := by decide +kernel
theorem dd_Le_send_22 : decode cc_Le_send 22 = .ok (.invokevirtual 116, 3) := by decide +kernel
theorem dd_Le_send_25 : decode cc_Le_send 25 = .ok (.ifCond .eq 13, 3) := by decide +kernel
theorem dd_Le_send_28 : decode cc_Le_send 28 = .ok (.aload_n 0, 1) := by decide +kernel
theorem dd_Le_send_29 : decode cc_Le_send 29 = .ok (.getfield 26, 3) := by decide +kernel
theorem dd_Le_send_32 : decode cc_Le_send 32 = .ok (.invokevirtual 81, 3) := by decide +kernel
theorem dd_Le_send_35 : decode cc_Le_send 35 = .ok (.ifCond .eq 5, 3) := by decide +kernel
theorem dd_Le_send_38 : decode cc_Le_send 38 = .ok (.iconst (-1), 1) := by decide +kernel
theorem dd_Le_send_39 : decode cc_Le_send 39 = .ok (.ireturn, 1) := by decide +kernel
theorem dd_Le_send_40 : decode cc_Le_send 40 = .ok (.aload_n 0, 1) := by decide +kernel
theorem dd_Le_send_41 : decode cc_Le_send 41 = .ok (.getfield 26, 3) := by decide +kernel
theorem dd_Le_send_44 : decode cc_Le_send 44 = .ok (.iload_n 1, 1) := by decide +kernel
theorem dd_Le_send_45 : decode cc_Le_send 45 = .ok (.aload_n 0, 1) := by decide +kernel
theorem dd_Le_send_46 : decode cc_Le_send 46 = .ok (.getfield 39, 3) := by decide +kernel
theorem dd_Le_send_49 : decode cc_Le_send 49 = .ok (.iload_n 2, 1) := by decide +kernel
theorem dd_Le_send_50 : decode cc_Le_send 50 = .ok (.invokevirtual 113, 3) := by decide +kernel
theorem dd_Le_send_53 : decode cc_Le_send 53 = .ok (.ireturn, 1) := by decide +kernel
theorem dd_Le_message_0 : decode cc_Le_message 0 = .ok (.aload_n 0, 1) := by decide +kernel
theorem dd_Le_message_1 : decode cc_Le_message 1 = .ok (.getfield 26, 3) := by decide +kernel
theorem dd_Le_message_4 : decode cc_Le_message 4 = .ok (.iload_n 1, 1) := by decide +kernel
theorem dd_Le_message_5 : decode cc_Le_message 5 = .ok (.invokevirtual 75, 3) := by decide +kernel
theorem dd_Le_message_8 : decode cc_Le_message 8 = .ok (.ifCond .ne 5, 3) := by decide +kernel
theorem dd_Le_message_11 : decode cc_Le_message 11 = .ok (.iconst (-1), 1) := by decide +kernel
theorem dd_Le_message_12 : decode cc_Le_message 12 = .ok (.ireturn, 1) := by decide +kernel
theorem dd_Le_message_13 : decode cc_Le_message 13 = .ok (.iload_n 2, 1) := by decide +kernel
theorem dd_Le_message_14 : decode cc_Le_message 14 = .ok (.tableswitch 56 0 2 #[26, 36, 46], 26) := by decide +kernel
theorem dd_Le_message_40 : decode cc_Le_message 40 = .ok (.aload_n 0, 1) := by decide +kernel
theorem dd_Le_message_41 : decode cc_Le_message 41 = .ok (.getfield 26, 3) := by decide +kernel
theorem dd_Le_message_44 : decode cc_Le_message 44 = .ok (.getfield 117, 3) := by decide +kernel
theorem dd_Le_message_47 : decode cc_Le_message 47 = .ok (.iload_n 1, 1) := by decide +kernel
theorem dd_Le_message_48 : decode cc_Le_message 48 = .ok (.iaload, 1) := by decide +kernel
theorem dd_Le_message_49 : decode cc_Le_message 49 = .ok (.ireturn, 1) := by decide +kernel
theorem dd_Le_message_50 : decode cc_Le_message 50 = .ok (.aload_n 0, 1) := by decide +kernel
theorem dd_Le_message_51 : decode cc_Le_message 51 = .ok (.getfield 26, 3) := by decide +kernel
theorem dd_Le_message_54 : decode cc_Le_message 54 = .ok (.getfield 121, 3) := by decide +kernel
theorem dd_Le_message_57 : decode cc_Le_message 57 = .ok (.iload_n 1, 1) := by decide +kernel
theorem dd_Le_message_58 : decode cc_Le_message 58 = .ok (.iaload, 1) := by decide +kernel
theorem dd_Le_message_59 : decode cc_Le_message 59 = .ok (.ireturn, 1) := by decide +kernel
theorem dd_Le_message_60 : decode cc_Le_message 60 = .ok (.aload_n 0, 1) := by decide +kernel
theorem dd_Le_message_61 : decode cc_Le_message 61 = .ok (.getfield 26, 3) := by decide +kernel
theorem dd_Le_message_64 : decode cc_Le_message 64 = .ok (.getfield 124, 3) := by decide +kernel
theorem dd_Le_message_67 : decode cc_Le_message 67 = .ok (.iload_n 1, 1) := by decide +kernel
theorem dd_Le_message_68 : decode cc_Le_message 68 = .ok (.iaload, 1) := by decide +kernel
theorem dd_Le_message_69 : decode cc_Le_message 69 = .ok (.ireturn, 1) := by decide +kernel
theorem dd_Le_message_70 : decode cc_Le_message 70 = .ok (.iconst (-1), 1) := by decide +kernel
theorem dd_Le_message_71 : decode cc_Le_message 71 = .ok (.ireturn, 1) := by decide +kernel
theorem dd_Le_vertex_0 : decode cc_Le_vertex 0 = .ok (.aload_n 0, 1) := by decide +kernel
theorem dd_Le_vertex_1 : decode cc_Le_vertex 1 = .ok (.getfield 19, 3) := by decide +kernel
theorem dd_Le_vertex_4 : decode cc_Le_vertex 4 = .ok (.iload_n 1, 1) := by decide +kernel
theorem dd_Le_vertex_5 : decode cc_Le_vertex 5 = .ok (.invokevirtual 116, 3) := by decide +kernel
theorem dd_Le_vertex_8 : decode cc_Le_vertex 8 = .ok (.ifCond .ne 5, 3) := by decide +kernel
theorem dd_Le_vertex_11 : decode cc_Le_vertex 11 = .ok (.iconst (-1), 1) := by decide +kernel
theorem dd_Le_vertex_12 : decode cc_Le_vertex 12 = .ok (.ireturn, 1) := by decide +kernel
theorem dd_Le_vertex_13 : decode cc_Le_vertex 13 = .ok (.iload_n 2, 1) := by decide +kernel
theorem dd_Le_vertex_14 : decode cc_Le_vertex 14 = .ok (.tableswitch 84 0 4 #[34, 44, 54, 64, 74], 34) := by decide +kernel
theorem dd_Le_vertex_48 : decode cc_Le_vertex 48 = .ok (.aload_n 0, 1) := by decide +kernel
theorem dd_Le_vertex_49 : decode cc_Le_vertex 49 = .ok (.getfield 19, 3) := by decide +kernel
theorem dd_Le_vertex_52 : decode cc_Le_vertex 52 = .ok (.getfield 127, 3) := by decide +kernel
theorem dd_Le_vertex_55 : decode cc_Le_vertex 55 = .ok (.iload_n 1, 1) := by decide +kernel
theorem dd_Le_vertex_56 : decode cc_Le_vertex 56 = .ok (.iaload, 1) := by decide +kernel
theorem dd_Le_vertex_57 : decode cc_Le_vertex 57 = .ok (.ireturn, 1) := by decide +kernel
theorem dd_Le_vertex_58 : decode cc_Le_vertex 58 = .ok (.aload_n 0, 1) := by decide +kernel
theorem dd_Le_vertex_59 : decode cc_Le_vertex 59 = .ok (.getfield 19, 3) := by decide +kernel
theorem dd_Le_vertex_62 : decode cc_Le_vertex 62 = .ok (.getfield 130, 3) := by decide +kernel
theorem dd_Le_vertex_65 : decode cc_Le_vertex 65 = .ok (.iload_n 1, 1) := by decide +kernel
theorem dd_Le_vertex_66 : decode cc_Le_vertex 66 = .ok (.iaload, 1) := by decide +kernel
theorem dd_Le_vertex_67 : decode cc_Le_vertex 67 = .ok (.ireturn, 1) := by decide +kernel
theorem dd_Le_vertex_68 : decode cc_Le_vertex 68 = .ok (.aload_n 0, 1) := by decide +kernel
theorem dd_Le_vertex_69 : decode cc_Le_vertex 69 = .ok (.getfield 19, 3) := by decide +kernel
theorem dd_Le_vertex_72 : decode cc_Le_vertex 72 = .ok (.getfield 133, 3) := by decide +kernel
theorem dd_Le_vertex_75 : decode cc_Le_vertex 75 = .ok (.iload_n 1, 1) := by decide +kernel
theorem dd_Le_vertex_76 : decode cc_Le_vertex 76 = .ok (.iaload, 1) := by decide +kernel
theorem dd_Le_vertex_77 : decode cc_Le_vertex 77 = .ok (.ireturn, 1) := by decide +kernel
theorem dd_Le_vertex_78 : decode cc_Le_vertex 78 = .ok (.aload_n 0, 1) := by decide +kernel
theorem dd_Le_vertex_79 : decode cc_Le_vertex 79 = .ok (.getfield 19, 3) := by decide +kernel
theorem dd_Le_vertex_82 : decode cc_Le_vertex 82 = .ok (.getfield 136, 3) := by decide +kernel
theorem dd_Le_vertex_85 : decode cc_Le_vertex 85 = .ok (.iload_n 1, 1) := by decide +kernel
theorem dd_Le_vertex_86 : decode cc_Le_vertex 86 = .ok (.iaload, 1) := by decide +kernel
theorem dd_Le_vertex_87 : decode cc_Le_vertex 87 = .ok (.ireturn, 1) := by decide +kernel
theorem dd_Le_vertex_88 : decode cc_Le_vertex 88 = .ok (.aload_n 0, 1) := by decide +kernel
theorem dd_Le_vertex_89 : decode cc_Le_vertex 89 = .ok (.getfield 19, 3) := by decide +kernel
theorem dd_Le_vertex_92 : decode cc_Le_vertex 92 = .ok (.getfield 139, 3) := by decide +kernel
theorem dd_Le_vertex_95 : decode cc_Le_vertex 95 = .ok (.iload_n 1, 1) := by decide +kernel
theorem dd_Le_vertex_96 : decode cc_Le_vertex 96 = .ok (.iaload, 1) := by decide +kernel
theorem dd_Le_vertex_97 : decode cc_Le_vertex 97 = .ok (.ireturn, 1) := by decide +kernel
theorem dd_Le_vertex_98 : decode cc_Le_vertex 98 = .ok (.iconst (-1), 1) := by decide +kernel
theorem dd_Le_vertex_99 : decode cc_Le_vertex 99 = .ok (.ireturn, 1) := by decide +kernel
theorem dd_Le_submit_0 : decode cc_Le_submit 0 = .ok (.aload_n 0, 1) := by decide +kernel
theorem dd_Le_submit_1 : decode cc_Le_submit 1 = .ok (.iload_n 1, 1) := by decide +kernel
theorem dd_Le_submit_2 : decode cc_Le_submit 2 = .ok (.invokevirtual 43, 3) := by decide +kernel
theorem dd_Le_submit_5 : decode cc_Le_submit 5 = .ok (.astore 5, 2) := by decide +kernel
theorem dd_Le_submit_7 : decode cc_Le_submit 7 = .ok (.aload_n 0, 1) := by decide +kernel
theorem dd_Le_submit_8 : decode cc_Le_submit 8 = .ok (.getfield 12, 3) := by decide +kernel
theorem dd_Le_submit_11 : decode cc_Le_submit 11 = .ok (.invokevirtual 47, 3) := by decide +kernel
theorem dd_Le_submit_14 : decode cc_Le_submit 14 = .ok (.ifCond .ne 36, 3) := by decide +kernel
theorem dd_Le_submit_17 : decode cc_Le_submit 17 = .ok (.iload_n 2, 1) := by decide +kernel
theorem dd_Le_submit_18 : decode cc_Le_submit 18 = .ok (.invokestatic 51, 3) := by decide +kernel
theorem dd_Le_submit_21 : decode cc_Le_submit 21 = .ok (.ifCond .eq 29, 3) := by decide +kernel
theorem dd_Le_submit_24 : decode cc_Le_submit 24 = .ok (.iload_n 3, 1) := by decide +kernel
theorem dd_Le_submit_25 : decode cc_Le_submit 25 = .ok (.invokestatic 51, 3) := by decide +kernel
theorem dd_Le_submit_28 : decode cc_Le_submit 28 = .ok (.ifCond .eq 22, 3) := by decide +kernel
theorem dd_Le_submit_31 : decode cc_Le_submit 31 = .ok (.iload_n 2, 1) := by decide +kernel
theorem dd_Le_submit_32 : decode cc_Le_submit 32 = .ok (.iload_n 3, 1) := by decide +kernel
theorem dd_Le_submit_33 : decode cc_Le_submit 33 = .ok (.if_icmp .eq 17, 3) := by decide +kernel
theorem dd_Le_submit_36 : decode cc_Le_submit 36 = .ok (.iload 4, 2) := by decide +kernel
theorem dd_Le_submit_38 : decode cc_Le_submit 38 = .ok (.iconst 1, 1) := by decide +kernel
theorem dd_Le_submit_39 : decode cc_Le_submit 39 = .ok (.if_icmp .lt 11, 3) := by decide +kernel
theorem dd_Le_submit_42 : decode cc_Le_submit 42 = .ok (.iload 4, 2) := by decide +kernel
theorem dd_Le_submit_44 : decode cc_Le_submit 44 = .ok (.sipush 1000, 3) := by decide +kernel
theorem dd_Le_submit_47 : decode cc_Le_submit 47 = .ok (.if_icmp .le 5, 3) := by decide +kernel
theorem dd_Le_submit_50 : decode cc_Le_submit 50 = .ok (.iconst (-1), 1) := by decide +kernel
theorem dd_Le_submit_51 : decode cc_Le_submit 51 = .ok (.ireturn, 1) := by decide +kernel
theorem dd_Le_submit_52 : decode cc_Le_submit 52 = .ok (.aload 5, 2) := by decide +kernel
theorem dd_Le_submit_54 : decode cc_Le_submit 54 = .ok (.invokevirtual 55, 3) := by decide +kernel
theorem dd_Le_submit_57 : decode cc_Le_submit 57 = .ok (.ifCond .ne 6, 3) := by decide +kernel
theorem dd_Le_submit_60 : decode cc_Le_submit 60 = .ok (.bipush (-2), 2) := by decide +kernel
theorem dd_Le_submit_62 : decode cc_Le_submit 62 = .ok (.ireturn, 1) := by decide +kernel
theorem dd_Le_submit_63 : decode cc_Le_submit 63 = .ok (.aload_n 0, 1) := by decide +kernel
theorem dd_Le_submit_64 : decode cc_Le_submit 64 = .ok (.getfield 12, 3) := by decide +kernel
theorem dd_Le_submit_67 : decode cc_Le_submit 67 = .ok (.iload_n 2, 1) := by decide +kernel
theorem dd_Le_submit_68 : decode cc_Le_submit 68 = .ok (.iload_n 3, 1) := by decide +kernel
theorem dd_Le_submit_69 : decode cc_Le_submit 69 = .ok (.iload 4, 2) := by decide +kernel
theorem dd_Le_submit_71 : decode cc_Le_submit 71 = .ok (.invokevirtual 58, 3) := by decide +kernel
theorem dd_Le_submit_74 : decode cc_Le_submit 74 = .ok (.istore 6, 2) := by decide +kernel
theorem dd_Le_submit_76 : decode cc_Le_submit 76 = .ok (.aload 5, 2) := by decide +kernel
theorem dd_Le_submit_78 : decode cc_Le_submit 78 = .ok (.getfield 62, 3) := by decide +kernel
theorem dd_Le_submit_81 : decode cc_Le_submit 81 = .ok (.iload 6, 2) := by decide +kernel
theorem dd_Le_submit_83 : decode cc_Le_submit 83 = .ok (.invokevirtual 66, 3) := by decide +kernel
theorem dd_Le_submit_86 : decode cc_Le_submit 86 = .ok (.iload 6, 2) := by decide +kernel
theorem dd_Le_submit_88 : decode cc_Le_submit 88 = .ok (.ireturn, 1) := by decide +kernel
theorem dd_Le_upReplica_0 : decode cc_Le_upReplica 0 = .ok (.aload_n 0, 1) := by decide +kernel
theorem dd_Le_upReplica_1 : decode cc_Le_upReplica 1 = .ok (.iload_n 1, 1) := by decide +kernel
theorem dd_Le_upReplica_2 : decode cc_Le_upReplica 2 = .ok (.invokevirtual 72, 3) := by decide +kernel
theorem dd_Le_upReplica_5 : decode cc_Le_upReplica 5 = .ok (.astore_n 2, 1) := by decide +kernel
theorem dd_Le_upReplica_6 : decode cc_Le_upReplica 6 = .ok (.aload_n 2, 1) := by decide +kernel
theorem dd_Le_upReplica_7 : decode cc_Le_upReplica 7 = .ok (.invokevirtual 78, 3) := by decide +kernel
theorem dd_Le_upReplica_10 : decode cc_Le_upReplica 10 = .ok (.ifCond .ne 13, 3) := by decide +kernel
theorem dd_Le_upReplica_13 : decode cc_Le_upReplica 13 = .ok (.new 197, 3) := by decide +kernel
theorem dd_Le_upReplica_16 : decode cc_Le_upReplica 16 = .ok (.dup, 1) := by decide +kernel
theorem dd_Le_upReplica_17 : decode cc_Le_upReplica 17 = .ok (.ldc 199, 2) := by decide +kernel
theorem dd_Le_upReplica_19 : decode cc_Le_upReplica 19 = .ok (.invokespecial 201, 3) := by decide +kernel
theorem dd_Le_upReplica_22 : decode cc_Le_upReplica 22 = .ok (.athrow, 1) := by decide +kernel
theorem dd_Le_upReplica_23 : decode cc_Le_upReplica 23 = .ok (.aload_n 2, 1) := by decide +kernel
theorem dd_Le_upReplica_24 : decode cc_Le_upReplica 24 = .ok (.areturn, 1) := by decide +kernel
theorem dd_Le_replicaOf_0 : decode cc_Le_replicaOf 0 = .ok (.iload_n 1, 1) := by decide +kernel
theorem dd_Le_replicaOf_1 : decode cc_Le_replicaOf 1 = .ok (.ifCond .lt 8, 3) := by decide +kernel
theorem dd_Le_replicaOf_4 : decode cc_Le_replicaOf 4 = .ok (.iload_n 1, 1) := by decide +kernel
theorem dd_Le_replicaOf_5 : decode cc_Le_replicaOf 5 = .ok (.iconst 4, 1) := by decide +kernel
theorem dd_Le_replicaOf_6 : decode cc_Le_replicaOf 6 = .ok (.if_icmp .lt 13, 3) := by decide +kernel
theorem dd_Le_replicaOf_9 : decode cc_Le_replicaOf 9 = .ok (.new 190, 3) := by decide +kernel
theorem dd_Le_replicaOf_12 : decode cc_Le_replicaOf 12 = .ok (.dup, 1) := by decide +kernel
theorem dd_Le_replicaOf_13 : decode cc_Le_replicaOf 13 = .ok (.ldc 192, 2) := by decide +kernel
theorem dd_Le_replicaOf_15 : decode cc_Le_replicaOf 15 = .ok (.invokespecial 194, 3) := by decide +kernel
theorem dd_Le_replicaOf_18 : decode cc_Le_replicaOf 18 = .ok (.athrow, 1) := by decide +kernel
theorem dd_Le_replicaOf_19 : decode cc_Le_replicaOf 19 = .ok (.aload_n 0, 1) := by decide +kernel
theorem dd_Le_replicaOf_20 : decode cc_Le_replicaOf 20 = .ok (.getfield 32, 3) := by decide +kernel
theorem dd_Le_replicaOf_23 : decode cc_Le_replicaOf 23 = .ok (.iload_n 1, 1) := by decide +kernel
theorem dd_Le_replicaOf_24 : decode cc_Le_replicaOf 24 = .ok (.aaload, 1) := by decide +kernel
theorem dd_Le_replicaOf_25 : decode cc_Le_replicaOf 25 = .ok (.areturn, 1) := by decide +kernel
theorem dd_Re_isUp_0 : decode cc_Re_isUp 0 = .ok (.aload_n 0, 1) := by decide +kernel
theorem dd_Re_isUp_1 : decode cc_Re_isUp 1 = .ok (.getfield 25, 3) := by decide +kernel
theorem dd_Re_isUp_4 : decode cc_Re_isUp 4 = .ok (.iconst 1, 1) := by decide +kernel
theorem dd_Re_isUp_5 : decode cc_Re_isUp 5 = .ok (.if_icmp .ne 7, 3) := by decide +kernel
theorem dd_Re_isUp_8 : decode cc_Re_isUp 8 = .ok (.iconst 1, 1) := by decide +kernel
theorem dd_Re_isUp_9 : decode cc_Re_isUp 9 = .ok (.goto 4, 3) := by decide +kernel
theorem dd_Re_isUp_12 : decode cc_Re_isUp 12 = .ok (.iconst 0, 1) := by decide +kernel
theorem dd_Re_isUp_13 : decode cc_Re_isUp 13 = .ok (.ireturn, 1) := by decide +kernel
theorem dd_Le_isAccount_0 : decode cc_Le_isAccount 0 = .ok (.iload_n 0, 1) := by decide +kernel
theorem dd_Le_isAccount_1 : decode cc_Le_isAccount 1 = .ok (.ifCond .lt 12, 3) := by decide +kernel
theorem dd_Le_isAccount_4 : decode cc_Le_isAccount 4 = .ok (.iload_n 0, 1) := by decide +kernel
theorem dd_Le_isAccount_5 : decode cc_Le_isAccount 5 = .ok (.iconst 4, 1) := by decide +kernel
theorem dd_Le_isAccount_6 : decode cc_Le_isAccount 6 = .ok (.if_icmp .ge 7, 3) := by decide +kernel
theorem dd_Le_isAccount_9 : decode cc_Le_isAccount 9 = .ok (.iconst 1, 1) := by decide +kernel
theorem dd_Le_isAccount_10 : decode cc_Le_isAccount 10 = .ok (.goto 4, 3) := by decide +kernel
theorem dd_Le_isAccount_13 : decode cc_Le_isAccount 13 = .ok (.iconst 0, 1) := by decide +kernel
theorem dd_Le_isAccount_14 : decode cc_Le_isAccount 14 = .ok (.ireturn, 1) := by decide +kernel
theorem dd_Re_writeRecord_0 : decode cc_Re_writeRecord 0 = .ok (.aload_n 0, 1) := by decide +kernel
theorem dd_Re_writeRecord_1 : decode cc_Re_writeRecord 1 = .ok (.getfield 67, 3) := by decide +kernel
theorem dd_Re_writeRecord_4 : decode cc_Re_writeRecord 4 = .ok (.ifCond .eq 16, 3) := by decide +kernel
theorem dd_Re_writeRecord_7 : decode cc_Re_writeRecord 7 = .ok (.aload_n 0, 1) := by decide +kernel
theorem dd_Re_writeRecord_8 : decode cc_Re_writeRecord 8 = .ok (.getfield 86, 3) := by decide +kernel
theorem dd_Re_writeRecord_11 : decode cc_Re_writeRecord 11 = .ok (.ifCond .ne 9, 3) := by decide +kernel
theorem dd_Re_writeRecord_14 : decode cc_Re_writeRecord 14 = .ok (.aload_n 0, 1) := by decide +kernel
theorem dd_Re_writeRecord_15 : decode cc_Re_writeRecord 15 = .ok (.invokevirtual 89, 3) := by decide +kernel
theorem dd_Re_writeRecord_18 : decode cc_Re_writeRecord 18 = .ok (.iconst 0, 1) := by decide +kernel
theorem dd_Re_writeRecord_19 : decode cc_Re_writeRecord 19 = .ok (.ireturn, 1) := by decide +kernel
theorem dd_Re_writeRecord_20 : decode cc_Re_writeRecord 20 = .ok (.aload_n 0, 1) := by decide +kernel
theorem dd_Re_writeRecord_21 : decode cc_Re_writeRecord 21 = .ok (.getfield 67, 3) := by decide +kernel
theorem dd_Re_writeRecord_24 : decode cc_Re_writeRecord 24 = .ok (.ifCond .eq 13, 3) := by decide +kernel
theorem dd_Re_writeRecord_27 : decode cc_Re_writeRecord 27 = .ok (.aload_n 0, 1) := by decide +kernel
theorem dd_Re_writeRecord_28 : decode cc_Re_writeRecord 28 = .ok (.dup, 1) := by decide +kernel
theorem dd_Re_writeRecord_29 : decode cc_Re_writeRecord 29 = .ok (.getfield 86, 3) := by decide +kernel
theorem dd_Re_writeRecord_32 : decode cc_Re_writeRecord 32 = .ok (.iconst 1, 1) := by decide +kernel
theorem dd_Re_writeRecord_33 : decode cc_Re_writeRecord 33 = .ok (.isub, 1) := by decide +kernel
theorem dd_Re_writeRecord_34 : decode cc_Re_writeRecord 34 = .ok (.putfield 86, 3) := by decide +kernel
theorem dd_Re_writeRecord_37 : decode cc_Re_writeRecord 37 = .ok (.aload_n 0, 1) := by decide +kernel
theorem dd_Re_writeRecord_38 : decode cc_Re_writeRecord 38 = .ok (.getfield 12, 3) := by decide +kernel
theorem dd_Re_writeRecord_41 : decode cc_Re_writeRecord 41 = .ok (.dup, 1) := by decide +kernel
theorem dd_Re_writeRecord_42 : decode cc_Re_writeRecord 42 = .ok (.getfield 92, 3) := by decide +kernel
theorem dd_Re_writeRecord_45 : decode cc_Re_writeRecord 45 = .ok (.iconst 1, 1) := by decide +kernel
theorem dd_Re_writeRecord_46 : decode cc_Re_writeRecord 46 = .ok (.iadd, 1) := by decide +kernel
theorem dd_Re_writeRecord_47 : decode cc_Re_writeRecord 47 = .ok (.putfield 92, 3) := by decide +kernel
theorem dd_Re_writeRecord_50 : decode cc_Re_writeRecord 50 = .ok (.iconst 1, 1) := by decide +kernel
theorem dd_Re_writeRecord_51 : decode cc_Re_writeRecord 51 = .ok (.ireturn, 1) := by decide +kernel
theorem dd_Re_goDown_0 : decode cc_Re_goDown 0 = .ok (.aload_n 0, 1) := by decide +kernel
theorem dd_Re_goDown_1 : decode cc_Re_goDown 1 = .ok (.iconst 0, 1) := by decide +kernel
theorem dd_Re_goDown_2 : decode cc_Re_goDown 2 = .ok (.putfield 25, 3) := by decide +kernel
theorem dd_Re_goDown_5 : decode cc_Re_goDown 5 = .ok (.aload_n 0, 1) := by decide +kernel
theorem dd_Re_goDown_6 : decode cc_Re_goDown 6 = .ok (.iconst 0, 1) := by decide +kernel
theorem dd_Re_goDown_7 : decode cc_Re_goDown 7 = .ok (.putfield 67, 3) := by decide +kernel
theorem dd_Re_goDown_10 : decode cc_Re_goDown 10 = .ok (.aload_n 0, 1) := by decide +kernel
theorem dd_Re_goDown_11 : decode cc_Re_goDown 11 = .ok (.iconst 0, 1) := by decide +kernel
theorem dd_Re_goDown_12 : decode cc_Re_goDown 12 = .ok (.putfield 71, 3) := by decide +kernel
theorem dd_Re_goDown_15 : decode cc_Re_goDown 15 = .ok (.aload_n 0, 1) := by decide +kernel
theorem dd_Re_goDown_16 : decode cc_Re_goDown 16 = .ok (.iconst 0, 1) := by decide +kernel
theorem dd_Re_goDown_17 : decode cc_Re_goDown 17 = .ok (.putfield 74, 3) := by decide +kernel
theorem dd_Re_goDown_20 : decode cc_Re_goDown 20 = .ok (.aload_n 0, 1) := by decide +kernel
theorem dd_Re_goDown_21 : decode cc_Re_goDown 21 = .ok (.getfield 21, 3) := by decide +kernel
theorem dd_Re_goDown_24 : decode cc_Re_goDown 24 = .ok (.invokevirtual 77, 3) := by decide +kernel
theorem dd_Re_goDown_27 : decode cc_Re_goDown 27 = .ok (.aload_n 0, 1) := by decide +kernel
theorem dd_Re_goDown_28 : decode cc_Re_goDown 28 = .ok (.getfield 45, 3) := by decide +kernel
theorem dd_Re_goDown_31 : decode cc_Re_goDown 31 = .ok (.invokevirtual 80, 3) := by decide +kernel
theorem dd_Re_goDown_34 : decode cc_Re_goDown 34 = .ok (.aload_n 0, 1) := by decide +kernel
theorem dd_Re_goDown_35 : decode cc_Re_goDown 35 = .ok (.getfield 63, 3) := by decide +kernel
theorem dd_Re_goDown_38 : decode cc_Re_goDown 38 = .ok (.invokevirtual 81, 3) := by decide +kernel
theorem dd_Re_goDown_41 : decode cc_Re_goDown 41 = .ok (.aload_n 0, 1) := by decide +kernel
theorem dd_Re_goDown_42 : decode cc_Re_goDown 42 = .ok (.getfield 54, 3) := by decide +kernel
theorem dd_Re_goDown_45 : decode cc_Re_goDown 45 = .ok (.invokevirtual 82, 3) := by decide +kernel
theorem dd_Re_goDown_48 : decode cc_Re_goDown 48 = .ok (.return_, 1) := by decide +kernel
theorem dd_Le_deliver_0 : decode cc_Le_deliver 0 = .ok (.aload_n 0, 1) := by decide +kernel
theorem dd_Le_deliver_1 : decode cc_Le_deliver 1 = .ok (.iload_n 2, 1) := by decide +kernel
theorem dd_Le_deliver_2 : decode cc_Le_deliver 2 = .ok (.invokevirtual 72, 3) := by decide +kernel
theorem dd_Le_deliver_5 : decode cc_Le_deliver 5 = .ok (.astore_n 3, 1) := by decide +kernel
theorem dd_Le_deliver_6 : decode cc_Le_deliver 6 = .ok (.aload_n 0, 1) := by decide +kernel
theorem dd_Le_deliver_7 : decode cc_Le_deliver 7 = .ok (.getfield 26, 3) := by decide +kernel
theorem dd_Le_deliver_10 : decode cc_Le_deliver 10 = .ok (.iload_n 1, 1) := by decide +kernel
theorem dd_Le_deliver_11 : decode cc_Le_deliver 11 = .ok (.invokevirtual 75, 3) := by decide +kernel
theorem dd_Le_deliver_14 : decode cc_Le_deliver 14 = .ok (.ifCond .eq 20, 3) := by decide +kernel
theorem dd_Le_deliver_17 : decode cc_Le_deliver 17 = .ok (.aload_n 3, 1) := by decide +kernel
theorem dd_Le_deliver_18 : decode cc_Le_deliver 18 = .ok (.invokevirtual 78, 3) := by decide +kernel
theorem dd_Le_deliver_21 : decode cc_Le_deliver 21 = .ok (.ifCond .eq 13, 3) := by decide +kernel
theorem dd_Le_deliver_24 : decode cc_Le_deliver 24 = .ok (.aload_n 0, 1) := by decide +kernel
theorem dd_Le_deliver_25 : decode cc_Le_deliver 25 = .ok (.getfield 26, 3) := by decide +kernel
theorem dd_Le_deliver_28 : decode cc_Le_deliver 28 = .ok (.invokevirtual 81, 3) := by decide +kernel
theorem dd_Le_deliver_31 : decode cc_Le_deliver 31 = .ok (.ifCond .eq 5, 3) := by decide +kernel
theorem dd_Le_deliver_34 : decode cc_Le_deliver 34 = .ok (.iconst 0, 1) := by decide +kernel
theorem dd_Le_deliver_35 : decode cc_Le_deliver 35 = .ok (.ireturn, 1) := by decide +kernel
theorem dd_Le_deliver_36 : decode cc_Le_deliver 36 = .ok (.aload_n 3, 1) := by decide +kernel
theorem dd_Le_deliver_37 : decode cc_Le_deliver 37 = .ok (.iload_n 1, 1) := by decide +kernel
theorem dd_Le_deliver_38 : decode cc_Le_deliver 38 = .ok (.invokevirtual 82, 3) := by decide +kernel
theorem dd_Le_deliver_41 : decode cc_Le_deliver 41 = .ok (.iconst 1, 1) := by decide +kernel
theorem dd_Le_deliver_42 : decode cc_Le_deliver 42 = .ok (.ireturn, 1) := by decide +kernel
theorem dd_Re_take_0 : decode cc_Re_take 0 = .ok (.aload_n 0, 1) := by decide +kernel
theorem dd_Re_take_1 : decode cc_Re_take 1 = .ok (.getfield 32, 3) := by decide +kernel
theorem dd_Re_take_4 : decode cc_Re_take 4 = .ok (.getfield 104, 3) := by decide +kernel
theorem dd_Re_take_7 : decode cc_Re_take 7 = .ok (.iload_n 1, 1) := by decide +kernel
theorem dd_Re_take_8 : decode cc_Re_take 8 = .ok (.iaload, 1) := by decide +kernel
theorem dd_Re_take_9 : decode cc_Re_take 9 = .ok (.istore_n 2, 1) := by decide +kernel
theorem dd_Re_take_10 : decode cc_Re_take 10 = .ok (.aload_n 0, 1) := by decide +kernel
theorem dd_Re_take_11 : decode cc_Re_take 11 = .ok (.getfield 32, 3) := by decide +kernel
theorem dd_Re_take_14 : decode cc_Re_take 14 = .ok (.getfield 110, 3) := by decide +kernel
theorem dd_Re_take_17 : decode cc_Re_take 17 = .ok (.iload_n 1, 1) := by decide +kernel
theorem dd_Re_take_18 : decode cc_Re_take 18 = .ok (.iaload, 1) := by decide +kernel
theorem dd_Re_take_19 : decode cc_Re_take 19 = .ok (.istore_n 3, 1) := by decide +kernel
theorem dd_Re_take_20 : decode cc_Re_take 20 = .ok (.aload_n 0, 1) := by decide +kernel
theorem dd_Re_take_21 : decode cc_Re_take 21 = .ok (.getfield 32, 3) := by decide +kernel
theorem dd_Re_take_24 : decode cc_Re_take 24 = .ok (.getfield 113, 3) := by decide +kernel
theorem dd_Re_take_27 : decode cc_Re_take 27 = .ok (.iload_n 1, 1) := by decide +kernel
theorem dd_Re_take_28 : decode cc_Re_take 28 = .ok (.iaload, 1) := by decide +kernel
theorem dd_Re_take_29 : decode cc_Re_take 29 = .ok (.lookupswitch 45 #[(0, 27), (1, 36)], 27) := by decide +kernel
theorem dd_Re_take_56 : decode cc_Re_take 56 = .ok (.aload_n 0, 1) := by decide +kernel
theorem dd_Re_take_57 : decode cc_Re_take 57 = .ok (.iload_n 2, 1) := by decide +kernel
theorem dd_Re_take_58 : decode cc_Re_take 58 = .ok (.iload_n 3, 1) := by decide +kernel
theorem dd_Re_take_59 : decode cc_Re_take 59 = .ok (.invokevirtual 116, 3) := by decide +kernel
theorem dd_Re_take_62 : decode cc_Re_take 62 = .ok (.goto 18, 3) := by decide +kernel
theorem dd_Re_take_65 : decode cc_Re_take 65 = .ok (.aload_n 0, 1) := by decide +kernel
theorem dd_Re_take_66 : decode cc_Re_take 66 = .ok (.iload_n 2, 1) := by decide +kernel
theorem dd_Re_take_67 : decode cc_Re_take 67 = .ok (.iload_n 3, 1) := by decide +kernel
theorem dd_Re_take_68 : decode cc_Re_take 68 = .ok (.invokevirtual 120, 3) := by decide +kernel
theorem dd_Re_take_71 : decode cc_Re_take 71 = .ok (.goto 9, 3) := by decide +kernel
theorem dd_Re_take_74 : decode cc_Re_take 74 = .ok (.aload_n 0, 1) := by decide +kernel
theorem dd_Re_take_75 : decode cc_Re_take 75 = .ok (.iload_n 2, 1) := by decide +kernel
theorem dd_Re_take_76 : decode cc_Re_take 76 = .ok (.iload_n 3, 1) := by decide +kernel
theorem dd_Re_take_77 : decode cc_Re_take 77 = .ok (.invokevirtual 123, 3) := by decide +kernel
theorem dd_Re_take_80 : decode cc_Re_take 80 = .ok (.aload_n 0, 1) := by decide +kernel
theorem dd_Re_take_81 : decode cc_Re_take 81 = .ok (.invokevirtual 101, 3) := by decide +kernel
theorem dd_Re_take_84 : decode cc_Re_take 84 = .ok (.return_, 1) := by decide +kernel
theorem dd_Re_takeSend_0 : decode cc_Re_takeSend 0 = .ok (.aload_n 0, 1) := by decide +kernel
theorem dd_Re_takeSend_1 : decode cc_Re_takeSend 1 = .ok (.getfield 36, 3) := by decide +kernel
theorem dd_Re_takeSend_4 : decode cc_Re_takeSend 4 = .ok (.getfield 126, 3) := by decide +kernel
theorem dd_Re_takeSend_7 : decode cc_Re_takeSend 7 = .ok (.iload_n 1, 1) := by decide +kernel
theorem dd_Re_takeSend_8 : decode cc_Re_takeSend 8 = .ok (.iaload, 1) := by decide +kernel
theorem dd_Re_takeSend_9 : decode cc_Re_takeSend 9 = .ok (.istore_n 3, 1) := by decide +kernel
theorem dd_Re_takeSend_10 : decode cc_Re_takeSend 10 = .ok (.aload_n 0, 1) := by decide +kernel
theorem dd_Re_takeSend_11 : decode cc_Re_takeSend 11 = .ok (.getfield 36, 3) := by decide +kernel
theorem dd_Re_takeSend_14 : decode cc_Re_takeSend 14 = .ok (.getfield 131, 3) := by decide +kernel
theorem dd_Re_takeSend_17 : decode cc_Re_takeSend 17 = .ok (.iload_n 1, 1) := by decide +kernel
theorem dd_Re_takeSend_18 : decode cc_Re_takeSend 18 = .ok (.iaload, 1) := by decide +kernel
theorem dd_Re_takeSend_19 : decode cc_Re_takeSend 19 = .ok (.istore 4, 2) := by decide +kernel
theorem dd_Re_takeSend_21 : decode cc_Re_takeSend 21 = .ok (.iload_n 2, 1) := by decide +kernel
theorem dd_Re_takeSend_22 : decode cc_Re_takeSend 22 = .ok (.iload_n 3, 1) := by decide +kernel
theorem dd_Re_takeSend_23 : decode cc_Re_takeSend 23 = .ok (.if_icmp .ne 31, 3) := by decide +kernel
theorem dd_Re_takeSend_26 : decode cc_Re_takeSend 26 = .ok (.aload_n 0, 1) := by decide +kernel
theorem dd_Re_takeSend_27 : decode cc_Re_takeSend 27 = .ok (.getfield 36, 3) := by decide +kernel
theorem dd_Re_takeSend_30 : decode cc_Re_takeSend 30 = .ok (.iload_n 1, 1) := by decide +kernel
theorem dd_Re_takeSend_31 : decode cc_Re_takeSend 31 = .ok (.invokevirtual 134, 3) := by decide +kernel
theorem dd_Re_takeSend_34 : decode cc_Re_takeSend 34 = .ok (.ifCond .eq 20, 3) := by decide +kernel
theorem dd_Re_takeSend_37 : decode cc_Re_takeSend 37 = .ok (.aload_n 0, 1) := by decide +kernel
theorem dd_Re_takeSend_38 : decode cc_Re_takeSend 38 = .ok (.getfield 12, 3) := by decide +kernel
theorem dd_Re_takeSend_41 : decode cc_Re_takeSend 41 = .ok (.getfield 138, 3) := by decide +kernel
theorem dd_Re_takeSend_44 : decode cc_Re_takeSend 44 = .ok (.iload_n 3, 1) := by decide +kernel
theorem dd_Re_takeSend_45 : decode cc_Re_takeSend 45 = .ok (.iaload, 1) := by decide +kernel
theorem dd_Re_takeSend_46 : decode cc_Re_takeSend 46 = .ok (.iload 4, 2) := by decide +kernel
theorem dd_Re_takeSend_48 : decode cc_Re_takeSend 48 = .ok (.invokestatic 141, 3) := by decide +kernel
theorem dd_Re_takeSend_51 : decode cc_Re_takeSend 51 = .ok (.ifCond .eq 4, 3) := by decide +kernel
theorem dd_Re_takeSend_54 : decode cc_Re_takeSend 54 = .ok (.return_, 1) := by decide +kernel
theorem dd_Re_takeSend_55 : decode cc_Re_takeSend 55 = .ok (.aload_n 0, 1) := by decide +kernel
theorem dd_Re_takeSend_56 : decode cc_Re_takeSend 56 = .ok (.invokevirtual 145, 3) := by decide +kernel
theorem dd_Re_takeSend_59 : decode cc_Re_takeSend 59 = .ok (.ifCond .eq 33, 3) := by decide +kernel
theorem dd_Re_takeSend_62 : decode cc_Re_takeSend 62 = .ok (.aload_n 0, 1) := by decide +kernel
theorem dd_Re_takeSend_63 : decode cc_Re_takeSend 63 = .ok (.getfield 12, 3) := by decide +kernel
theorem dd_Re_takeSend_66 : decode cc_Re_takeSend 66 = .ok (.getfield 138, 3) := by decide +kernel
theorem dd_Re_takeSend_69 : decode cc_Re_takeSend 69 = .ok (.iload_n 3, 1) := by decide +kernel
theorem dd_Re_takeSend_70 : decode cc_Re_takeSend 70 = .ok (.dup2, 1) := by decide +kernel
theorem dd_Re_takeSend_71 : decode cc_Re_takeSend 71 = .ok (.iaload, 1) := by decide +kernel
theorem dd_Re_takeSend_72 : decode cc_Re_takeSend 72 = .ok (.iconst 1, 1) := by decide +kernel
theorem dd_Re_takeSend_73 : decode cc_Re_takeSend 73 = .ok (.iload 4, 2) := by decide +kernel
theorem dd_Re_takeSend_75 : decode cc_Re_takeSend 75 = .ok (.ishl, 1) := by decide +kernel
theorem dd_Re_takeSend_76 : decode cc_Re_takeSend 76 = .ok (.ior, 1) := by decide +kernel
theorem dd_Re_takeSend_77 : decode cc_Re_takeSend 77 = .ok (.iastore, 1) := by decide +kernel
theorem dd_Re_takeSend_78 : decode cc_Re_takeSend 78 = .ok (.aload_n 0, 1) := by decide +kernel
theorem dd_Re_takeSend_79 : decode cc_Re_takeSend 79 = .ok (.getfield 32, 3) := by decide +kernel
theorem dd_Re_takeSend_82 : decode cc_Re_takeSend 82 = .ok (.iconst 1, 1) := by decide +kernel
theorem dd_Re_takeSend_83 : decode cc_Re_takeSend 83 = .ok (.aload_n 0, 1) := by decide +kernel
theorem dd_Re_takeSend_84 : decode cc_Re_takeSend 84 = .ok (.getfield 29, 3) := by decide +kernel
theorem dd_Re_takeSend_87 : decode cc_Re_takeSend 87 = .ok (.iload_n 1, 1) := by decide +kernel
theorem dd_Re_takeSend_88 : decode cc_Re_takeSend 88 = .ok (.invokevirtual 149, 3) := by decide +kernel
theorem dd_Re_takeSend_91 : decode cc_Re_takeSend 91 = .ok (.pop, 1) := by decide +kernel
theorem dd_Re_takeSend_92 : decode cc_Re_takeSend 92 = .ok (.return_, 1) := by decide +kernel
theorem dd_Le_contains_0 : decode cc_Le_contains 0 = .ok (.iload_n 0, 1) := by decide +kernel
theorem dd_Le_contains_1 : decode cc_Le_contains 1 = .ok (.iload_n 1, 1) := by decide +kernel
theorem dd_Le_contains_2 : decode cc_Le_contains 2 = .ok (.ishr, 1) := by decide +kernel
theorem dd_Le_contains_3 : decode cc_Le_contains 3 = .ok (.iconst 1, 1) := by decide +kernel
theorem dd_Le_contains_4 : decode cc_Le_contains 4 = .ok (.iand, 1) := by decide +kernel
theorem dd_Le_contains_5 : decode cc_Le_contains 5 = .ok (.iconst 1, 1) := by decide +kernel
theorem dd_Le_contains_6 : decode cc_Le_contains 6 = .ok (.if_icmp .ne 7, 3) := by decide +kernel
theorem dd_Le_contains_9 : decode cc_Le_contains 9 = .ok (.iconst 1, 1) := by decide +kernel
theorem dd_Le_contains_10 : decode cc_Le_contains 10 = .ok (.goto 4, 3) := by decide +kernel
theorem dd_Le_contains_13 : decode cc_Le_contains 13 = .ok (.iconst 0, 1) := by decide +kernel
theorem dd_Le_contains_14 : decode cc_Le_contains 14 = .ok (.ireturn, 1) := by decide +kernel
theorem dd_Re_takeEcho_0 : decode cc_Re_takeEcho 0 = .ok (.aload_n 0, 1) := by decide +kernel
theorem dd_Re_takeEcho_1 : decode cc_Re_takeEcho 1 = .ok (.getfield 21, 3) := by decide +kernel
theorem dd_Re_takeEcho_4 : decode cc_Re_takeEcho 4 = .ok (.iload_n 1, 1) := by decide +kernel
theorem dd_Re_takeEcho_5 : decode cc_Re_takeEcho 5 = .ok (.iload_n 2, 1) := by decide +kernel
theorem dd_Re_takeEcho_6 : decode cc_Re_takeEcho 6 = .ok (.invokevirtual 153, 3) := by decide +kernel
theorem dd_Re_takeEcho_9 : decode cc_Re_takeEcho 9 = .ok (.iconst 3, 1) := by decide +kernel
theorem dd_Re_takeEcho_10 : decode cc_Re_takeEcho 10 = .ok (.if_icmp .lt 8, 3) := by decide +kernel
theorem dd_Re_takeEcho_13 : decode cc_Re_takeEcho 13 = .ok (.aload_n 0, 1) := by decide +kernel
theorem dd_Re_takeEcho_14 : decode cc_Re_takeEcho 14 = .ok (.iload_n 1, 1) := by decide +kernel
theorem dd_Re_takeEcho_15 : decode cc_Re_takeEcho 15 = .ok (.invokevirtual 156, 3) := by decide +kernel
theorem dd_Re_takeEcho_18 : decode cc_Re_takeEcho 18 = .ok (.return_, 1) := by decide +kernel
theorem dd_Re_becomeReady_0 : decode cc_Re_becomeReady 0 = .ok (.aload_n 0, 1) := by decide +kernel
theorem dd_Re_becomeReady_1 : decode cc_Re_becomeReady 1 = .ok (.getfield 36, 3) := by decide +kernel
theorem dd_Re_becomeReady_4 : decode cc_Re_becomeReady 4 = .ok (.getfield 126, 3) := by decide +kernel
theorem dd_Re_becomeReady_7 : decode cc_Re_becomeReady 7 = .ok (.iload_n 1, 1) := by decide +kernel
theorem dd_Re_becomeReady_8 : decode cc_Re_becomeReady 8 = .ok (.iaload, 1) := by decide +kernel
theorem dd_Re_becomeReady_9 : decode cc_Re_becomeReady 9 = .ok (.istore_n 2, 1) := by decide +kernel
theorem dd_Re_becomeReady_10 : decode cc_Re_becomeReady 10 = .ok (.aload_n 0, 1) := by decide +kernel
theorem dd_Re_becomeReady_11 : decode cc_Re_becomeReady 11 = .ok (.getfield 36, 3) := by decide +kernel
theorem dd_Re_becomeReady_14 : decode cc_Re_becomeReady 14 = .ok (.getfield 131, 3) := by decide +kernel
theorem dd_Re_becomeReady_17 : decode cc_Re_becomeReady 17 = .ok (.iload_n 1, 1) := by decide +kernel
theorem dd_Re_becomeReady_18 : decode cc_Re_becomeReady 18 = .ok (.iaload, 1) := by decide +kernel
theorem dd_Re_becomeReady_19 : decode cc_Re_becomeReady 19 = .ok (.istore_n 3, 1) := by decide +kernel
theorem dd_Re_becomeReady_20 : decode cc_Re_becomeReady 20 = .ok (.aload_n 0, 1) := by decide +kernel
theorem dd_Re_becomeReady_21 : decode cc_Re_becomeReady 21 = .ok (.getfield 12, 3) := by decide +kernel
theorem dd_Re_becomeReady_24 : decode cc_Re_becomeReady 24 = .ok (.getfield 163, 3) := by decide +kernel
theorem dd_Re_becomeReady_27 : decode cc_Re_becomeReady 27 = .ok (.iload_n 2, 1) := by decide +kernel
theorem dd_Re_becomeReady_28 : decode cc_Re_becomeReady 28 = .ok (.iaload, 1) := by decide +kernel
theorem dd_Re_becomeReady_29 : decode cc_Re_becomeReady 29 = .ok (.iload_n 3, 1) := by decide +kernel
theorem dd_Re_becomeReady_30 : decode cc_Re_becomeReady 30 = .ok (.invokestatic 141, 3) := by decide +kernel
theorem dd_Re_becomeReady_33 : decode cc_Re_becomeReady 33 = .ok (.ifCond .eq 4, 3) := by decide +kernel
theorem dd_Re_becomeReady_36 : decode cc_Re_becomeReady 36 = .ok (.return_, 1) := by decide +kernel
theorem dd_Re_becomeReady_37 : decode cc_Re_becomeReady 37 = .ok (.aload_n 0, 1) := by decide +kernel
theorem dd_Re_becomeReady_38 : decode cc_Re_becomeReady 38 = .ok (.invokevirtual 145, 3) := by decide +kernel
theorem dd_Re_becomeReady_41 : decode cc_Re_becomeReady 41 = .ok (.ifCond .eq 32, 3) := by decide +kernel
theorem dd_Re_becomeReady_44 : decode cc_Re_becomeReady 44 = .ok (.aload_n 0, 1) := by decide +kernel
theorem dd_Re_becomeReady_45 : decode cc_Re_becomeReady 45 = .ok (.getfield 12, 3) := by decide +kernel
theorem dd_Re_becomeReady_48 : decode cc_Re_becomeReady 48 = .ok (.getfield 163, 3) := by decide +kernel
theorem dd_Re_becomeReady_51 : decode cc_Re_becomeReady 51 = .ok (.iload_n 2, 1) := by decide +kernel
theorem dd_Re_becomeReady_52 : decode cc_Re_becomeReady 52 = .ok (.dup2, 1) := by decide +kernel
theorem dd_Re_becomeReady_53 : decode cc_Re_becomeReady 53 = .ok (.iaload, 1) := by decide +kernel
theorem dd_Re_becomeReady_54 : decode cc_Re_becomeReady 54 = .ok (.iconst 1, 1) := by decide +kernel
theorem dd_Re_becomeReady_55 : decode cc_Re_becomeReady 55 = .ok (.iload_n 3, 1) := by decide +kernel
theorem dd_Re_becomeReady_56 : decode cc_Re_becomeReady 56 = .ok (.ishl, 1) := by decide +kernel
theorem dd_Re_becomeReady_57 : decode cc_Re_becomeReady 57 = .ok (.ior, 1) := by decide +kernel
theorem dd_Re_becomeReady_58 : decode cc_Re_becomeReady 58 = .ok (.iastore, 1) := by decide +kernel
theorem dd_Re_becomeReady_59 : decode cc_Re_becomeReady 59 = .ok (.aload_n 0, 1) := by decide +kernel
theorem dd_Re_becomeReady_60 : decode cc_Re_becomeReady 60 = .ok (.getfield 32, 3) := by decide +kernel
theorem dd_Re_becomeReady_63 : decode cc_Re_becomeReady 63 = .ok (.iconst 2, 1) := by decide +kernel
theorem dd_Re_becomeReady_64 : decode cc_Re_becomeReady 64 = .ok (.aload_n 0, 1) := by decide +kernel
theorem dd_Re_becomeReady_65 : decode cc_Re_becomeReady 65 = .ok (.getfield 29, 3) := by decide +kernel
theorem dd_Re_becomeReady_68 : decode cc_Re_becomeReady 68 = .ok (.iload_n 1, 1) := by decide +kernel
theorem dd_Re_becomeReady_69 : decode cc_Re_becomeReady 69 = .ok (.invokevirtual 149, 3) := by decide +kernel
theorem dd_Re_becomeReady_72 : decode cc_Re_becomeReady 72 = .ok (.pop, 1) := by decide +kernel
theorem dd_Re_becomeReady_73 : decode cc_Re_becomeReady 73 = .ok (.return_, 1) := by decide +kernel
theorem dd_Re_takeReady_0 : decode cc_Re_takeReady 0 = .ok (.aload_n 0, 1) := by decide +kernel
theorem dd_Re_takeReady_1 : decode cc_Re_takeReady 1 = .ok (.getfield 21, 3) := by decide +kernel
theorem dd_Re_takeReady_4 : decode cc_Re_takeReady 4 = .ok (.iload_n 1, 1) := by decide +kernel
theorem dd_Re_takeReady_5 : decode cc_Re_takeReady 5 = .ok (.iload_n 2, 1) := by decide +kernel
theorem dd_Re_takeReady_6 : decode cc_Re_takeReady 6 = .ok (.invokevirtual 160, 3) := by decide +kernel
theorem dd_Re_takeReady_9 : decode cc_Re_takeReady 9 = .ok (.iconst 2, 1) := by decide +kernel
theorem dd_Re_takeReady_10 : decode cc_Re_takeReady 10 = .ok (.if_icmp .lt 8, 3) := by decide +kernel
theorem dd_Re_takeReady_13 : decode cc_Re_takeReady 13 = .ok (.aload_n 0, 1) := by decide +kernel
theorem dd_Re_takeReady_14 : decode cc_Re_takeReady 14 = .ok (.iload_n 1, 1) := by decide +kernel
theorem dd_Re_takeReady_15 : decode cc_Re_takeReady 15 = .ok (.invokevirtual 156, 3) := by decide +kernel
theorem dd_Re_takeReady_18 : decode cc_Re_takeReady 18 = .ok (.return_, 1) := by decide +kernel
theorem dd_Re_act_0 : decode cc_Re_act 0 = .ok (.iconst 0, 1) := by decide +kernel
theorem dd_Re_act_1 : decode cc_Re_act 1 = .ok (.istore_n 1, 1) := by decide +kernel
theorem dd_Re_act_2 : decode cc_Re_act 2 = .ok (.iload_n 1, 1) := by decide +kernel
theorem dd_Re_act_3 : decode cc_Re_act 3 = .ok (.sipush 1000, 3) := by decide +kernel
theorem dd_Re_act_6 : decode cc_Re_act 6 = .ok (.if_icmp .ge 41, 3) := by decide +kernel
theorem dd_Re_act_9 : decode cc_Re_act 9 = .ok (.aload_n 0, 1) := by decide +kernel
theorem dd_Re_act_10 : decode cc_Re_act 10 = .ok (.invokevirtual 166, 3) := by decide +kernel
theorem dd_Re_act_13 : decode cc_Re_act 13 = .ok (.ifCond .eq 34, 3) := by decide +kernel
theorem dd_Re_act_16 : decode cc_Re_act 16 = .ok (.aload_n 0, 1) := by decide +kernel
theorem dd_Re_act_17 : decode cc_Re_act 17 = .ok (.invokevirtual 169, 3) := by decide +kernel
theorem dd_Re_act_20 : decode cc_Re_act 20 = .ok (.ifCond .ne 21, 3) := by decide +kernel
theorem dd_Re_act_23 : decode cc_Re_act 23 = .ok (.aload_n 0, 1) := by decide +kernel
theorem dd_Re_act_24 : decode cc_Re_act 24 = .ok (.getfield 63, 3) := by decide +kernel
theorem dd_Re_act_27 : decode cc_Re_act 27 = .ok (.invokevirtual 172, 3) := by decide +kernel
theorem dd_Re_act_30 : decode cc_Re_act 30 = .ok (.ifCond .ne 11, 3) := by decide +kernel
theorem dd_Re_act_33 : decode cc_Re_act 33 = .ok (.aload_n 0, 1) := by decide +kernel
theorem dd_Re_act_34 : decode cc_Re_act 34 = .ok (.invokevirtual 175, 3) := by decide +kernel
theorem dd_Re_act_37 : decode cc_Re_act 37 = .ok (.ifCond .ne 4, 3) := by decide +kernel
theorem dd_Re_act_40 : decode cc_Re_act 40 = .ok (.return_, 1) := by decide +kernel
theorem dd_Re_act_41 : decode cc_Re_act 41 = .ok (.iinc 1 1, 3) := by decide +kernel
theorem dd_Re_act_44 : decode cc_Re_act 44 = .ok (.goto (-42), 3) := by decide +kernel
theorem dd_Re_act_47 : decode cc_Re_act 47 = .ok (.return_, 1) := by decide +kernel
theorem dd_Re_insertNext_0 : decode cc_Re_insertNext 0 = .ok (.iconst (-1), 1) := by decide +kernel
theorem dd_Re_insertNext_1 : decode cc_Re_insertNext 1 = .ok (.istore_n 1, 1) := by decide +kernel
theorem dd_Re_insertNext_2 : decode cc_Re_insertNext 2 = .ok (.iconst 0, 1) := by decide +kernel
theorem dd_Re_insertNext_3 : decode cc_Re_insertNext 3 = .ok (.istore_n 2, 1) := by decide +kernel
theorem dd_Re_insertNext_4 : decode cc_Re_insertNext 4 = .ok (.iload_n 2, 1) := by decide +kernel
theorem dd_Re_insertNext_5 : decode cc_Re_insertNext 5 = .ok (.aload_n 0, 1) := by decide +kernel
theorem dd_Re_insertNext_6 : decode cc_Re_insertNext 6 = .ok (.getfield 21, 3) := by decide +kernel
theorem dd_Re_insertNext_9 : decode cc_Re_insertNext 9 = .ok (.getfield 178, 3) := by decide +kernel
theorem dd_Re_insertNext_12 : decode cc_Re_insertNext 12 = .ok (.if_icmp .ge 57, 3) := by decide +kernel
theorem dd_Re_insertNext_15 : decode cc_Re_insertNext 15 = .ok (.aload_n 0, 1) := by decide +kernel
theorem dd_Re_insertNext_16 : decode cc_Re_insertNext 16 = .ok (.getfield 21, 3) := by decide +kernel
theorem dd_Re_insertNext_19 : decode cc_Re_insertNext 19 = .ok (.getfield 181, 3) := by decide +kernel
theorem dd_Re_insertNext_22 : decode cc_Re_insertNext 22 = .ok (.iload_n 2, 1) := by decide +kernel
theorem dd_Re_insertNext_23 : decode cc_Re_insertNext 23 = .ok (.iaload, 1) := by decide +kernel
theorem dd_Re_insertNext_24 : decode cc_Re_insertNext 24 = .ok (.istore_n 3, 1) := by decide +kernel
theorem dd_Re_insertNext_25 : decode cc_Re_insertNext 25 = .ok (.aload_n 0, 1) := by decide +kernel
theorem dd_Re_insertNext_26 : decode cc_Re_insertNext 26 = .ok (.getfield 45, 3) := by decide +kernel
theorem dd_Re_insertNext_29 : decode cc_Re_insertNext 29 = .ok (.iload_n 3, 1) := by decide +kernel
theorem dd_Re_insertNext_30 : decode cc_Re_insertNext 30 = .ok (.invokevirtual 184, 3) := by decide +kernel
theorem dd_Re_insertNext_33 : decode cc_Re_insertNext 33 = .ok (.ifCond .eq 30, 3) := by decide +kernel
theorem dd_Re_insertNext_36 : decode cc_Re_insertNext 36 = .ok (.iload_n 1, 1) := by decide +kernel
theorem dd_Re_insertNext_37 : decode cc_Re_insertNext 37 = .ok (.iconst (-1), 1) := by decide +kernel
theorem dd_Re_insertNext_38 : decode cc_Re_insertNext 38 = .ok (.if_icmp .eq 23, 3) := by decide +kernel
theorem dd_Re_insertNext_41 : decode cc_Re_insertNext 41 = .ok (.aload_n 0, 1) := by decide +kernel
theorem dd_Re_insertNext_42 : decode cc_Re_insertNext 42 = .ok (.getfield 36, 3) := by decide +kernel
theorem dd_Re_insertNext_45 : decode cc_Re_insertNext 45 = .ok (.iload_n 3, 1) := by decide +kernel
theorem dd_Re_insertNext_46 : decode cc_Re_insertNext 46 = .ok (.aload_n 0, 1) := by decide +kernel
theorem dd_Re_insertNext_47 : decode cc_Re_insertNext 47 = .ok (.getfield 21, 3) := by decide +kernel
theorem dd_Re_insertNext_50 : decode cc_Re_insertNext 50 = .ok (.getfield 181, 3) := by decide +kernel
theorem dd_Re_insertNext_53 : decode cc_Re_insertNext 53 = .ok (.iload_n 1, 1) := by decide +kernel
theorem dd_Re_insertNext_54 : decode cc_Re_insertNext 54 = .ok (.iaload, 1) := by decide +kernel
theorem dd_Re_insertNext_55 : decode cc_Re_insertNext 55 = .ok (.invokevirtual 187, 3) := by decide +kernel
theorem dd_Re_insertNext_58 : decode cc_Re_insertNext 58 = .ok (.ifCond .eq 5, 3) := by decide +kernel
theorem dd_Re_insertNext_61 : decode cc_Re_insertNext 61 = .ok (.iload_n 2, 1) := by decide +kernel
theorem dd_Re_insertNext_62 : decode cc_Re_insertNext 62 = .ok (.istore_n 1, 1) := by decide +kernel
theorem dd_Re_insertNext_63 : decode cc_Re_insertNext 63 = .ok (.iinc 2 1, 3) := by decide +kernel
theorem dd_Re_insertNext_66 : decode cc_Re_insertNext 66 = .ok (.goto (-62), 3) := by decide +kernel
theorem dd_Re_insertNext_69 : decode cc_Re_insertNext 69 = .ok (.iload_n 1, 1) := by decide +kernel
theorem dd_Re_insertNext_70 : decode cc_Re_insertNext 70 = .ok (.iconst (-1), 1) := by decide +kernel
theorem dd_Re_insertNext_71 : decode cc_Re_insertNext 71 = .ok (.if_icmp .ne 5, 3) := by decide +kernel
theorem dd_Re_insertNext_74 : decode cc_Re_insertNext 74 = .ok (.iconst 0, 1) := by decide +kernel
theorem dd_Re_insertNext_75 : decode cc_Re_insertNext 75 = .ok (.ireturn, 1) := by decide +kernel
theorem dd_Re_insertNext_76 : decode cc_Re_insertNext 76 = .ok (.aload_n 0, 1) := by decide +kernel
theorem dd_Re_insertNext_77 : decode cc_Re_insertNext 77 = .ok (.getfield 45, 3) := by decide +kernel
theorem dd_Re_insertNext_80 : decode cc_Re_insertNext 80 = .ok (.aload_n 0, 1) := by decide +kernel
theorem dd_Re_insertNext_81 : decode cc_Re_insertNext 81 = .ok (.getfield 21, 3) := by decide +kernel
theorem dd_Re_insertNext_84 : decode cc_Re_insertNext 84 = .ok (.getfield 181, 3) := by decide +kernel
theorem dd_Re_insertNext_87 : decode cc_Re_insertNext 87 = .ok (.iload_n 1, 1) := by decide +kernel
theorem dd_Re_insertNext_88 : decode cc_Re_insertNext 88 = .ok (.iaload, 1) := by decide +kernel
theorem dd_Re_insertNext_89 : decode cc_Re_insertNext 89 = .ok (.invokevirtual 190, 3) := by decide +kernel
theorem dd_Re_insertNext_92 : decode cc_Re_insertNext 92 = .ok (.aload_n 0, 1) := by decide +kernel
theorem dd_Re_insertNext_93 : decode cc_Re_insertNext 93 = .ok (.getfield 21, 3) := by decide +kernel
theorem dd_Re_insertNext_96 : decode cc_Re_insertNext 96 = .ok (.iload_n 1, 1) := by decide +kernel
theorem dd_Re_insertNext_97 : decode cc_Re_insertNext 97 = .ok (.invokevirtual 193, 3) := by decide +kernel
theorem dd_Re_insertNext_100 : decode cc_Re_insertNext 100 = .ok (.iconst 1, 1) := by decide +kernel
theorem dd_Re_insertNext_101 : decode cc_Re_insertNext 101 = .ok (.ireturn, 1) := by decide +kernel
theorem dd_Le_leaderOf_0 : decode cc_Le_leaderOf 0 = .ok (.iload_n 0, 1) := by decide +kernel
theorem dd_Le_leaderOf_1 : decode cc_Le_leaderOf 1 = .ok (.iconst 2, 1) := by decide +kernel
theorem dd_Le_leaderOf_2 : decode cc_Le_leaderOf 2 = .ok (.idiv, 1) := by decide +kernel
theorem dd_Le_leaderOf_3 : decode cc_Le_leaderOf 3 = .ok (.iconst 4, 1) := by decide +kernel
theorem dd_Le_leaderOf_4 : decode cc_Le_leaderOf 4 = .ok (.irem, 1) := by decide +kernel
theorem dd_Le_leaderOf_5 : decode cc_Le_leaderOf 5 = .ok (.ireturn, 1) := by decide +kernel
theorem dd_Re_advance_0 : decode cc_Re_advance 0 = .ok (.aload_n 0, 1) := by decide +kernel
theorem dd_Re_advance_1 : decode cc_Re_advance 1 = .ok (.invokevirtual 196, 3) := by decide +kernel
theorem dd_Re_advance_4 : decode cc_Re_advance 4 = .ok (.ifCond .ne 5, 3) := by decide +kernel
theorem dd_Re_advance_7 : decode cc_Re_advance 7 = .ok (.iconst 0, 1) := by decide +kernel
theorem dd_Re_advance_8 : decode cc_Re_advance 8 = .ok (.ireturn, 1) := by decide +kernel
theorem dd_Re_advance_9 : decode cc_Re_advance 9 = .ok (.aload_n 0, 1) := by decide +kernel
theorem dd_Re_advance_10 : decode cc_Re_advance 10 = .ok (.invokevirtual 145, 3) := by decide +kernel
theorem dd_Re_advance_13 : decode cc_Re_advance 13 = .ok (.ifCond .eq 86, 3) := by decide +kernel
theorem dd_Re_advance_16 : decode cc_Re_advance 16 = .ok (.aload_n 0, 1) := by decide +kernel
theorem dd_Re_advance_17 : decode cc_Re_advance 17 = .ok (.getfield 45, 3) := by decide +kernel
theorem dd_Re_advance_20 : decode cc_Re_advance 20 = .ok (.aload_n 0, 1) := by decide +kernel
theorem dd_Re_advance_21 : decode cc_Re_advance 21 = .ok (.getfield 12, 3) := by decide +kernel
theorem dd_Re_advance_24 : decode cc_Re_advance 24 = .ok (.getfield 199, 3) := by decide +kernel
theorem dd_Re_advance_27 : decode cc_Re_advance 27 = .ok (.invokevirtual 202, 3) := by decide +kernel
theorem dd_Re_advance_30 : decode cc_Re_advance 30 = .ok (.istore_n 1, 1) := by decide +kernel
theorem dd_Re_advance_31 : decode cc_Re_advance 31 = .ok (.aload_n 0, 1) := by decide +kernel
theorem dd_Re_advance_32 : decode cc_Re_advance 32 = .ok (.getfield 12, 3) := by decide +kernel
theorem dd_Re_advance_35 : decode cc_Re_advance 35 = .ok (.invokevirtual 206, 3) := by decide +kernel
theorem dd_Re_advance_38 : decode cc_Re_advance 38 = .ok (.istore_n 2, 1) := by decide +kernel
theorem dd_Re_advance_39 : decode cc_Re_advance 39 = .ok (.aload_n 0, 1) := by decide +kernel
theorem dd_Re_advance_40 : decode cc_Re_advance 40 = .ok (.getfield 12, 3) := by decide +kernel
theorem dd_Re_advance_43 : decode cc_Re_advance 43 = .ok (.invokevirtual 206, 3) := by decide +kernel
theorem dd_Re_advance_46 : decode cc_Re_advance 46 = .ok (.istore_n 3, 1) := by decide +kernel
theorem dd_Re_advance_47 : decode cc_Re_advance 47 = .ok (.aload_n 0, 1) := by decide +kernel
theorem dd_Re_advance_48 : decode cc_Re_advance 48 = .ok (.getfield 12, 3) := by decide +kernel
theorem dd_Re_advance_51 : decode cc_Re_advance 51 = .ok (.dup, 1) := by decide +kernel
theorem dd_Re_advance_52 : decode cc_Re_advance 52 = .ok (.getfield 199, 3) := by decide +kernel
theorem dd_Re_advance_55 : decode cc_Re_advance 55 = .ok (.iconst 1, 1) := by decide +kernel
theorem dd_Re_advance_56 : decode cc_Re_advance 56 = .ok (.iadd, 1) := by decide +kernel
theorem dd_Re_advance_57 : decode cc_Re_advance 57 = .ok (.putfield 199, 3) := by decide +kernel
theorem dd_Re_advance_60 : decode cc_Re_advance 60 = .ok (.aload_n 0, 1) := by decide +kernel
theorem dd_Re_advance_61 : decode cc_Re_advance 61 = .ok (.getfield 32, 3) := by decide +kernel
theorem dd_Re_advance_64 : decode cc_Re_advance 64 = .ok (.iconst 0, 1) := by decide +kernel
theorem dd_Re_advance_65 : decode cc_Re_advance 65 = .ok (.aload_n 0, 1) := by decide +kernel
theorem dd_Re_advance_66 : decode cc_Re_advance 66 = .ok (.getfield 29, 3) := by decide +kernel
theorem dd_Re_advance_69 : decode cc_Re_advance 69 = .ok (.aload_n 0, 1) := by decide +kernel
theorem dd_Re_advance_70 : decode cc_Re_advance 70 = .ok (.getfield 36, 3) := by decide +kernel
theorem dd_Re_advance_73 : decode cc_Re_advance 73 = .ok (.aload_n 0, 1) := by decide +kernel
theorem dd_Re_advance_74 : decode cc_Re_advance 74 = .ok (.getfield 29, 3) := by decide +kernel
theorem dd_Re_advance_77 : decode cc_Re_advance 77 = .ok (.aload_n 0, 1) := by decide +kernel
theorem dd_Re_advance_78 : decode cc_Re_advance 78 = .ok (.getfield 12, 3) := by decide +kernel
theorem dd_Re_advance_81 : decode cc_Re_advance 81 = .ok (.getfield 199, 3) := by decide +kernel
theorem dd_Re_advance_84 : decode cc_Re_advance 84 = .ok (.iload_n 1, 1) := by decide +kernel
theorem dd_Re_advance_85 : decode cc_Re_advance 85 = .ok (.iload_n 2, 1) := by decide +kernel
theorem dd_Re_advance_86 : decode cc_Re_advance 86 = .ok (.iload_n 3, 1) := by decide +kernel
theorem dd_Re_advance_87 : decode cc_Re_advance 87 = .ok (.invokevirtual 210, 3) := by decide +kernel
theorem dd_Re_advance_90 : decode cc_Re_advance 90 = .ok (.invokevirtual 149, 3) := by decide +kernel
theorem dd_Re_advance_93 : decode cc_Re_advance 93 = .ok (.pop, 1) := by decide +kernel
theorem dd_Re_advance_94 : decode cc_Re_advance 94 = .ok (.aload_n 0, 1) := by decide +kernel
theorem dd_Re_advance_95 : decode cc_Re_advance 95 = .ok (.iconst 0, 1) := by decide +kernel
theorem dd_Re_advance_96 : decode cc_Re_advance 96 = .ok (.putfield 74, 3) := by decide +kernel
theorem dd_Re_advance_99 : decode cc_Re_advance 99 = .ok (.iconst 1, 1) := by decide +kernel
theorem dd_Re_advance_100 : decode cc_Re_advance 100 = .ok (.ireturn, 1) := by decide +kernel
theorem dd_Re_mayAdvance_0 : decode cc_Re_mayAdvance 0 = .ok (.aload_n 0, 1) := by decide +kernel
theorem dd_Re_mayAdvance_1 : decode cc_Re_mayAdvance 1 = .ok (.getfield 12, 3) := by decide +kernel
theorem dd_Re_mayAdvance_4 : decode cc_Re_mayAdvance 4 = .ok (.getfield 199, 3) := by decide +kernel
theorem dd_Re_mayAdvance_7 : decode cc_Re_mayAdvance 7 = .ok (.istore_n 1, 1) := by decide +kernel
theorem dd_Re_mayAdvance_8 : decode cc_Re_mayAdvance 8 = .ok (.aload_n 0, 1) := by decide +kernel
theorem dd_Re_mayAdvance_9 : decode cc_Re_mayAdvance 9 = .ok (.getfield 36, 3) := by decide +kernel
theorem dd_Re_mayAdvance_12 : decode cc_Re_mayAdvance 12 = .ok (.invokevirtual 214, 3) := by decide +kernel
theorem dd_Re_mayAdvance_15 : decode cc_Re_mayAdvance 15 = .ok (.ifCond .ne 9, 3) := by decide +kernel
theorem dd_Re_mayAdvance_18 : decode cc_Re_mayAdvance 18 = .ok (.iload_n 1, 1) := by decide +kernel
theorem dd_Re_mayAdvance_19 : decode cc_Re_mayAdvance 19 = .ok (.bipush 14, 2) := by decide +kernel
theorem dd_Re_mayAdvance_21 : decode cc_Re_mayAdvance 21 = .ok (.if_icmp .lt 5, 3) := by decide +kernel
theorem dd_Re_mayAdvance_24 : decode cc_Re_mayAdvance 24 = .ok (.iconst 0, 1) := by decide +kernel
theorem dd_Re_mayAdvance_25 : decode cc_Re_mayAdvance 25 = .ok (.ireturn, 1) := by decide +kernel
theorem dd_Re_mayAdvance_26 : decode cc_Re_mayAdvance 26 = .ok (.iload_n 1, 1) := by decide +kernel
theorem dd_Re_mayAdvance_27 : decode cc_Re_mayAdvance 27 = .ok (.ifCond .ne 16, 3) := by decide +kernel
theorem dd_Re_mayAdvance_30 : decode cc_Re_mayAdvance 30 = .ok (.aload_n 0, 1) := by decide +kernel
theorem dd_Re_mayAdvance_31 : decode cc_Re_mayAdvance 31 = .ok (.getfield 74, 3) := by decide +kernel
theorem dd_Re_mayAdvance_34 : decode cc_Re_mayAdvance 34 = .ok (.ifCond .eq 7, 3) := by decide +kernel
theorem dd_Re_mayAdvance_37 : decode cc_Re_mayAdvance 37 = .ok (.iconst 1, 1) := by decide +kernel
theorem dd_Re_mayAdvance_38 : decode cc_Re_mayAdvance 38 = .ok (.goto 4, 3) := by decide +kernel
theorem dd_Re_mayAdvance_41 : decode cc_Re_mayAdvance 41 = .ok (.iconst 0, 1) := by decide +kernel
theorem dd_Re_mayAdvance_42 : decode cc_Re_mayAdvance 42 = .ok (.ireturn, 1) := by decide +kernel
theorem dd_Re_mayAdvance_43 : decode cc_Re_mayAdvance 43 = .ok (.aload_n 0, 1) := by decide +kernel
theorem dd_Re_mayAdvance_44 : decode cc_Re_mayAdvance 44 = .ok (.getfield 45, 3) := by decide +kernel
theorem dd_Re_mayAdvance_47 : decode cc_Re_mayAdvance 47 = .ok (.aload_n 0, 1) := by decide +kernel
theorem dd_Re_mayAdvance_48 : decode cc_Re_mayAdvance 48 = .ok (.getfield 29, 3) := by decide +kernel
theorem dd_Re_mayAdvance_51 : decode cc_Re_mayAdvance 51 = .ok (.iload_n 1, 1) := by decide +kernel
theorem dd_Re_mayAdvance_52 : decode cc_Re_mayAdvance 52 = .ok (.invokevirtual 217, 3) := by decide +kernel
theorem dd_Re_mayAdvance_55 : decode cc_Re_mayAdvance 55 = .ok (.ifCond .eq 18, 3) := by decide +kernel
theorem dd_Re_mayAdvance_58 : decode cc_Re_mayAdvance 58 = .ok (.aload_n 0, 1) := by decide +kernel
theorem dd_Re_mayAdvance_59 : decode cc_Re_mayAdvance 59 = .ok (.getfield 45, 3) := by decide +kernel
theorem dd_Re_mayAdvance_62 : decode cc_Re_mayAdvance 62 = .ok (.iload_n 1, 1) := by decide +kernel
theorem dd_Re_mayAdvance_63 : decode cc_Re_mayAdvance 63 = .ok (.invokevirtual 202, 3) := by decide +kernel
theorem dd_Re_mayAdvance_66 : decode cc_Re_mayAdvance 66 = .ok (.invokestatic 220, 3) := by decide +kernel
theorem dd_Re_mayAdvance_69 : decode cc_Re_mayAdvance 69 = .ok (.iconst 3, 1) := by decide +kernel
theorem dd_Re_mayAdvance_70 : decode cc_Re_mayAdvance 70 = .ok (.if_icmp .ge 5, 3) := by decide +kernel
theorem dd_Re_mayAdvance_73 : decode cc_Re_mayAdvance 73 = .ok (.iconst 0, 1) := by decide +kernel
theorem dd_Re_mayAdvance_74 : decode cc_Re_mayAdvance 74 = .ok (.ireturn, 1) := by decide +kernel
theorem dd_Re_mayAdvance_75 : decode cc_Re_mayAdvance 75 = .ok (.iload_n 1, 1) := by decide +kernel
theorem dd_Re_mayAdvance_76 : decode cc_Re_mayAdvance 76 = .ok (.iconst 2, 1) := by decide +kernel
theorem dd_Re_mayAdvance_77 : decode cc_Re_mayAdvance 77 = .ok (.irem, 1) := by decide +kernel
theorem dd_Re_mayAdvance_78 : decode cc_Re_mayAdvance 78 = .ok (.iconst 1, 1) := by decide +kernel
theorem dd_Re_mayAdvance_79 : decode cc_Re_mayAdvance 79 = .ok (.if_icmp .eq 26, 3) := by decide +kernel
theorem dd_Re_mayAdvance_82 : decode cc_Re_mayAdvance 82 = .ok (.aload_n 0, 1) := by decide +kernel
theorem dd_Re_mayAdvance_83 : decode cc_Re_mayAdvance 83 = .ok (.getfield 45, 3) := by decide +kernel
theorem dd_Re_mayAdvance_86 : decode cc_Re_mayAdvance 86 = .ok (.iload_n 1, 1) := by decide +kernel
theorem dd_Re_mayAdvance_87 : decode cc_Re_mayAdvance 87 = .ok (.invokestatic 225, 3) := by decide +kernel
theorem dd_Re_mayAdvance_90 : decode cc_Re_mayAdvance 90 = .ok (.iload_n 1, 1) := by decide +kernel
theorem dd_Re_mayAdvance_91 : decode cc_Re_mayAdvance 91 = .ok (.invokevirtual 217, 3) := by decide +kernel
theorem dd_Re_mayAdvance_94 : decode cc_Re_mayAdvance 94 = .ok (.ifCond .ne 11, 3) := by decide +kernel
theorem dd_Re_mayAdvance_97 : decode cc_Re_mayAdvance 97 = .ok (.aload_n 0, 1) := by decide +kernel
theorem dd_Re_mayAdvance_98 : decode cc_Re_mayAdvance 98 = .ok (.getfield 74, 3) := by decide +kernel
theorem dd_Re_mayAdvance_101 : decode cc_Re_mayAdvance 101 = .ok (.iconst 3, 1) := by decide +kernel
theorem dd_Re_mayAdvance_102 : decode cc_Re_mayAdvance 102 = .ok (.if_icmp .lt 7, 3) := by decide +kernel
theorem dd_Re_mayAdvance_105 : decode cc_Re_mayAdvance 105 = .ok (.iconst 1, 1) := by decide +kernel
theorem dd_Re_mayAdvance_106 : decode cc_Re_mayAdvance 106 = .ok (.goto 4, 3) := by decide +kernel
theorem dd_Re_mayAdvance_109 : decode cc_Re_mayAdvance 109 = .ok (.iconst 0, 1) := by decide +kernel
theorem dd_Re_mayAdvance_110 : decode cc_Re_mayAdvance 110 = .ok (.ireturn, 1) := by decide +kernel
theorem dd_Le_pump_0 : decode cc_Le_pump 0 = .ok (.aload_n 0, 1) := by decide +kernel
theorem dd_Le_pump_1 : decode cc_Le_pump 1 = .ok (.iload_n 1, 1) := by decide +kernel
theorem dd_Le_pump_2 : decode cc_Le_pump 2 = .ok (.invokevirtual 43, 3) := by decide +kernel
theorem dd_Le_pump_5 : decode cc_Le_pump 5 = .ok (.astore_n 3, 1) := by decide +kernel
theorem dd_Le_pump_6 : decode cc_Le_pump 6 = .ok (.iload_n 2, 1) := by decide +kernel
theorem dd_Le_pump_7 : decode cc_Le_pump 7 = .ok (.iconst 1, 1) := by decide +kernel
theorem dd_Le_pump_8 : decode cc_Le_pump 8 = .ok (.if_icmp .lt 9, 3) := by decide +kernel
theorem dd_Le_pump_11 : decode cc_Le_pump 11 = .ok (.iload_n 2, 1) := by decide +kernel
theorem dd_Le_pump_12 : decode cc_Le_pump 12 = .ok (.bipush 50, 2) := by decide +kernel
theorem dd_Le_pump_14 : decode cc_Le_pump 14 = .ok (.if_icmp .le 5, 3) := by decide +kernel
theorem dd_Le_pump_17 : decode cc_Le_pump 17 = .ok (.iconst (-1), 1) := by decide +kernel
theorem dd_Le_pump_18 : decode cc_Le_pump 18 = .ok (.ireturn, 1) := by decide +kernel
theorem dd_Le_pump_19 : decode cc_Le_pump 19 = .ok (.iconst 0, 1) := by decide +kernel
theorem dd_Le_pump_20 : decode cc_Le_pump 20 = .ok (.istore 4, 2) := by decide +kernel
theorem dd_Le_pump_22 : decode cc_Le_pump 22 = .ok (.iload 4, 2) := by decide +kernel
theorem dd_Le_pump_24 : decode cc_Le_pump 24 = .ok (.iload_n 2, 1) := by decide +kernel
theorem dd_Le_pump_25 : decode cc_Le_pump 25 = .ok (.if_icmp .ge 60, 3) := by decide +kernel
theorem dd_Le_pump_28 : decode cc_Le_pump 28 = .ok (.aload_n 3, 1) := by decide +kernel
theorem dd_Le_pump_29 : decode cc_Le_pump 29 = .ok (.invokevirtual 78, 3) := by decide +kernel
theorem dd_Le_pump_32 : decode cc_Le_pump 32 = .ok (.ifCond .eq 53, 3) := by decide +kernel
theorem dd_Le_pump_35 : decode cc_Le_pump 35 = .ok (.aload_n 0, 1) := by decide +kernel
theorem dd_Le_pump_36 : decode cc_Le_pump 36 = .ok (.getfield 26, 3) := by decide +kernel
theorem dd_Le_pump_39 : decode cc_Le_pump 39 = .ok (.invokevirtual 81, 3) := by decide +kernel
theorem dd_Le_pump_42 : decode cc_Le_pump 42 = .ok (.ifCond .ne 43, 3) := by decide +kernel
theorem dd_Le_pump_45 : decode cc_Le_pump 45 = .ok (.aload_n 0, 1) := by decide +kernel
theorem dd_Le_pump_46 : decode cc_Le_pump 46 = .ok (.getfield 26, 3) := by decide +kernel
theorem dd_Le_pump_49 : decode cc_Le_pump 49 = .ok (.aload_n 3, 1) := by decide +kernel
theorem dd_Le_pump_50 : decode cc_Le_pump 50 = .ok (.getfield 85, 3) := by decide +kernel
theorem dd_Le_pump_53 : decode cc_Le_pump 53 = .ok (.invokevirtual 75, 3) := by decide +kernel
theorem dd_Le_pump_56 : decode cc_Le_pump 56 = .ok (.ifCond .eq 29, 3) := by decide +kernel
theorem dd_Le_pump_59 : decode cc_Le_pump 59 = .ok (.aload_n 3, 1) := by decide +kernel
theorem dd_Le_pump_60 : decode cc_Le_pump 60 = .ok (.dup, 1) := by decide +kernel
theorem dd_Le_pump_61 : decode cc_Le_pump 61 = .ok (.getfield 85, 3) := by decide +kernel
theorem dd_Le_pump_64 : decode cc_Le_pump 64 = .ok (.iconst 1, 1) := by decide +kernel
theorem dd_Le_pump_65 : decode cc_Le_pump 65 = .ok (.iadd, 1) := by decide +kernel
theorem dd_Le_pump_66 : decode cc_Le_pump 66 = .ok (.putfield 85, 3) := by decide +kernel
theorem dd_Le_pump_69 : decode cc_Le_pump 69 = .ok (.aload_n 3, 1) := by decide +kernel
theorem dd_Le_pump_70 : decode cc_Le_pump 70 = .ok (.aload_n 3, 1) := by decide +kernel
theorem dd_Le_pump_71 : decode cc_Le_pump 71 = .ok (.getfield 85, 3) := by decide +kernel
theorem dd_Le_pump_74 : decode cc_Le_pump 74 = .ok (.iconst 1, 1) := by decide +kernel
theorem dd_Le_pump_75 : decode cc_Le_pump 75 = .ok (.isub, 1) := by decide +kernel
theorem dd_Le_pump_76 : decode cc_Le_pump 76 = .ok (.invokevirtual 82, 3) := by decide +kernel
theorem dd_Le_pump_79 : decode cc_Le_pump 79 = .ok (.iinc 4 1, 3) := by decide +kernel
theorem dd_Le_pump_82 : decode cc_Le_pump 82 = .ok (.goto (-60), 3) := by decide +kernel
theorem dd_Le_pump_85 : decode cc_Le_pump 85 = .ok (.iload 4, 2) := by decide +kernel
theorem dd_Le_pump_87 : decode cc_Le_pump 87 = .ok (.ireturn, 1) := by decide +kernel
theorem dd_Le_tick_0 : decode cc_Le_tick 0 = .ok (.aload_n 0, 1) := by decide +kernel
theorem dd_Le_tick_1 : decode cc_Le_tick 1 = .ok (.iload_n 1, 1) := by decide +kernel
theorem dd_Le_tick_2 : decode cc_Le_tick 2 = .ok (.invokevirtual 72, 3) := by decide +kernel
theorem dd_Le_tick_5 : decode cc_Le_tick 5 = .ok (.astore_n 2, 1) := by decide +kernel
theorem dd_Le_tick_6 : decode cc_Le_tick 6 = .ok (.aload_n 2, 1) := by decide +kernel
theorem dd_Le_tick_7 : decode cc_Le_tick 7 = .ok (.invokevirtual 78, 3) := by decide +kernel
theorem dd_Le_tick_10 : decode cc_Le_tick 10 = .ok (.ifCond .eq 13, 3) := by decide +kernel
theorem dd_Le_tick_13 : decode cc_Le_tick 13 = .ok (.aload_n 0, 1) := by decide +kernel
theorem dd_Le_tick_14 : decode cc_Le_tick 14 = .ok (.getfield 26, 3) := by decide +kernel
theorem dd_Le_tick_17 : decode cc_Le_tick 17 = .ok (.invokevirtual 81, 3) := by decide +kernel
theorem dd_Le_tick_20 : decode cc_Le_tick 20 = .ok (.ifCond .eq 5, 3) := by decide +kernel
theorem dd_Le_tick_23 : decode cc_Le_tick 23 = .ok (.iconst 0, 1) := by decide +kernel
theorem dd_Le_tick_24 : decode cc_Le_tick 24 = .ok (.ireturn, 1) := by decide +kernel
theorem dd_Le_tick_25 : decode cc_Le_tick 25 = .ok (.aload_n 2, 1) := by decide +kernel
theorem dd_Le_tick_26 : decode cc_Le_tick 26 = .ok (.invokevirtual 88, 3) := by decide +kernel
theorem dd_Le_tick_29 : decode cc_Le_tick 29 = .ok (.iconst 1, 1) := by decide +kernel
theorem dd_Le_tick_30 : decode cc_Le_tick 30 = .ok (.ireturn, 1) := by decide +kernel
theorem dd_Re_passTime_0 : decode cc_Re_passTime 0 = .ok (.aload_n 0, 1) := by decide +kernel
theorem dd_Re_passTime_1 : decode cc_Re_passTime 1 = .ok (.aload_n 0, 1) := by decide +kernel
theorem dd_Re_passTime_2 : decode cc_Re_passTime 2 = .ok (.getfield 74, 3) := by decide +kernel
theorem dd_Re_passTime_5 : decode cc_Re_passTime 5 = .ok (.iconst 1, 1) := by decide +kernel
theorem dd_Re_passTime_6 : decode cc_Re_passTime 6 = .ok (.iadd, 1) := by decide +kernel
theorem dd_Re_passTime_7 : decode cc_Re_passTime 7 = .ok (.iconst 3, 1) := by decide +kernel
theorem dd_Re_passTime_8 : decode cc_Re_passTime 8 = .ok (.invokestatic 95, 3) := by decide +kernel
theorem dd_Re_passTime_11 : decode cc_Re_passTime 11 = .ok (.putfield 74, 3) := by decide +kernel
theorem dd_Re_passTime_14 : decode cc_Re_passTime 14 = .ok (.aload_n 0, 1) := by decide +kernel
theorem dd_Re_passTime_15 : decode cc_Re_passTime 15 = .ok (.invokevirtual 101, 3) := by decide +kernel
theorem dd_Re_passTime_18 : decode cc_Re_passTime 18 = .ok (.return_, 1) := by decide +kernel
theorem dd_Le_crash_0 : decode cc_Le_crash 0 = .ok (.aload_n 0, 1) := by decide +kernel
theorem dd_Le_crash_1 : decode cc_Le_crash 1 = .ok (.iload_n 1, 1) := by decide +kernel
theorem dd_Le_crash_2 : decode cc_Le_crash 2 = .ok (.invokevirtual 72, 3) := by decide +kernel
theorem dd_Le_crash_5 : decode cc_Le_crash 5 = .ok (.astore_n 2, 1) := by decide +kernel
theorem dd_Le_crash_6 : decode cc_Le_crash 6 = .ok (.aload_n 2, 1) := by decide +kernel
theorem dd_Le_crash_7 : decode cc_Le_crash 7 = .ok (.invokevirtual 78, 3) := by decide +kernel
theorem dd_Le_crash_10 : decode cc_Le_crash 10 = .ok (.ifCond .ne 5, 3) := by decide +kernel
theorem dd_Le_crash_13 : decode cc_Le_crash 13 = .ok (.iconst 0, 1) := by decide +kernel
theorem dd_Le_crash_14 : decode cc_Le_crash 14 = .ok (.ireturn, 1) := by decide +kernel
theorem dd_Le_crash_15 : decode cc_Le_crash 15 = .ok (.aload_n 2, 1) := by decide +kernel
theorem dd_Le_crash_16 : decode cc_Le_crash 16 = .ok (.invokevirtual 91, 3) := by decide +kernel
theorem dd_Le_crash_19 : decode cc_Le_crash 19 = .ok (.iconst 1, 1) := by decide +kernel
theorem dd_Le_crash_20 : decode cc_Le_crash 20 = .ok (.ireturn, 1) := by decide +kernel
theorem dd_Le_restart_0 : decode cc_Le_restart 0 = .ok (.aload_n 0, 1) := by decide +kernel
theorem dd_Le_restart_1 : decode cc_Le_restart 1 = .ok (.iload_n 1, 1) := by decide +kernel
theorem dd_Le_restart_2 : decode cc_Le_restart 2 = .ok (.invokevirtual 72, 3) := by decide +kernel
theorem dd_Le_restart_5 : decode cc_Le_restart 5 = .ok (.astore_n 2, 1) := by decide +kernel
theorem dd_Le_restart_6 : decode cc_Le_restart 6 = .ok (.aload_n 2, 1) := by decide +kernel
theorem dd_Le_restart_7 : decode cc_Le_restart 7 = .ok (.getfield 94, 3) := by decide +kernel
theorem dd_Le_restart_10 : decode cc_Le_restart 10 = .ok (.ifCond .eq 5, 3) := by decide +kernel
theorem dd_Le_restart_13 : decode cc_Le_restart 13 = .ok (.iconst 0, 1) := by decide +kernel
theorem dd_Le_restart_14 : decode cc_Le_restart 14 = .ok (.ireturn, 1) := by decide +kernel
theorem dd_Le_restart_15 : decode cc_Le_restart 15 = .ok (.aload_n 2, 1) := by decide +kernel
theorem dd_Le_restart_16 : decode cc_Le_restart 16 = .ok (.invokevirtual 97, 3) := by decide +kernel
theorem dd_Le_restart_19 : decode cc_Le_restart 19 = .ok (.aload_n 0, 1) := by decide +kernel
theorem dd_Le_restart_20 : decode cc_Le_restart 20 = .ok (.getfield 26, 3) := by decide +kernel
theorem dd_Le_restart_23 : decode cc_Le_restart 23 = .ok (.invokevirtual 81, 3) := by decide +kernel
theorem dd_Le_restart_26 : decode cc_Le_restart 26 = .ok (.ifCond .ne 7, 3) := by decide +kernel
theorem dd_Le_restart_29 : decode cc_Le_restart 29 = .ok (.aload_n 2, 1) := by decide +kernel
theorem dd_Le_restart_30 : decode cc_Le_restart 30 = .ok (.invokevirtual 100, 3) := by decide +kernel
theorem dd_Le_restart_33 : decode cc_Le_restart 33 = .ok (.iconst 1, 1) := by decide +kernel
theorem dd_Le_restart_34 : decode cc_Le_restart 34 = .ok (.ireturn, 1) := by decide +kernel
theorem dd_Re_comeUp_0 : decode cc_Re_comeUp 0 = .ok (.aload_n 0, 1) := by decide +kernel
theorem dd_Re_comeUp_1 : decode cc_Re_comeUp 1 = .ok (.iconst 1, 1) := by decide +kernel
theorem dd_Re_comeUp_2 : decode cc_Re_comeUp 2 = .ok (.putfield 25, 3) := by decide +kernel
theorem dd_Re_comeUp_5 : decode cc_Re_comeUp 5 = .ok (.aload_n 0, 1) := by decide +kernel
theorem dd_Re_comeUp_6 : decode cc_Re_comeUp 6 = .ok (.getfield 54, 3) := by decide +kernel
theorem dd_Re_comeUp_9 : decode cc_Re_comeUp 9 = .ok (.invokevirtual 83, 3) := by decide +kernel
theorem dd_Re_comeUp_12 : decode cc_Re_comeUp 12 = .ok (.return_, 1) := by decide +kernel
theorem dd_Le_cut_0 : decode cc_Le_cut 0 = .ok (.aload_n 0, 1) := by decide +kernel
theorem dd_Le_cut_1 : decode cc_Le_cut 1 = .ok (.iload_n 1, 1) := by decide +kernel
theorem dd_Le_cut_2 : decode cc_Le_cut 2 = .ok (.invokevirtual 72, 3) := by decide +kernel
theorem dd_Le_cut_5 : decode cc_Le_cut 5 = .ok (.astore_n 3, 1) := by decide +kernel
theorem dd_Le_cut_6 : decode cc_Le_cut 6 = .ok (.iload_n 2, 1) := by decide +kernel
theorem dd_Le_cut_7 : decode cc_Le_cut 7 = .ok (.ifCond .lt 10, 3) := by decide +kernel
theorem dd_Le_cut_10 : decode cc_Le_cut 10 = .ok (.aload_n 3, 1) := by decide +kernel
theorem dd_Le_cut_11 : decode cc_Le_cut 11 = .ok (.invokevirtual 78, 3) := by decide +kernel
theorem dd_Le_cut_14 : decode cc_Le_cut 14 = .ok (.ifCond .ne 5, 3) := by decide +kernel
theorem dd_Le_cut_17 : decode cc_Le_cut 17 = .ok (.iconst 0, 1) := by decide +kernel
theorem dd_Le_cut_18 : decode cc_Le_cut 18 = .ok (.ireturn, 1) := by decide +kernel
theorem dd_Le_cut_19 : decode cc_Le_cut 19 = .ok (.aload_n 3, 1) := by decide +kernel
theorem dd_Le_cut_20 : decode cc_Le_cut 20 = .ok (.iload_n 2, 1) := by decide +kernel
theorem dd_Le_cut_21 : decode cc_Le_cut 21 = .ok (.invokevirtual 103, 3) := by decide +kernel
theorem dd_Le_cut_24 : decode cc_Le_cut 24 = .ok (.iconst 1, 1) := by decide +kernel
theorem dd_Le_cut_25 : decode cc_Le_cut 25 = .ok (.ireturn, 1) := by decide +kernel
theorem dd_Re_setCut_0 : decode cc_Re_setCut 0 = .ok (.aload_n 0, 1) := by decide +kernel
theorem dd_Re_setCut_1 : decode cc_Re_setCut 1 = .ok (.iconst 1, 1) := by decide +kernel
theorem dd_Re_setCut_2 : decode cc_Re_setCut 2 = .ok (.putfield 67, 3) := by decide +kernel
theorem dd_Re_setCut_5 : decode cc_Re_setCut 5 = .ok (.aload_n 0, 1) := by decide +kernel
theorem dd_Re_setCut_6 : decode cc_Re_setCut 6 = .ok (.iload_n 1, 1) := by decide +kernel
theorem dd_Re_setCut_7 : decode cc_Re_setCut 7 = .ok (.putfield 86, 3) := by decide +kernel
theorem dd_Re_setCut_10 : decode cc_Re_setCut 10 = .ok (.return_, 1) := by decide +kernel
theorem dd_Le_corrupt_0 : decode cc_Le_corrupt 0 = .ok (.aload_n 0, 1) := by decide +kernel
theorem dd_Le_corrupt_1 : decode cc_Le_corrupt 1 = .ok (.iload_n 1, 1) := by decide +kernel
theorem dd_Le_corrupt_2 : decode cc_Le_corrupt 2 = .ok (.invokevirtual 72, 3) := by decide +kernel
theorem dd_Le_corrupt_5 : decode cc_Le_corrupt 5 = .ok (.astore_n 2, 1) := by decide +kernel
theorem dd_Le_corrupt_6 : decode cc_Le_corrupt 6 = .ok (.aload_n 0, 1) := by decide +kernel
theorem dd_Le_corrupt_7 : decode cc_Le_corrupt 7 = .ok (.getfield 39, 3) := by decide +kernel
theorem dd_Le_corrupt_10 : decode cc_Le_corrupt 10 = .ok (.iconst (-1), 1) := by decide +kernel
theorem dd_Le_corrupt_11 : decode cc_Le_corrupt 11 = .ok (.if_icmp .eq 5, 3) := by decide +kernel
theorem dd_Le_corrupt_14 : decode cc_Le_corrupt 14 = .ok (.iconst 0, 1) := by decide +kernel
theorem dd_Le_corrupt_15 : decode cc_Le_corrupt 15 = .ok (.ireturn, 1) := by decide +kernel
theorem dd_Le_corrupt_16 : decode cc_Le_corrupt 16 = .ok (.aload_n 2, 1) := by decide +kernel
theorem dd_Le_corrupt_17 : decode cc_Le_corrupt 17 = .ok (.iconst 2, 1) := by decide +kernel
theorem dd_Le_corrupt_18 : decode cc_Le_corrupt 18 = .ok (.putfield 94, 3) := by decide +kernel
theorem dd_Le_corrupt_21 : decode cc_Le_corrupt 21 = .ok (.aload_n 0, 1) := by decide +kernel
theorem dd_Le_corrupt_22 : decode cc_Le_corrupt 22 = .ok (.iload_n 1, 1) := by decide +kernel
theorem dd_Le_corrupt_23 : decode cc_Le_corrupt 23 = .ok (.putfield 39, 3) := by decide +kernel
theorem dd_Le_corrupt_26 : decode cc_Le_corrupt 26 = .ok (.iconst 1, 1) := by decide +kernel
theorem dd_Le_corrupt_27 : decode cc_Le_corrupt 27 = .ok (.ireturn, 1) := by decide +kernel
theorem dd_Le_node_0 : decode cc_Le_node 0 = .ok (.aload_n 0, 1) := by decide +kernel
theorem dd_Le_node_1 : decode cc_Le_node 1 = .ok (.iload_n 1, 1) := by decide +kernel
theorem dd_Le_node_2 : decode cc_Le_node 2 = .ok (.invokevirtual 72, 3) := by decide +kernel
theorem dd_Le_node_5 : decode cc_Le_node 5 = .ok (.astore_n 3, 1) := by decide +kernel
theorem dd_Le_node_6 : decode cc_Le_node 6 = .ok (.iload_n 2, 1) := by decide +kernel
theorem dd_Le_node_7 : decode cc_Le_node 7 = .ok (.tableswitch 112 0 8 #[49, 54, 62, 67, 72, 80, 88, 96, 104], 49) := by decide +kernel
theorem dd_Le_node_56 : decode cc_Le_node 56 = .ok (.aload_n 3, 1) := by decide +kernel
theorem dd_Le_node_57 : decode cc_Le_node 57 = .ok (.getfield 94, 3) := by decide +kernel
theorem dd_Le_node_60 : decode cc_Le_node 60 = .ok (.ireturn, 1) := by decide +kernel
theorem dd_Le_node_61 : decode cc_Le_node 61 = .ok (.aload_n 3, 1) := by decide +kernel
theorem dd_Le_node_62 : decode cc_Le_node 62 = .ok (.getfield 62, 3) := by decide +kernel
theorem dd_Le_node_65 : decode cc_Le_node 65 = .ok (.getfield 142, 3) := by decide +kernel
theorem dd_Le_node_68 : decode cc_Le_node 68 = .ok (.ireturn, 1) := by decide +kernel
theorem dd_Le_node_69 : decode cc_Le_node 69 = .ok (.aload_n 3, 1) := by decide +kernel
theorem dd_Le_node_70 : decode cc_Le_node 70 = .ok (.getfield 145, 3) := by decide +kernel
theorem dd_Le_node_73 : decode cc_Le_node 73 = .ok (.ireturn, 1) := by decide +kernel
theorem dd_Le_node_74 : decode cc_Le_node 74 = .ok (.aload_n 3, 1) := by decide +kernel
theorem dd_Le_node_75 : decode cc_Le_node 75 = .ok (.getfield 85, 3) := by decide +kernel
theorem dd_Le_node_78 : decode cc_Le_node 78 = .ok (.ireturn, 1) := by decide +kernel
theorem dd_Le_node_79 : decode cc_Le_node 79 = .ok (.aload_n 3, 1) := by decide +kernel
theorem dd_Le_node_80 : decode cc_Le_node 80 = .ok (.getfield 148, 3) := by decide +kernel
theorem dd_Le_node_83 : decode cc_Le_node 83 = .ok (.getfield 152, 3) := by decide +kernel
theorem dd_Le_node_86 : decode cc_Le_node 86 = .ok (.ireturn, 1) := by decide +kernel
theorem dd_Le_node_87 : decode cc_Le_node 87 = .ok (.aload_n 3, 1) := by decide +kernel
theorem dd_Le_node_88 : decode cc_Le_node 88 = .ok (.getfield 157, 3) := by decide +kernel
theorem dd_Le_node_91 : decode cc_Le_node 91 = .ok (.getfield 161, 3) := by decide +kernel
theorem dd_Le_node_94 : decode cc_Le_node 94 = .ok (.ireturn, 1) := by decide +kernel
theorem dd_Le_node_95 : decode cc_Le_node 95 = .ok (.aload_n 3, 1) := by decide +kernel
theorem dd_Le_node_96 : decode cc_Le_node 96 = .ok (.getfield 166, 3) := by decide +kernel
theorem dd_Le_node_99 : decode cc_Le_node 99 = .ok (.getfield 170, 3) := by decide +kernel
theorem dd_Le_node_102 : decode cc_Le_node 102 = .ok (.ireturn, 1) := by decide +kernel
theorem dd_Le_node_103 : decode cc_Le_node 103 = .ok (.aload_n 3, 1) := by decide +kernel
theorem dd_Le_node_104 : decode cc_Le_node 104 = .ok (.getfield 62, 3) := by decide +kernel
theorem dd_Le_node_107 : decode cc_Le_node 107 = .ok (.invokevirtual 173, 3) := by decide +kernel
theorem dd_Le_node_110 : decode cc_Le_node 110 = .ok (.ireturn, 1) := by decide +kernel
theorem dd_Le_node_111 : decode cc_Le_node 111 = .ok (.aload_n 3, 1) := by decide +kernel
theorem dd_Le_node_112 : decode cc_Le_node 112 = .ok (.getfield 62, 3) := by decide +kernel
theorem dd_Le_node_115 : decode cc_Le_node 115 = .ok (.getfield 177, 3) := by decide +kernel
theorem dd_Le_node_118 : decode cc_Le_node 118 = .ok (.ireturn, 1) := by decide +kernel
theorem dd_Le_node_119 : decode cc_Le_node 119 = .ok (.iconst (-1), 1) := by decide +kernel
theorem dd_Le_node_120 : decode cc_Le_node 120 = .ok (.ireturn, 1) := by decide +kernel
theorem dd_Le_dag_0 : decode cc_Le_dag 0 = .ok (.aload_n 0, 1) := by decide +kernel
theorem dd_Le_dag_1 : decode cc_Le_dag 1 = .ok (.iload_n 1, 1) := by decide +kernel
theorem dd_Le_dag_2 : decode cc_Le_dag 2 = .ok (.invokevirtual 72, 3) := by decide +kernel
theorem dd_Le_dag_5 : decode cc_Le_dag 5 = .ok (.astore 4, 2) := by decide +kernel
theorem dd_Le_dag_7 : decode cc_Le_dag 7 = .ok (.iload_n 2, 1) := by decide +kernel
theorem dd_Le_dag_8 : decode cc_Le_dag 8 = .ok (.ifCond .lt 19, 3) := by decide +kernel
theorem dd_Le_dag_11 : decode cc_Le_dag 11 = .ok (.iload_n 2, 1) := by decide +kernel
theorem dd_Le_dag_12 : decode cc_Le_dag 12 = .ok (.iconst 4, 1) := by decide +kernel
theorem dd_Le_dag_13 : decode cc_Le_dag 13 = .ok (.if_icmp .ge 14, 3) := by decide +kernel
theorem dd_Le_dag_16 : decode cc_Le_dag 16 = .ok (.iload_n 3, 1) := by decide +kernel
theorem dd_Le_dag_17 : decode cc_Le_dag 17 = .ok (.iconst 1, 1) := by decide +kernel
theorem dd_Le_dag_18 : decode cc_Le_dag 18 = .ok (.if_icmp .lt 9, 3) := by decide +kernel
theorem dd_Le_dag_21 : decode cc_Le_dag 21 = .ok (.iload_n 3, 1) := by decide +kernel
theorem dd_Le_dag_22 : decode cc_Le_dag 22 = .ok (.bipush 14, 2) := by decide +kernel
theorem dd_Le_dag_24 : decode cc_Le_dag 24 = .ok (.if_icmp .le 5, 3) := by decide +kernel
theorem dd_Le_dag_27 : decode cc_Le_dag 27 = .ok (.iconst (-1), 1) := by decide +kernel
theorem dd_Le_dag_28 : decode cc_Le_dag 28 = .ok (.ireturn, 1) := by decide +kernel
theorem dd_Le_dag_29 : decode cc_Le_dag 29 = .ok (.aload 4, 2) := by decide +kernel
theorem dd_Le_dag_31 : decode cc_Le_dag 31 = .ok (.getfield 157, 3) := by decide +kernel
theorem dd_Le_dag_34 : decode cc_Le_dag 34 = .ok (.iload_n 2, 1) := by decide +kernel
theorem dd_Le_dag_35 : decode cc_Le_dag 35 = .ok (.iload_n 3, 1) := by decide +kernel
theorem dd_Le_dag_36 : decode cc_Le_dag 36 = .ok (.invokevirtual 180, 3) := by decide +kernel
theorem dd_Le_dag_39 : decode cc_Le_dag 39 = .ok (.ireturn, 1) := by decide +kernel
theorem dd_Le_at_0 : decode cc_Le_at 0 = .ok (.aload_n 0, 1) := by decide +kernel
theorem dd_Le_at_1 : decode cc_Le_at 1 = .ok (.iload_n 1, 1) := by decide +kernel
theorem dd_Le_at_2 : decode cc_Le_at 2 = .ok (.invokevirtual 72, 3) := by decide +kernel
theorem dd_Le_at_5 : decode cc_Le_at 5 = .ok (.astore_n 3, 1) := by decide +kernel
theorem dd_Le_at_6 : decode cc_Le_at 6 = .ok (.iload_n 2, 1) := by decide +kernel
theorem dd_Le_at_7 : decode cc_Le_at 7 = .ok (.ifCond .lt 14, 3) := by decide +kernel
theorem dd_Le_at_10 : decode cc_Le_at 10 = .ok (.iload_n 2, 1) := by decide +kernel
theorem dd_Le_at_11 : decode cc_Le_at 11 = .ok (.aload_n 3, 1) := by decide +kernel
theorem dd_Le_at_12 : decode cc_Le_at 12 = .ok (.getfield 166, 3) := by decide +kernel
theorem dd_Le_at_15 : decode cc_Le_at 15 = .ok (.getfield 170, 3) := by decide +kernel
theorem dd_Le_at_18 : decode cc_Le_at 18 = .ok (.if_icmp .lt 5, 3) := by decide +kernel
theorem dd_Le_at_21 : decode cc_Le_at 21 = .ok (.iconst (-1), 1) := by decide +kernel
theorem dd_Le_at_22 : decode cc_Le_at 22 = .ok (.ireturn, 1) := by decide +kernel
theorem dd_Le_at_23 : decode cc_Le_at 23 = .ok (.aload_n 3, 1) := by decide +kernel
theorem dd_Le_at_24 : decode cc_Le_at 24 = .ok (.getfield 166, 3) := by decide +kernel
theorem dd_Le_at_27 : decode cc_Le_at 27 = .ok (.getfield 184, 3) := by decide +kernel
theorem dd_Le_at_30 : decode cc_Le_at 30 = .ok (.iload_n 2, 1) := by decide +kernel
theorem dd_Le_at_31 : decode cc_Le_at 31 = .ok (.iaload, 1) := by decide +kernel
theorem dd_Le_at_32 : decode cc_Le_at 32 = .ok (.ireturn, 1) := by decide +kernel
theorem dd_Le_balance_0 : decode cc_Le_balance 0 = .ok (.aload_n 0, 1) := by decide +kernel
theorem dd_Le_balance_1 : decode cc_Le_balance 1 = .ok (.iload_n 1, 1) := by decide +kernel
theorem dd_Le_balance_2 : decode cc_Le_balance 2 = .ok (.invokevirtual 72, 3) := by decide +kernel
theorem dd_Le_balance_5 : decode cc_Le_balance 5 = .ok (.astore_n 3, 1) := by decide +kernel
theorem dd_Le_balance_6 : decode cc_Le_balance 6 = .ok (.iload_n 2, 1) := by decide +kernel
theorem dd_Le_balance_7 : decode cc_Le_balance 7 = .ok (.invokestatic 51, 3) := by decide +kernel
theorem dd_Le_balance_10 : decode cc_Le_balance 10 = .ok (.ifCond .ne 5, 3) := by decide +kernel
theorem dd_Le_balance_13 : decode cc_Le_balance 13 = .ok (.iconst (-1), 1) := by decide +kernel
theorem dd_Le_balance_14 : decode cc_Le_balance 14 = .ok (.ireturn, 1) := by decide +kernel
theorem dd_Le_balance_15 : decode cc_Le_balance 15 = .ok (.aload_n 3, 1) := by decide +kernel
theorem dd_Le_balance_16 : decode cc_Le_balance 16 = .ok (.getfield 166, 3) := by decide +kernel
theorem dd_Le_balance_19 : decode cc_Le_balance 19 = .ok (.getfield 187, 3) := by decide +kernel
theorem dd_Le_balance_22 : decode cc_Le_balance 22 = .ok (.iload_n 2, 1) := by decide +kernel
theorem dd_Le_balance_23 : decode cc_Le_balance 23 = .ok (.iaload, 1) := by decide +kernel
theorem dd_Le_balance_24 : decode cc_Le_balance 24 = .ok (.ireturn, 1) := by decide +kernel
