theorem dX0_init_0 : decode cX0_init 0 = .ok (.aload_n 0, 1) := by decide +kernel
theorem dX0_init_1 : decode cX0_init 1 = .ok (.invokespecial 5, 3) := by decide +kernel
theorem dX0_init_4 : decode cX0_init 4 = .ok (.aload_n 0, 1) := by decide +kernel
theorem dX0_init_5 : decode cX0_init 5 = .ok (.bipush 12, 2) := by decide +kernel
theorem dX0_init_7 : decode cX0_init 7 = .ok (.bipush 8, 2) := by decide +kernel
theorem dX0_init_9 : decode cX0_init 9 = .ok (.multianewarray 11 2, 4) := by decide +kernel
theorem dX0_init_13 : decode cX0_init 13 = .ok (.putfield 13, 3) := by decide +kernel
theorem dX0_init_16 : decode cX0_init 16 = .ok (.aload_n 0, 1) := by decide +kernel
theorem dX0_init_17 : decode cX0_init 17 = .ok (.aload_n 1, 1) := by decide +kernel
theorem dX0_init_18 : decode cX0_init 18 = .ok (.putfield 16, 3) := by decide +kernel
theorem dX0_init_21 : decode cX0_init 21 = .ok (.return_, 1) := by decide +kernel
theorem dX0_changeCode_0 : decode cX0_changeCode 0 = .ok (.aload_n 0, 1) := by decide +kernel
theorem dX0_changeCode_1 : decode cX0_changeCode 1 = .ok (.iconst 0, 1) := by decide +kernel
theorem dX0_changeCode_2 : decode cX0_changeCode 2 = .ok (.iload_n 1, 1) := by decide +kernel
theorem dX0_changeCode_3 : decode cX0_changeCode 3 = .ok (.invokevirtual 20, 3) := by decide +kernel
theorem dX0_changeCode_6 : decode cX0_changeCode 6 = .ok (.astore_n 3, 1) := by decide +kernel
theorem dX0_changeCode_7 : decode cX0_changeCode 7 = .ok (.aload_n 3, 1) := by decide +kernel
theorem dX0_changeCode_8 : decode cX0_changeCode 8 = .ok (.iconst 2, 1) := by decide +kernel
theorem dX0_changeCode_9 : decode cX0_changeCode 9 = .ok (.aload_n 0, 1) := by decide +kernel
theorem dX0_changeCode_10 : decode cX0_changeCode 10 = .ok (.getfield 16, 3) := by decide +kernel
theorem dX0_changeCode_13 : decode cX0_changeCode 13 = .ok (.getfield 24, 3) := by decide +kernel
theorem dX0_changeCode_16 : decode cX0_changeCode 16 = .ok (.iload_n 1, 1) := by decide +kernel
theorem dX0_changeCode_17 : decode cX0_changeCode 17 = .ok (.invokestatic 28, 3) := by decide +kernel
theorem dX0_changeCode_20 : decode cX0_changeCode 20 = .ok (.iastore, 1) := by decide +kernel
theorem dX0_changeCode_21 : decode cX0_changeCode 21 = .ok (.aload_n 0, 1) := by decide +kernel
theorem dX0_changeCode_22 : decode cX0_changeCode 22 = .ok (.getfield 16, 3) := by decide +kernel
theorem dX0_changeCode_25 : decode cX0_changeCode 25 = .ok (.getfield 24, 3) := by decide +kernel
theorem dX0_changeCode_28 : decode cX0_changeCode 28 = .ok (.iload_n 1, 1) := by decide +kernel
theorem dX0_changeCode_29 : decode cX0_changeCode 29 = .ok (.iload_n 2, 1) := by decide +kernel
theorem dX0_changeCode_30 : decode cX0_changeCode 30 = .ok (.invokestatic 34, 3) := by decide +kernel
theorem dX0_changeCode_33 : decode cX0_changeCode 33 = .ok (.return_, 1) := by decide +kernel
theorem dX0_strikeOut_0 : decode cX0_strikeOut 0 = .ok (.aload_n 0, 1) := by decide +kernel
theorem dX0_strikeOut_1 : decode cX0_strikeOut 1 = .ok (.iconst 1, 1) := by decide +kernel
theorem dX0_strikeOut_2 : decode cX0_strikeOut 2 = .ok (.iload_n 1, 1) := by decide +kernel
theorem dX0_strikeOut_3 : decode cX0_strikeOut 3 = .ok (.invokevirtual 20, 3) := by decide +kernel
theorem dX0_strikeOut_6 : decode cX0_strikeOut 6 = .ok (.astore_n 2, 1) := by decide +kernel
theorem dX0_strikeOut_7 : decode cX0_strikeOut 7 = .ok (.iconst 0, 1) := by decide +kernel
theorem dX0_strikeOut_8 : decode cX0_strikeOut 8 = .ok (.istore_n 3, 1) := by decide +kernel
theorem dX0_strikeOut_9 : decode cX0_strikeOut 9 = .ok (.iload_n 3, 1) := by decide +kernel
theorem dX0_strikeOut_10 : decode cX0_strikeOut 10 = .ok (.bipush 6, 2) := by decide +kernel
theorem dX0_strikeOut_12 : decode cX0_strikeOut 12 = .ok (.if_icmp .ge 23, 3) := by decide +kernel
theorem dX0_strikeOut_15 : decode cX0_strikeOut 15 = .ok (.aload_n 2, 1) := by decide +kernel
theorem dX0_strikeOut_16 : decode cX0_strikeOut 16 = .ok (.iconst 2, 1) := by decide +kernel
theorem dX0_strikeOut_17 : decode cX0_strikeOut 17 = .ok (.iload_n 3, 1) := by decide +kernel
theorem dX0_strikeOut_18 : decode cX0_strikeOut 18 = .ok (.iadd, 1) := by decide +kernel
theorem dX0_strikeOut_19 : decode cX0_strikeOut 19 = .ok (.aload_n 0, 1) := by decide +kernel
theorem dX0_strikeOut_20 : decode cX0_strikeOut 20 = .ok (.getfield 16, 3) := by decide +kernel
theorem dX0_strikeOut_23 : decode cX0_strikeOut 23 = .ok (.iload_n 1, 1) := by decide +kernel
theorem dX0_strikeOut_24 : decode cX0_strikeOut 24 = .ok (.iload_n 3, 1) := by decide +kernel
theorem dX0_strikeOut_25 : decode cX0_strikeOut 25 = .ok (.invokevirtual 38, 3) := by decide +kernel
theorem dX0_strikeOut_28 : decode cX0_strikeOut 28 = .ok (.iastore, 1) := by decide +kernel
theorem dX0_strikeOut_29 : decode cX0_strikeOut 29 = .ok (.iinc 3 1, 3) := by decide +kernel
theorem dX0_strikeOut_32 : decode cX0_strikeOut 32 = .ok (.goto (-23), 3) := by decide +kernel
theorem dX0_strikeOut_35 : decode cX0_strikeOut 35 = .ok (.aload_n 0, 1) := by decide +kernel
theorem dX0_strikeOut_36 : decode cX0_strikeOut 36 = .ok (.getfield 16, 3) := by decide +kernel
theorem dX0_strikeOut_39 : decode cX0_strikeOut 39 = .ok (.iload_n 1, 1) := by decide +kernel
theorem dX0_strikeOut_40 : decode cX0_strikeOut 40 = .ok (.invokevirtual 42, 3) := by decide +kernel
theorem dX0_strikeOut_43 : decode cX0_strikeOut 43 = .ok (.return_, 1) := by decide +kernel
theorem dX0_addGate_0 : decode cX0_addGate 0 = .ok (.aload_n 0, 1) := by decide +kernel
theorem dX0_addGate_1 : decode cX0_addGate 1 = .ok (.iconst 2, 1) := by decide +kernel
theorem dX0_addGate_2 : decode cX0_addGate 2 = .ok (.aload_n 0, 1) := by decide +kernel
theorem dX0_addGate_3 : decode cX0_addGate 3 = .ok (.getfield 16, 3) := by decide +kernel
theorem dX0_addGate_6 : decode cX0_addGate 6 = .ok (.getfield 46, 3) := by decide +kernel
theorem dX0_addGate_9 : decode cX0_addGate 9 = .ok (.invokevirtual 20, 3) := by decide +kernel
theorem dX0_addGate_12 : decode cX0_addGate 12 = .ok (.pop, 1) := by decide +kernel
theorem dX0_addGate_13 : decode cX0_addGate 13 = .ok (.aload_n 0, 1) := by decide +kernel
theorem dX0_addGate_14 : decode cX0_addGate 14 = .ok (.getfield 16, 3) := by decide +kernel
theorem dX0_addGate_17 : decode cX0_addGate 17 = .ok (.iload_n 1, 1) := by decide +kernel
theorem dX0_addGate_18 : decode cX0_addGate 18 = .ok (.iload_n 2, 1) := by decide +kernel
theorem dX0_addGate_19 : decode cX0_addGate 19 = .ok (.invokevirtual 50, 3) := by decide +kernel
theorem dX0_addGate_22 : decode cX0_addGate 22 = .ok (.return_, 1) := by decide +kernel
theorem dX0_takeBack_0 : decode cX0_takeBack 0 = .ok (.aload_n 0, 1) := by decide +kernel
theorem dX0_takeBack_1 : decode cX0_takeBack 1 = .ok (.getfield 54, 3) := by decide +kernel
theorem dX0_takeBack_4 : decode cX0_takeBack 4 = .ok (.ifCond .le 12, 3) := by decide +kernel
theorem dX0_takeBack_7 : decode cX0_takeBack 7 = .ok (.aload_n 0, 1) := by decide +kernel
theorem dX0_takeBack_8 : decode cX0_takeBack 8 = .ok (.getfield 54, 3) := by decide +kernel
theorem dX0_takeBack_11 : decode cX0_takeBack 11 = .ok (.bipush 12, 2) := by decide +kernel
theorem dX0_takeBack_13 : decode cX0_takeBack 13 = .ok (.if_icmp .le 5, 3) := by decide +kernel
theorem dX0_takeBack_16 : decode cX0_takeBack 16 = .ok (.iconst 2, 1) := by decide +kernel
theorem dX0_takeBack_17 : decode cX0_takeBack 17 = .ok (.ireturn, 1) := by decide +kernel
theorem dX0_takeBack_18 : decode cX0_takeBack 18 = .ok (.aload_n 0, 1) := by decide +kernel
theorem dX0_takeBack_19 : decode cX0_takeBack 19 = .ok (.dup, 1) := by decide +kernel
theorem dX0_takeBack_20 : decode cX0_takeBack 20 = .ok (.getfield 54, 3) := by decide +kernel
theorem dX0_takeBack_23 : decode cX0_takeBack 23 = .ok (.iconst 1, 1) := by decide +kernel
theorem dX0_takeBack_24 : decode cX0_takeBack 24 = .ok (.isub, 1) := by decide +kernel
theorem dX0_takeBack_25 : decode cX0_takeBack 25 = .ok (.putfield 54, 3) := by decide +kernel
theorem dX0_takeBack_28 : decode cX0_takeBack 28 = .ok (.aload_n 0, 1) := by decide +kernel
theorem dX0_takeBack_29 : decode cX0_takeBack 29 = .ok (.getfield 13, 3) := by decide +kernel
theorem dX0_takeBack_32 : decode cX0_takeBack 32 = .ok (.aload_n 0, 1) := by decide +kernel
theorem dX0_takeBack_33 : decode cX0_takeBack 33 = .ok (.getfield 54, 3) := by decide +kernel
theorem dX0_takeBack_36 : decode cX0_takeBack 36 = .ok (.aaload, 1) := by decide +kernel
theorem dX0_takeBack_37 : decode cX0_takeBack 37 = .ok (.astore_n 1, 1) := by decide +kernel
theorem dX0_takeBack_38 : decode cX0_takeBack 38 = .ok (.aload_n 1, 1) := by decide +kernel
theorem dX0_takeBack_39 : decode cX0_takeBack 39 = .ok (.iconst 0, 1) := by decide +kernel
theorem dX0_takeBack_40 : decode cX0_takeBack 40 = .ok (.iaload, 1) := by decide +kernel
theorem dX0_takeBack_41 : decode cX0_takeBack 41 = .ok (.ifCond .ne 22, 3) := by decide +kernel
theorem dX0_takeBack_44 : decode cX0_takeBack 44 = .ok (.aload_n 0, 1) := by decide +kernel
theorem dX0_takeBack_45 : decode cX0_takeBack 45 = .ok (.getfield 16, 3) := by decide +kernel
theorem dX0_takeBack_48 : decode cX0_takeBack 48 = .ok (.getfield 24, 3) := by decide +kernel
theorem dX0_takeBack_51 : decode cX0_takeBack 51 = .ok (.aload_n 1, 1) := by decide +kernel
theorem dX0_takeBack_52 : decode cX0_takeBack 52 = .ok (.iconst 1, 1) := by decide +kernel
theorem dX0_takeBack_53 : decode cX0_takeBack 53 = .ok (.iaload, 1) := by decide +kernel
theorem dX0_takeBack_54 : decode cX0_takeBack 54 = .ok (.aload_n 1, 1) := by decide +kernel
theorem dX0_takeBack_55 : decode cX0_takeBack 55 = .ok (.iconst 2, 1) := by decide +kernel
theorem dX0_takeBack_56 : decode cX0_takeBack 56 = .ok (.iaload, 1) := by decide +kernel
theorem dX0_takeBack_57 : decode cX0_takeBack 57 = .ok (.invokestatic 34, 3) := by decide +kernel
theorem dX0_takeBack_60 : decode cX0_takeBack 60 = .ok (.goto 66, 3) := by decide +kernel
theorem dX0_takeBack_63 : decode cX0_takeBack 63 = .ok (.aload_n 1, 1) := by decide +kernel
theorem dX0_takeBack_64 : decode cX0_takeBack 64 = .ok (.iconst 0, 1) := by decide +kernel
theorem dX0_takeBack_65 : decode cX0_takeBack 65 = .ok (.iaload, 1) := by decide +kernel
theorem dX0_takeBack_66 : decode cX0_takeBack 66 = .ok (.iconst 1, 1) := by decide +kernel
theorem dX0_takeBack_67 : decode cX0_takeBack 67 = .ok (.if_icmp .ne 46, 3) := by decide +kernel
theorem dX0_takeBack_70 : decode cX0_takeBack 70 = .ok (.aload_n 0, 1) := by decide +kernel
theorem dX0_takeBack_71 : decode cX0_takeBack 71 = .ok (.getfield 16, 3) := by decide +kernel
theorem dX0_takeBack_74 : decode cX0_takeBack 74 = .ok (.aload_n 1, 1) := by decide +kernel
theorem dX0_takeBack_75 : decode cX0_takeBack 75 = .ok (.iconst 1, 1) := by decide +kernel
theorem dX0_takeBack_76 : decode cX0_takeBack 76 = .ok (.iaload, 1) := by decide +kernel
theorem dX0_takeBack_77 : decode cX0_takeBack 77 = .ok (.invokevirtual 57, 3) := by decide +kernel
theorem dX0_takeBack_80 : decode cX0_takeBack 80 = .ok (.iconst 0, 1) := by decide +kernel
theorem dX0_takeBack_81 : decode cX0_takeBack 81 = .ok (.istore_n 2, 1) := by decide +kernel
theorem dX0_takeBack_82 : decode cX0_takeBack 82 = .ok (.iload_n 2, 1) := by decide +kernel
theorem dX0_takeBack_83 : decode cX0_takeBack 83 = .ok (.bipush 6, 2) := by decide +kernel
theorem dX0_takeBack_85 : decode cX0_takeBack 85 = .ok (.if_icmp .ge 25, 3) := by decide +kernel
theorem dX0_takeBack_88 : decode cX0_takeBack 88 = .ok (.aload_n 0, 1) := by decide +kernel
theorem dX0_takeBack_89 : decode cX0_takeBack 89 = .ok (.getfield 16, 3) := by decide +kernel
theorem dX0_takeBack_92 : decode cX0_takeBack 92 = .ok (.aload_n 1, 1) := by decide +kernel
theorem dX0_takeBack_93 : decode cX0_takeBack 93 = .ok (.iconst 1, 1) := by decide +kernel
theorem dX0_takeBack_94 : decode cX0_takeBack 94 = .ok (.iaload, 1) := by decide +kernel
theorem dX0_takeBack_95 : decode cX0_takeBack 95 = .ok (.iload_n 2, 1) := by decide +kernel
theorem dX0_takeBack_96 : decode cX0_takeBack 96 = .ok (.aload_n 1, 1) := by decide +kernel
theorem dX0_takeBack_97 : decode cX0_takeBack 97 = .ok (.iconst 2, 1) := by decide +kernel
theorem dX0_takeBack_98 : decode cX0_takeBack 98 = .ok (.iload_n 2, 1) := by decide +kernel
theorem dX0_takeBack_99 : decode cX0_takeBack 99 = .ok (.iadd, 1) := by decide +kernel
theorem dX0_takeBack_100 : decode cX0_takeBack 100 = .ok (.iaload, 1) := by decide +kernel
theorem dX0_takeBack_101 : decode cX0_takeBack 101 = .ok (.invokevirtual 60, 3) := by decide +kernel
theorem dX0_takeBack_104 : decode cX0_takeBack 104 = .ok (.iinc 2 1, 3) := by decide +kernel
theorem dX0_takeBack_107 : decode cX0_takeBack 107 = .ok (.goto (-25), 3) := by decide +kernel
theorem dX0_takeBack_110 : decode cX0_takeBack 110 = .ok (.goto 16, 3) := by decide +kernel
theorem dX0_takeBack_113 : decode cX0_takeBack 113 = .ok (.aload_n 0, 1) := by decide +kernel
theorem dX0_takeBack_114 : decode cX0_takeBack 114 = .ok (.getfield 16, 3) := by decide +kernel
theorem dX0_takeBack_117 : decode cX0_takeBack 117 = .ok (.dup, 1) := by decide +kernel
theorem dX0_takeBack_118 : decode cX0_takeBack 118 = .ok (.getfield 46, 3) := by decide +kernel
theorem dX0_takeBack_121 : decode cX0_takeBack 121 = .ok (.iconst 1, 1) := by decide +kernel
theorem dX0_takeBack_122 : decode cX0_takeBack 122 = .ok (.isub, 1) := by decide +kernel
theorem dX0_takeBack_123 : decode cX0_takeBack 123 = .ok (.putfield 46, 3) := by decide +kernel
theorem dX0_takeBack_126 : decode cX0_takeBack 126 = .ok (.aload_n 1, 1) := by decide +kernel
theorem dX0_takeBack_127 : decode cX0_takeBack 127 = .ok (.iconst 0, 1) := by decide +kernel
theorem dX0_takeBack_128 : decode cX0_takeBack 128 = .ok (.iaload, 1) := by decide +kernel
theorem dX0_takeBack_129 : decode cX0_takeBack 129 = .ok (.ireturn, 1) := by decide +kernel
theorem dX0_fresh_0 : decode cX0_fresh 0 = .ok (.aload_n 0, 1) := by decide +kernel
theorem dX0_fresh_1 : decode cX0_fresh 1 = .ok (.getfield 54, 3) := by decide +kernel
theorem dX0_fresh_4 : decode cX0_fresh 4 = .ok (.bipush 12, 2) := by decide +kernel
theorem dX0_fresh_6 : decode cX0_fresh 6 = .ok (.if_icmp .lt 56, 3) := by decide +kernel
theorem dX0_fresh_9 : decode cX0_fresh 9 = .ok (.aload_n 0, 1) := by decide +kernel
theorem dX0_fresh_10 : decode cX0_fresh 10 = .ok (.getfield 13, 3) := by decide +kernel
theorem dX0_fresh_13 : decode cX0_fresh 13 = .ok (.iconst 0, 1) := by decide +kernel
theorem dX0_fresh_14 : decode cX0_fresh 14 = .ok (.aaload, 1) := by decide +kernel
theorem dX0_fresh_15 : decode cX0_fresh 15 = .ok (.astore_n 3, 1) := by decide +kernel
theorem dX0_fresh_16 : decode cX0_fresh 16 = .ok (.iconst 0, 1) := by decide +kernel
theorem dX0_fresh_17 : decode cX0_fresh 17 = .ok (.istore 4, 2) := by decide +kernel
theorem dX0_fresh_19 : decode cX0_fresh 19 = .ok (.iload 4, 2) := by decide +kernel
theorem dX0_fresh_21 : decode cX0_fresh 21 = .ok (.bipush 11, 2) := by decide +kernel
theorem dX0_fresh_23 : decode cX0_fresh 23 = .ok (.if_icmp .ge 25, 3) := by decide +kernel
theorem dX0_fresh_26 : decode cX0_fresh 26 = .ok (.aload_n 0, 1) := by decide +kernel
theorem dX0_fresh_27 : decode cX0_fresh 27 = .ok (.getfield 13, 3) := by decide +kernel
theorem dX0_fresh_30 : decode cX0_fresh 30 = .ok (.iload 4, 2) := by decide +kernel
theorem dX0_fresh_32 : decode cX0_fresh 32 = .ok (.aload_n 0, 1) := by decide +kernel
theorem dX0_fresh_33 : decode cX0_fresh 33 = .ok (.getfield 13, 3) := by decide +kernel
theorem dX0_fresh_36 : decode cX0_fresh 36 = .ok (.iload 4, 2) := by decide +kernel
theorem dX0_fresh_38 : decode cX0_fresh 38 = .ok (.iconst 1, 1) := by decide +kernel
theorem dX0_fresh_39 : decode cX0_fresh 39 = .ok (.iadd, 1) := by decide +kernel
theorem dX0_fresh_40 : decode cX0_fresh 40 = .ok (.aaload, 1) := by decide +kernel
theorem dX0_fresh_41 : decode cX0_fresh 41 = .ok (.aastore, 1) := by decide +kernel
theorem dX0_fresh_42 : decode cX0_fresh 42 = .ok (.iinc 4 1, 3) := by decide +kernel
theorem dX0_fresh_45 : decode cX0_fresh 45 = .ok (.goto (-26), 3) := by decide +kernel
theorem dX0_fresh_48 : decode cX0_fresh 48 = .ok (.aload_n 0, 1) := by decide +kernel
theorem dX0_fresh_49 : decode cX0_fresh 49 = .ok (.getfield 13, 3) := by decide +kernel
theorem dX0_fresh_52 : decode cX0_fresh 52 = .ok (.bipush 11, 2) := by decide +kernel
theorem dX0_fresh_54 : decode cX0_fresh 54 = .ok (.aload_n 3, 1) := by decide +kernel
theorem dX0_fresh_55 : decode cX0_fresh 55 = .ok (.aastore, 1) := by decide +kernel
theorem dX0_fresh_56 : decode cX0_fresh 56 = .ok (.aload_n 0, 1) := by decide +kernel
theorem dX0_fresh_57 : decode cX0_fresh 57 = .ok (.bipush 11, 2) := by decide +kernel
theorem dX0_fresh_59 : decode cX0_fresh 59 = .ok (.putfield 54, 3) := by decide +kernel
theorem dX0_fresh_62 : decode cX0_fresh 62 = .ok (.aload_n 0, 1) := by decide +kernel
theorem dX0_fresh_63 : decode cX0_fresh 63 = .ok (.getfield 13, 3) := by decide +kernel
theorem dX0_fresh_66 : decode cX0_fresh 66 = .ok (.aload_n 0, 1) := by decide +kernel
theorem dX0_fresh_67 : decode cX0_fresh 67 = .ok (.getfield 54, 3) := by decide +kernel
theorem dX0_fresh_70 : decode cX0_fresh 70 = .ok (.ifCond .lt 10, 3) := by decide +kernel
theorem dX0_fresh_73 : decode cX0_fresh 73 = .ok (.aload_n 0, 1) := by decide +kernel
theorem dX0_fresh_74 : decode cX0_fresh 74 = .ok (.getfield 54, 3) := by decide +kernel
theorem dX0_fresh_77 : decode cX0_fresh 77 = .ok (.goto 4, 3) := by decide +kernel
theorem dX0_fresh_80 : decode cX0_fresh 80 = .ok (.iconst 0, 1) := by decide +kernel
theorem dX0_fresh_81 : decode cX0_fresh 81 = .ok (.aaload, 1) := by decide +kernel
theorem dX0_fresh_82 : decode cX0_fresh 82 = .ok (.astore_n 3, 1) := by decide +kernel
theorem dX0_fresh_83 : decode cX0_fresh 83 = .ok (.aload_n 3, 1) := by decide +kernel
theorem dX0_fresh_84 : decode cX0_fresh 84 = .ok (.iconst 0, 1) := by decide +kernel
theorem dX0_fresh_85 : decode cX0_fresh 85 = .ok (.iload_n 1, 1) := by decide +kernel
theorem dX0_fresh_86 : decode cX0_fresh 86 = .ok (.iastore, 1) := by decide +kernel
theorem dX0_fresh_87 : decode cX0_fresh 87 = .ok (.aload_n 3, 1) := by decide +kernel
theorem dX0_fresh_88 : decode cX0_fresh 88 = .ok (.iconst 1, 1) := by decide +kernel
theorem dX0_fresh_89 : decode cX0_fresh 89 = .ok (.iload_n 2, 1) := by decide +kernel
theorem dX0_fresh_90 : decode cX0_fresh 90 = .ok (.iastore, 1) := by decide +kernel
theorem dX0_fresh_91 : decode cX0_fresh 91 = .ok (.aload_n 0, 1) := by decide +kernel
theorem dX0_fresh_92 : decode cX0_fresh 92 = .ok (.dup, 1) := by decide +kernel
theorem dX0_fresh_93 : decode cX0_fresh 93 = .ok (.getfield 54, 3) := by decide +kernel
theorem dX0_fresh_96 : decode cX0_fresh 96 = .ok (.iconst 1, 1) := by decide +kernel
theorem dX0_fresh_97 : decode cX0_fresh 97 = .ok (.iadd, 1) := by decide +kernel
theorem dX0_fresh_98 : decode cX0_fresh 98 = .ok (.putfield 54, 3) := by decide +kernel
theorem dX0_fresh_101 : decode cX0_fresh 101 = .ok (.aload_n 3, 1) := by decide +kernel
theorem dX0_fresh_102 : decode cX0_fresh 102 = .ok (.areturn, 1) := by decide +kernel
theorem dX1_init_0 : decode cX1_init 0 = .ok (.aload_n 0, 1) := by decide +kernel
theorem dX1_init_1 : decode cX1_init 1 = .ok (.invokespecial 3, 3) := by decide +kernel
theorem dX1_init_4 : decode cX1_init 4 = .ok (.aload_n 0, 1) := by decide +kernel
theorem dX1_init_5 : decode cX1_init 5 = .ok (.bipush 6, 2) := by decide +kernel
theorem dX1_init_7 : decode cX1_init 7 = .ok (.newarray .int, 2) := by decide +kernel
theorem dX1_init_9 : decode cX1_init 9 = .ok (.putfield 9, 3) := by decide +kernel
theorem dX1_init_12 : decode cX1_init 12 = .ok (.aload_n 0, 1) := by decide +kernel
theorem dX1_init_13 : decode cX1_init 13 = .ok (.bipush 7, 2) := by decide +kernel
theorem dX1_init_15 : decode cX1_init 15 = .ok (.anewarray 15, 3) := by decide +kernel
theorem dX1_init_18 : decode cX1_init 18 = .ok (.putfield 17, 3) := by decide +kernel
theorem dX1_init_21 : decode cX1_init 21 = .ok (.aload_n 0, 1) := by decide +kernel
theorem dX1_init_22 : decode cX1_init 22 = .ok (.bipush 6, 2) := by decide +kernel
theorem dX1_init_24 : decode cX1_init 24 = .ok (.newarray .int, 2) := by decide +kernel
theorem dX1_init_26 : decode cX1_init 26 = .ok (.putfield 21, 3) := by decide +kernel
theorem dX1_init_29 : decode cX1_init 29 = .ok (.aload_n 0, 1) := by decide +kernel
theorem dX1_init_30 : decode cX1_init 30 = .ok (.aload_n 1, 1) := by decide +kernel
theorem dX1_init_31 : decode cX1_init 31 = .ok (.putfield 24, 3) := by decide +kernel
theorem dX1_init_34 : decode cX1_init 34 = .ok (.iconst 0, 1) := by decide +kernel
theorem dX1_init_35 : decode cX1_init 35 = .ok (.istore_n 2, 1) := by decide +kernel
theorem dX1_init_36 : decode cX1_init 36 = .ok (.iload_n 2, 1) := by decide +kernel
theorem dX1_init_37 : decode cX1_init 37 = .ok (.bipush 6, 2) := by decide +kernel
theorem dX1_init_39 : decode cX1_init 39 = .ok (.if_icmp .gt 22, 3) := by decide +kernel
theorem dX1_init_42 : decode cX1_init 42 = .ok (.aload_n 0, 1) := by decide +kernel
theorem dX1_init_43 : decode cX1_init 43 = .ok (.getfield 17, 3) := by decide +kernel
theorem dX1_init_46 : decode cX1_init 46 = .ok (.iload_n 2, 1) := by decide +kernel
theorem dX1_init_47 : decode cX1_init 47 = .ok (.new 15, 3) := by decide +kernel
theorem dX1_init_50 : decode cX1_init 50 = .ok (.dup, 1) := by decide +kernel
theorem dX1_init_51 : decode cX1_init 51 = .ok (.invokespecial 28, 3) := by decide +kernel
theorem dX1_init_54 : decode cX1_init 54 = .ok (.aastore, 1) := by decide +kernel
theorem dX1_init_55 : decode cX1_init 55 = .ok (.iinc 2 1, 3) := by decide +kernel
theorem dX1_init_58 : decode cX1_init 58 = .ok (.goto (-22), 3) := by decide +kernel
theorem dX1_init_61 : decode cX1_init 61 = .ok (.return_, 1) := by decide +kernel
theorem dX1_search_0 : decode cX1_search 0 = .ok (.aload_n 0, 1) := by decide +kernel
theorem dX1_search_1 : decode cX1_search 1 = .ok (.getfield 29, 3) := by decide +kernel
theorem dX1_search_4 : decode cX1_search 4 = .ok (.iload_n 1, 1) := by decide +kernel
theorem dX1_search_5 : decode cX1_search 5 = .ok (.if_icmp .ne 4, 3) := by decide +kernel
theorem dX1_search_8 : decode cX1_search 8 = .ok (.return_, 1) := by decide +kernel
theorem dX1_search_9 : decode cX1_search 9 = .ok (.aload_n 0, 1) := by decide +kernel
theorem dX1_search_10 : decode cX1_search 10 = .ok (.iconst 0, 1) := by decide +kernel
theorem dX1_search_11 : decode cX1_search 11 = .ok (.putfield 33, 3) := by decide +kernel
theorem dX1_search_14 : decode cX1_search 14 = .ok (.aload_n 0, 1) := by decide +kernel
theorem dX1_search_15 : decode cX1_search 15 = .ok (.getfield 17, 3) := by decide +kernel
theorem dX1_search_18 : decode cX1_search 18 = .ok (.iconst 0, 1) := by decide +kernel
theorem dX1_search_19 : decode cX1_search 19 = .ok (.aaload, 1) := by decide +kernel
theorem dX1_search_20 : decode cX1_search 20 = .ok (.invokevirtual 36, 3) := by decide +kernel
theorem dX1_search_23 : decode cX1_search 23 = .ok (.aload_n 0, 1) := by decide +kernel
theorem dX1_search_24 : decode cX1_search 24 = .ok (.iconst 0, 1) := by decide +kernel
theorem dX1_search_25 : decode cX1_search 25 = .ok (.iload_n 1, 1) := by decide +kernel
theorem dX1_search_26 : decode cX1_search 26 = .ok (.invokevirtual 39, 3) := by decide +kernel
theorem dX1_search_29 : decode cX1_search 29 = .ok (.aload_n 0, 1) := by decide +kernel
theorem dX1_search_30 : decode cX1_search 30 = .ok (.iload_n 1, 1) := by decide +kernel
theorem dX1_search_31 : decode cX1_search 31 = .ok (.putfield 29, 3) := by decide +kernel
theorem dX1_search_34 : decode cX1_search 34 = .ok (.return_, 1) := by decide +kernel
theorem dX1_assign_0 : decode cX1_assign 0 = .ok (.iload_n 1, 1) := by decide +kernel
theorem dX1_assign_1 : decode cX1_assign 1 = .ok (.ifCond .lt 23, 3) := by decide +kernel
theorem dX1_assign_4 : decode cX1_assign 4 = .ok (.iload_n 1, 1) := by decide +kernel
theorem dX1_assign_5 : decode cX1_assign 5 = .ok (.bipush 6, 2) := by decide +kernel
theorem dX1_assign_7 : decode cX1_assign 7 = .ok (.if_icmp .ge 17, 3) := by decide +kernel
theorem dX1_assign_10 : decode cX1_assign 10 = .ok (.iload_n 1, 1) := by decide +kernel
theorem dX1_assign_11 : decode cX1_assign 11 = .ok (.aload_n 0, 1) := by decide +kernel
theorem dX1_assign_12 : decode cX1_assign 12 = .ok (.getfield 24, 3) := by decide +kernel
theorem dX1_assign_15 : decode cX1_assign 15 = .ok (.getfield 43, 3) := by decide +kernel
theorem dX1_assign_18 : decode cX1_assign 18 = .ok (.getfield 49, 3) := by decide +kernel
theorem dX1_assign_21 : decode cX1_assign 21 = .ok (.if_icmp .lt 8, 3) := by decide +kernel
theorem dX1_assign_24 : decode cX1_assign 24 = .ok (.aload_n 0, 1) := by decide +kernel
theorem dX1_assign_25 : decode cX1_assign 25 = .ok (.invokevirtual 54, 3) := by decide +kernel
theorem dX1_assign_28 : decode cX1_assign 28 = .ok (.return_, 1) := by decide +kernel
theorem dX1_assign_29 : decode cX1_assign 29 = .ok (.iconst 0, 1) := by decide +kernel
theorem dX1_assign_30 : decode cX1_assign 30 = .ok (.istore_n 3, 1) := by decide +kernel
theorem dX1_assign_31 : decode cX1_assign 31 = .ok (.iload_n 3, 1) := by decide +kernel
theorem dX1_assign_32 : decode cX1_assign 32 = .ok (.iload_n 2, 1) := by decide +kernel
theorem dX1_assign_33 : decode cX1_assign 33 = .ok (.if_icmp .ge 60, 3) := by decide +kernel
theorem dX1_assign_36 : decode cX1_assign 36 = .ok (.aload_n 0, 1) := by decide +kernel
theorem dX1_assign_37 : decode cX1_assign 37 = .ok (.getfield 9, 3) := by decide +kernel
theorem dX1_assign_40 : decode cX1_assign 40 = .ok (.iload_n 1, 1) := by decide +kernel
theorem dX1_assign_41 : decode cX1_assign 41 = .ok (.iload_n 3, 1) := by decide +kernel
theorem dX1_assign_42 : decode cX1_assign 42 = .ok (.iastore, 1) := by decide +kernel
theorem dX1_assign_43 : decode cX1_assign 43 = .ok (.aload_n 0, 1) := by decide +kernel
theorem dX1_assign_44 : decode cX1_assign 44 = .ok (.getfield 17, 3) := by decide +kernel
theorem dX1_assign_47 : decode cX1_assign 47 = .ok (.iload_n 1, 1) := by decide +kernel
theorem dX1_assign_48 : decode cX1_assign 48 = .ok (.iconst 1, 1) := by decide +kernel
theorem dX1_assign_49 : decode cX1_assign 49 = .ok (.iadd, 1) := by decide +kernel
theorem dX1_assign_50 : decode cX1_assign 50 = .ok (.aaload, 1) := by decide +kernel
theorem dX1_assign_51 : decode cX1_assign 51 = .ok (.astore 4, 2) := by decide +kernel
theorem dX1_assign_53 : decode cX1_assign 53 = .ok (.aload 4, 2) := by decide +kernel
theorem dX1_assign_55 : decode cX1_assign 55 = .ok (.aload_n 0, 1) := by decide +kernel
theorem dX1_assign_56 : decode cX1_assign 56 = .ok (.getfield 17, 3) := by decide +kernel
theorem dX1_assign_59 : decode cX1_assign 59 = .ok (.iload_n 1, 1) := by decide +kernel
theorem dX1_assign_60 : decode cX1_assign 60 = .ok (.aaload, 1) := by decide +kernel
theorem dX1_assign_61 : decode cX1_assign 61 = .ok (.invokevirtual 57, 3) := by decide +kernel
theorem dX1_assign_64 : decode cX1_assign 64 = .ok (.aload_n 0, 1) := by decide +kernel
theorem dX1_assign_65 : decode cX1_assign 65 = .ok (.aload 4, 2) := by decide +kernel
theorem dX1_assign_67 : decode cX1_assign 67 = .ok (.iload_n 1, 1) := by decide +kernel
theorem dX1_assign_68 : decode cX1_assign 68 = .ok (.invokevirtual 61, 3) := by decide +kernel
theorem dX1_assign_71 : decode cX1_assign 71 = .ok (.aload 4, 2) := by decide +kernel
theorem dX1_assign_73 : decode cX1_assign 73 = .ok (.invokevirtual 65, 3) := by decide +kernel
theorem dX1_assign_76 : decode cX1_assign 76 = .ok (.ifCond .ne 11, 3) := by decide +kernel
theorem dX1_assign_79 : decode cX1_assign 79 = .ok (.aload_n 0, 1) := by decide +kernel
theorem dX1_assign_80 : decode cX1_assign 80 = .ok (.iload_n 1, 1) := by decide +kernel
theorem dX1_assign_81 : decode cX1_assign 81 = .ok (.iconst 1, 1) := by decide +kernel
theorem dX1_assign_82 : decode cX1_assign 82 = .ok (.iadd, 1) := by decide +kernel
theorem dX1_assign_83 : decode cX1_assign 83 = .ok (.iload_n 2, 1) := by decide +kernel
theorem dX1_assign_84 : decode cX1_assign 84 = .ok (.invokevirtual 39, 3) := by decide +kernel
theorem dX1_assign_87 : decode cX1_assign 87 = .ok (.iinc 3 1, 3) := by decide +kernel
theorem dX1_assign_90 : decode cX1_assign 90 = .ok (.goto (-59), 3) := by decide +kernel
theorem dX1_assign_93 : decode cX1_assign 93 = .ok (.return_, 1) := by decide +kernel
theorem dX1_keep_0 : decode cX1_keep 0 = .ok (.aload_n 0, 1) := by decide +kernel
theorem dX1_keep_1 : decode cX1_keep 1 = .ok (.getfield 33, 3) := by decide +kernel
theorem dX1_keep_4 : decode cX1_keep 4 = .ok (.ifCond .ne 29, 3) := by decide +kernel
theorem dX1_keep_7 : decode cX1_keep 7 = .ok (.iconst 0, 1) := by decide +kernel
theorem dX1_keep_8 : decode cX1_keep 8 = .ok (.istore_n 1, 1) := by decide +kernel
theorem dX1_keep_9 : decode cX1_keep 9 = .ok (.iload_n 1, 1) := by decide +kernel
theorem dX1_keep_10 : decode cX1_keep 10 = .ok (.bipush 6, 2) := by decide +kernel
theorem dX1_keep_12 : decode cX1_keep 12 = .ok (.if_icmp .ge 21, 3) := by decide +kernel
theorem dX1_keep_15 : decode cX1_keep 15 = .ok (.aload_n 0, 1) := by decide +kernel
theorem dX1_keep_16 : decode cX1_keep 16 = .ok (.getfield 21, 3) := by decide +kernel
theorem dX1_keep_19 : decode cX1_keep 19 = .ok (.iload_n 1, 1) := by decide +kernel
theorem dX1_keep_20 : decode cX1_keep 20 = .ok (.aload_n 0, 1) := by decide +kernel
theorem dX1_keep_21 : decode cX1_keep 21 = .ok (.getfield 9, 3) := by decide +kernel
theorem dX1_keep_24 : decode cX1_keep 24 = .ok (.iload_n 1, 1) := by decide +kernel
theorem dX1_keep_25 : decode cX1_keep 25 = .ok (.iaload, 1) := by decide +kernel
theorem dX1_keep_26 : decode cX1_keep 26 = .ok (.iastore, 1) := by decide +kernel
theorem dX1_keep_27 : decode cX1_keep 27 = .ok (.iinc 1 1, 3) := by decide +kernel
theorem dX1_keep_30 : decode cX1_keep 30 = .ok (.goto (-21), 3) := by decide +kernel
theorem dX1_keep_33 : decode cX1_keep 33 = .ok (.aload_n 0, 1) := by decide +kernel
theorem dX1_keep_34 : decode cX1_keep 34 = .ok (.dup, 1) := by decide +kernel
theorem dX1_keep_35 : decode cX1_keep 35 = .ok (.getfield 33, 3) := by decide +kernel
theorem dX1_keep_38 : decode cX1_keep 38 = .ok (.iconst 1, 1) := by decide +kernel
theorem dX1_keep_39 : decode cX1_keep 39 = .ok (.iadd, 1) := by decide +kernel
theorem dX1_keep_40 : decode cX1_keep 40 = .ok (.putfield 33, 3) := by decide +kernel
theorem dX1_keep_43 : decode cX1_keep 43 = .ok (.return_, 1) := by decide +kernel
theorem dX1_demandUpTo_0 : decode cX1_demandUpTo 0 = .ok (.aload_n 0, 1) := by decide +kernel
theorem dX1_demandUpTo_1 : decode cX1_demandUpTo 1 = .ok (.getfield 24, 3) := by decide +kernel
theorem dX1_demandUpTo_4 : decode cX1_demandUpTo 4 = .ok (.aload_n 1, 1) := by decide +kernel
theorem dX1_demandUpTo_5 : decode cX1_demandUpTo 5 = .ok (.aload_n 0, 1) := by decide +kernel
theorem dX1_demandUpTo_6 : decode cX1_demandUpTo 6 = .ok (.getfield 9, 3) := by decide +kernel
theorem dX1_demandUpTo_9 : decode cX1_demandUpTo 9 = .ok (.iload_n 2, 1) := by decide +kernel
theorem dX1_demandUpTo_10 : decode cX1_demandUpTo 10 = .ok (.invokevirtual 69, 3) := by decide +kernel
theorem dX1_demandUpTo_13 : decode cX1_demandUpTo 13 = .ok (.aload_n 0, 1) := by decide +kernel
theorem dX1_demandUpTo_14 : decode cX1_demandUpTo 14 = .ok (.getfield 24, 3) := by decide +kernel
theorem dX1_demandUpTo_17 : decode cX1_demandUpTo 17 = .ok (.getfield 43, 3) := by decide +kernel
theorem dX1_demandUpTo_20 : decode cX1_demandUpTo 20 = .ok (.astore_n 3, 1) := by decide +kernel
theorem dX1_demandUpTo_21 : decode cX1_demandUpTo 21 = .ok (.iconst 0, 1) := by decide +kernel
theorem dX1_demandUpTo_22 : decode cX1_demandUpTo 22 = .ok (.istore 4, 2) := by decide +kernel
theorem dX1_demandUpTo_24 : decode cX1_demandUpTo 24 = .ok (.iload 4, 2) := by decide +kernel
theorem dX1_demandUpTo_26 : decode cX1_demandUpTo 26 = .ok (.aload_n 3, 1) := by decide +kernel
theorem dX1_demandUpTo_27 : decode cX1_demandUpTo 27 = .ok (.getfield 73, 3) := by decide +kernel
theorem dX1_demandUpTo_30 : decode cX1_demandUpTo 30 = .ok (.if_icmp .ge 44, 3) := by decide +kernel
theorem dX1_demandUpTo_33 : decode cX1_demandUpTo 33 = .ok (.aload_n 3, 1) := by decide +kernel
theorem dX1_demandUpTo_34 : decode cX1_demandUpTo 34 = .ok (.iload 4, 2) := by decide +kernel
theorem dX1_demandUpTo_36 : decode cX1_demandUpTo 36 = .ok (.iconst 0, 1) := by decide +kernel
theorem dX1_demandUpTo_37 : decode cX1_demandUpTo 37 = .ok (.invokevirtual 76, 3) := by decide +kernel
theorem dX1_demandUpTo_40 : decode cX1_demandUpTo 40 = .ok (.aload_n 3, 1) := by decide +kernel
theorem dX1_demandUpTo_41 : decode cX1_demandUpTo 41 = .ok (.iload 4, 2) := by decide +kernel
theorem dX1_demandUpTo_43 : decode cX1_demandUpTo 43 = .ok (.iconst 1, 1) := by decide +kernel
theorem dX1_demandUpTo_44 : decode cX1_demandUpTo 44 = .ok (.invokevirtual 76, 3) := by decide +kernel
theorem dX1_demandUpTo_47 : decode cX1_demandUpTo 47 = .ok (.invokestatic 80, 3) := by decide +kernel
theorem dX1_demandUpTo_50 : decode cX1_demandUpTo 50 = .ok (.iload_n 2, 1) := by decide +kernel
theorem dX1_demandUpTo_51 : decode cX1_demandUpTo 51 = .ok (.if_icmp .ne 17, 3) := by decide +kernel
theorem dX1_demandUpTo_54 : decode cX1_demandUpTo 54 = .ok (.aload_n 0, 1) := by decide +kernel
theorem dX1_demandUpTo_55 : decode cX1_demandUpTo 55 = .ok (.getfield 24, 3) := by decide +kernel
theorem dX1_demandUpTo_58 : decode cX1_demandUpTo 58 = .ok (.aload_n 1, 1) := by decide +kernel
theorem dX1_demandUpTo_59 : decode cX1_demandUpTo 59 = .ok (.aload_n 0, 1) := by decide +kernel
theorem dX1_demandUpTo_60 : decode cX1_demandUpTo 60 = .ok (.getfield 9, 3) := by decide +kernel
theorem dX1_demandUpTo_63 : decode cX1_demandUpTo 63 = .ok (.iload 4, 2) := by decide +kernel
theorem dX1_demandUpTo_65 : decode cX1_demandUpTo 65 = .ok (.invokevirtual 85, 3) := by decide +kernel
theorem dX1_demandUpTo_68 : decode cX1_demandUpTo 68 = .ok (.iinc 4 1, 3) := by decide +kernel
theorem dX1_demandUpTo_71 : decode cX1_demandUpTo 71 = .ok (.goto (-47), 3) := by decide +kernel
theorem dX1_demandUpTo_74 : decode cX1_demandUpTo 74 = .ok (.return_, 1) := by decide +kernel
theorem dX2_init_0 : decode cX2_init 0 = .ok (.aload_n 0, 1) := by decide +kernel
theorem dX2_init_1 : decode cX2_init 1 = .ok (.invokespecial 3, 3) := by decide +kernel
theorem dX2_init_4 : decode cX2_init 4 = .ok (.aload_n 0, 1) := by decide +kernel
theorem dX2_init_5 : decode cX2_init 5 = .ok (.sipush 729, 3) := by decide +kernel
theorem dX2_init_8 : decode cX2_init 8 = .ok (.newarray .long, 2) := by decide +kernel
theorem dX2_init_10 : decode cX2_init 10 = .ok (.putfield 9, 3) := by decide +kernel
theorem dX2_init_13 : decode cX2_init 13 = .ok (.iconst 0, 1) := by decide +kernel
theorem dX2_init_14 : decode cX2_init 14 = .ok (.istore_n 1, 1) := by decide +kernel
theorem dX2_init_15 : decode cX2_init 15 = .ok (.iload_n 1, 1) := by decide +kernel
theorem dX2_init_16 : decode cX2_init 16 = .ok (.sipush 729, 3) := by decide +kernel
theorem dX2_init_19 : decode cX2_init 19 = .ok (.if_icmp .ge 85, 3) := by decide +kernel
theorem dX2_init_22 : decode cX2_init 22 = .ok (.ldc2_w 15, 3) := by decide +kernel
theorem dX2_init_25 : decode cX2_init 25 = .ok (.lstore_n 2, 1) := by decide +kernel
theorem dX2_init_26 : decode cX2_init 26 = .ok (.iload_n 1, 1) := by decide +kernel
theorem dX2_init_27 : decode cX2_init 27 = .ok (.istore 4, 2) := by decide +kernel
theorem dX2_init_29 : decode cX2_init 29 = .ok (.iconst 5, 1) := by decide +kernel
theorem dX2_init_30 : decode cX2_init 30 = .ok (.istore 5, 2) := by decide +kernel
theorem dX2_init_32 : decode cX2_init 32 = .ok (.iload 5, 2) := by decide +kernel
theorem dX2_init_34 : decode cX2_init 34 = .ok (.ifCond .lt 57, 3) := by decide +kernel
theorem dX2_init_37 : decode cX2_init 37 = .ok (.iload 4, 2) := by decide +kernel
theorem dX2_init_39 : decode cX2_init 39 = .ok (.iconst 3, 1) := by decide +kernel
theorem dX2_init_40 : decode cX2_init 40 = .ok (.irem, 1) := by decide +kernel
theorem dX2_init_41 : decode cX2_init 41 = .ok (.istore 6, 2) := by decide +kernel
theorem dX2_init_43 : decode cX2_init 43 = .ok (.iload 4, 2) := by decide +kernel
theorem dX2_init_45 : decode cX2_init 45 = .ok (.iconst 3, 1) := by decide +kernel
theorem dX2_init_46 : decode cX2_init 46 = .ok (.idiv, 1) := by decide +kernel
theorem dX2_init_47 : decode cX2_init 47 = .ok (.istore 4, 2) := by decide +kernel
theorem dX2_init_49 : decode cX2_init 49 = .ok (.iload 6, 2) := by decide +kernel
theorem dX2_init_51 : decode cX2_init 51 = .ok (.iconst 1, 1) := by decide +kernel
theorem dX2_init_52 : decode cX2_init 52 = .ok (.if_icmp .ne 15, 3) := by decide +kernel
theorem dX2_init_55 : decode cX2_init 55 = .ok (.lload_n 2, 1) := by decide +kernel
theorem dX2_init_56 : decode cX2_init 56 = .ok (.getstatic 17, 3) := by decide +kernel
theorem dX2_init_59 : decode cX2_init 59 = .ok (.iload 5, 2) := by decide +kernel
theorem dX2_init_61 : decode cX2_init 61 = .ok (.laload, 1) := by decide +kernel
theorem dX2_init_62 : decode cX2_init 62 = .ok (.land, 1) := by decide +kernel
theorem dX2_init_63 : decode cX2_init 63 = .ok (.lstore_n 2, 1) := by decide +kernel
theorem dX2_init_64 : decode cX2_init 64 = .ok (.goto 21, 3) := by decide +kernel
theorem dX2_init_67 : decode cX2_init 67 = .ok (.iload 6, 2) := by decide +kernel
theorem dX2_init_69 : decode cX2_init 69 = .ok (.ifCond .ne 16, 3) := by decide +kernel
theorem dX2_init_72 : decode cX2_init 72 = .ok (.lload_n 2, 1) := by decide +kernel
theorem dX2_init_73 : decode cX2_init 73 = .ok (.getstatic 17, 3) := by decide +kernel
theorem dX2_init_76 : decode cX2_init 76 = .ok (.iload 5, 2) := by decide +kernel
theorem dX2_init_78 : decode cX2_init 78 = .ok (.laload, 1) := by decide +kernel
theorem dX2_init_79 : decode cX2_init 79 = .ok (.ldc2_w 15, 3) := by decide +kernel
theorem dX2_init_82 : decode cX2_init 82 = .ok (.lxor, 1) := by decide +kernel
theorem dX2_init_83 : decode cX2_init 83 = .ok (.land, 1) := by decide +kernel
theorem dX2_init_84 : decode cX2_init 84 = .ok (.lstore_n 2, 1) := by decide +kernel
theorem dX2_init_85 : decode cX2_init 85 = .ok (.iinc 5 (-1), 3) := by decide +kernel
theorem dX2_init_88 : decode cX2_init 88 = .ok (.goto (-56), 3) := by decide +kernel
theorem dX2_init_91 : decode cX2_init 91 = .ok (.aload_n 0, 1) := by decide +kernel
theorem dX2_init_92 : decode cX2_init 92 = .ok (.getfield 9, 3) := by decide +kernel
theorem dX2_init_95 : decode cX2_init 95 = .ok (.iload_n 1, 1) := by decide +kernel
theorem dX2_init_96 : decode cX2_init 96 = .ok (.lload_n 2, 1) := by decide +kernel
theorem dX2_init_97 : decode cX2_init 97 = .ok (.lastore, 1) := by decide +kernel
theorem dX2_init_98 : decode cX2_init 98 = .ok (.iinc 1 1, 3) := by decide +kernel
theorem dX2_init_101 : decode cX2_init 101 = .ok (.goto (-86), 3) := by decide +kernel
theorem dX2_init_104 : decode cX2_init 104 = .ok (.return_, 1) := by decide +kernel
theorem dX2_pointsOf_0 : decode cX2_pointsOf 0 = .ok (.iload_n 1, 1) := by decide +kernel
theorem dX2_pointsOf_1 : decode cX2_pointsOf 1 = .ok (.ifCond .lt 19, 3) := by decide +kernel
theorem dX2_pointsOf_4 : decode cX2_pointsOf 4 = .ok (.iload_n 1, 1) := by decide +kernel
theorem dX2_pointsOf_5 : decode cX2_pointsOf 5 = .ok (.sipush 729, 3) := by decide +kernel
theorem dX2_pointsOf_8 : decode cX2_pointsOf 8 = .ok (.if_icmp .ge 12, 3) := by decide +kernel
theorem dX2_pointsOf_11 : decode cX2_pointsOf 11 = .ok (.aload_n 0, 1) := by decide +kernel
theorem dX2_pointsOf_12 : decode cX2_pointsOf 12 = .ok (.getfield 9, 3) := by decide +kernel
theorem dX2_pointsOf_15 : decode cX2_pointsOf 15 = .ok (.iload_n 1, 1) := by decide +kernel
theorem dX2_pointsOf_16 : decode cX2_pointsOf 16 = .ok (.laload, 1) := by decide +kernel
theorem dX2_pointsOf_17 : decode cX2_pointsOf 17 = .ok (.goto 4, 3) := by decide +kernel
theorem dX2_pointsOf_20 : decode cX2_pointsOf 20 = .ok (.lconst 0, 1) := by decide +kernel
theorem dX2_pointsOf_21 : decode cX2_pointsOf 21 = .ok (.lreturn, 1) := by decide +kernel
theorem dX2_numberOf_0 : decode cX2_numberOf 0 = .ok (.iconst 0, 1) := by decide +kernel
theorem dX2_numberOf_1 : decode cX2_numberOf 1 = .ok (.istore_n 2, 1) := by decide +kernel
theorem dX2_numberOf_2 : decode cX2_numberOf 2 = .ok (.iconst 0, 1) := by decide +kernel
theorem dX2_numberOf_3 : decode cX2_numberOf 3 = .ok (.istore_n 3, 1) := by decide +kernel
theorem dX2_numberOf_4 : decode cX2_numberOf 4 = .ok (.iload_n 3, 1) := by decide +kernel
theorem dX2_numberOf_5 : decode cX2_numberOf 5 = .ok (.bipush 6, 2) := by decide +kernel
theorem dX2_numberOf_7 : decode cX2_numberOf 7 = .ok (.if_icmp .ge 35, 3) := by decide +kernel
theorem dX2_numberOf_10 : decode cX2_numberOf 10 = .ok (.iload_n 1, 1) := by decide +kernel
theorem dX2_numberOf_11 : decode cX2_numberOf 11 = .ok (.iload_n 3, 1) := by decide +kernel
theorem dX2_numberOf_12 : decode cX2_numberOf 12 = .ok (.ishr, 1) := by decide +kernel
theorem dX2_numberOf_13 : decode cX2_numberOf 13 = .ok (.iconst 1, 1) := by decide +kernel
theorem dX2_numberOf_14 : decode cX2_numberOf 14 = .ok (.iand, 1) := by decide +kernel
theorem dX2_numberOf_15 : decode cX2_numberOf 15 = .ok (.ifCond .eq 7, 3) := by decide +kernel
theorem dX2_numberOf_18 : decode cX2_numberOf 18 = .ok (.iconst 2, 1) := by decide +kernel
theorem dX2_numberOf_19 : decode cX2_numberOf 19 = .ok (.goto 8, 3) := by decide +kernel
theorem dX2_numberOf_22 : decode cX2_numberOf 22 = .ok (.iload_n 0, 1) := by decide +kernel
theorem dX2_numberOf_23 : decode cX2_numberOf 23 = .ok (.iload_n 3, 1) := by decide +kernel
theorem dX2_numberOf_24 : decode cX2_numberOf 24 = .ok (.ishr, 1) := by decide +kernel
theorem dX2_numberOf_25 : decode cX2_numberOf 25 = .ok (.iconst 1, 1) := by decide +kernel
theorem dX2_numberOf_26 : decode cX2_numberOf 26 = .ok (.iand, 1) := by decide +kernel
theorem dX2_numberOf_27 : decode cX2_numberOf 27 = .ok (.istore 4, 2) := by decide +kernel
theorem dX2_numberOf_29 : decode cX2_numberOf 29 = .ok (.iload_n 2, 1) := by decide +kernel
theorem dX2_numberOf_30 : decode cX2_numberOf 30 = .ok (.iconst 3, 1) := by decide +kernel
theorem dX2_numberOf_31 : decode cX2_numberOf 31 = .ok (.imul, 1) := by decide +kernel
theorem dX2_numberOf_32 : decode cX2_numberOf 32 = .ok (.iload 4, 2) := by decide +kernel
theorem dX2_numberOf_34 : decode cX2_numberOf 34 = .ok (.iadd, 1) := by decide +kernel
theorem dX2_numberOf_35 : decode cX2_numberOf 35 = .ok (.istore_n 2, 1) := by decide +kernel
theorem dX2_numberOf_36 : decode cX2_numberOf 36 = .ok (.iinc 3 1, 3) := by decide +kernel
theorem dX2_numberOf_39 : decode cX2_numberOf 39 = .ok (.goto (-35), 3) := by decide +kernel
theorem dX2_numberOf_42 : decode cX2_numberOf 42 = .ok (.iload_n 2, 1) := by decide +kernel
theorem dX2_numberOf_43 : decode cX2_numberOf 43 = .ok (.ireturn, 1) := by decide +kernel
theorem dX2_pointsLike_0 : decode cX2_pointsLike 0 = .ok (.ldc2_w 15, 3) := by decide +kernel
theorem dX2_pointsLike_3 : decode cX2_pointsLike 3 = .ok (.lstore_n 2, 1) := by decide +kernel
theorem dX2_pointsLike_4 : decode cX2_pointsLike 4 = .ok (.iconst 0, 1) := by decide +kernel
theorem dX2_pointsLike_5 : decode cX2_pointsLike 5 = .ok (.istore 4, 2) := by decide +kernel
theorem dX2_pointsLike_7 : decode cX2_pointsLike 7 = .ok (.iload 4, 2) := by decide +kernel
theorem dX2_pointsLike_9 : decode cX2_pointsLike 9 = .ok (.bipush 6, 2) := by decide +kernel
theorem dX2_pointsLike_11 : decode cX2_pointsLike 11 = .ok (.if_icmp .ge 49, 3) := by decide +kernel
theorem dX2_pointsLike_14 : decode cX2_pointsLike 14 = .ok (.iload_n 1, 1) := by decide +kernel
theorem dX2_pointsLike_15 : decode cX2_pointsLike 15 = .ok (.iload 4, 2) := by decide +kernel
theorem dX2_pointsLike_17 : decode cX2_pointsLike 17 = .ok (.ishr, 1) := by decide +kernel
theorem dX2_pointsLike_18 : decode cX2_pointsLike 18 = .ok (.iconst 1, 1) := by decide +kernel
theorem dX2_pointsLike_19 : decode cX2_pointsLike 19 = .ok (.iand, 1) := by decide +kernel
theorem dX2_pointsLike_20 : decode cX2_pointsLike 20 = .ok (.ifCond .ne 34, 3) := by decide +kernel
theorem dX2_pointsLike_23 : decode cX2_pointsLike 23 = .ok (.lload_n 2, 1) := by decide +kernel
theorem dX2_pointsLike_24 : decode cX2_pointsLike 24 = .ok (.iload_n 0, 1) := by decide +kernel
theorem dX2_pointsLike_25 : decode cX2_pointsLike 25 = .ok (.iload 4, 2) := by decide +kernel
theorem dX2_pointsLike_27 : decode cX2_pointsLike 27 = .ok (.ishr, 1) := by decide +kernel
theorem dX2_pointsLike_28 : decode cX2_pointsLike 28 = .ok (.iconst 1, 1) := by decide +kernel
theorem dX2_pointsLike_29 : decode cX2_pointsLike 29 = .ok (.iand, 1) := by decide +kernel
theorem dX2_pointsLike_30 : decode cX2_pointsLike 30 = .ok (.ifCond .eq 12, 3) := by decide +kernel
theorem dX2_pointsLike_33 : decode cX2_pointsLike 33 = .ok (.getstatic 17, 3) := by decide +kernel
theorem dX2_pointsLike_36 : decode cX2_pointsLike 36 = .ok (.iload 4, 2) := by decide +kernel
theorem dX2_pointsLike_38 : decode cX2_pointsLike 38 = .ok (.laload, 1) := by decide +kernel
theorem dX2_pointsLike_39 : decode cX2_pointsLike 39 = .ok (.goto 13, 3) := by decide +kernel
theorem dX2_pointsLike_42 : decode cX2_pointsLike 42 = .ok (.getstatic 17, 3) := by decide +kernel
theorem dX2_pointsLike_45 : decode cX2_pointsLike 45 = .ok (.iload 4, 2) := by decide +kernel
theorem dX2_pointsLike_47 : decode cX2_pointsLike 47 = .ok (.laload, 1) := by decide +kernel
theorem dX2_pointsLike_48 : decode cX2_pointsLike 48 = .ok (.ldc2_w 15, 3) := by decide +kernel
theorem dX2_pointsLike_51 : decode cX2_pointsLike 51 = .ok (.lxor, 1) := by decide +kernel
theorem dX2_pointsLike_52 : decode cX2_pointsLike 52 = .ok (.land, 1) := by decide +kernel
theorem dX2_pointsLike_53 : decode cX2_pointsLike 53 = .ok (.lstore_n 2, 1) := by decide +kernel
theorem dX2_pointsLike_54 : decode cX2_pointsLike 54 = .ok (.iinc 4 1, 3) := by decide +kernel
theorem dX2_pointsLike_57 : decode cX2_pointsLike 57 = .ok (.goto (-50), 3) := by decide +kernel
theorem dX2_pointsLike_60 : decode cX2_pointsLike 60 = .ok (.lload_n 2, 1) := by decide +kernel
theorem dX2_pointsLike_61 : decode cX2_pointsLike 61 = .ok (.lreturn, 1) := by decide +kernel
theorem dX2_digitOf_0 : decode cX2_digitOf 0 = .ok (.iload_n 0, 1) := by decide +kernel
theorem dX2_digitOf_1 : decode cX2_digitOf 1 = .ok (.istore_n 2, 1) := by decide +kernel
theorem dX2_digitOf_2 : decode cX2_digitOf 2 = .ok (.iconst 5, 1) := by decide +kernel
theorem dX2_digitOf_3 : decode cX2_digitOf 3 = .ok (.istore_n 3, 1) := by decide +kernel
theorem dX2_digitOf_4 : decode cX2_digitOf 4 = .ok (.iload_n 3, 1) := by decide +kernel
theorem dX2_digitOf_5 : decode cX2_digitOf 5 = .ok (.iload_n 1, 1) := by decide +kernel
theorem dX2_digitOf_6 : decode cX2_digitOf 6 = .ok (.if_icmp .le 13, 3) := by decide +kernel
theorem dX2_digitOf_9 : decode cX2_digitOf 9 = .ok (.iload_n 2, 1) := by decide +kernel
theorem dX2_digitOf_10 : decode cX2_digitOf 10 = .ok (.iconst 3, 1) := by decide +kernel
theorem dX2_digitOf_11 : decode cX2_digitOf 11 = .ok (.idiv, 1) := by decide +kernel
theorem dX2_digitOf_12 : decode cX2_digitOf 12 = .ok (.istore_n 2, 1) := by decide +kernel
theorem dX2_digitOf_13 : decode cX2_digitOf 13 = .ok (.iinc 3 (-1), 3) := by decide +kernel
theorem dX2_digitOf_16 : decode cX2_digitOf 16 = .ok (.goto (-12), 3) := by decide +kernel
theorem dX2_digitOf_19 : decode cX2_digitOf 19 = .ok (.iload_n 2, 1) := by decide +kernel
theorem dX2_digitOf_20 : decode cX2_digitOf 20 = .ok (.iconst 3, 1) := by decide +kernel
theorem dX2_digitOf_21 : decode cX2_digitOf 21 = .ok (.irem, 1) := by decide +kernel
theorem dX2_digitOf_22 : decode cX2_digitOf 22 = .ok (.ireturn, 1) := by decide +kernel
theorem dX3_init_0 : decode cX3_init 0 = .ok (.aload_n 0, 1) := by decide +kernel
theorem dX3_init_1 : decode cX3_init 1 = .ok (.invokespecial 3, 3) := by decide +kernel
theorem dX3_init_4 : decode cX3_init 4 = .ok (.aload_n 0, 1) := by decide +kernel
theorem dX3_init_5 : decode cX3_init 5 = .ok (.iconst 5, 1) := by decide +kernel
theorem dX3_init_6 : decode cX3_init 6 = .ok (.newarray .long, 2) := by decide +kernel
theorem dX3_init_8 : decode cX3_init 8 = .ok (.putfield 9, 3) := by decide +kernel
theorem dX3_init_11 : decode cX3_init 11 = .ok (.aload_n 0, 1) := by decide +kernel
theorem dX3_init_12 : decode cX3_init 12 = .ok (.iconst 5, 1) := by decide +kernel
theorem dX3_init_13 : decode cX3_init 13 = .ok (.newarray .long, 2) := by decide +kernel
theorem dX3_init_15 : decode cX3_init 15 = .ok (.putfield 15, 3) := by decide +kernel
theorem dX3_init_18 : decode cX3_init 18 = .ok (.return_, 1) := by decide +kernel
theorem dX3_clear_0 : decode cX3_clear 0 = .ok (.iconst 0, 1) := by decide +kernel
theorem dX3_clear_1 : decode cX3_clear 1 = .ok (.istore_n 1, 1) := by decide +kernel
theorem dX3_clear_2 : decode cX3_clear 2 = .ok (.iload_n 1, 1) := by decide +kernel
theorem dX3_clear_3 : decode cX3_clear 3 = .ok (.iconst 5, 1) := by decide +kernel
theorem dX3_clear_4 : decode cX3_clear 4 = .ok (.if_icmp .ge 23, 3) := by decide +kernel
theorem dX3_clear_7 : decode cX3_clear 7 = .ok (.aload_n 0, 1) := by decide +kernel
theorem dX3_clear_8 : decode cX3_clear 8 = .ok (.getfield 9, 3) := by decide +kernel
theorem dX3_clear_11 : decode cX3_clear 11 = .ok (.iload_n 1, 1) := by decide +kernel
theorem dX3_clear_12 : decode cX3_clear 12 = .ok (.lconst 0, 1) := by decide +kernel
theorem dX3_clear_13 : decode cX3_clear 13 = .ok (.lastore, 1) := by decide +kernel
theorem dX3_clear_14 : decode cX3_clear 14 = .ok (.aload_n 0, 1) := by decide +kernel
theorem dX3_clear_15 : decode cX3_clear 15 = .ok (.getfield 15, 3) := by decide +kernel
theorem dX3_clear_18 : decode cX3_clear 18 = .ok (.iload_n 1, 1) := by decide +kernel
theorem dX3_clear_19 : decode cX3_clear 19 = .ok (.lconst 0, 1) := by decide +kernel
theorem dX3_clear_20 : decode cX3_clear 20 = .ok (.lastore, 1) := by decide +kernel
theorem dX3_clear_21 : decode cX3_clear 21 = .ok (.iinc 1 1, 3) := by decide +kernel
theorem dX3_clear_24 : decode cX3_clear 24 = .ok (.goto (-22), 3) := by decide +kernel
theorem dX3_clear_27 : decode cX3_clear 27 = .ok (.return_, 1) := by decide +kernel
theorem dX3_takeFrom_0 : decode cX3_takeFrom 0 = .ok (.iconst 0, 1) := by decide +kernel
theorem dX3_takeFrom_1 : decode cX3_takeFrom 1 = .ok (.istore_n 2, 1) := by decide +kernel
theorem dX3_takeFrom_2 : decode cX3_takeFrom 2 = .ok (.iload_n 2, 1) := by decide +kernel
theorem dX3_takeFrom_3 : decode cX3_takeFrom 3 = .ok (.iconst 5, 1) := by decide +kernel
theorem dX3_takeFrom_4 : decode cX3_takeFrom 4 = .ok (.if_icmp .ge 33, 3) := by decide +kernel
theorem dX3_takeFrom_7 : decode cX3_takeFrom 7 = .ok (.aload_n 0, 1) := by decide +kernel
theorem dX3_takeFrom_8 : decode cX3_takeFrom 8 = .ok (.getfield 9, 3) := by decide +kernel
theorem dX3_takeFrom_11 : decode cX3_takeFrom 11 = .ok (.iload_n 2, 1) := by decide +kernel
theorem dX3_takeFrom_12 : decode cX3_takeFrom 12 = .ok (.aload_n 1, 1) := by decide +kernel
theorem dX3_takeFrom_13 : decode cX3_takeFrom 13 = .ok (.getfield 9, 3) := by decide +kernel
theorem dX3_takeFrom_16 : decode cX3_takeFrom 16 = .ok (.iload_n 2, 1) := by decide +kernel
theorem dX3_takeFrom_17 : decode cX3_takeFrom 17 = .ok (.laload, 1) := by decide +kernel
theorem dX3_takeFrom_18 : decode cX3_takeFrom 18 = .ok (.lastore, 1) := by decide +kernel
theorem dX3_takeFrom_19 : decode cX3_takeFrom 19 = .ok (.aload_n 0, 1) := by decide +kernel
theorem dX3_takeFrom_20 : decode cX3_takeFrom 20 = .ok (.getfield 15, 3) := by decide +kernel
theorem dX3_takeFrom_23 : decode cX3_takeFrom 23 = .ok (.iload_n 2, 1) := by decide +kernel
theorem dX3_takeFrom_24 : decode cX3_takeFrom 24 = .ok (.aload_n 1, 1) := by decide +kernel
theorem dX3_takeFrom_25 : decode cX3_takeFrom 25 = .ok (.getfield 15, 3) := by decide +kernel
theorem dX3_takeFrom_28 : decode cX3_takeFrom 28 = .ok (.iload_n 2, 1) := by decide +kernel
theorem dX3_takeFrom_29 : decode cX3_takeFrom 29 = .ok (.laload, 1) := by decide +kernel
theorem dX3_takeFrom_30 : decode cX3_takeFrom 30 = .ok (.lastore, 1) := by decide +kernel
theorem dX3_takeFrom_31 : decode cX3_takeFrom 31 = .ok (.iinc 2 1, 3) := by decide +kernel
theorem dX3_takeFrom_34 : decode cX3_takeFrom 34 = .ok (.goto (-32), 3) := by decide +kernel
theorem dX3_takeFrom_37 : decode cX3_takeFrom 37 = .ok (.return_, 1) := by decide +kernel
theorem dX3_zerosOf_0 : decode cX3_zerosOf 0 = .ok (.iload_n 1, 1) := by decide +kernel
theorem dX3_zerosOf_1 : decode cX3_zerosOf 1 = .ok (.ifCond .lt 17, 3) := by decide +kernel
theorem dX3_zerosOf_4 : decode cX3_zerosOf 4 = .ok (.iload_n 1, 1) := by decide +kernel
theorem dX3_zerosOf_5 : decode cX3_zerosOf 5 = .ok (.iconst 5, 1) := by decide +kernel
theorem dX3_zerosOf_6 : decode cX3_zerosOf 6 = .ok (.if_icmp .ge 12, 3) := by decide +kernel
theorem dX3_zerosOf_9 : decode cX3_zerosOf 9 = .ok (.aload_n 0, 1) := by decide +kernel
theorem dX3_zerosOf_10 : decode cX3_zerosOf 10 = .ok (.getfield 9, 3) := by decide +kernel
theorem dX3_zerosOf_13 : decode cX3_zerosOf 13 = .ok (.iload_n 1, 1) := by decide +kernel
theorem dX3_zerosOf_14 : decode cX3_zerosOf 14 = .ok (.laload, 1) := by decide +kernel
theorem dX3_zerosOf_15 : decode cX3_zerosOf 15 = .ok (.goto 4, 3) := by decide +kernel
theorem dX3_zerosOf_18 : decode cX3_zerosOf 18 = .ok (.lconst 0, 1) := by decide +kernel
theorem dX3_zerosOf_19 : decode cX3_zerosOf 19 = .ok (.lreturn, 1) := by decide +kernel
theorem dX3_onesOf_0 : decode cX3_onesOf 0 = .ok (.iload_n 1, 1) := by decide +kernel
theorem dX3_onesOf_1 : decode cX3_onesOf 1 = .ok (.ifCond .lt 17, 3) := by decide +kernel
theorem dX3_onesOf_4 : decode cX3_onesOf 4 = .ok (.iload_n 1, 1) := by decide +kernel
theorem dX3_onesOf_5 : decode cX3_onesOf 5 = .ok (.iconst 5, 1) := by decide +kernel
theorem dX3_onesOf_6 : decode cX3_onesOf 6 = .ok (.if_icmp .ge 12, 3) := by decide +kernel
theorem dX3_onesOf_9 : decode cX3_onesOf 9 = .ok (.aload_n 0, 1) := by decide +kernel
theorem dX3_onesOf_10 : decode cX3_onesOf 10 = .ok (.getfield 15, 3) := by decide +kernel
theorem dX3_onesOf_13 : decode cX3_onesOf 13 = .ok (.iload_n 1, 1) := by decide +kernel
theorem dX3_onesOf_14 : decode cX3_onesOf 14 = .ok (.laload, 1) := by decide +kernel
theorem dX3_onesOf_15 : decode cX3_onesOf 15 = .ok (.goto 4, 3) := by decide +kernel
theorem dX3_onesOf_18 : decode cX3_onesOf 18 = .ok (.lconst 0, 1) := by decide +kernel
theorem dX3_onesOf_19 : decode cX3_onesOf 19 = .ok (.lreturn, 1) := by decide +kernel
theorem dX3_want_0 : decode cX3_want 0 = .ok (.iconst 0, 1) := by decide +kernel
theorem dX3_want_1 : decode cX3_want 1 = .ok (.istore 4, 2) := by decide +kernel
theorem dX3_want_3 : decode cX3_want 3 = .ok (.iload 4, 2) := by decide +kernel
theorem dX3_want_5 : decode cX3_want 5 = .ok (.iconst 5, 1) := by decide +kernel
theorem dX3_want_6 : decode cX3_want 6 = .ok (.if_icmp .ge 43, 3) := by decide +kernel
theorem dX3_want_9 : decode cX3_want 9 = .ok (.iload_n 1, 1) := by decide +kernel
theorem dX3_want_10 : decode cX3_want 10 = .ok (.iload 4, 2) := by decide +kernel
theorem dX3_want_12 : decode cX3_want 12 = .ok (.ishr, 1) := by decide +kernel
theorem dX3_want_13 : decode cX3_want 13 = .ok (.iconst 1, 1) := by decide +kernel
theorem dX3_want_14 : decode cX3_want 14 = .ok (.iand, 1) := by decide +kernel
theorem dX3_want_15 : decode cX3_want 15 = .ok (.ifCond .eq 17, 3) := by decide +kernel
theorem dX3_want_18 : decode cX3_want 18 = .ok (.aload_n 0, 1) := by decide +kernel
theorem dX3_want_19 : decode cX3_want 19 = .ok (.getfield 15, 3) := by decide +kernel
theorem dX3_want_22 : decode cX3_want 22 = .ok (.iload 4, 2) := by decide +kernel
theorem dX3_want_24 : decode cX3_want 24 = .ok (.dup2, 1) := by decide +kernel
theorem dX3_want_25 : decode cX3_want 25 = .ok (.laload, 1) := by decide +kernel
theorem dX3_want_26 : decode cX3_want 26 = .ok (.lload_n 2, 1) := by decide +kernel
theorem dX3_want_27 : decode cX3_want 27 = .ok (.lor, 1) := by decide +kernel
theorem dX3_want_28 : decode cX3_want 28 = .ok (.lastore, 1) := by decide +kernel
theorem dX3_want_29 : decode cX3_want 29 = .ok (.goto 14, 3) := by decide +kernel
theorem dX3_want_32 : decode cX3_want 32 = .ok (.aload_n 0, 1) := by decide +kernel
theorem dX3_want_33 : decode cX3_want 33 = .ok (.getfield 9, 3) := by decide +kernel
theorem dX3_want_36 : decode cX3_want 36 = .ok (.iload 4, 2) := by decide +kernel
theorem dX3_want_38 : decode cX3_want 38 = .ok (.dup2, 1) := by decide +kernel
theorem dX3_want_39 : decode cX3_want 39 = .ok (.laload, 1) := by decide +kernel
theorem dX3_want_40 : decode cX3_want 40 = .ok (.lload_n 2, 1) := by decide +kernel
theorem dX3_want_41 : decode cX3_want 41 = .ok (.lor, 1) := by decide +kernel
theorem dX3_want_42 : decode cX3_want 42 = .ok (.lastore, 1) := by decide +kernel
theorem dX3_want_43 : decode cX3_want 43 = .ok (.iinc 4 1, 3) := by decide +kernel
theorem dX3_want_46 : decode cX3_want 46 = .ok (.goto (-43), 3) := by decide +kernel
theorem dX3_want_49 : decode cX3_want 49 = .ok (.return_, 1) := by decide +kernel
theorem dX3_clash_0 : decode cX3_clash 0 = .ok (.iconst 0, 1) := by decide +kernel
theorem dX3_clash_1 : decode cX3_clash 1 = .ok (.istore_n 1, 1) := by decide +kernel
theorem dX3_clash_2 : decode cX3_clash 2 = .ok (.iload_n 1, 1) := by decide +kernel
theorem dX3_clash_3 : decode cX3_clash 3 = .ok (.iconst 5, 1) := by decide +kernel
theorem dX3_clash_4 : decode cX3_clash 4 = .ok (.if_icmp .ge 29, 3) := by decide +kernel
theorem dX3_clash_7 : decode cX3_clash 7 = .ok (.aload_n 0, 1) := by decide +kernel
theorem dX3_clash_8 : decode cX3_clash 8 = .ok (.getfield 9, 3) := by decide +kernel
theorem dX3_clash_11 : decode cX3_clash 11 = .ok (.iload_n 1, 1) := by decide +kernel
theorem dX3_clash_12 : decode cX3_clash 12 = .ok (.laload, 1) := by decide +kernel
theorem dX3_clash_13 : decode cX3_clash 13 = .ok (.aload_n 0, 1) := by decide +kernel
theorem dX3_clash_14 : decode cX3_clash 14 = .ok (.getfield 15, 3) := by decide +kernel
theorem dX3_clash_17 : decode cX3_clash 17 = .ok (.iload_n 1, 1) := by decide +kernel
theorem dX3_clash_18 : decode cX3_clash 18 = .ok (.laload, 1) := by decide +kernel
theorem dX3_clash_19 : decode cX3_clash 19 = .ok (.land, 1) := by decide +kernel
theorem dX3_clash_20 : decode cX3_clash 20 = .ok (.lconst 0, 1) := by decide +kernel
theorem dX3_clash_21 : decode cX3_clash 21 = .ok (.lcmp, 1) := by decide +kernel
theorem dX3_clash_22 : decode cX3_clash 22 = .ok (.ifCond .eq 5, 3) := by decide +kernel
theorem dX3_clash_25 : decode cX3_clash 25 = .ok (.iconst 1, 1) := by decide +kernel
theorem dX3_clash_26 : decode cX3_clash 26 = .ok (.ireturn, 1) := by decide +kernel
theorem dX3_clash_27 : decode cX3_clash 27 = .ok (.iinc 1 1, 3) := by decide +kernel
theorem dX3_clash_30 : decode cX3_clash 30 = .ok (.goto (-28), 3) := by decide +kernel
theorem dX3_clash_33 : decode cX3_clash 33 = .ok (.iconst 0, 1) := by decide +kernel
theorem dX3_clash_34 : decode cX3_clash 34 = .ok (.ireturn, 1) := by decide +kernel
theorem dX4_init_0 : decode cX4_init 0 = .ok (.aload_n 0, 1) := by decide +kernel
theorem dX4_init_1 : decode cX4_init 1 = .ok (.invokespecial 3, 3) := by decide +kernel
theorem dX4_init_4 : decode cX4_init 4 = .ok (.aload_n 0, 1) := by decide +kernel
theorem dX4_init_5 : decode cX4_init 5 = .ok (.sipush 240, 3) := by decide +kernel
theorem dX4_init_8 : decode cX4_init 8 = .ok (.newarray .long, 2) := by decide +kernel
theorem dX4_init_10 : decode cX4_init 10 = .ok (.putfield 11, 3) := by decide +kernel
theorem dX4_init_13 : decode cX4_init 13 = .ok (.aload_n 0, 1) := by decide +kernel
theorem dX4_init_14 : decode cX4_init 14 = .ok (.bipush 33, 2) := by decide +kernel
theorem dX4_init_16 : decode cX4_init 16 = .ok (.newarray .long, 2) := by decide +kernel
theorem dX4_init_18 : decode cX4_init 18 = .ok (.putfield 17, 3) := by decide +kernel
theorem dX4_init_21 : decode cX4_init 21 = .ok (.return_, 1) := by decide +kernel
theorem dX4_forget_0 : decode cX4_forget 0 = .ok (.aload_n 0, 1) := by decide +kernel
theorem dX4_forget_1 : decode cX4_forget 1 = .ok (.iload_n 1, 1) := by decide +kernel
theorem dX4_forget_2 : decode cX4_forget 2 = .ok (.putfield 20, 3) := by decide +kernel
theorem dX4_forget_5 : decode cX4_forget 5 = .ok (.aload_n 0, 1) := by decide +kernel
theorem dX4_forget_6 : decode cX4_forget 6 = .ok (.iconst 0, 1) := by decide +kernel
theorem dX4_forget_7 : decode cX4_forget 7 = .ok (.putfield 24, 3) := by decide +kernel
theorem dX4_forget_10 : decode cX4_forget 10 = .ok (.return_, 1) := by decide +kernel
theorem dX4_take_0 : decode cX4_take 0 = .ok (.aload_n 0, 1) := by decide +kernel
theorem dX4_take_1 : decode cX4_take 1 = .ok (.getfield 24, 3) := by decide +kernel
theorem dX4_take_4 : decode cX4_take 4 = .ok (.ifCond .lt 33, 3) := by decide +kernel
theorem dX4_take_7 : decode cX4_take 7 = .ok (.aload_n 0, 1) := by decide +kernel
theorem dX4_take_8 : decode cX4_take 8 = .ok (.getfield 24, 3) := by decide +kernel
theorem dX4_take_11 : decode cX4_take 11 = .ok (.sipush 240, 3) := by decide +kernel
theorem dX4_take_14 : decode cX4_take 14 = .ok (.if_icmp .ge 23, 3) := by decide +kernel
theorem dX4_take_17 : decode cX4_take 17 = .ok (.aload_n 0, 1) := by decide +kernel
theorem dX4_take_18 : decode cX4_take 18 = .ok (.getfield 11, 3) := by decide +kernel
theorem dX4_take_21 : decode cX4_take 21 = .ok (.aload_n 0, 1) := by decide +kernel
theorem dX4_take_22 : decode cX4_take 22 = .ok (.getfield 24, 3) := by decide +kernel
theorem dX4_take_25 : decode cX4_take 25 = .ok (.lload_n 1, 1) := by decide +kernel
theorem dX4_take_26 : decode cX4_take 26 = .ok (.lastore, 1) := by decide +kernel
theorem dX4_take_27 : decode cX4_take 27 = .ok (.aload_n 0, 1) := by decide +kernel
theorem dX4_take_28 : decode cX4_take 28 = .ok (.dup, 1) := by decide +kernel
theorem dX4_take_29 : decode cX4_take 29 = .ok (.getfield 24, 3) := by decide +kernel
theorem dX4_take_32 : decode cX4_take 32 = .ok (.iconst 1, 1) := by decide +kernel
theorem dX4_take_33 : decode cX4_take 33 = .ok (.iadd, 1) := by decide +kernel
theorem dX4_take_34 : decode cX4_take 34 = .ok (.putfield 24, 3) := by decide +kernel
theorem dX4_take_37 : decode cX4_take 37 = .ok (.return_, 1) := by decide +kernel
theorem dX4_heldBy_0 : decode cX4_heldBy 0 = .ok (.iload_n 1, 1) := by decide +kernel
theorem dX4_heldBy_1 : decode cX4_heldBy 1 = .ok (.ifCond .lt 19, 3) := by decide +kernel
theorem dX4_heldBy_4 : decode cX4_heldBy 4 = .ok (.iload_n 1, 1) := by decide +kernel
theorem dX4_heldBy_5 : decode cX4_heldBy 5 = .ok (.sipush 240, 3) := by decide +kernel
theorem dX4_heldBy_8 : decode cX4_heldBy 8 = .ok (.if_icmp .ge 12, 3) := by decide +kernel
theorem dX4_heldBy_11 : decode cX4_heldBy 11 = .ok (.aload_n 0, 1) := by decide +kernel
theorem dX4_heldBy_12 : decode cX4_heldBy 12 = .ok (.getfield 11, 3) := by decide +kernel
theorem dX4_heldBy_15 : decode cX4_heldBy 15 = .ok (.iload_n 1, 1) := by decide +kernel
theorem dX4_heldBy_16 : decode cX4_heldBy 16 = .ok (.laload, 1) := by decide +kernel
theorem dX4_heldBy_17 : decode cX4_heldBy 17 = .ok (.goto 4, 3) := by decide +kernel
theorem dX4_heldBy_20 : decode cX4_heldBy 20 = .ok (.lconst 0, 1) := by decide +kernel
theorem dX4_heldBy_21 : decode cX4_heldBy 21 = .ok (.lreturn, 1) := by decide +kernel
theorem dX4_holdersOf_0 : decode cX4_holdersOf 0 = .ok (.iconst 0, 1) := by decide +kernel
theorem dX4_holdersOf_1 : decode cX4_holdersOf 1 = .ok (.istore_n 3, 1) := by decide +kernel
theorem dX4_holdersOf_2 : decode cX4_holdersOf 2 = .ok (.iconst 0, 1) := by decide +kernel
theorem dX4_holdersOf_3 : decode cX4_holdersOf 3 = .ok (.istore 4, 2) := by decide +kernel
theorem dX4_holdersOf_5 : decode cX4_holdersOf 5 = .ok (.iload 4, 2) := by decide +kernel
theorem dX4_holdersOf_7 : decode cX4_holdersOf 7 = .ok (.aload_n 0, 1) := by decide +kernel
theorem dX4_holdersOf_8 : decode cX4_holdersOf 8 = .ok (.getfield 24, 3) := by decide +kernel
theorem dX4_holdersOf_11 : decode cX4_holdersOf 11 = .ok (.if_icmp .ge 25, 3) := by decide +kernel
theorem dX4_holdersOf_14 : decode cX4_holdersOf 14 = .ok (.aload_n 0, 1) := by decide +kernel
theorem dX4_holdersOf_15 : decode cX4_holdersOf 15 = .ok (.iload 4, 2) := by decide +kernel
theorem dX4_holdersOf_17 : decode cX4_holdersOf 17 = .ok (.invokevirtual 27, 3) := by decide +kernel
theorem dX4_holdersOf_20 : decode cX4_holdersOf 20 = .ok (.lload_n 1, 1) := by decide +kernel
theorem dX4_holdersOf_21 : decode cX4_holdersOf 21 = .ok (.land, 1) := by decide +kernel
theorem dX4_holdersOf_22 : decode cX4_holdersOf 22 = .ok (.lconst 0, 1) := by decide +kernel
theorem dX4_holdersOf_23 : decode cX4_holdersOf 23 = .ok (.lcmp, 1) := by decide +kernel
theorem dX4_holdersOf_24 : decode cX4_holdersOf 24 = .ok (.ifCond .eq 6, 3) := by decide +kernel
theorem dX4_holdersOf_27 : decode cX4_holdersOf 27 = .ok (.iinc 3 1, 3) := by decide +kernel
theorem dX4_holdersOf_30 : decode cX4_holdersOf 30 = .ok (.iinc 4 1, 3) := by decide +kernel
theorem dX4_holdersOf_33 : decode cX4_holdersOf 33 = .ok (.goto (-28), 3) := by decide +kernel
theorem dX4_holdersOf_36 : decode cX4_holdersOf 36 = .ok (.iload_n 3, 1) := by decide +kernel
theorem dX4_holdersOf_37 : decode cX4_holdersOf 37 = .ok (.ireturn, 1) := by decide +kernel
theorem dX4_countNeeded_0 : decode cX4_countNeeded 0 = .ok (.lconst 0, 1) := by decide +kernel
theorem dX4_countNeeded_1 : decode cX4_countNeeded 1 = .ok (.lstore_n 1, 1) := by decide +kernel
theorem dX4_countNeeded_2 : decode cX4_countNeeded 2 = .ok (.iconst 0, 1) := by decide +kernel
theorem dX4_countNeeded_3 : decode cX4_countNeeded 3 = .ok (.istore_n 3, 1) := by decide +kernel
theorem dX4_countNeeded_4 : decode cX4_countNeeded 4 = .ok (.iload_n 3, 1) := by decide +kernel
theorem dX4_countNeeded_5 : decode cX4_countNeeded 5 = .ok (.aload_n 0, 1) := by decide +kernel
theorem dX4_countNeeded_6 : decode cX4_countNeeded 6 = .ok (.getfield 20, 3) := by decide +kernel
theorem dX4_countNeeded_9 : decode cX4_countNeeded 9 = .ok (.if_icmp .ge 26, 3) := by decide +kernel
theorem dX4_countNeeded_12 : decode cX4_countNeeded 12 = .ok (.aload_n 0, 1) := by decide +kernel
theorem dX4_countNeeded_13 : decode cX4_countNeeded 13 = .ok (.lconst 1, 1) := by decide +kernel
theorem dX4_countNeeded_14 : decode cX4_countNeeded 14 = .ok (.iload_n 3, 1) := by decide +kernel
theorem dX4_countNeeded_15 : decode cX4_countNeeded 15 = .ok (.lshl, 1) := by decide +kernel
theorem dX4_countNeeded_16 : decode cX4_countNeeded 16 = .ok (.invokevirtual 31, 3) := by decide +kernel
theorem dX4_countNeeded_19 : decode cX4_countNeeded 19 = .ok (.iconst 1, 1) := by decide +kernel
theorem dX4_countNeeded_20 : decode cX4_countNeeded 20 = .ok (.if_icmp .ne 9, 3) := by decide +kernel
theorem dX4_countNeeded_23 : decode cX4_countNeeded 23 = .ok (.lload_n 1, 1) := by decide +kernel
theorem dX4_countNeeded_24 : decode cX4_countNeeded 24 = .ok (.lconst 1, 1) := by decide +kernel
theorem dX4_countNeeded_25 : decode cX4_countNeeded 25 = .ok (.iload_n 3, 1) := by decide +kernel
theorem dX4_countNeeded_26 : decode cX4_countNeeded 26 = .ok (.lshl, 1) := by decide +kernel
theorem dX4_countNeeded_27 : decode cX4_countNeeded 27 = .ok (.lor, 1) := by decide +kernel
theorem dX4_countNeeded_28 : decode cX4_countNeeded 28 = .ok (.lstore_n 1, 1) := by decide +kernel
theorem dX4_countNeeded_29 : decode cX4_countNeeded 29 = .ok (.iinc 3 1, 3) := by decide +kernel
theorem dX4_countNeeded_32 : decode cX4_countNeeded 32 = .ok (.goto (-28), 3) := by decide +kernel
theorem dX4_countNeeded_35 : decode cX4_countNeeded 35 = .ok (.aload_n 0, 1) := by decide +kernel
theorem dX4_countNeeded_36 : decode cX4_countNeeded 36 = .ok (.lload_n 1, 1) := by decide +kernel
theorem dX4_countNeeded_37 : decode cX4_countNeeded 37 = .ok (.invokevirtual 31, 3) := by decide +kernel
theorem dX4_countNeeded_40 : decode cX4_countNeeded 40 = .ok (.ireturn, 1) := by decide +kernel
theorem dX4_firstLacking_0 : decode cX4_firstLacking 0 = .ok (.iconst 0, 1) := by decide +kernel
theorem dX4_firstLacking_1 : decode cX4_firstLacking 1 = .ok (.istore_n 1, 1) := by decide +kernel
theorem dX4_firstLacking_2 : decode cX4_firstLacking 2 = .ok (.iload_n 1, 1) := by decide +kernel
theorem dX4_firstLacking_3 : decode cX4_firstLacking 3 = .ok (.aload_n 0, 1) := by decide +kernel
theorem dX4_firstLacking_4 : decode cX4_firstLacking 4 = .ok (.getfield 20, 3) := by decide +kernel
theorem dX4_firstLacking_7 : decode cX4_firstLacking 7 = .ok (.if_icmp .ge 21, 3) := by decide +kernel
theorem dX4_firstLacking_10 : decode cX4_firstLacking 10 = .ok (.aload_n 0, 1) := by decide +kernel
theorem dX4_firstLacking_11 : decode cX4_firstLacking 11 = .ok (.lconst 1, 1) := by decide +kernel
theorem dX4_firstLacking_12 : decode cX4_firstLacking 12 = .ok (.iload_n 1, 1) := by decide +kernel
theorem dX4_firstLacking_13 : decode cX4_firstLacking 13 = .ok (.lshl, 1) := by decide +kernel
theorem dX4_firstLacking_14 : decode cX4_firstLacking 14 = .ok (.invokevirtual 31, 3) := by decide +kernel
theorem dX4_firstLacking_17 : decode cX4_firstLacking 17 = .ok (.ifCond .ne 5, 3) := by decide +kernel
theorem dX4_firstLacking_20 : decode cX4_firstLacking 20 = .ok (.iload_n 1, 1) := by decide +kernel
theorem dX4_firstLacking_21 : decode cX4_firstLacking 21 = .ok (.ireturn, 1) := by decide +kernel
theorem dX4_firstLacking_22 : decode cX4_firstLacking 22 = .ok (.iinc 1 1, 3) := by decide +kernel
theorem dX4_firstLacking_25 : decode cX4_firstLacking 25 = .ok (.goto (-23), 3) := by decide +kernel
theorem dX4_firstLacking_28 : decode cX4_firstLacking 28 = .ok (.bipush (-2), 2) := by decide +kernel
theorem dX4_firstLacking_30 : decode cX4_firstLacking 30 = .ok (.ireturn, 1) := by decide +kernel
theorem dX4_leastRow_0 : decode cX4_leastRow 0 = .ok (.aload_n 0, 1) := by decide +kernel
theorem dX4_leastRow_1 : decode cX4_leastRow 1 = .ok (.invokevirtual 35, 3) := by decide +kernel
theorem dX4_leastRow_4 : decode cX4_leastRow 4 = .ok (.lconst 1, 1) := by decide +kernel
theorem dX4_leastRow_5 : decode cX4_leastRow 5 = .ok (.aload_n 0, 1) := by decide +kernel
theorem dX4_leastRow_6 : decode cX4_leastRow 6 = .ok (.getfield 20, 3) := by decide +kernel
theorem dX4_leastRow_9 : decode cX4_leastRow 9 = .ok (.lshl, 1) := by decide +kernel
theorem dX4_leastRow_10 : decode cX4_leastRow 10 = .ok (.lconst 1, 1) := by decide +kernel
theorem dX4_leastRow_11 : decode cX4_leastRow 11 = .ok (.lsub, 1) := by decide +kernel
theorem dX4_leastRow_12 : decode cX4_leastRow 12 = .ok (.lstore_n 2, 1) := by decide +kernel
theorem dX4_leastRow_13 : decode cX4_leastRow 13 = .ok (.iconst 0, 1) := by decide +kernel
theorem dX4_leastRow_14 : decode cX4_leastRow 14 = .ok (.istore 4, 2) := by decide +kernel
theorem dX4_leastRow_16 : decode cX4_leastRow 16 = .ok (.iload 4, 2) := by decide +kernel
theorem dX4_leastRow_18 : decode cX4_leastRow 18 = .ok (.iconst 5, 1) := by decide +kernel
theorem dX4_leastRow_19 : decode cX4_leastRow 19 = .ok (.if_icmp .gt 20, 3) := by decide +kernel
theorem dX4_leastRow_22 : decode cX4_leastRow 22 = .ok (.aload_n 0, 1) := by decide +kernel
theorem dX4_leastRow_23 : decode cX4_leastRow 23 = .ok (.lload_n 2, 1) := by decide +kernel
theorem dX4_leastRow_24 : decode cX4_leastRow 24 = .ok (.iload 4, 2) := by decide +kernel
theorem dX4_leastRow_26 : decode cX4_leastRow 26 = .ok (.iconst 0, 1) := by decide +kernel
theorem dX4_leastRow_27 : decode cX4_leastRow 27 = .ok (.invokevirtual 38, 3) := by decide +kernel
theorem dX4_leastRow_30 : decode cX4_leastRow 30 = .ok (.ifCond .ne 9, 3) := by decide +kernel
theorem dX4_leastRow_33 : decode cX4_leastRow 33 = .ok (.iinc 4 1, 3) := by decide +kernel
theorem dX4_leastRow_36 : decode cX4_leastRow 36 = .ok (.goto (-20), 3) := by decide +kernel
theorem dX4_leastRow_39 : decode cX4_leastRow 39 = .ok (.iconst 0, 1) := by decide +kernel
theorem dX4_leastRow_40 : decode cX4_leastRow 40 = .ok (.istore 5, 2) := by decide +kernel
theorem dX4_leastRow_42 : decode cX4_leastRow 42 = .ok (.iconst 0, 1) := by decide +kernel
theorem dX4_leastRow_43 : decode cX4_leastRow 43 = .ok (.istore 6, 2) := by decide +kernel
theorem dX4_leastRow_45 : decode cX4_leastRow 45 = .ok (.iload 6, 2) := by decide +kernel
theorem dX4_leastRow_47 : decode cX4_leastRow 47 = .ok (.aload_n 0, 1) := by decide +kernel
theorem dX4_leastRow_48 : decode cX4_leastRow 48 = .ok (.getfield 24, 3) := by decide +kernel
theorem dX4_leastRow_51 : decode cX4_leastRow 51 = .ok (.if_icmp .ge 89, 3) := by decide +kernel
theorem dX4_leastRow_54 : decode cX4_leastRow 54 = .ok (.iload 5, 2) := by decide +kernel
theorem dX4_leastRow_56 : decode cX4_leastRow 56 = .ok (.iload 4, 2) := by decide +kernel
theorem dX4_leastRow_58 : decode cX4_leastRow 58 = .ok (.if_icmp .ge 82, 3) := by decide +kernel
theorem dX4_leastRow_61 : decode cX4_leastRow 61 = .ok (.iload 4, 2) := by decide +kernel
theorem dX4_leastRow_63 : decode cX4_leastRow 63 = .ok (.iconst 5, 1) := by decide +kernel
theorem dX4_leastRow_64 : decode cX4_leastRow 64 = .ok (.if_icmp .gt 76, 3) := by decide +kernel
theorem dX4_leastRow_67 : decode cX4_leastRow 67 = .ok (.aload_n 0, 1) := by decide +kernel
theorem dX4_leastRow_68 : decode cX4_leastRow 68 = .ok (.iload 6, 2) := by decide +kernel
theorem dX4_leastRow_70 : decode cX4_leastRow 70 = .ok (.invokevirtual 27, 3) := by decide +kernel
theorem dX4_leastRow_73 : decode cX4_leastRow 73 = .ok (.lload_n 2, 1) := by decide +kernel
theorem dX4_leastRow_74 : decode cX4_leastRow 74 = .ok (.land, 1) := by decide +kernel
theorem dX4_leastRow_75 : decode cX4_leastRow 75 = .ok (.lconst 0, 1) := by decide +kernel
theorem dX4_leastRow_76 : decode cX4_leastRow 76 = .ok (.lcmp, 1) := by decide +kernel
theorem dX4_leastRow_77 : decode cX4_leastRow 77 = .ok (.ifCond .eq 57, 3) := by decide +kernel
theorem dX4_leastRow_80 : decode cX4_leastRow 80 = .ok (.aload_n 0, 1) := by decide +kernel
theorem dX4_leastRow_81 : decode cX4_leastRow 81 = .ok (.lload_n 2, 1) := by decide +kernel
theorem dX4_leastRow_82 : decode cX4_leastRow 82 = .ok (.aload_n 0, 1) := by decide +kernel
theorem dX4_leastRow_83 : decode cX4_leastRow 83 = .ok (.iload 6, 2) := by decide +kernel
theorem dX4_leastRow_85 : decode cX4_leastRow 85 = .ok (.invokevirtual 27, 3) := by decide +kernel
theorem dX4_leastRow_88 : decode cX4_leastRow 88 = .ok (.ldc2_w 42, 3) := by decide +kernel
theorem dX4_leastRow_91 : decode cX4_leastRow 91 = .ok (.lxor, 1) := by decide +kernel
theorem dX4_leastRow_92 : decode cX4_leastRow 92 = .ok (.land, 1) := by decide +kernel
theorem dX4_leastRow_93 : decode cX4_leastRow 93 = .ok (.iload 4, 2) := by decide +kernel
theorem dX4_leastRow_95 : decode cX4_leastRow 95 = .ok (.iload 5, 2) := by decide +kernel
theorem dX4_leastRow_97 : decode cX4_leastRow 97 = .ok (.isub, 1) := by decide +kernel
theorem dX4_leastRow_98 : decode cX4_leastRow 98 = .ok (.iconst 1, 1) := by decide +kernel
theorem dX4_leastRow_99 : decode cX4_leastRow 99 = .ok (.isub, 1) := by decide +kernel
theorem dX4_leastRow_100 : decode cX4_leastRow 100 = .ok (.iload 6, 2) := by decide +kernel
theorem dX4_leastRow_102 : decode cX4_leastRow 102 = .ok (.iconst 1, 1) := by decide +kernel
theorem dX4_leastRow_103 : decode cX4_leastRow 103 = .ok (.iadd, 1) := by decide +kernel
theorem dX4_leastRow_104 : decode cX4_leastRow 104 = .ok (.invokevirtual 38, 3) := by decide +kernel
theorem dX4_leastRow_107 : decode cX4_leastRow 107 = .ok (.ifCond .eq 27, 3) := by decide +kernel
theorem dX4_leastRow_110 : decode cX4_leastRow 110 = .ok (.aload_n 1, 1) := by decide +kernel
theorem dX4_leastRow_111 : decode cX4_leastRow 111 = .ok (.iload 5, 2) := by decide +kernel
theorem dX4_leastRow_113 : decode cX4_leastRow 113 = .ok (.iload 6, 2) := by decide +kernel
theorem dX4_leastRow_115 : decode cX4_leastRow 115 = .ok (.invokestatic 44, 3) := by decide +kernel
theorem dX4_leastRow_118 : decode cX4_leastRow 118 = .ok (.lload_n 2, 1) := by decide +kernel
theorem dX4_leastRow_119 : decode cX4_leastRow 119 = .ok (.aload_n 0, 1) := by decide +kernel
theorem dX4_leastRow_120 : decode cX4_leastRow 120 = .ok (.iload 6, 2) := by decide +kernel
theorem dX4_leastRow_122 : decode cX4_leastRow 122 = .ok (.invokevirtual 27, 3) := by decide +kernel
theorem dX4_leastRow_125 : decode cX4_leastRow 125 = .ok (.ldc2_w 42, 3) := by decide +kernel
theorem dX4_leastRow_128 : decode cX4_leastRow 128 = .ok (.lxor, 1) := by decide +kernel
theorem dX4_leastRow_129 : decode cX4_leastRow 129 = .ok (.land, 1) := by decide +kernel
theorem dX4_leastRow_130 : decode cX4_leastRow 130 = .ok (.lstore_n 2, 1) := by decide +kernel
theorem dX4_leastRow_131 : decode cX4_leastRow 131 = .ok (.iinc 5 1, 3) := by decide +kernel
theorem dX4_leastRow_134 : decode cX4_leastRow 134 = .ok (.iinc 6 1, 3) := by decide +kernel
theorem dX4_leastRow_137 : decode cX4_leastRow 137 = .ok (.goto (-92), 3) := by decide +kernel
theorem dX4_leastRow_140 : decode cX4_leastRow 140 = .ok (.iload 4, 2) := by decide +kernel
theorem dX4_leastRow_142 : decode cX4_leastRow 142 = .ok (.ireturn, 1) := by decide +kernel
theorem dX4_sortByRarity_0 : decode cX4_sortByRarity 0 = .ok (.iconst 0, 1) := by decide +kernel
theorem dX4_sortByRarity_1 : decode cX4_sortByRarity 1 = .ok (.istore_n 1, 1) := by decide +kernel
theorem dX4_sortByRarity_2 : decode cX4_sortByRarity 2 = .ok (.iload_n 1, 1) := by decide +kernel
theorem dX4_sortByRarity_3 : decode cX4_sortByRarity 3 = .ok (.aload_n 0, 1) := by decide +kernel
theorem dX4_sortByRarity_4 : decode cX4_sortByRarity 4 = .ok (.getfield 20, 3) := by decide +kernel
theorem dX4_sortByRarity_7 : decode cX4_sortByRarity 7 = .ok (.if_icmp .ge 82, 3) := by decide +kernel
theorem dX4_sortByRarity_10 : decode cX4_sortByRarity 10 = .ok (.iload_n 1, 1) := by decide +kernel
theorem dX4_sortByRarity_11 : decode cX4_sortByRarity 11 = .ok (.bipush 33, 2) := by decide +kernel
theorem dX4_sortByRarity_13 : decode cX4_sortByRarity 13 = .ok (.if_icmp .ge 76, 3) := by decide +kernel
theorem dX4_sortByRarity_16 : decode cX4_sortByRarity 16 = .ok (.lconst 1, 1) := by decide +kernel
theorem dX4_sortByRarity_17 : decode cX4_sortByRarity 17 = .ok (.iload_n 1, 1) := by decide +kernel
theorem dX4_sortByRarity_18 : decode cX4_sortByRarity 18 = .ok (.lshl, 1) := by decide +kernel
theorem dX4_sortByRarity_19 : decode cX4_sortByRarity 19 = .ok (.lstore_n 2, 1) := by decide +kernel
theorem dX4_sortByRarity_20 : decode cX4_sortByRarity 20 = .ok (.aload_n 0, 1) := by decide +kernel
theorem dX4_sortByRarity_21 : decode cX4_sortByRarity 21 = .ok (.lload_n 2, 1) := by decide +kernel
theorem dX4_sortByRarity_22 : decode cX4_sortByRarity 22 = .ok (.invokevirtual 31, 3) := by decide +kernel
theorem dX4_sortByRarity_25 : decode cX4_sortByRarity 25 = .ok (.istore 4, 2) := by decide +kernel
theorem dX4_sortByRarity_27 : decode cX4_sortByRarity 27 = .ok (.iload_n 1, 1) := by decide +kernel
theorem dX4_sortByRarity_28 : decode cX4_sortByRarity 28 = .ok (.istore 5, 2) := by decide +kernel
theorem dX4_sortByRarity_30 : decode cX4_sortByRarity 30 = .ok (.iload 5, 2) := by decide +kernel
theorem dX4_sortByRarity_32 : decode cX4_sortByRarity 32 = .ok (.ifCond .le 43, 3) := by decide +kernel
theorem dX4_sortByRarity_35 : decode cX4_sortByRarity 35 = .ok (.aload_n 0, 1) := by decide +kernel
theorem dX4_sortByRarity_36 : decode cX4_sortByRarity 36 = .ok (.aload_n 0, 1) := by decide +kernel
theorem dX4_sortByRarity_37 : decode cX4_sortByRarity 37 = .ok (.getfield 17, 3) := by decide +kernel
theorem dX4_sortByRarity_40 : decode cX4_sortByRarity 40 = .ok (.iload 5, 2) := by decide +kernel
theorem dX4_sortByRarity_42 : decode cX4_sortByRarity 42 = .ok (.iconst 1, 1) := by decide +kernel
theorem dX4_sortByRarity_43 : decode cX4_sortByRarity 43 = .ok (.isub, 1) := by decide +kernel
theorem dX4_sortByRarity_44 : decode cX4_sortByRarity 44 = .ok (.laload, 1) := by decide +kernel
theorem dX4_sortByRarity_45 : decode cX4_sortByRarity 45 = .ok (.invokevirtual 31, 3) := by decide +kernel
theorem dX4_sortByRarity_48 : decode cX4_sortByRarity 48 = .ok (.iload 4, 2) := by decide +kernel
theorem dX4_sortByRarity_50 : decode cX4_sortByRarity 50 = .ok (.if_icmp .le 25, 3) := by decide +kernel
theorem dX4_sortByRarity_53 : decode cX4_sortByRarity 53 = .ok (.aload_n 0, 1) := by decide +kernel
theorem dX4_sortByRarity_54 : decode cX4_sortByRarity 54 = .ok (.getfield 17, 3) := by decide +kernel
theorem dX4_sortByRarity_57 : decode cX4_sortByRarity 57 = .ok (.iload 5, 2) := by decide +kernel
theorem dX4_sortByRarity_59 : decode cX4_sortByRarity 59 = .ok (.aload_n 0, 1) := by decide +kernel
theorem dX4_sortByRarity_60 : decode cX4_sortByRarity 60 = .ok (.getfield 17, 3) := by decide +kernel
theorem dX4_sortByRarity_63 : decode cX4_sortByRarity 63 = .ok (.iload 5, 2) := by decide +kernel
theorem dX4_sortByRarity_65 : decode cX4_sortByRarity 65 = .ok (.iconst 1, 1) := by decide +kernel
theorem dX4_sortByRarity_66 : decode cX4_sortByRarity 66 = .ok (.isub, 1) := by decide +kernel
theorem dX4_sortByRarity_67 : decode cX4_sortByRarity 67 = .ok (.laload, 1) := by decide +kernel
theorem dX4_sortByRarity_68 : decode cX4_sortByRarity 68 = .ok (.lastore, 1) := by decide +kernel
theorem dX4_sortByRarity_69 : decode cX4_sortByRarity 69 = .ok (.iinc 5 (-1), 3) := by decide +kernel
theorem dX4_sortByRarity_72 : decode cX4_sortByRarity 72 = .ok (.goto (-42), 3) := by decide +kernel
theorem dX4_sortByRarity_75 : decode cX4_sortByRarity 75 = .ok (.aload_n 0, 1) := by decide +kernel
theorem dX4_sortByRarity_76 : decode cX4_sortByRarity 76 = .ok (.getfield 17, 3) := by decide +kernel
theorem dX4_sortByRarity_79 : decode cX4_sortByRarity 79 = .ok (.iload 5, 2) := by decide +kernel
theorem dX4_sortByRarity_81 : decode cX4_sortByRarity 81 = .ok (.lload_n 2, 1) := by decide +kernel
theorem dX4_sortByRarity_82 : decode cX4_sortByRarity 82 = .ok (.lastore, 1) := by decide +kernel
theorem dX4_sortByRarity_83 : decode cX4_sortByRarity 83 = .ok (.iinc 1 1, 3) := by decide +kernel
theorem dX4_sortByRarity_86 : decode cX4_sortByRarity 86 = .ok (.goto (-84), 3) := by decide +kernel
theorem dX4_sortByRarity_89 : decode cX4_sortByRarity 89 = .ok (.return_, 1) := by decide +kernel
theorem dX4_rarestOf_0 : decode cX4_rarestOf 0 = .ok (.iconst 0, 1) := by decide +kernel
theorem dX4_rarestOf_1 : decode cX4_rarestOf 1 = .ok (.istore_n 3, 1) := by decide +kernel
theorem dX4_rarestOf_2 : decode cX4_rarestOf 2 = .ok (.iload_n 3, 1) := by decide +kernel
theorem dX4_rarestOf_3 : decode cX4_rarestOf 3 = .ok (.aload_n 0, 1) := by decide +kernel
theorem dX4_rarestOf_4 : decode cX4_rarestOf 4 = .ok (.getfield 20, 3) := by decide +kernel
theorem dX4_rarestOf_7 : decode cX4_rarestOf 7 = .ok (.if_icmp .ge 35, 3) := by decide +kernel
theorem dX4_rarestOf_10 : decode cX4_rarestOf 10 = .ok (.iload_n 3, 1) := by decide +kernel
theorem dX4_rarestOf_11 : decode cX4_rarestOf 11 = .ok (.bipush 33, 2) := by decide +kernel
theorem dX4_rarestOf_13 : decode cX4_rarestOf 13 = .ok (.if_icmp .ge 29, 3) := by decide +kernel
theorem dX4_rarestOf_16 : decode cX4_rarestOf 16 = .ok (.aload_n 0, 1) := by decide +kernel
theorem dX4_rarestOf_17 : decode cX4_rarestOf 17 = .ok (.getfield 17, 3) := by decide +kernel
theorem dX4_rarestOf_20 : decode cX4_rarestOf 20 = .ok (.iload_n 3, 1) := by decide +kernel
theorem dX4_rarestOf_21 : decode cX4_rarestOf 21 = .ok (.laload, 1) := by decide +kernel
theorem dX4_rarestOf_22 : decode cX4_rarestOf 22 = .ok (.lload_n 1, 1) := by decide +kernel
theorem dX4_rarestOf_23 : decode cX4_rarestOf 23 = .ok (.land, 1) := by decide +kernel
theorem dX4_rarestOf_24 : decode cX4_rarestOf 24 = .ok (.lconst 0, 1) := by decide +kernel
theorem dX4_rarestOf_25 : decode cX4_rarestOf 25 = .ok (.lcmp, 1) := by decide +kernel
theorem dX4_rarestOf_26 : decode cX4_rarestOf 26 = .ok (.ifCond .eq 10, 3) := by decide +kernel
theorem dX4_rarestOf_29 : decode cX4_rarestOf 29 = .ok (.aload_n 0, 1) := by decide +kernel
theorem dX4_rarestOf_30 : decode cX4_rarestOf 30 = .ok (.getfield 17, 3) := by decide +kernel
theorem dX4_rarestOf_33 : decode cX4_rarestOf 33 = .ok (.iload_n 3, 1) := by decide +kernel
theorem dX4_rarestOf_34 : decode cX4_rarestOf 34 = .ok (.laload, 1) := by decide +kernel
theorem dX4_rarestOf_35 : decode cX4_rarestOf 35 = .ok (.lreturn, 1) := by decide +kernel
theorem dX4_rarestOf_36 : decode cX4_rarestOf 36 = .ok (.iinc 3 1, 3) := by decide +kernel
theorem dX4_rarestOf_39 : decode cX4_rarestOf 39 = .ok (.goto (-37), 3) := by decide +kernel
theorem dX4_rarestOf_42 : decode cX4_rarestOf 42 = .ok (.lconst 0, 1) := by decide +kernel
theorem dX4_rarestOf_43 : decode cX4_rarestOf 43 = .ok (.lreturn, 1) := by decide +kernel
theorem dX4_canHold_0 : decode cX4_canHold 0 = .ok (.lload_n 1, 1) := by decide +kernel
theorem dX4_canHold_1 : decode cX4_canHold 1 = .ok (.lconst 0, 1) := by decide +kernel
theorem dX4_canHold_2 : decode cX4_canHold 2 = .ok (.lcmp, 1) := by decide +kernel
theorem dX4_canHold_3 : decode cX4_canHold 3 = .ok (.ifCond .ne 5, 3) := by decide +kernel
theorem dX4_canHold_6 : decode cX4_canHold 6 = .ok (.iconst 1, 1) := by decide +kernel
theorem dX4_canHold_7 : decode cX4_canHold 7 = .ok (.ireturn, 1) := by decide +kernel
theorem dX4_canHold_8 : decode cX4_canHold 8 = .ok (.aload_n 0, 1) := by decide +kernel
theorem dX4_canHold_9 : decode cX4_canHold 9 = .ok (.lload_n 1, 1) := by decide +kernel
theorem dX4_canHold_10 : decode cX4_canHold 10 = .ok (.iload 4, 2) := by decide +kernel
theorem dX4_canHold_12 : decode cX4_canHold 12 = .ok (.invokevirtual 48, 3) := by decide +kernel
theorem dX4_canHold_15 : decode cX4_canHold 15 = .ok (.istore 5, 2) := by decide +kernel
theorem dX4_canHold_17 : decode cX4_canHold 17 = .ok (.lload_n 1, 1) := by decide +kernel
theorem dX4_canHold_18 : decode cX4_canHold 18 = .ok (.invokestatic 52, 3) := by decide +kernel
theorem dX4_canHold_21 : decode cX4_canHold 21 = .ok (.istore 6, 2) := by decide +kernel
theorem dX4_canHold_23 : decode cX4_canHold 23 = .ok (.iload_n 3, 1) := by decide +kernel
theorem dX4_canHold_24 : decode cX4_canHold 24 = .ok (.ifCond .le 17, 3) := by decide +kernel
theorem dX4_canHold_27 : decode cX4_canHold 27 = .ok (.iload_n 3, 1) := by decide +kernel
theorem dX4_canHold_28 : decode cX4_canHold 28 = .ok (.iconst 5, 1) := by decide +kernel
theorem dX4_canHold_29 : decode cX4_canHold 29 = .ok (.if_icmp .gt 12, 3) := by decide +kernel
theorem dX4_canHold_32 : decode cX4_canHold 32 = .ok (.iload 5, 2) := by decide +kernel
theorem dX4_canHold_34 : decode cX4_canHold 34 = .ok (.iload_n 3, 1) := by decide +kernel
theorem dX4_canHold_35 : decode cX4_canHold 35 = .ok (.imul, 1) := by decide +kernel
theorem dX4_canHold_36 : decode cX4_canHold 36 = .ok (.iload 6, 2) := by decide +kernel
theorem dX4_canHold_38 : decode cX4_canHold 38 = .ok (.if_icmp .ge 5, 3) := by decide +kernel
theorem dX4_canHold_41 : decode cX4_canHold 41 = .ok (.iconst 0, 1) := by decide +kernel
theorem dX4_canHold_42 : decode cX4_canHold 42 = .ok (.ireturn, 1) := by decide +kernel
theorem dX4_canHold_43 : decode cX4_canHold 43 = .ok (.iload_n 3, 1) := by decide +kernel
theorem dX4_canHold_44 : decode cX4_canHold 44 = .ok (.iconst 1, 1) := by decide +kernel
theorem dX4_canHold_45 : decode cX4_canHold 45 = .ok (.if_icmp .eq 10, 3) := by decide +kernel
theorem dX4_canHold_48 : decode cX4_canHold 48 = .ok (.iload 5, 2) := by decide +kernel
theorem dX4_canHold_50 : decode cX4_canHold 50 = .ok (.iload 6, 2) := by decide +kernel
theorem dX4_canHold_52 : decode cX4_canHold 52 = .ok (.if_icmp .ne 16, 3) := by decide +kernel
theorem dX4_canHold_55 : decode cX4_canHold 55 = .ok (.iload 5, 2) := by decide +kernel
theorem dX4_canHold_57 : decode cX4_canHold 57 = .ok (.iload 6, 2) := by decide +kernel
theorem dX4_canHold_59 : decode cX4_canHold 59 = .ok (.if_icmp .ne 7, 3) := by decide +kernel
theorem dX4_canHold_62 : decode cX4_canHold 62 = .ok (.iconst 1, 1) := by decide +kernel
theorem dX4_canHold_63 : decode cX4_canHold 63 = .ok (.goto 4, 3) := by decide +kernel
theorem dX4_canHold_66 : decode cX4_canHold 66 = .ok (.iconst 0, 1) := by decide +kernel
theorem dX4_canHold_67 : decode cX4_canHold 67 = .ok (.ireturn, 1) := by decide +kernel
theorem dX4_canHold_68 : decode cX4_canHold 68 = .ok (.aload_n 0, 1) := by decide +kernel
theorem dX4_canHold_69 : decode cX4_canHold 69 = .ok (.lload_n 1, 1) := by decide +kernel
theorem dX4_canHold_70 : decode cX4_canHold 70 = .ok (.invokevirtual 57, 3) := by decide +kernel
theorem dX4_canHold_73 : decode cX4_canHold 73 = .ok (.lstore 7, 2) := by decide +kernel
theorem dX4_canHold_75 : decode cX4_canHold 75 = .ok (.iload 4, 2) := by decide +kernel
theorem dX4_canHold_77 : decode cX4_canHold 77 = .ok (.istore 9, 2) := by decide +kernel
theorem dX4_canHold_79 : decode cX4_canHold 79 = .ok (.iload 9, 2) := by decide +kernel
theorem dX4_canHold_81 : decode cX4_canHold 81 = .ok (.aload_n 0, 1) := by decide +kernel
theorem dX4_canHold_82 : decode cX4_canHold 82 = .ok (.getfield 24, 3) := by decide +kernel
theorem dX4_canHold_85 : decode cX4_canHold 85 = .ok (.if_icmp .ge 49, 3) := by decide +kernel
theorem dX4_canHold_88 : decode cX4_canHold 88 = .ok (.aload_n 0, 1) := by decide +kernel
theorem dX4_canHold_89 : decode cX4_canHold 89 = .ok (.iload 9, 2) := by decide +kernel
theorem dX4_canHold_91 : decode cX4_canHold 91 = .ok (.invokevirtual 27, 3) := by decide +kernel
theorem dX4_canHold_94 : decode cX4_canHold 94 = .ok (.lload 7, 2) := by decide +kernel
theorem dX4_canHold_96 : decode cX4_canHold 96 = .ok (.land, 1) := by decide +kernel
theorem dX4_canHold_97 : decode cX4_canHold 97 = .ok (.lconst 0, 1) := by decide +kernel
theorem dX4_canHold_98 : decode cX4_canHold 98 = .ok (.lcmp, 1) := by decide +kernel
theorem dX4_canHold_99 : decode cX4_canHold 99 = .ok (.ifCond .eq 29, 3) := by decide +kernel
theorem dX4_canHold_102 : decode cX4_canHold 102 = .ok (.aload_n 0, 1) := by decide +kernel
theorem dX4_canHold_103 : decode cX4_canHold 103 = .ok (.lload_n 1, 1) := by decide +kernel
theorem dX4_canHold_104 : decode cX4_canHold 104 = .ok (.aload_n 0, 1) := by decide +kernel
theorem dX4_canHold_105 : decode cX4_canHold 105 = .ok (.iload 9, 2) := by decide +kernel
theorem dX4_canHold_107 : decode cX4_canHold 107 = .ok (.invokevirtual 27, 3) := by decide +kernel
theorem dX4_canHold_110 : decode cX4_canHold 110 = .ok (.ldc2_w 42, 3) := by decide +kernel
theorem dX4_canHold_113 : decode cX4_canHold 113 = .ok (.lxor, 1) := by decide +kernel
theorem dX4_canHold_114 : decode cX4_canHold 114 = .ok (.land, 1) := by decide +kernel
theorem dX4_canHold_115 : decode cX4_canHold 115 = .ok (.iload_n 3, 1) := by decide +kernel
theorem dX4_canHold_116 : decode cX4_canHold 116 = .ok (.iconst 1, 1) := by decide +kernel
theorem dX4_canHold_117 : decode cX4_canHold 117 = .ok (.isub, 1) := by decide +kernel
theorem dX4_canHold_118 : decode cX4_canHold 118 = .ok (.iload 4, 2) := by decide +kernel
theorem dX4_canHold_120 : decode cX4_canHold 120 = .ok (.invokevirtual 38, 3) := by decide +kernel
theorem dX4_canHold_123 : decode cX4_canHold 123 = .ok (.ifCond .eq 5, 3) := by decide +kernel
theorem dX4_canHold_126 : decode cX4_canHold 126 = .ok (.iconst 1, 1) := by decide +kernel
theorem dX4_canHold_127 : decode cX4_canHold 127 = .ok (.ireturn, 1) := by decide +kernel
theorem dX4_canHold_128 : decode cX4_canHold 128 = .ok (.iinc 9 1, 3) := by decide +kernel
theorem dX4_canHold_131 : decode cX4_canHold 131 = .ok (.goto (-52), 3) := by decide +kernel
theorem dX4_canHold_134 : decode cX4_canHold 134 = .ok (.iconst 0, 1) := by decide +kernel
theorem dX4_canHold_135 : decode cX4_canHold 135 = .ok (.ireturn, 1) := by decide +kernel
theorem dX4_mostHeld_0 : decode cX4_mostHeld 0 = .ok (.iconst 0, 1) := by decide +kernel
theorem dX4_mostHeld_1 : decode cX4_mostHeld 1 = .ok (.istore 4, 2) := by decide +kernel
theorem dX4_mostHeld_3 : decode cX4_mostHeld 3 = .ok (.iload_n 3, 1) := by decide +kernel
theorem dX4_mostHeld_4 : decode cX4_mostHeld 4 = .ok (.istore 5, 2) := by decide +kernel
theorem dX4_mostHeld_6 : decode cX4_mostHeld 6 = .ok (.iload 5, 2) := by decide +kernel
theorem dX4_mostHeld_8 : decode cX4_mostHeld 8 = .ok (.aload_n 0, 1) := by decide +kernel
theorem dX4_mostHeld_9 : decode cX4_mostHeld 9 = .ok (.getfield 24, 3) := by decide +kernel
theorem dX4_mostHeld_12 : decode cX4_mostHeld 12 = .ok (.if_icmp .ge 27, 3) := by decide +kernel
theorem dX4_mostHeld_15 : decode cX4_mostHeld 15 = .ok (.iload 4, 2) := by decide +kernel
theorem dX4_mostHeld_17 : decode cX4_mostHeld 17 = .ok (.aload_n 0, 1) := by decide +kernel
theorem dX4_mostHeld_18 : decode cX4_mostHeld 18 = .ok (.iload 5, 2) := by decide +kernel
theorem dX4_mostHeld_20 : decode cX4_mostHeld 20 = .ok (.invokevirtual 27, 3) := by decide +kernel
theorem dX4_mostHeld_23 : decode cX4_mostHeld 23 = .ok (.lload_n 1, 1) := by decide +kernel
theorem dX4_mostHeld_24 : decode cX4_mostHeld 24 = .ok (.land, 1) := by decide +kernel
theorem dX4_mostHeld_25 : decode cX4_mostHeld 25 = .ok (.invokestatic 52, 3) := by decide +kernel
theorem dX4_mostHeld_28 : decode cX4_mostHeld 28 = .ok (.invokestatic 61, 3) := by decide +kernel
theorem dX4_mostHeld_31 : decode cX4_mostHeld 31 = .ok (.istore 4, 2) := by decide +kernel
theorem dX4_mostHeld_33 : decode cX4_mostHeld 33 = .ok (.iinc 5 1, 3) := by decide +kernel
theorem dX4_mostHeld_36 : decode cX4_mostHeld 36 = .ok (.goto (-30), 3) := by decide +kernel
theorem dX4_mostHeld_39 : decode cX4_mostHeld 39 = .ok (.iload 4, 2) := by decide +kernel
theorem dX4_mostHeld_41 : decode cX4_mostHeld 41 = .ok (.ireturn, 1) := by decide +kernel
theorem dX5_init_0 : decode cX5_init 0 = .ok (.aload_n 0, 1) := by decide +kernel
theorem dX5_init_1 : decode cX5_init 1 = .ok (.invokespecial 3, 3) := by decide +kernel
theorem dX5_init_4 : decode cX5_init 4 = .ok (.aload_n 0, 1) := by decide +kernel
theorem dX5_init_5 : decode cX5_init 5 = .ok (.bipush 6, 2) := by decide +kernel
theorem dX5_init_7 : decode cX5_init 7 = .ok (.newarray .int, 2) := by decide +kernel
theorem dX5_init_9 : decode cX5_init 9 = .ok (.putfield 9, 3) := by decide +kernel
theorem dX5_init_12 : decode cX5_init 12 = .ok (.aload_n 0, 1) := by decide +kernel
theorem dX5_init_13 : decode cX5_init 13 = .ok (.bipush 8, 2) := by decide +kernel
theorem dX5_init_15 : decode cX5_init 15 = .ok (.bipush 6, 2) := by decide +kernel
theorem dX5_init_17 : decode cX5_init 17 = .ok (.multianewarray 15 2, 4) := by decide +kernel
theorem dX5_init_21 : decode cX5_init 21 = .ok (.putfield 17, 3) := by decide +kernel
theorem dX5_init_24 : decode cX5_init 24 = .ok (.aload_n 0, 1) := by decide +kernel
theorem dX5_init_25 : decode cX5_init 25 = .ok (.bipush 16, 2) := by decide +kernel
theorem dX5_init_27 : decode cX5_init 27 = .ok (.newarray .int, 2) := by decide +kernel
theorem dX5_init_29 : decode cX5_init 29 = .ok (.putfield 20, 3) := by decide +kernel
theorem dX5_init_32 : decode cX5_init 32 = .ok (.aload_n 0, 1) := by decide +kernel
theorem dX5_init_33 : decode cX5_init 33 = .ok (.bipush 16, 2) := by decide +kernel
theorem dX5_init_35 : decode cX5_init 35 = .ok (.newarray .int, 2) := by decide +kernel
theorem dX5_init_37 : decode cX5_init 37 = .ok (.putfield 23, 3) := by decide +kernel
theorem dX5_init_40 : decode cX5_init 40 = .ok (.return_, 1) := by decide +kernel
theorem dX5_clear_0 : decode cX5_clear 0 = .ok (.aload_n 0, 1) := by decide +kernel
theorem dX5_clear_1 : decode cX5_clear 1 = .ok (.iconst 0, 1) := by decide +kernel
theorem dX5_clear_2 : decode cX5_clear 2 = .ok (.putfield 26, 3) := by decide +kernel
theorem dX5_clear_5 : decode cX5_clear 5 = .ok (.aload_n 0, 1) := by decide +kernel
theorem dX5_clear_6 : decode cX5_clear 6 = .ok (.iconst 0, 1) := by decide +kernel
theorem dX5_clear_7 : decode cX5_clear 7 = .ok (.putfield 30, 3) := by decide +kernel
theorem dX5_clear_10 : decode cX5_clear 10 = .ok (.aload_n 0, 1) := by decide +kernel
theorem dX5_clear_11 : decode cX5_clear 11 = .ok (.iconst 0, 1) := by decide +kernel
theorem dX5_clear_12 : decode cX5_clear 12 = .ok (.putfield 34, 3) := by decide +kernel
theorem dX5_clear_15 : decode cX5_clear 15 = .ok (.aload_n 0, 1) := by decide +kernel
theorem dX5_clear_16 : decode cX5_clear 16 = .ok (.iconst 0, 1) := by decide +kernel
theorem dX5_clear_17 : decode cX5_clear 17 = .ok (.putfield 37, 3) := by decide +kernel
theorem dX5_clear_20 : decode cX5_clear 20 = .ok (.aload_n 0, 1) := by decide +kernel
theorem dX5_clear_21 : decode cX5_clear 21 = .ok (.iconst 0, 1) := by decide +kernel
theorem dX5_clear_22 : decode cX5_clear 22 = .ok (.putfield 40, 3) := by decide +kernel
theorem dX5_clear_25 : decode cX5_clear 25 = .ok (.aload_n 0, 1) := by decide +kernel
theorem dX5_clear_26 : decode cX5_clear 26 = .ok (.iconst 0, 1) := by decide +kernel
theorem dX5_clear_27 : decode cX5_clear 27 = .ok (.putfield 43, 3) := by decide +kernel
theorem dX5_clear_30 : decode cX5_clear 30 = .ok (.aload_n 0, 1) := by decide +kernel
theorem dX5_clear_31 : decode cX5_clear 31 = .ok (.iconst 0, 1) := by decide +kernel
theorem dX5_clear_32 : decode cX5_clear 32 = .ok (.putfield 46, 3) := by decide +kernel
theorem dX5_clear_35 : decode cX5_clear 35 = .ok (.return_, 1) := by decide +kernel
theorem dX5_takeFrom_0 : decode cX5_takeFrom 0 = .ok (.aload_n 0, 1) := by decide +kernel
theorem dX5_takeFrom_1 : decode cX5_takeFrom 1 = .ok (.aload_n 1, 1) := by decide +kernel
theorem dX5_takeFrom_2 : decode cX5_takeFrom 2 = .ok (.getfield 26, 3) := by decide +kernel
theorem dX5_takeFrom_5 : decode cX5_takeFrom 5 = .ok (.putfield 26, 3) := by decide +kernel
theorem dX5_takeFrom_8 : decode cX5_takeFrom 8 = .ok (.aload_n 0, 1) := by decide +kernel
theorem dX5_takeFrom_9 : decode cX5_takeFrom 9 = .ok (.aload_n 1, 1) := by decide +kernel
theorem dX5_takeFrom_10 : decode cX5_takeFrom 10 = .ok (.getfield 30, 3) := by decide +kernel
theorem dX5_takeFrom_13 : decode cX5_takeFrom 13 = .ok (.putfield 30, 3) := by decide +kernel
theorem dX5_takeFrom_16 : decode cX5_takeFrom 16 = .ok (.aload_n 0, 1) := by decide +kernel
theorem dX5_takeFrom_17 : decode cX5_takeFrom 17 = .ok (.aload_n 1, 1) := by decide +kernel
theorem dX5_takeFrom_18 : decode cX5_takeFrom 18 = .ok (.getfield 34, 3) := by decide +kernel
theorem dX5_takeFrom_21 : decode cX5_takeFrom 21 = .ok (.putfield 34, 3) := by decide +kernel
theorem dX5_takeFrom_24 : decode cX5_takeFrom 24 = .ok (.aload_n 0, 1) := by decide +kernel
theorem dX5_takeFrom_25 : decode cX5_takeFrom 25 = .ok (.aload_n 1, 1) := by decide +kernel
theorem dX5_takeFrom_26 : decode cX5_takeFrom 26 = .ok (.getfield 37, 3) := by decide +kernel
theorem dX5_takeFrom_29 : decode cX5_takeFrom 29 = .ok (.putfield 37, 3) := by decide +kernel
theorem dX5_takeFrom_32 : decode cX5_takeFrom 32 = .ok (.aload_n 0, 1) := by decide +kernel
theorem dX5_takeFrom_33 : decode cX5_takeFrom 33 = .ok (.aload_n 1, 1) := by decide +kernel
theorem dX5_takeFrom_34 : decode cX5_takeFrom 34 = .ok (.getfield 40, 3) := by decide +kernel
theorem dX5_takeFrom_37 : decode cX5_takeFrom 37 = .ok (.putfield 40, 3) := by decide +kernel
theorem dX5_takeFrom_40 : decode cX5_takeFrom 40 = .ok (.aload_n 0, 1) := by decide +kernel
theorem dX5_takeFrom_41 : decode cX5_takeFrom 41 = .ok (.aload_n 1, 1) := by decide +kernel
theorem dX5_takeFrom_42 : decode cX5_takeFrom 42 = .ok (.getfield 43, 3) := by decide +kernel
theorem dX5_takeFrom_45 : decode cX5_takeFrom 45 = .ok (.putfield 43, 3) := by decide +kernel
theorem dX5_takeFrom_48 : decode cX5_takeFrom 48 = .ok (.aload_n 0, 1) := by decide +kernel
theorem dX5_takeFrom_49 : decode cX5_takeFrom 49 = .ok (.aload_n 1, 1) := by decide +kernel
theorem dX5_takeFrom_50 : decode cX5_takeFrom 50 = .ok (.getfield 46, 3) := by decide +kernel
theorem dX5_takeFrom_53 : decode cX5_takeFrom 53 = .ok (.putfield 46, 3) := by decide +kernel
theorem dX5_takeFrom_56 : decode cX5_takeFrom 56 = .ok (.iconst 0, 1) := by decide +kernel
theorem dX5_takeFrom_57 : decode cX5_takeFrom 57 = .ok (.istore_n 2, 1) := by decide +kernel
theorem dX5_takeFrom_58 : decode cX5_takeFrom 58 = .ok (.iload_n 2, 1) := by decide +kernel
theorem dX5_takeFrom_59 : decode cX5_takeFrom 59 = .ok (.bipush 6, 2) := by decide +kernel
theorem dX5_takeFrom_61 : decode cX5_takeFrom 61 = .ok (.if_icmp .ge 21, 3) := by decide +kernel
theorem dX5_takeFrom_64 : decode cX5_takeFrom 64 = .ok (.aload_n 0, 1) := by decide +kernel
theorem dX5_takeFrom_65 : decode cX5_takeFrom 65 = .ok (.getfield 9, 3) := by decide +kernel
theorem dX5_takeFrom_68 : decode cX5_takeFrom 68 = .ok (.iload_n 2, 1) := by decide +kernel
theorem dX5_takeFrom_69 : decode cX5_takeFrom 69 = .ok (.aload_n 1, 1) := by decide +kernel
theorem dX5_takeFrom_70 : decode cX5_takeFrom 70 = .ok (.getfield 9, 3) := by decide +kernel
theorem dX5_takeFrom_73 : decode cX5_takeFrom 73 = .ok (.iload_n 2, 1) := by decide +kernel
theorem dX5_takeFrom_74 : decode cX5_takeFrom 74 = .ok (.iaload, 1) := by decide +kernel
theorem dX5_takeFrom_75 : decode cX5_takeFrom 75 = .ok (.iastore, 1) := by decide +kernel
theorem dX5_takeFrom_76 : decode cX5_takeFrom 76 = .ok (.iinc 2 1, 3) := by decide +kernel
theorem dX5_takeFrom_79 : decode cX5_takeFrom 79 = .ok (.goto (-21), 3) := by decide +kernel
theorem dX5_takeFrom_82 : decode cX5_takeFrom 82 = .ok (.iconst 0, 1) := by decide +kernel
theorem dX5_takeFrom_83 : decode cX5_takeFrom 83 = .ok (.istore_n 2, 1) := by decide +kernel
theorem dX5_takeFrom_84 : decode cX5_takeFrom 84 = .ok (.iload_n 2, 1) := by decide +kernel
theorem dX5_takeFrom_85 : decode cX5_takeFrom 85 = .ok (.bipush 8, 2) := by decide +kernel
theorem dX5_takeFrom_87 : decode cX5_takeFrom 87 = .ok (.if_icmp .ge 39, 3) := by decide +kernel
theorem dX5_takeFrom_90 : decode cX5_takeFrom 90 = .ok (.iconst 0, 1) := by decide +kernel
theorem dX5_takeFrom_91 : decode cX5_takeFrom 91 = .ok (.istore_n 3, 1) := by decide +kernel
theorem dX5_takeFrom_92 : decode cX5_takeFrom 92 = .ok (.iload_n 3, 1) := by decide +kernel
theorem dX5_takeFrom_93 : decode cX5_takeFrom 93 = .ok (.bipush 6, 2) := by decide +kernel
theorem dX5_takeFrom_95 : decode cX5_takeFrom 95 = .ok (.if_icmp .ge 25, 3) := by decide +kernel
theorem dX5_takeFrom_98 : decode cX5_takeFrom 98 = .ok (.aload_n 0, 1) := by decide +kernel
theorem dX5_takeFrom_99 : decode cX5_takeFrom 99 = .ok (.getfield 17, 3) := by decide +kernel
theorem dX5_takeFrom_102 : decode cX5_takeFrom 102 = .ok (.iload_n 2, 1) := by decide +kernel
theorem dX5_takeFrom_103 : decode cX5_takeFrom 103 = .ok (.aaload, 1) := by decide +kernel
theorem dX5_takeFrom_104 : decode cX5_takeFrom 104 = .ok (.iload_n 3, 1) := by decide +kernel
theorem dX5_takeFrom_105 : decode cX5_takeFrom 105 = .ok (.aload_n 1, 1) := by decide +kernel
theorem dX5_takeFrom_106 : decode cX5_takeFrom 106 = .ok (.getfield 17, 3) := by decide +kernel
theorem dX5_takeFrom_109 : decode cX5_takeFrom 109 = .ok (.iload_n 2, 1) := by decide +kernel
theorem dX5_takeFrom_110 : decode cX5_takeFrom 110 = .ok (.aaload, 1) := by decide +kernel
theorem dX5_takeFrom_111 : decode cX5_takeFrom 111 = .ok (.iload_n 3, 1) := by decide +kernel
theorem dX5_takeFrom_112 : decode cX5_takeFrom 112 = .ok (.iaload, 1) := by decide +kernel
theorem dX5_takeFrom_113 : decode cX5_takeFrom 113 = .ok (.iastore, 1) := by decide +kernel
theorem dX5_takeFrom_114 : decode cX5_takeFrom 114 = .ok (.iinc 3 1, 3) := by decide +kernel
theorem dX5_takeFrom_117 : decode cX5_takeFrom 117 = .ok (.goto (-25), 3) := by decide +kernel
theorem dX5_takeFrom_120 : decode cX5_takeFrom 120 = .ok (.iinc 2 1, 3) := by decide +kernel
theorem dX5_takeFrom_123 : decode cX5_takeFrom 123 = .ok (.goto (-39), 3) := by decide +kernel
theorem dX5_takeFrom_126 : decode cX5_takeFrom 126 = .ok (.iconst 0, 1) := by decide +kernel
theorem dX5_takeFrom_127 : decode cX5_takeFrom 127 = .ok (.istore_n 2, 1) := by decide +kernel
theorem dX5_takeFrom_128 : decode cX5_takeFrom 128 = .ok (.iload_n 2, 1) := by decide +kernel
theorem dX5_takeFrom_129 : decode cX5_takeFrom 129 = .ok (.bipush 16, 2) := by decide +kernel
theorem dX5_takeFrom_131 : decode cX5_takeFrom 131 = .ok (.if_icmp .ge 33, 3) := by decide +kernel
theorem dX5_takeFrom_134 : decode cX5_takeFrom 134 = .ok (.aload_n 0, 1) := by decide +kernel
theorem dX5_takeFrom_135 : decode cX5_takeFrom 135 = .ok (.getfield 20, 3) := by decide +kernel
theorem dX5_takeFrom_138 : decode cX5_takeFrom 138 = .ok (.iload_n 2, 1) := by decide +kernel
theorem dX5_takeFrom_139 : decode cX5_takeFrom 139 = .ok (.aload_n 1, 1) := by decide +kernel
theorem dX5_takeFrom_140 : decode cX5_takeFrom 140 = .ok (.getfield 20, 3) := by decide +kernel
theorem dX5_takeFrom_143 : decode cX5_takeFrom 143 = .ok (.iload_n 2, 1) := by decide +kernel
theorem dX5_takeFrom_144 : decode cX5_takeFrom 144 = .ok (.iaload, 1) := by decide +kernel
theorem dX5_takeFrom_145 : decode cX5_takeFrom 145 = .ok (.iastore, 1) := by decide +kernel
theorem dX5_takeFrom_146 : decode cX5_takeFrom 146 = .ok (.aload_n 0, 1) := by decide +kernel
theorem dX5_takeFrom_147 : decode cX5_takeFrom 147 = .ok (.getfield 23, 3) := by decide +kernel
theorem dX5_takeFrom_150 : decode cX5_takeFrom 150 = .ok (.iload_n 2, 1) := by decide +kernel
theorem dX5_takeFrom_151 : decode cX5_takeFrom 151 = .ok (.aload_n 1, 1) := by decide +kernel
theorem dX5_takeFrom_152 : decode cX5_takeFrom 152 = .ok (.getfield 23, 3) := by decide +kernel
theorem dX5_takeFrom_155 : decode cX5_takeFrom 155 = .ok (.iload_n 2, 1) := by decide +kernel
theorem dX5_takeFrom_156 : decode cX5_takeFrom 156 = .ok (.iaload, 1) := by decide +kernel
theorem dX5_takeFrom_157 : decode cX5_takeFrom 157 = .ok (.iastore, 1) := by decide +kernel
theorem dX5_takeFrom_158 : decode cX5_takeFrom 158 = .ok (.iinc 2 1, 3) := by decide +kernel
theorem dX5_takeFrom_161 : decode cX5_takeFrom 161 = .ok (.goto (-33), 3) := by decide +kernel
theorem dX5_takeFrom_164 : decode cX5_takeFrom 164 = .ok (.return_, 1) := by decide +kernel
theorem dX5_part_0 : decode cX5_part 0 = .ok (.iload_n 1, 1) := by decide +kernel
theorem dX5_part_1 : decode cX5_part 1 = .ok (.ifCond .lt 30, 3) := by decide +kernel
theorem dX5_part_4 : decode cX5_part 4 = .ok (.iload_n 1, 1) := by decide +kernel
theorem dX5_part_5 : decode cX5_part 5 = .ok (.bipush 8, 2) := by decide +kernel
theorem dX5_part_7 : decode cX5_part 7 = .ok (.if_icmp .ge 24, 3) := by decide +kernel
theorem dX5_part_10 : decode cX5_part 10 = .ok (.iload_n 2, 1) := by decide +kernel
theorem dX5_part_11 : decode cX5_part 11 = .ok (.ifCond .lt 20, 3) := by decide +kernel
theorem dX5_part_14 : decode cX5_part 14 = .ok (.iload_n 2, 1) := by decide +kernel
theorem dX5_part_15 : decode cX5_part 15 = .ok (.bipush 6, 2) := by decide +kernel
theorem dX5_part_17 : decode cX5_part 17 = .ok (.if_icmp .ge 14, 3) := by decide +kernel
theorem dX5_part_20 : decode cX5_part 20 = .ok (.aload_n 0, 1) := by decide +kernel
theorem dX5_part_21 : decode cX5_part 21 = .ok (.getfield 17, 3) := by decide +kernel
theorem dX5_part_24 : decode cX5_part 24 = .ok (.iload_n 1, 1) := by decide +kernel
theorem dX5_part_25 : decode cX5_part 25 = .ok (.aaload, 1) := by decide +kernel
theorem dX5_part_26 : decode cX5_part 26 = .ok (.iload_n 2, 1) := by decide +kernel
theorem dX5_part_27 : decode cX5_part 27 = .ok (.iaload, 1) := by decide +kernel
theorem dX5_part_28 : decode cX5_part 28 = .ok (.goto 4, 3) := by decide +kernel
theorem dX5_part_31 : decode cX5_part 31 = .ok (.iconst 0, 1) := by decide +kernel
theorem dX5_part_32 : decode cX5_part 32 = .ok (.ireturn, 1) := by decide +kernel
theorem dX5_setPart_0 : decode cX5_setPart 0 = .ok (.iload_n 1, 1) := by decide +kernel
theorem dX5_setPart_1 : decode cX5_setPart 1 = .ok (.ifCond .lt 28, 3) := by decide +kernel
theorem dX5_setPart_4 : decode cX5_setPart 4 = .ok (.iload_n 1, 1) := by decide +kernel
theorem dX5_setPart_5 : decode cX5_setPart 5 = .ok (.bipush 8, 2) := by decide +kernel
theorem dX5_setPart_7 : decode cX5_setPart 7 = .ok (.if_icmp .ge 22, 3) := by decide +kernel
theorem dX5_setPart_10 : decode cX5_setPart 10 = .ok (.iload_n 2, 1) := by decide +kernel
theorem dX5_setPart_11 : decode cX5_setPart 11 = .ok (.ifCond .lt 18, 3) := by decide +kernel
theorem dX5_setPart_14 : decode cX5_setPart 14 = .ok (.iload_n 2, 1) := by decide +kernel
theorem dX5_setPart_15 : decode cX5_setPart 15 = .ok (.bipush 6, 2) := by decide +kernel
theorem dX5_setPart_17 : decode cX5_setPart 17 = .ok (.if_icmp .ge 12, 3) := by decide +kernel
theorem dX5_setPart_20 : decode cX5_setPart 20 = .ok (.aload_n 0, 1) := by decide +kernel
theorem dX5_setPart_21 : decode cX5_setPart 21 = .ok (.getfield 17, 3) := by decide +kernel
theorem dX5_setPart_24 : decode cX5_setPart 24 = .ok (.iload_n 1, 1) := by decide +kernel
theorem dX5_setPart_25 : decode cX5_setPart 25 = .ok (.aaload, 1) := by decide +kernel
theorem dX5_setPart_26 : decode cX5_setPart 26 = .ok (.iload_n 2, 1) := by decide +kernel
theorem dX5_setPart_27 : decode cX5_setPart 27 = .ok (.iload_n 3, 1) := by decide +kernel
theorem dX5_setPart_28 : decode cX5_setPart 28 = .ok (.iastore, 1) := by decide +kernel
theorem dX5_setPart_29 : decode cX5_setPart 29 = .ok (.return_, 1) := by decide +kernel
theorem dX5_burstInputs_0 : decode cX5_burstInputs 0 = .ok (.aload_n 0, 1) := by decide +kernel
theorem dX5_burstInputs_1 : decode cX5_burstInputs 1 = .ok (.iload_n 1, 1) := by decide +kernel
theorem dX5_burstInputs_2 : decode cX5_burstInputs 2 = .ok (.iconst 2, 1) := by decide +kernel
theorem dX5_burstInputs_3 : decode cX5_burstInputs 3 = .ok (.invokevirtual 49, 3) := by decide +kernel
theorem dX5_burstInputs_6 : decode cX5_burstInputs 6 = .ok (.aload_n 0, 1) := by decide +kernel
theorem dX5_burstInputs_7 : decode cX5_burstInputs 7 = .ok (.iload_n 1, 1) := by decide +kernel
theorem dX5_burstInputs_8 : decode cX5_burstInputs 8 = .ok (.iconst 3, 1) := by decide +kernel
theorem dX5_burstInputs_9 : decode cX5_burstInputs 9 = .ok (.invokevirtual 49, 3) := by decide +kernel
theorem dX5_burstInputs_12 : decode cX5_burstInputs 12 = .ok (.ior, 1) := by decide +kernel
theorem dX5_burstInputs_13 : decode cX5_burstInputs 13 = .ok (.ireturn, 1) := by decide +kernel
theorem dX5_leaves_0 : decode cX5_leaves 0 = .ok (.iconst 0, 1) := by decide +kernel
theorem dX5_leaves_1 : decode cX5_leaves 1 = .ok (.istore_n 2, 1) := by decide +kernel
theorem dX5_leaves_2 : decode cX5_leaves 2 = .ok (.iload_n 2, 1) := by decide +kernel
theorem dX5_leaves_3 : decode cX5_leaves 3 = .ok (.aload_n 0, 1) := by decide +kernel
theorem dX5_leaves_4 : decode cX5_leaves 4 = .ok (.getfield 43, 3) := by decide +kernel
theorem dX5_leaves_7 : decode cX5_leaves 7 = .ok (.if_icmp .ge 21, 3) := by decide +kernel
theorem dX5_leaves_10 : decode cX5_leaves 10 = .ok (.aload_n 0, 1) := by decide +kernel
theorem dX5_leaves_11 : decode cX5_leaves 11 = .ok (.iload_n 2, 1) := by decide +kernel
theorem dX5_leaves_12 : decode cX5_leaves 12 = .ok (.iconst 0, 1) := by decide +kernel
theorem dX5_leaves_13 : decode cX5_leaves 13 = .ok (.invokevirtual 49, 3) := by decide +kernel
theorem dX5_leaves_16 : decode cX5_leaves 16 = .ok (.iload_n 1, 1) := by decide +kernel
theorem dX5_leaves_17 : decode cX5_leaves 17 = .ok (.if_icmp .ne 5, 3) := by decide +kernel
theorem dX5_leaves_20 : decode cX5_leaves 20 = .ok (.iconst 1, 1) := by decide +kernel
theorem dX5_leaves_21 : decode cX5_leaves 21 = .ok (.ireturn, 1) := by decide +kernel
theorem dX5_leaves_22 : decode cX5_leaves 22 = .ok (.iinc 2 1, 3) := by decide +kernel
theorem dX5_leaves_25 : decode cX5_leaves 25 = .ok (.goto (-23), 3) := by decide +kernel
theorem dX5_leaves_28 : decode cX5_leaves 28 = .ok (.iconst 0, 1) := by decide +kernel
theorem dX5_leaves_29 : decode cX5_leaves 29 = .ok (.ireturn, 1) := by decide +kernel
theorem dX5_addState_0 : decode cX5_addState 0 = .ok (.aload_n 0, 1) := by decide +kernel
theorem dX5_addState_1 : decode cX5_addState 1 = .ok (.getfield 9, 3) := by decide +kernel
theorem dX5_addState_4 : decode cX5_addState 4 = .ok (.aload_n 0, 1) := by decide +kernel
theorem dX5_addState_5 : decode cX5_addState 5 = .ok (.getfield 30, 3) := by decide +kernel
theorem dX5_addState_8 : decode cX5_addState 8 = .ok (.iload_n 1, 1) := by decide +kernel
theorem dX5_addState_9 : decode cX5_addState 9 = .ok (.invokestatic 53, 3) := by decide +kernel
theorem dX5_addState_12 : decode cX5_addState 12 = .ok (.aload_n 0, 1) := by decide +kernel
theorem dX5_addState_13 : decode cX5_addState 13 = .ok (.dup, 1) := by decide +kernel
theorem dX5_addState_14 : decode cX5_addState 14 = .ok (.getfield 30, 3) := by decide +kernel
theorem dX5_addState_17 : decode cX5_addState 17 = .ok (.iconst 1, 1) := by decide +kernel
theorem dX5_addState_18 : decode cX5_addState 18 = .ok (.iadd, 1) := by decide +kernel
theorem dX5_addState_19 : decode cX5_addState 19 = .ok (.putfield 30, 3) := by decide +kernel
theorem dX5_addState_22 : decode cX5_addState 22 = .ok (.return_, 1) := by decide +kernel
theorem dX5_addGate_0 : decode cX5_addGate 0 = .ok (.aload_n 0, 1) := by decide +kernel
theorem dX5_addGate_1 : decode cX5_addGate 1 = .ok (.getfield 20, 3) := by decide +kernel
theorem dX5_addGate_4 : decode cX5_addGate 4 = .ok (.aload_n 0, 1) := by decide +kernel
theorem dX5_addGate_5 : decode cX5_addGate 5 = .ok (.getfield 46, 3) := by decide +kernel
theorem dX5_addGate_8 : decode cX5_addGate 8 = .ok (.iload_n 1, 1) := by decide +kernel
theorem dX5_addGate_9 : decode cX5_addGate 9 = .ok (.invokestatic 53, 3) := by decide +kernel
theorem dX5_addGate_12 : decode cX5_addGate 12 = .ok (.aload_n 0, 1) := by decide +kernel
theorem dX5_addGate_13 : decode cX5_addGate 13 = .ok (.getfield 23, 3) := by decide +kernel
theorem dX5_addGate_16 : decode cX5_addGate 16 = .ok (.aload_n 0, 1) := by decide +kernel
theorem dX5_addGate_17 : decode cX5_addGate 17 = .ok (.getfield 46, 3) := by decide +kernel
theorem dX5_addGate_20 : decode cX5_addGate 20 = .ok (.iload_n 2, 1) := by decide +kernel
theorem dX5_addGate_21 : decode cX5_addGate 21 = .ok (.invokestatic 53, 3) := by decide +kernel
theorem dX5_addGate_24 : decode cX5_addGate 24 = .ok (.aload_n 0, 1) := by decide +kernel
theorem dX5_addGate_25 : decode cX5_addGate 25 = .ok (.dup, 1) := by decide +kernel
theorem dX5_addGate_26 : decode cX5_addGate 26 = .ok (.getfield 46, 3) := by decide +kernel
theorem dX5_addGate_29 : decode cX5_addGate 29 = .ok (.iconst 1, 1) := by decide +kernel
theorem dX5_addGate_30 : decode cX5_addGate 30 = .ok (.iadd, 1) := by decide +kernel
theorem dX5_addGate_31 : decode cX5_addGate 31 = .ok (.putfield 46, 3) := by decide +kernel
theorem dX5_addGate_34 : decode cX5_addGate 34 = .ok (.return_, 1) := by decide +kernel
theorem dX5_removeArc_0 : decode cX5_removeArc 0 = .ok (.iload_n 1, 1) := by decide +kernel
theorem dX5_removeArc_1 : decode cX5_removeArc 1 = .ok (.istore_n 2, 1) := by decide +kernel
theorem dX5_removeArc_2 : decode cX5_removeArc 2 = .ok (.iload_n 2, 1) := by decide +kernel
theorem dX5_removeArc_3 : decode cX5_removeArc 3 = .ok (.aload_n 0, 1) := by decide +kernel
theorem dX5_removeArc_4 : decode cX5_removeArc 4 = .ok (.getfield 43, 3) := by decide +kernel
theorem dX5_removeArc_7 : decode cX5_removeArc 7 = .ok (.iconst 1, 1) := by decide +kernel
theorem dX5_removeArc_8 : decode cX5_removeArc 8 = .ok (.isub, 1) := by decide +kernel
theorem dX5_removeArc_9 : decode cX5_removeArc 9 = .ok (.if_icmp .ge 37, 3) := by decide +kernel
theorem dX5_removeArc_12 : decode cX5_removeArc 12 = .ok (.iconst 0, 1) := by decide +kernel
theorem dX5_removeArc_13 : decode cX5_removeArc 13 = .ok (.istore_n 3, 1) := by decide +kernel
theorem dX5_removeArc_14 : decode cX5_removeArc 14 = .ok (.iload_n 3, 1) := by decide +kernel
theorem dX5_removeArc_15 : decode cX5_removeArc 15 = .ok (.bipush 6, 2) := by decide +kernel
theorem dX5_removeArc_17 : decode cX5_removeArc 17 = .ok (.if_icmp .ge 23, 3) := by decide +kernel
theorem dX5_removeArc_20 : decode cX5_removeArc 20 = .ok (.aload_n 0, 1) := by decide +kernel
theorem dX5_removeArc_21 : decode cX5_removeArc 21 = .ok (.iload_n 2, 1) := by decide +kernel
theorem dX5_removeArc_22 : decode cX5_removeArc 22 = .ok (.iload_n 3, 1) := by decide +kernel
theorem dX5_removeArc_23 : decode cX5_removeArc 23 = .ok (.aload_n 0, 1) := by decide +kernel
theorem dX5_removeArc_24 : decode cX5_removeArc 24 = .ok (.iload_n 2, 1) := by decide +kernel
theorem dX5_removeArc_25 : decode cX5_removeArc 25 = .ok (.iconst 1, 1) := by decide +kernel
theorem dX5_removeArc_26 : decode cX5_removeArc 26 = .ok (.iadd, 1) := by decide +kernel
theorem dX5_removeArc_27 : decode cX5_removeArc 27 = .ok (.iload_n 3, 1) := by decide +kernel
theorem dX5_removeArc_28 : decode cX5_removeArc 28 = .ok (.invokevirtual 49, 3) := by decide +kernel
theorem dX5_removeArc_31 : decode cX5_removeArc 31 = .ok (.invokevirtual 57, 3) := by decide +kernel
theorem dX5_removeArc_34 : decode cX5_removeArc 34 = .ok (.iinc 3 1, 3) := by decide +kernel
theorem dX5_removeArc_37 : decode cX5_removeArc 37 = .ok (.goto (-23), 3) := by decide +kernel
theorem dX5_removeArc_40 : decode cX5_removeArc 40 = .ok (.iinc 2 1, 3) := by decide +kernel
theorem dX5_removeArc_43 : decode cX5_removeArc 43 = .ok (.goto (-41), 3) := by decide +kernel
theorem dX5_removeArc_46 : decode cX5_removeArc 46 = .ok (.aload_n 0, 1) := by decide +kernel
theorem dX5_removeArc_47 : decode cX5_removeArc 47 = .ok (.dup, 1) := by decide +kernel
theorem dX5_removeArc_48 : decode cX5_removeArc 48 = .ok (.getfield 43, 3) := by decide +kernel
theorem dX5_removeArc_51 : decode cX5_removeArc 51 = .ok (.iconst 1, 1) := by decide +kernel
theorem dX5_removeArc_52 : decode cX5_removeArc 52 = .ok (.isub, 1) := by decide +kernel
theorem dX5_removeArc_53 : decode cX5_removeArc 53 = .ok (.putfield 43, 3) := by decide +kernel
theorem dX5_removeArc_56 : decode cX5_removeArc 56 = .ok (.return_, 1) := by decide +kernel
theorem dX5_openArc_0 : decode cX5_openArc 0 = .ok (.aload_n 0, 1) := by decide +kernel
theorem dX5_openArc_1 : decode cX5_openArc 1 = .ok (.getfield 43, 3) := by decide +kernel
theorem dX5_openArc_4 : decode cX5_openArc 4 = .ok (.istore_n 2, 1) := by decide +kernel
theorem dX5_openArc_5 : decode cX5_openArc 5 = .ok (.iload_n 2, 1) := by decide +kernel
theorem dX5_openArc_6 : decode cX5_openArc 6 = .ok (.iload_n 1, 1) := by decide +kernel
theorem dX5_openArc_7 : decode cX5_openArc 7 = .ok (.if_icmp .le 37, 3) := by decide +kernel
theorem dX5_openArc_10 : decode cX5_openArc 10 = .ok (.iconst 0, 1) := by decide +kernel
theorem dX5_openArc_11 : decode cX5_openArc 11 = .ok (.istore_n 3, 1) := by decide +kernel
theorem dX5_openArc_12 : decode cX5_openArc 12 = .ok (.iload_n 3, 1) := by decide +kernel
theorem dX5_openArc_13 : decode cX5_openArc 13 = .ok (.bipush 6, 2) := by decide +kernel
theorem dX5_openArc_15 : decode cX5_openArc 15 = .ok (.if_icmp .ge 23, 3) := by decide +kernel
theorem dX5_openArc_18 : decode cX5_openArc 18 = .ok (.aload_n 0, 1) := by decide +kernel
theorem dX5_openArc_19 : decode cX5_openArc 19 = .ok (.iload_n 2, 1) := by decide +kernel
theorem dX5_openArc_20 : decode cX5_openArc 20 = .ok (.iload_n 3, 1) := by decide +kernel
theorem dX5_openArc_21 : decode cX5_openArc 21 = .ok (.aload_n 0, 1) := by decide +kernel
theorem dX5_openArc_22 : decode cX5_openArc 22 = .ok (.iload_n 2, 1) := by decide +kernel
theorem dX5_openArc_23 : decode cX5_openArc 23 = .ok (.iconst 1, 1) := by decide +kernel
theorem dX5_openArc_24 : decode cX5_openArc 24 = .ok (.isub, 1) := by decide +kernel
theorem dX5_openArc_25 : decode cX5_openArc 25 = .ok (.iload_n 3, 1) := by decide +kernel
theorem dX5_openArc_26 : decode cX5_openArc 26 = .ok (.invokevirtual 49, 3) := by decide +kernel
theorem dX5_openArc_29 : decode cX5_openArc 29 = .ok (.invokevirtual 57, 3) := by decide +kernel
theorem dX5_openArc_32 : decode cX5_openArc 32 = .ok (.iinc 3 1, 3) := by decide +kernel
theorem dX5_openArc_35 : decode cX5_openArc 35 = .ok (.goto (-23), 3) := by decide +kernel
theorem dX5_openArc_38 : decode cX5_openArc 38 = .ok (.iinc 2 (-1), 3) := by decide +kernel
theorem dX5_openArc_41 : decode cX5_openArc 41 = .ok (.goto (-36), 3) := by decide +kernel
theorem dX5_openArc_44 : decode cX5_openArc 44 = .ok (.aload_n 0, 1) := by decide +kernel
theorem dX5_openArc_45 : decode cX5_openArc 45 = .ok (.dup, 1) := by decide +kernel
theorem dX5_openArc_46 : decode cX5_openArc 46 = .ok (.getfield 43, 3) := by decide +kernel
theorem dX5_openArc_49 : decode cX5_openArc 49 = .ok (.iconst 1, 1) := by decide +kernel
theorem dX5_openArc_50 : decode cX5_openArc 50 = .ok (.iadd, 1) := by decide +kernel
theorem dX5_openArc_51 : decode cX5_openArc 51 = .ok (.putfield 43, 3) := by decide +kernel
theorem dX5_openArc_54 : decode cX5_openArc 54 = .ok (.return_, 1) := by decide +kernel
theorem dX6_init_0 : decode cX6_init 0 = .ok (.aload_n 0, 1) := by decide +kernel
theorem dX6_init_1 : decode cX6_init 1 = .ok (.invokespecial 3, 3) := by decide +kernel
theorem dX6_init_4 : decode cX6_init 4 = .ok (.aload_n 0, 1) := by decide +kernel
theorem dX6_init_5 : decode cX6_init 5 = .ok (.sipush 600, 3) := by decide +kernel
theorem dX6_init_8 : decode cX6_init 8 = .ok (.newarray .byte, 2) := by decide +kernel
theorem dX6_init_10 : decode cX6_init 10 = .ok (.putfield 11, 3) := by decide +kernel
theorem dX6_init_13 : decode cX6_init 13 = .ok (.aload_n 0, 1) := by decide +kernel
theorem dX6_init_14 : decode cX6_init 14 = .ok (.new 15, 3) := by decide +kernel
theorem dX6_init_17 : decode cX6_init 17 = .ok (.dup, 1) := by decide +kernel
theorem dX6_init_18 : decode cX6_init 18 = .ok (.invokespecial 17, 3) := by decide +kernel
theorem dX6_init_21 : decode cX6_init 21 = .ok (.putfield 18, 3) := by decide +kernel
theorem dX6_init_24 : decode cX6_init 24 = .ok (.return_, 1) := by decide +kernel
theorem dX6_hasRoom_0 : decode cX6_hasRoom 0 = .ok (.aload_n 0, 1) := by decide +kernel
theorem dX6_hasRoom_1 : decode cX6_hasRoom 1 = .ok (.getfield 22, 3) := by decide +kernel
theorem dX6_hasRoom_4 : decode cX6_hasRoom 4 = .ok (.bipush 20, 2) := by decide +kernel
theorem dX6_hasRoom_6 : decode cX6_hasRoom 6 = .ok (.iadd, 1) := by decide +kernel
theorem dX6_hasRoom_7 : decode cX6_hasRoom 7 = .ok (.sipush 600, 3) := by decide +kernel
theorem dX6_hasRoom_10 : decode cX6_hasRoom 10 = .ok (.if_icmp .gt 7, 3) := by decide +kernel
theorem dX6_hasRoom_13 : decode cX6_hasRoom 13 = .ok (.iconst 1, 1) := by decide +kernel
theorem dX6_hasRoom_14 : decode cX6_hasRoom 14 = .ok (.goto 4, 3) := by decide +kernel
theorem dX6_hasRoom_17 : decode cX6_hasRoom 17 = .ok (.iconst 0, 1) := by decide +kernel
theorem dX6_hasRoom_18 : decode cX6_hasRoom 18 = .ok (.ireturn, 1) := by decide +kernel
theorem dX6_put_0 : decode cX6_put 0 = .ok (.bipush 24, 2) := by decide +kernel
theorem dX6_put_2 : decode cX6_put 2 = .ok (.istore_n 2, 1) := by decide +kernel
theorem dX6_put_3 : decode cX6_put 3 = .ok (.iload_n 2, 1) := by decide +kernel
theorem dX6_put_4 : decode cX6_put 4 = .ok (.ifCond .lt 49, 3) := by decide +kernel
theorem dX6_put_7 : decode cX6_put 7 = .ok (.aload_n 0, 1) := by decide +kernel
theorem dX6_put_8 : decode cX6_put 8 = .ok (.getfield 22, 3) := by decide +kernel
theorem dX6_put_11 : decode cX6_put 11 = .ok (.ifCond .lt 36, 3) := by decide +kernel
theorem dX6_put_14 : decode cX6_put 14 = .ok (.aload_n 0, 1) := by decide +kernel
theorem dX6_put_15 : decode cX6_put 15 = .ok (.getfield 22, 3) := by decide +kernel
theorem dX6_put_18 : decode cX6_put 18 = .ok (.sipush 600, 3) := by decide +kernel
theorem dX6_put_21 : decode cX6_put 21 = .ok (.if_icmp .ge 26, 3) := by decide +kernel
theorem dX6_put_24 : decode cX6_put 24 = .ok (.aload_n 0, 1) := by decide +kernel
theorem dX6_put_25 : decode cX6_put 25 = .ok (.getfield 11, 3) := by decide +kernel
theorem dX6_put_28 : decode cX6_put 28 = .ok (.aload_n 0, 1) := by decide +kernel
theorem dX6_put_29 : decode cX6_put 29 = .ok (.getfield 22, 3) := by decide +kernel
theorem dX6_put_32 : decode cX6_put 32 = .ok (.iload_n 1, 1) := by decide +kernel
theorem dX6_put_33 : decode cX6_put 33 = .ok (.iload_n 2, 1) := by decide +kernel
theorem dX6_put_34 : decode cX6_put 34 = .ok (.iushr, 1) := by decide +kernel
theorem dX6_put_35 : decode cX6_put 35 = .ok (.i2b, 1) := by decide +kernel
theorem dX6_put_36 : decode cX6_put 36 = .ok (.bastore, 1) := by decide +kernel
theorem dX6_put_37 : decode cX6_put 37 = .ok (.aload_n 0, 1) := by decide +kernel
theorem dX6_put_38 : decode cX6_put 38 = .ok (.dup, 1) := by decide +kernel
theorem dX6_put_39 : decode cX6_put 39 = .ok (.getfield 22, 3) := by decide +kernel
theorem dX6_put_42 : decode cX6_put 42 = .ok (.iconst 1, 1) := by decide +kernel
theorem dX6_put_43 : decode cX6_put 43 = .ok (.iadd, 1) := by decide +kernel
theorem dX6_put_44 : decode cX6_put 44 = .ok (.putfield 22, 3) := by decide +kernel
theorem dX6_put_47 : decode cX6_put 47 = .ok (.iinc 2 (-8), 3) := by decide +kernel
theorem dX6_put_50 : decode cX6_put 50 = .ok (.goto (-47), 3) := by decide +kernel
theorem dX6_put_53 : decode cX6_put 53 = .ok (.return_, 1) := by decide +kernel
theorem dX6_reads_0 : decode cX6_reads 0 = .ok (.aload_n 0, 1) := by decide +kernel
theorem dX6_reads_1 : decode cX6_reads 1 = .ok (.iload_n 1, 1) := by decide +kernel
theorem dX6_reads_2 : decode cX6_reads 2 = .ok (.putfield 26, 3) := by decide +kernel
theorem dX6_reads_5 : decode cX6_reads 5 = .ok (.aload_n 0, 1) := by decide +kernel
theorem dX6_reads_6 : decode cX6_reads 6 = .ok (.iconst 0, 1) := by decide +kernel
theorem dX6_reads_7 : decode cX6_reads 7 = .ok (.putfield 29, 3) := by decide +kernel
theorem dX6_reads_10 : decode cX6_reads 10 = .ok (.aload_n 0, 1) := by decide +kernel
theorem dX6_reads_11 : decode cX6_reads 11 = .ok (.iconst 0, 1) := by decide +kernel
theorem dX6_reads_12 : decode cX6_reads 12 = .ok (.putfield 32, 3) := by decide +kernel
theorem dX6_reads_15 : decode cX6_reads 15 = .ok (.aload_n 0, 1) := by decide +kernel
theorem dX6_reads_16 : decode cX6_reads 16 = .ok (.iconst 0, 1) := by decide +kernel
theorem dX6_reads_17 : decode cX6_reads 17 = .ok (.putfield 35, 3) := by decide +kernel
theorem dX6_reads_20 : decode cX6_reads 20 = .ok (.aload_n 0, 1) := by decide +kernel
theorem dX6_reads_21 : decode cX6_reads 21 = .ok (.getfield 18, 3) := by decide +kernel
theorem dX6_reads_24 : decode cX6_reads 24 = .ok (.invokevirtual 38, 3) := by decide +kernel
theorem dX6_reads_27 : decode cX6_reads 27 = .ok (.aload_n 0, 1) := by decide +kernel
theorem dX6_reads_28 : decode cX6_reads 28 = .ok (.invokevirtual 41, 3) := by decide +kernel
theorem dX6_reads_31 : decode cX6_reads 31 = .ok (.iconst 1, 1) := by decide +kernel
theorem dX6_reads_32 : decode cX6_reads 32 = .ok (.istore_n 2, 1) := by decide +kernel
theorem dX6_reads_33 : decode cX6_reads 33 = .ok (.iconst 0, 1) := by decide +kernel
theorem dX6_reads_34 : decode cX6_reads 34 = .ok (.istore_n 3, 1) := by decide +kernel
theorem dX6_reads_35 : decode cX6_reads 35 = .ok (.iload_n 3, 1) := by decide +kernel
theorem dX6_reads_36 : decode cX6_reads 36 = .ok (.aload_n 0, 1) := by decide +kernel
theorem dX6_reads_37 : decode cX6_reads 37 = .ok (.getfield 26, 3) := by decide +kernel
theorem dX6_reads_40 : decode cX6_reads 40 = .ok (.if_icmp .gt 112, 3) := by decide +kernel
theorem dX6_reads_43 : decode cX6_reads 43 = .ok (.iload_n 2, 1) := by decide +kernel
theorem dX6_reads_44 : decode cX6_reads 44 = .ok (.ifCond .eq 108, 3) := by decide +kernel
theorem dX6_reads_47 : decode cX6_reads 47 = .ok (.aload_n 0, 1) := by decide +kernel
theorem dX6_reads_48 : decode cX6_reads 48 = .ok (.ldc 44, 2) := by decide +kernel
theorem dX6_reads_50 : decode cX6_reads 50 = .ok (.invokevirtual 46, 3) := by decide +kernel
theorem dX6_reads_53 : decode cX6_reads 53 = .ok (.ifCond .eq 10, 3) := by decide +kernel
theorem dX6_reads_56 : decode cX6_reads 56 = .ok (.aload_n 0, 1) := by decide +kernel
theorem dX6_reads_57 : decode cX6_reads 57 = .ok (.invokevirtual 50, 3) := by decide +kernel
theorem dX6_reads_60 : decode cX6_reads 60 = .ok (.goto 56, 3) := by decide +kernel
theorem dX6_reads_63 : decode cX6_reads 63 = .ok (.aload_n 0, 1) := by decide +kernel
theorem dX6_reads_64 : decode cX6_reads 64 = .ok (.ldc 53, 2) := by decide +kernel
theorem dX6_reads_66 : decode cX6_reads 66 = .ok (.invokevirtual 46, 3) := by decide +kernel
theorem dX6_reads_69 : decode cX6_reads 69 = .ok (.ifCond .eq 10, 3) := by decide +kernel
theorem dX6_reads_72 : decode cX6_reads 72 = .ok (.aload_n 0, 1) := by decide +kernel
theorem dX6_reads_73 : decode cX6_reads 73 = .ok (.invokevirtual 55, 3) := by decide +kernel
theorem dX6_reads_76 : decode cX6_reads 76 = .ok (.goto 40, 3) := by decide +kernel
theorem dX6_reads_79 : decode cX6_reads 79 = .ok (.aload_n 0, 1) := by decide +kernel
theorem dX6_reads_80 : decode cX6_reads 80 = .ok (.ldc 58, 2) := by decide +kernel
theorem dX6_reads_82 : decode cX6_reads 82 = .ok (.invokevirtual 46, 3) := by decide +kernel
theorem dX6_reads_85 : decode cX6_reads 85 = .ok (.ifCond .eq 10, 3) := by decide +kernel
theorem dX6_reads_88 : decode cX6_reads 88 = .ok (.aload_n 0, 1) := by decide +kernel
theorem dX6_reads_89 : decode cX6_reads 89 = .ok (.invokevirtual 60, 3) := by decide +kernel
theorem dX6_reads_92 : decode cX6_reads 92 = .ok (.goto 24, 3) := by decide +kernel
theorem dX6_reads_95 : decode cX6_reads 95 = .ok (.aload_n 0, 1) := by decide +kernel
theorem dX6_reads_96 : decode cX6_reads 96 = .ok (.ldc 63, 2) := by decide +kernel
theorem dX6_reads_98 : decode cX6_reads 98 = .ok (.invokevirtual 46, 3) := by decide +kernel
theorem dX6_reads_101 : decode cX6_reads 101 = .ok (.ifCond .eq 10, 3) := by decide +kernel
theorem dX6_reads_104 : decode cX6_reads 104 = .ok (.aload_n 0, 1) := by decide +kernel
theorem dX6_reads_105 : decode cX6_reads 105 = .ok (.invokevirtual 65, 3) := by decide +kernel
theorem dX6_reads_108 : decode cX6_reads 108 = .ok (.goto 8, 3) := by decide +kernel
theorem dX6_reads_111 : decode cX6_reads 111 = .ok (.aload_n 0, 1) := by decide +kernel
theorem dX6_reads_112 : decode cX6_reads 112 = .ok (.iconst 1, 1) := by decide +kernel
theorem dX6_reads_113 : decode cX6_reads 113 = .ok (.invokevirtual 68, 3) := by decide +kernel
theorem dX6_reads_116 : decode cX6_reads 116 = .ok (.aload_n 0, 1) := by decide +kernel
theorem dX6_reads_117 : decode cX6_reads 117 = .ok (.getfield 32, 3) := by decide +kernel
theorem dX6_reads_120 : decode cX6_reads 120 = .ok (.ifCond .ne 16, 3) := by decide +kernel
theorem dX6_reads_123 : decode cX6_reads 123 = .ok (.aload_n 0, 1) := by decide +kernel
theorem dX6_reads_124 : decode cX6_reads 124 = .ok (.bipush 59, 2) := by decide +kernel
theorem dX6_reads_126 : decode cX6_reads 126 = .ok (.invokevirtual 72, 3) := by decide +kernel
theorem dX6_reads_129 : decode cX6_reads 129 = .ok (.ifCond .eq 7, 3) := by decide +kernel
theorem dX6_reads_132 : decode cX6_reads 132 = .ok (.iconst 1, 1) := by decide +kernel
theorem dX6_reads_133 : decode cX6_reads 133 = .ok (.goto 4, 3) := by decide +kernel
theorem dX6_reads_136 : decode cX6_reads 136 = .ok (.iconst 0, 1) := by decide +kernel
theorem dX6_reads_137 : decode cX6_reads 137 = .ok (.istore_n 2, 1) := by decide +kernel
theorem dX6_reads_138 : decode cX6_reads 138 = .ok (.iload_n 2, 1) := by decide +kernel
theorem dX6_reads_139 : decode cX6_reads 139 = .ok (.ifCond .eq 7, 3) := by decide +kernel
theorem dX6_reads_142 : decode cX6_reads 142 = .ok (.aload_n 0, 1) := by decide +kernel
theorem dX6_reads_143 : decode cX6_reads 143 = .ok (.invokevirtual 41, 3) := by decide +kernel
theorem dX6_reads_146 : decode cX6_reads 146 = .ok (.iinc 3 1, 3) := by decide +kernel
theorem dX6_reads_149 : decode cX6_reads 149 = .ok (.goto (-114), 3) := by decide +kernel
theorem dX6_reads_152 : decode cX6_reads 152 = .ok (.aload_n 0, 1) := by decide +kernel
theorem dX6_reads_153 : decode cX6_reads 153 = .ok (.getfield 76, 3) := by decide +kernel
theorem dX6_reads_156 : decode cX6_reads 156 = .ok (.ifCond .eq 8, 3) := by decide +kernel
theorem dX6_reads_159 : decode cX6_reads 159 = .ok (.aload_n 0, 1) := by decide +kernel
theorem dX6_reads_160 : decode cX6_reads 160 = .ok (.iconst 1, 1) := by decide +kernel
theorem dX6_reads_161 : decode cX6_reads 161 = .ok (.invokevirtual 68, 3) := by decide +kernel
theorem dX6_reads_164 : decode cX6_reads 164 = .ok (.aload_n 0, 1) := by decide +kernel
theorem dX6_reads_165 : decode cX6_reads 165 = .ok (.getfield 18, 3) := by decide +kernel
theorem dX6_reads_168 : decode cX6_reads 168 = .ok (.getfield 79, 3) := by decide +kernel
theorem dX6_reads_171 : decode cX6_reads 171 = .ok (.ifCond .ne 9, 3) := by decide +kernel
theorem dX6_reads_174 : decode cX6_reads 174 = .ok (.aload_n 0, 1) := by decide +kernel
theorem dX6_reads_175 : decode cX6_reads 175 = .ok (.bipush 6, 2) := by decide +kernel
theorem dX6_reads_177 : decode cX6_reads 177 = .ok (.invokevirtual 68, 3) := by decide +kernel
theorem dX6_reads_180 : decode cX6_reads 180 = .ok (.aload_n 0, 1) := by decide +kernel
theorem dX6_reads_181 : decode cX6_reads 181 = .ok (.getfield 32, 3) := by decide +kernel
theorem dX6_reads_184 : decode cX6_reads 184 = .ok (.ifCond .ne 7, 3) := by decide +kernel
theorem dX6_reads_187 : decode cX6_reads 187 = .ok (.iconst 1, 1) := by decide +kernel
theorem dX6_reads_188 : decode cX6_reads 188 = .ok (.goto 4, 3) := by decide +kernel
theorem dX6_reads_191 : decode cX6_reads 191 = .ok (.iconst 0, 1) := by decide +kernel
theorem dX6_reads_192 : decode cX6_reads 192 = .ok (.ireturn, 1) := by decide +kernel
theorem dX6_fail_0 : decode cX6_fail 0 = .ok (.aload_n 0, 1) := by decide +kernel
theorem dX6_fail_1 : decode cX6_fail 1 = .ok (.getfield 32, 3) := by decide +kernel
theorem dX6_fail_4 : decode cX6_fail 4 = .ok (.ifCond .ne 16, 3) := by decide +kernel
theorem dX6_fail_7 : decode cX6_fail 7 = .ok (.aload_n 0, 1) := by decide +kernel
theorem dX6_fail_8 : decode cX6_fail 8 = .ok (.iload_n 1, 1) := by decide +kernel
theorem dX6_fail_9 : decode cX6_fail 9 = .ok (.putfield 32, 3) := by decide +kernel
theorem dX6_fail_12 : decode cX6_fail 12 = .ok (.aload_n 0, 1) := by decide +kernel
theorem dX6_fail_13 : decode cX6_fail 13 = .ok (.aload_n 0, 1) := by decide +kernel
theorem dX6_fail_14 : decode cX6_fail 14 = .ok (.getfield 83, 3) := by decide +kernel
theorem dX6_fail_17 : decode cX6_fail 17 = .ok (.putfield 35, 3) := by decide +kernel
theorem dX6_fail_20 : decode cX6_fail 20 = .ok (.return_, 1) := by decide +kernel
theorem dX6_byteAt_0 : decode cX6_byteAt 0 = .ok (.iload_n 1, 1) := by decide +kernel
theorem dX6_byteAt_1 : decode cX6_byteAt 1 = .ok (.ifCond .lt 31, 3) := by decide +kernel
theorem dX6_byteAt_4 : decode cX6_byteAt 4 = .ok (.iload_n 1, 1) := by decide +kernel
theorem dX6_byteAt_5 : decode cX6_byteAt 5 = .ok (.aload_n 0, 1) := by decide +kernel
theorem dX6_byteAt_6 : decode cX6_byteAt 6 = .ok (.getfield 26, 3) := by decide +kernel
theorem dX6_byteAt_9 : decode cX6_byteAt 9 = .ok (.if_icmp .ge 23, 3) := by decide +kernel
theorem dX6_byteAt_12 : decode cX6_byteAt 12 = .ok (.iload_n 1, 1) := by decide +kernel
theorem dX6_byteAt_13 : decode cX6_byteAt 13 = .ok (.sipush 600, 3) := by decide +kernel
theorem dX6_byteAt_16 : decode cX6_byteAt 16 = .ok (.if_icmp .ge 16, 3) := by decide +kernel
theorem dX6_byteAt_19 : decode cX6_byteAt 19 = .ok (.aload_n 0, 1) := by decide +kernel
theorem dX6_byteAt_20 : decode cX6_byteAt 20 = .ok (.getfield 11, 3) := by decide +kernel
theorem dX6_byteAt_23 : decode cX6_byteAt 23 = .ok (.iload_n 1, 1) := by decide +kernel
theorem dX6_byteAt_24 : decode cX6_byteAt 24 = .ok (.baload, 1) := by decide +kernel
theorem dX6_byteAt_25 : decode cX6_byteAt 25 = .ok (.sipush 255, 3) := by decide +kernel
theorem dX6_byteAt_28 : decode cX6_byteAt 28 = .ok (.iand, 1) := by decide +kernel
theorem dX6_byteAt_29 : decode cX6_byteAt 29 = .ok (.goto 4, 3) := by decide +kernel
theorem dX6_byteAt_32 : decode cX6_byteAt 32 = .ok (.iconst 0, 1) := by decide +kernel
theorem dX6_byteAt_33 : decode cX6_byteAt 33 = .ok (.ireturn, 1) := by decide +kernel
theorem dX6_step_0 : decode cX6_step 0 = .ok (.aload_n 0, 1) := by decide +kernel
theorem dX6_step_1 : decode cX6_step 1 = .ok (.aload_n 0, 1) := by decide +kernel
theorem dX6_step_2 : decode cX6_step 2 = .ok (.aload_n 0, 1) := by decide +kernel
theorem dX6_step_3 : decode cX6_step 3 = .ok (.getfield 29, 3) := by decide +kernel
theorem dX6_step_6 : decode cX6_step 6 = .ok (.bipush 32, 2) := by decide +kernel
theorem dX6_step_8 : decode cX6_step 8 = .ok (.bipush 32, 2) := by decide +kernel
theorem dX6_step_10 : decode cX6_step 10 = .ok (.invokevirtual 86, 3) := by decide +kernel
theorem dX6_step_13 : decode cX6_step 13 = .ok (.putfield 83, 3) := by decide +kernel
theorem dX6_step_16 : decode cX6_step 16 = .ok (.aload_n 0, 1) := by decide +kernel
theorem dX6_step_17 : decode cX6_step 17 = .ok (.aload_n 0, 1) := by decide +kernel
theorem dX6_step_18 : decode cX6_step 18 = .ok (.getfield 83, 3) := by decide +kernel
theorem dX6_step_21 : decode cX6_step 21 = .ok (.invokevirtual 90, 3) := by decide +kernel
theorem dX6_step_24 : decode cX6_step 24 = .ok (.istore_n 1, 1) := by decide +kernel
theorem dX6_step_25 : decode cX6_step 25 = .ok (.aload_n 0, 1) := by decide +kernel
theorem dX6_step_26 : decode cX6_step 26 = .ok (.getfield 83, 3) := by decide +kernel
theorem dX6_step_29 : decode cX6_step 29 = .ok (.aload_n 0, 1) := by decide +kernel
theorem dX6_step_30 : decode cX6_step 30 = .ok (.getfield 26, 3) := by decide +kernel
theorem dX6_step_33 : decode cX6_step 33 = .ok (.if_icmp .lt 19, 3) := by decide +kernel
theorem dX6_step_36 : decode cX6_step 36 = .ok (.aload_n 0, 1) := by decide +kernel
theorem dX6_step_37 : decode cX6_step 37 = .ok (.iconst 0, 1) := by decide +kernel
theorem dX6_step_38 : decode cX6_step 38 = .ok (.putfield 76, 3) := by decide +kernel
theorem dX6_step_41 : decode cX6_step 41 = .ok (.aload_n 0, 1) := by decide +kernel
theorem dX6_step_42 : decode cX6_step 42 = .ok (.aload_n 0, 1) := by decide +kernel
theorem dX6_step_43 : decode cX6_step 43 = .ok (.getfield 83, 3) := by decide +kernel
theorem dX6_step_46 : decode cX6_step 46 = .ok (.putfield 29, 3) := by decide +kernel
theorem dX6_step_49 : decode cX6_step 49 = .ok (.goto 138, 3) := by decide +kernel
theorem dX6_step_52 : decode cX6_step 52 = .ok (.iload_n 1, 1) := by decide +kernel
theorem dX6_step_53 : decode cX6_step 53 = .ok (.bipush 97, 2) := by decide +kernel
theorem dX6_step_55 : decode cX6_step 55 = .ok (.if_icmp .lt 50, 3) := by decide +kernel
theorem dX6_step_58 : decode cX6_step 58 = .ok (.iload_n 1, 1) := by decide +kernel
theorem dX6_step_59 : decode cX6_step 59 = .ok (.bipush 122, 2) := by decide +kernel
theorem dX6_step_61 : decode cX6_step 61 = .ok (.if_icmp .gt 44, 3) := by decide +kernel
theorem dX6_step_64 : decode cX6_step 64 = .ok (.aload_n 0, 1) := by decide +kernel
theorem dX6_step_65 : decode cX6_step 65 = .ok (.aload_n 0, 1) := by decide +kernel
theorem dX6_step_66 : decode cX6_step 66 = .ok (.aload_n 0, 1) := by decide +kernel
theorem dX6_step_67 : decode cX6_step 67 = .ok (.getfield 83, 3) := by decide +kernel
theorem dX6_step_70 : decode cX6_step 70 = .ok (.bipush 97, 2) := by decide +kernel
theorem dX6_step_72 : decode cX6_step 72 = .ok (.bipush 122, 2) := by decide +kernel
theorem dX6_step_74 : decode cX6_step 74 = .ok (.invokevirtual 86, 3) := by decide +kernel
theorem dX6_step_77 : decode cX6_step 77 = .ok (.putfield 29, 3) := by decide +kernel
theorem dX6_step_80 : decode cX6_step 80 = .ok (.aload_n 0, 1) := by decide +kernel
theorem dX6_step_81 : decode cX6_step 81 = .ok (.aload_n 0, 1) := by decide +kernel
theorem dX6_step_82 : decode cX6_step 82 = .ok (.getfield 29, 3) := by decide +kernel
theorem dX6_step_85 : decode cX6_step 85 = .ok (.aload_n 0, 1) := by decide +kernel
theorem dX6_step_86 : decode cX6_step 86 = .ok (.getfield 83, 3) := by decide +kernel
theorem dX6_step_89 : decode cX6_step 89 = .ok (.isub, 1) := by decide +kernel
theorem dX6_step_90 : decode cX6_step 90 = .ok (.iconst 5, 1) := by decide +kernel
theorem dX6_step_91 : decode cX6_step 91 = .ok (.if_icmp .gt 7, 3) := by decide +kernel
theorem dX6_step_94 : decode cX6_step 94 = .ok (.iconst 1, 1) := by decide +kernel
theorem dX6_step_95 : decode cX6_step 95 = .ok (.goto 4, 3) := by decide +kernel
theorem dX6_step_98 : decode cX6_step 98 = .ok (.iconst 4, 1) := by decide +kernel
theorem dX6_step_99 : decode cX6_step 99 = .ok (.putfield 76, 3) := by decide +kernel
theorem dX6_step_102 : decode cX6_step 102 = .ok (.goto 85, 3) := by decide +kernel
theorem dX6_step_105 : decode cX6_step 105 = .ok (.iload_n 1, 1) := by decide +kernel
theorem dX6_step_106 : decode cX6_step 106 = .ok (.bipush 48, 2) := by decide +kernel
theorem dX6_step_108 : decode cX6_step 108 = .ok (.if_icmp .lt 50, 3) := by decide +kernel
theorem dX6_step_111 : decode cX6_step 111 = .ok (.iload_n 1, 1) := by decide +kernel
theorem dX6_step_112 : decode cX6_step 112 = .ok (.bipush 57, 2) := by decide +kernel
theorem dX6_step_114 : decode cX6_step 114 = .ok (.if_icmp .gt 44, 3) := by decide +kernel
theorem dX6_step_117 : decode cX6_step 117 = .ok (.aload_n 0, 1) := by decide +kernel
theorem dX6_step_118 : decode cX6_step 118 = .ok (.aload_n 0, 1) := by decide +kernel
theorem dX6_step_119 : decode cX6_step 119 = .ok (.aload_n 0, 1) := by decide +kernel
theorem dX6_step_120 : decode cX6_step 120 = .ok (.getfield 83, 3) := by decide +kernel
theorem dX6_step_123 : decode cX6_step 123 = .ok (.bipush 48, 2) := by decide +kernel
theorem dX6_step_125 : decode cX6_step 125 = .ok (.bipush 57, 2) := by decide +kernel
theorem dX6_step_127 : decode cX6_step 127 = .ok (.invokevirtual 86, 3) := by decide +kernel
theorem dX6_step_130 : decode cX6_step 130 = .ok (.putfield 29, 3) := by decide +kernel
theorem dX6_step_133 : decode cX6_step 133 = .ok (.aload_n 0, 1) := by decide +kernel
theorem dX6_step_134 : decode cX6_step 134 = .ok (.aload_n 0, 1) := by decide +kernel
theorem dX6_step_135 : decode cX6_step 135 = .ok (.getfield 29, 3) := by decide +kernel
theorem dX6_step_138 : decode cX6_step 138 = .ok (.aload_n 0, 1) := by decide +kernel
theorem dX6_step_139 : decode cX6_step 139 = .ok (.getfield 83, 3) := by decide +kernel
theorem dX6_step_142 : decode cX6_step 142 = .ok (.isub, 1) := by decide +kernel
theorem dX6_step_143 : decode cX6_step 143 = .ok (.iconst 3, 1) := by decide +kernel
theorem dX6_step_144 : decode cX6_step 144 = .ok (.if_icmp .gt 7, 3) := by decide +kernel
theorem dX6_step_147 : decode cX6_step 147 = .ok (.iconst 2, 1) := by decide +kernel
theorem dX6_step_148 : decode cX6_step 148 = .ok (.goto 4, 3) := by decide +kernel
theorem dX6_step_151 : decode cX6_step 151 = .ok (.iconst 4, 1) := by decide +kernel
theorem dX6_step_152 : decode cX6_step 152 = .ok (.putfield 76, 3) := by decide +kernel
theorem dX6_step_155 : decode cX6_step 155 = .ok (.goto 32, 3) := by decide +kernel
theorem dX6_step_158 : decode cX6_step 158 = .ok (.aload_n 0, 1) := by decide +kernel
theorem dX6_step_159 : decode cX6_step 159 = .ok (.aload_n 0, 1) := by decide +kernel
theorem dX6_step_160 : decode cX6_step 160 = .ok (.getfield 83, 3) := by decide +kernel
theorem dX6_step_163 : decode cX6_step 163 = .ok (.iconst 1, 1) := by decide +kernel
theorem dX6_step_164 : decode cX6_step 164 = .ok (.iadd, 1) := by decide +kernel
theorem dX6_step_165 : decode cX6_step 165 = .ok (.putfield 29, 3) := by decide +kernel
theorem dX6_step_168 : decode cX6_step 168 = .ok (.aload_n 0, 1) := by decide +kernel
theorem dX6_step_169 : decode cX6_step 169 = .ok (.ldc 94, 2) := by decide +kernel
theorem dX6_step_171 : decode cX6_step 171 = .ok (.iload_n 1, 1) := by decide +kernel
theorem dX6_step_172 : decode cX6_step 172 = .ok (.i2c, 1) := by decide +kernel
theorem dX6_step_173 : decode cX6_step 173 = .ok (.invokevirtual 96, 3) := by decide +kernel
theorem dX6_step_176 : decode cX6_step 176 = .ok (.ifCond .lt 7, 3) := by decide +kernel
theorem dX6_step_179 : decode cX6_step 179 = .ok (.iconst 3, 1) := by decide +kernel
theorem dX6_step_180 : decode cX6_step 180 = .ok (.goto 4, 3) := by decide +kernel
theorem dX6_step_183 : decode cX6_step 183 = .ok (.iconst 4, 1) := by decide +kernel
theorem dX6_step_184 : decode cX6_step 184 = .ok (.putfield 76, 3) := by decide +kernel
theorem dX6_step_187 : decode cX6_step 187 = .ok (.return_, 1) := by decide +kernel
theorem dX6_rowEnd_0 : decode cX6_rowEnd 0 = .ok (.iload_n 1, 1) := by decide +kernel
theorem dX6_rowEnd_1 : decode cX6_rowEnd 1 = .ok (.istore 4, 2) := by decide +kernel
theorem dX6_rowEnd_3 : decode cX6_rowEnd 3 = .ok (.iload 4, 2) := by decide +kernel
theorem dX6_rowEnd_5 : decode cX6_rowEnd 5 = .ok (.ifCond .lt 48, 3) := by decide +kernel
theorem dX6_rowEnd_8 : decode cX6_rowEnd 8 = .ok (.iload 4, 2) := by decide +kernel
theorem dX6_rowEnd_10 : decode cX6_rowEnd 10 = .ok (.aload_n 0, 1) := by decide +kernel
theorem dX6_rowEnd_11 : decode cX6_rowEnd 11 = .ok (.getfield 26, 3) := by decide +kernel
theorem dX6_rowEnd_14 : decode cX6_rowEnd 14 = .ok (.if_icmp .ge 39, 3) := by decide +kernel
theorem dX6_rowEnd_17 : decode cX6_rowEnd 17 = .ok (.iload 4, 2) := by decide +kernel
theorem dX6_rowEnd_19 : decode cX6_rowEnd 19 = .ok (.sipush 600, 3) := by decide +kernel
theorem dX6_rowEnd_22 : decode cX6_rowEnd 22 = .ok (.if_icmp .ge 31, 3) := by decide +kernel
theorem dX6_rowEnd_25 : decode cX6_rowEnd 25 = .ok (.aload_n 0, 1) := by decide +kernel
theorem dX6_rowEnd_26 : decode cX6_rowEnd 26 = .ok (.getfield 11, 3) := by decide +kernel
theorem dX6_rowEnd_29 : decode cX6_rowEnd 29 = .ok (.iload 4, 2) := by decide +kernel
theorem dX6_rowEnd_31 : decode cX6_rowEnd 31 = .ok (.baload, 1) := by decide +kernel
theorem dX6_rowEnd_32 : decode cX6_rowEnd 32 = .ok (.iload_n 2, 1) := by decide +kernel
theorem dX6_rowEnd_33 : decode cX6_rowEnd 33 = .ok (.if_icmp .lt 20, 3) := by decide +kernel
theorem dX6_rowEnd_36 : decode cX6_rowEnd 36 = .ok (.aload_n 0, 1) := by decide +kernel
theorem dX6_rowEnd_37 : decode cX6_rowEnd 37 = .ok (.getfield 11, 3) := by decide +kernel
theorem dX6_rowEnd_40 : decode cX6_rowEnd 40 = .ok (.iload 4, 2) := by decide +kernel
theorem dX6_rowEnd_42 : decode cX6_rowEnd 42 = .ok (.baload, 1) := by decide +kernel
theorem dX6_rowEnd_43 : decode cX6_rowEnd 43 = .ok (.iload_n 3, 1) := by decide +kernel
theorem dX6_rowEnd_44 : decode cX6_rowEnd 44 = .ok (.if_icmp .gt 9, 3) := by decide +kernel
theorem dX6_rowEnd_47 : decode cX6_rowEnd 47 = .ok (.iinc 4 1, 3) := by decide +kernel
theorem dX6_rowEnd_50 : decode cX6_rowEnd 50 = .ok (.goto (-47), 3) := by decide +kernel
theorem dX6_rowEnd_53 : decode cX6_rowEnd 53 = .ok (.iload 4, 2) := by decide +kernel
theorem dX6_rowEnd_55 : decode cX6_rowEnd 55 = .ok (.ireturn, 1) := by decide +kernel
theorem dX6_isSign_0 : decode cX6_isSign 0 = .ok (.aload_n 0, 1) := by decide +kernel
theorem dX6_isSign_1 : decode cX6_isSign 1 = .ok (.getfield 76, 3) := by decide +kernel
theorem dX6_isSign_4 : decode cX6_isSign 4 = .ok (.iconst 3, 1) := by decide +kernel
theorem dX6_isSign_5 : decode cX6_isSign 5 = .ok (.if_icmp .ne 19, 3) := by decide +kernel
theorem dX6_isSign_8 : decode cX6_isSign 8 = .ok (.aload_n 0, 1) := by decide +kernel
theorem dX6_isSign_9 : decode cX6_isSign 9 = .ok (.aload_n 0, 1) := by decide +kernel
theorem dX6_isSign_10 : decode cX6_isSign 10 = .ok (.getfield 83, 3) := by decide +kernel
theorem dX6_isSign_13 : decode cX6_isSign 13 = .ok (.invokevirtual 90, 3) := by decide +kernel
theorem dX6_isSign_16 : decode cX6_isSign 16 = .ok (.iload_n 1, 1) := by decide +kernel
theorem dX6_isSign_17 : decode cX6_isSign 17 = .ok (.if_icmp .ne 7, 3) := by decide +kernel
theorem dX6_isSign_20 : decode cX6_isSign 20 = .ok (.iconst 1, 1) := by decide +kernel
theorem dX6_isSign_21 : decode cX6_isSign 21 = .ok (.goto 4, 3) := by decide +kernel
theorem dX6_isSign_24 : decode cX6_isSign 24 = .ok (.iconst 0, 1) := by decide +kernel
theorem dX6_isSign_25 : decode cX6_isSign 25 = .ok (.ireturn, 1) := by decide +kernel
theorem dX6_isWord_0 : decode cX6_isWord 0 = .ok (.aload_n 0, 1) := by decide +kernel
theorem dX6_isWord_1 : decode cX6_isWord 1 = .ok (.getfield 76, 3) := by decide +kernel
theorem dX6_isWord_4 : decode cX6_isWord 4 = .ok (.iconst 1, 1) := by decide +kernel
theorem dX6_isWord_5 : decode cX6_isWord 5 = .ok (.if_icmp .ne 19, 3) := by decide +kernel
theorem dX6_isWord_8 : decode cX6_isWord 8 = .ok (.aload_n 0, 1) := by decide +kernel
theorem dX6_isWord_9 : decode cX6_isWord 9 = .ok (.getfield 29, 3) := by decide +kernel
theorem dX6_isWord_12 : decode cX6_isWord 12 = .ok (.aload_n 0, 1) := by decide +kernel
theorem dX6_isWord_13 : decode cX6_isWord 13 = .ok (.getfield 83, 3) := by decide +kernel
theorem dX6_isWord_16 : decode cX6_isWord 16 = .ok (.isub, 1) := by decide +kernel
theorem dX6_isWord_17 : decode cX6_isWord 17 = .ok (.aload_n 1, 1) := by decide +kernel
theorem dX6_isWord_18 : decode cX6_isWord 18 = .ok (.invokevirtual 101, 3) := by decide +kernel
theorem dX6_isWord_21 : decode cX6_isWord 21 = .ok (.if_icmp .eq 5, 3) := by decide +kernel
theorem dX6_isWord_24 : decode cX6_isWord 24 = .ok (.iconst 0, 1) := by decide +kernel
theorem dX6_isWord_25 : decode cX6_isWord 25 = .ok (.ireturn, 1) := by decide +kernel
theorem dX6_isWord_26 : decode cX6_isWord 26 = .ok (.iconst 0, 1) := by decide +kernel
theorem dX6_isWord_27 : decode cX6_isWord 27 = .ok (.istore_n 2, 1) := by decide +kernel
theorem dX6_isWord_28 : decode cX6_isWord 28 = .ok (.iload_n 2, 1) := by decide +kernel
theorem dX6_isWord_29 : decode cX6_isWord 29 = .ok (.aload_n 1, 1) := by decide +kernel
theorem dX6_isWord_30 : decode cX6_isWord 30 = .ok (.invokevirtual 101, 3) := by decide +kernel
theorem dX6_isWord_33 : decode cX6_isWord 33 = .ok (.if_icmp .ge 29, 3) := by decide +kernel
theorem dX6_isWord_36 : decode cX6_isWord 36 = .ok (.aload_n 1, 1) := by decide +kernel
theorem dX6_isWord_37 : decode cX6_isWord 37 = .ok (.iload_n 2, 1) := by decide +kernel
theorem dX6_isWord_38 : decode cX6_isWord 38 = .ok (.invokevirtual 104, 3) := by decide +kernel
theorem dX6_isWord_41 : decode cX6_isWord 41 = .ok (.aload_n 0, 1) := by decide +kernel
theorem dX6_isWord_42 : decode cX6_isWord 42 = .ok (.aload_n 0, 1) := by decide +kernel
theorem dX6_isWord_43 : decode cX6_isWord 43 = .ok (.getfield 83, 3) := by decide +kernel
theorem dX6_isWord_46 : decode cX6_isWord 46 = .ok (.iload_n 2, 1) := by decide +kernel
theorem dX6_isWord_47 : decode cX6_isWord 47 = .ok (.iadd, 1) := by decide +kernel
theorem dX6_isWord_48 : decode cX6_isWord 48 = .ok (.invokevirtual 90, 3) := by decide +kernel
theorem dX6_isWord_51 : decode cX6_isWord 51 = .ok (.if_icmp .eq 5, 3) := by decide +kernel
theorem dX6_isWord_54 : decode cX6_isWord 54 = .ok (.iconst 0, 1) := by decide +kernel
theorem dX6_isWord_55 : decode cX6_isWord 55 = .ok (.ireturn, 1) := by decide +kernel
theorem dX6_isWord_56 : decode cX6_isWord 56 = .ok (.iinc 2 1, 3) := by decide +kernel
theorem dX6_isWord_59 : decode cX6_isWord 59 = .ok (.goto (-31), 3) := by decide +kernel
theorem dX6_isWord_62 : decode cX6_isWord 62 = .ok (.iconst 1, 1) := by decide +kernel
theorem dX6_isWord_63 : decode cX6_isWord 63 = .ok (.ireturn, 1) := by decide +kernel
theorem dX6_letterAmong_0 : decode cX6_letterAmong 0 = .ok (.aload_n 0, 1) := by decide +kernel
theorem dX6_letterAmong_1 : decode cX6_letterAmong 1 = .ok (.getfield 76, 3) := by decide +kernel
theorem dX6_letterAmong_4 : decode cX6_letterAmong 4 = .ok (.iconst 1, 1) := by decide +kernel
theorem dX6_letterAmong_5 : decode cX6_letterAmong 5 = .ok (.if_icmp .ne 16, 3) := by decide +kernel
theorem dX6_letterAmong_8 : decode cX6_letterAmong 8 = .ok (.aload_n 0, 1) := by decide +kernel
theorem dX6_letterAmong_9 : decode cX6_letterAmong 9 = .ok (.getfield 29, 3) := by decide +kernel
theorem dX6_letterAmong_12 : decode cX6_letterAmong 12 = .ok (.aload_n 0, 1) := by decide +kernel
theorem dX6_letterAmong_13 : decode cX6_letterAmong 13 = .ok (.getfield 83, 3) := by decide +kernel
theorem dX6_letterAmong_16 : decode cX6_letterAmong 16 = .ok (.isub, 1) := by decide +kernel
theorem dX6_letterAmong_17 : decode cX6_letterAmong 17 = .ok (.iconst 1, 1) := by decide +kernel
theorem dX6_letterAmong_18 : decode cX6_letterAmong 18 = .ok (.if_icmp .eq 5, 3) := by decide +kernel
theorem dX6_letterAmong_21 : decode cX6_letterAmong 21 = .ok (.iconst (-1), 1) := by decide +kernel
theorem dX6_letterAmong_22 : decode cX6_letterAmong 22 = .ok (.ireturn, 1) := by decide +kernel
theorem dX6_letterAmong_23 : decode cX6_letterAmong 23 = .ok (.aload_n 1, 1) := by decide +kernel
theorem dX6_letterAmong_24 : decode cX6_letterAmong 24 = .ok (.aload_n 0, 1) := by decide +kernel
theorem dX6_letterAmong_25 : decode cX6_letterAmong 25 = .ok (.aload_n 0, 1) := by decide +kernel
theorem dX6_letterAmong_26 : decode cX6_letterAmong 26 = .ok (.getfield 83, 3) := by decide +kernel
theorem dX6_letterAmong_29 : decode cX6_letterAmong 29 = .ok (.invokevirtual 90, 3) := by decide +kernel
theorem dX6_letterAmong_32 : decode cX6_letterAmong 32 = .ok (.i2c, 1) := by decide +kernel
theorem dX6_letterAmong_33 : decode cX6_letterAmong 33 = .ok (.invokevirtual 96, 3) := by decide +kernel
theorem dX6_letterAmong_36 : decode cX6_letterAmong 36 = .ok (.ireturn, 1) := by decide +kernel
theorem dX6_wholeValue_0 : decode cX6_wholeValue 0 = .ok (.iconst 0, 1) := by decide +kernel
theorem dX6_wholeValue_1 : decode cX6_wholeValue 1 = .ok (.istore_n 1, 1) := by decide +kernel
theorem dX6_wholeValue_2 : decode cX6_wholeValue 2 = .ok (.aload_n 0, 1) := by decide +kernel
theorem dX6_wholeValue_3 : decode cX6_wholeValue 3 = .ok (.getfield 83, 3) := by decide +kernel
theorem dX6_wholeValue_6 : decode cX6_wholeValue 6 = .ok (.istore_n 2, 1) := by decide +kernel
theorem dX6_wholeValue_7 : decode cX6_wholeValue 7 = .ok (.iload_n 2, 1) := by decide +kernel
theorem dX6_wholeValue_8 : decode cX6_wholeValue 8 = .ok (.aload_n 0, 1) := by decide +kernel
theorem dX6_wholeValue_9 : decode cX6_wholeValue 9 = .ok (.getfield 29, 3) := by decide +kernel
theorem dX6_wholeValue_12 : decode cX6_wholeValue 12 = .ok (.if_icmp .ge 23, 3) := by decide +kernel
theorem dX6_wholeValue_15 : decode cX6_wholeValue 15 = .ok (.iload_n 1, 1) := by decide +kernel
theorem dX6_wholeValue_16 : decode cX6_wholeValue 16 = .ok (.bipush 10, 2) := by decide +kernel
theorem dX6_wholeValue_18 : decode cX6_wholeValue 18 = .ok (.imul, 1) := by decide +kernel
theorem dX6_wholeValue_19 : decode cX6_wholeValue 19 = .ok (.aload_n 0, 1) := by decide +kernel
theorem dX6_wholeValue_20 : decode cX6_wholeValue 20 = .ok (.iload_n 2, 1) := by decide +kernel
theorem dX6_wholeValue_21 : decode cX6_wholeValue 21 = .ok (.invokevirtual 90, 3) := by decide +kernel
theorem dX6_wholeValue_24 : decode cX6_wholeValue 24 = .ok (.iadd, 1) := by decide +kernel
theorem dX6_wholeValue_25 : decode cX6_wholeValue 25 = .ok (.bipush 48, 2) := by decide +kernel
theorem dX6_wholeValue_27 : decode cX6_wholeValue 27 = .ok (.isub, 1) := by decide +kernel
theorem dX6_wholeValue_28 : decode cX6_wholeValue 28 = .ok (.istore_n 1, 1) := by decide +kernel
theorem dX6_wholeValue_29 : decode cX6_wholeValue 29 = .ok (.iinc 2 1, 3) := by decide +kernel
theorem dX6_wholeValue_32 : decode cX6_wholeValue 32 = .ok (.goto (-25), 3) := by decide +kernel
theorem dX6_wholeValue_35 : decode cX6_wholeValue 35 = .ok (.iload_n 1, 1) := by decide +kernel
theorem dX6_wholeValue_36 : decode cX6_wholeValue 36 = .ok (.ireturn, 1) := by decide +kernel
theorem dX6_readState_0 : decode cX6_readState 0 = .ok (.aload_n 0, 1) := by decide +kernel
theorem dX6_readState_1 : decode cX6_readState 1 = .ok (.getfield 18, 3) := by decide +kernel
theorem dX6_readState_4 : decode cX6_readState 4 = .ok (.getfield 108, 3) := by decide +kernel
theorem dX6_readState_7 : decode cX6_readState 7 = .ok (.bipush 6, 2) := by decide +kernel
theorem dX6_readState_9 : decode cX6_readState 9 = .ok (.if_icmp .lt 9, 3) := by decide +kernel
theorem dX6_readState_12 : decode cX6_readState 12 = .ok (.aload_n 0, 1) := by decide +kernel
theorem dX6_readState_13 : decode cX6_readState 13 = .ok (.iconst 5, 1) := by decide +kernel
theorem dX6_readState_14 : decode cX6_readState 14 = .ok (.invokevirtual 68, 3) := by decide +kernel
theorem dX6_readState_17 : decode cX6_readState 17 = .ok (.return_, 1) := by decide +kernel
theorem dX6_readState_18 : decode cX6_readState 18 = .ok (.aload_n 0, 1) := by decide +kernel
theorem dX6_readState_19 : decode cX6_readState 19 = .ok (.invokevirtual 41, 3) := by decide +kernel
theorem dX6_readState_22 : decode cX6_readState 22 = .ok (.aload_n 0, 1) := by decide +kernel
theorem dX6_readState_23 : decode cX6_readState 23 = .ok (.getfield 76, 3) := by decide +kernel
theorem dX6_readState_26 : decode cX6_readState 26 = .ok (.iconst 2, 1) := by decide +kernel
theorem dX6_readState_27 : decode cX6_readState 27 = .ok (.if_icmp .eq 9, 3) := by decide +kernel
theorem dX6_readState_30 : decode cX6_readState 30 = .ok (.aload_n 0, 1) := by decide +kernel
theorem dX6_readState_31 : decode cX6_readState 31 = .ok (.iconst 1, 1) := by decide +kernel
theorem dX6_readState_32 : decode cX6_readState 32 = .ok (.invokevirtual 68, 3) := by decide +kernel
theorem dX6_readState_35 : decode cX6_readState 35 = .ok (.return_, 1) := by decide +kernel
theorem dX6_readState_36 : decode cX6_readState 36 = .ok (.aload_n 0, 1) := by decide +kernel
theorem dX6_readState_37 : decode cX6_readState 37 = .ok (.invokevirtual 111, 3) := by decide +kernel
theorem dX6_readState_40 : decode cX6_readState 40 = .ok (.istore_n 1, 1) := by decide +kernel
theorem dX6_readState_41 : decode cX6_readState 41 = .ok (.iload_n 1, 1) := by decide +kernel
theorem dX6_readState_42 : decode cX6_readState 42 = .ok (.iconst 4, 1) := by decide +kernel
theorem dX6_readState_43 : decode cX6_readState 43 = .ok (.if_icmp .lt 9, 3) := by decide +kernel
theorem dX6_readState_46 : decode cX6_readState 46 = .ok (.aload_n 0, 1) := by decide +kernel
theorem dX6_readState_47 : decode cX6_readState 47 = .ok (.iconst 4, 1) := by decide +kernel
theorem dX6_readState_48 : decode cX6_readState 48 = .ok (.invokevirtual 68, 3) := by decide +kernel
theorem dX6_readState_51 : decode cX6_readState 51 = .ok (.return_, 1) := by decide +kernel
theorem dX6_readState_52 : decode cX6_readState 52 = .ok (.aload_n 0, 1) := by decide +kernel
theorem dX6_readState_53 : decode cX6_readState 53 = .ok (.getfield 18, 3) := by decide +kernel
theorem dX6_readState_56 : decode cX6_readState 56 = .ok (.iload_n 1, 1) := by decide +kernel
theorem dX6_readState_57 : decode cX6_readState 57 = .ok (.invokevirtual 114, 3) := by decide +kernel
theorem dX6_readState_60 : decode cX6_readState 60 = .ok (.aload_n 0, 1) := by decide +kernel
theorem dX6_readState_61 : decode cX6_readState 61 = .ok (.invokevirtual 41, 3) := by decide +kernel
theorem dX6_readState_64 : decode cX6_readState 64 = .ok (.return_, 1) := by decide +kernel
theorem dX6_readBegin_0 : decode cX6_readBegin 0 = .ok (.aload_n 0, 1) := by decide +kernel
theorem dX6_readBegin_1 : decode cX6_readBegin 1 = .ok (.getfield 18, 3) := by decide +kernel
theorem dX6_readBegin_4 : decode cX6_readBegin 4 = .ok (.getfield 79, 3) := by decide +kernel
theorem dX6_readBegin_7 : decode cX6_readBegin 7 = .ok (.ifCond .eq 9, 3) := by decide +kernel
theorem dX6_readBegin_10 : decode cX6_readBegin 10 = .ok (.aload_n 0, 1) := by decide +kernel
theorem dX6_readBegin_11 : decode cX6_readBegin 11 = .ok (.iconst 3, 1) := by decide +kernel
theorem dX6_readBegin_12 : decode cX6_readBegin 12 = .ok (.invokevirtual 68, 3) := by decide +kernel
theorem dX6_readBegin_15 : decode cX6_readBegin 15 = .ok (.return_, 1) := by decide +kernel
theorem dX6_readBegin_16 : decode cX6_readBegin 16 = .ok (.aload_n 0, 1) := by decide +kernel
theorem dX6_readBegin_17 : decode cX6_readBegin 17 = .ok (.getfield 18, 3) := by decide +kernel
theorem dX6_readBegin_20 : decode cX6_readBegin 20 = .ok (.iconst 1, 1) := by decide +kernel
theorem dX6_readBegin_21 : decode cX6_readBegin 21 = .ok (.putfield 79, 3) := by decide +kernel
theorem dX6_readBegin_24 : decode cX6_readBegin 24 = .ok (.aload_n 0, 1) := by decide +kernel
theorem dX6_readBegin_25 : decode cX6_readBegin 25 = .ok (.invokevirtual 41, 3) := by decide +kernel
theorem dX6_readBegin_28 : decode cX6_readBegin 28 = .ok (.aload_n 0, 1) := by decide +kernel
theorem dX6_readBegin_29 : decode cX6_readBegin 29 = .ok (.getfield 18, 3) := by decide +kernel
theorem dX6_readBegin_32 : decode cX6_readBegin 32 = .ok (.aload_n 0, 1) := by decide +kernel
theorem dX6_readBegin_33 : decode cX6_readBegin 33 = .ok (.invokevirtual 117, 3) := by decide +kernel
theorem dX6_readBegin_36 : decode cX6_readBegin 36 = .ok (.putfield 120, 3) := by decide +kernel
theorem dX6_readBegin_39 : decode cX6_readBegin 39 = .ok (.aload_n 0, 1) := by decide +kernel
theorem dX6_readBegin_40 : decode cX6_readBegin 40 = .ok (.getfield 18, 3) := by decide +kernel
theorem dX6_readBegin_43 : decode cX6_readBegin 43 = .ok (.aload_n 0, 1) := by decide +kernel
theorem dX6_readBegin_44 : decode cX6_readBegin 44 = .ok (.ldc 122, 2) := by decide +kernel
theorem dX6_readBegin_46 : decode cX6_readBegin 46 = .ok (.invokevirtual 124, 3) := by decide +kernel
theorem dX6_readBegin_49 : decode cX6_readBegin 49 = .ok (.putfield 128, 3) := by decide +kernel
theorem dX6_readBegin_52 : decode cX6_readBegin 52 = .ok (.aload_n 0, 1) := by decide +kernel
theorem dX6_readBegin_53 : decode cX6_readBegin 53 = .ok (.invokevirtual 131, 3) := by decide +kernel
theorem dX6_readBegin_56 : decode cX6_readBegin 56 = .ok (.aload_n 0, 1) := by decide +kernel
theorem dX6_readBegin_57 : decode cX6_readBegin 57 = .ok (.getfield 18, 3) := by decide +kernel
theorem dX6_readBegin_60 : decode cX6_readBegin 60 = .ok (.aload_n 0, 1) := by decide +kernel
theorem dX6_readBegin_61 : decode cX6_readBegin 61 = .ok (.ldc 134, 2) := by decide +kernel
theorem dX6_readBegin_63 : decode cX6_readBegin 63 = .ok (.invokevirtual 124, 3) := by decide +kernel
theorem dX6_readBegin_66 : decode cX6_readBegin 66 = .ok (.putfield 136, 3) := by decide +kernel
theorem dX6_readBegin_69 : decode cX6_readBegin 69 = .ok (.return_, 1) := by decide +kernel
theorem dX6_readArc_0 : decode cX6_readArc 0 = .ok (.aload_n 0, 1) := by decide +kernel
theorem dX6_readArc_1 : decode cX6_readArc 1 = .ok (.getfield 18, 3) := by decide +kernel
theorem dX6_readArc_4 : decode cX6_readArc 4 = .ok (.getfield 139, 3) := by decide +kernel
theorem dX6_readArc_7 : decode cX6_readArc 7 = .ok (.bipush 8, 2) := by decide +kernel
theorem dX6_readArc_9 : decode cX6_readArc 9 = .ok (.if_icmp .lt 9, 3) := by decide +kernel
theorem dX6_readArc_12 : decode cX6_readArc 12 = .ok (.aload_n 0, 1) := by decide +kernel
theorem dX6_readArc_13 : decode cX6_readArc 13 = .ok (.iconst 5, 1) := by decide +kernel
theorem dX6_readArc_14 : decode cX6_readArc 14 = .ok (.invokevirtual 68, 3) := by decide +kernel
theorem dX6_readArc_17 : decode cX6_readArc 17 = .ok (.return_, 1) := by decide +kernel
theorem dX6_readArc_18 : decode cX6_readArc 18 = .ok (.aload_n 0, 1) := by decide +kernel
theorem dX6_readArc_19 : decode cX6_readArc 19 = .ok (.invokevirtual 41, 3) := by decide +kernel
theorem dX6_readArc_22 : decode cX6_readArc 22 = .ok (.aload_n 0, 1) := by decide +kernel
theorem dX6_readArc_23 : decode cX6_readArc 23 = .ok (.getfield 18, 3) := by decide +kernel
theorem dX6_readArc_26 : decode cX6_readArc 26 = .ok (.getfield 139, 3) := by decide +kernel
theorem dX6_readArc_29 : decode cX6_readArc 29 = .ok (.istore_n 1, 1) := by decide +kernel
theorem dX6_readArc_30 : decode cX6_readArc 30 = .ok (.aload_n 0, 1) := by decide +kernel
theorem dX6_readArc_31 : decode cX6_readArc 31 = .ok (.getfield 18, 3) := by decide +kernel
theorem dX6_readArc_34 : decode cX6_readArc 34 = .ok (.iload_n 1, 1) := by decide +kernel
theorem dX6_readArc_35 : decode cX6_readArc 35 = .ok (.invokevirtual 142, 3) := by decide +kernel
theorem dX6_readArc_38 : decode cX6_readArc 38 = .ok (.aload_n 0, 1) := by decide +kernel
theorem dX6_readArc_39 : decode cX6_readArc 39 = .ok (.getfield 18, 3) := by decide +kernel
theorem dX6_readArc_42 : decode cX6_readArc 42 = .ok (.iload_n 1, 1) := by decide +kernel
theorem dX6_readArc_43 : decode cX6_readArc 43 = .ok (.iconst 0, 1) := by decide +kernel
theorem dX6_readArc_44 : decode cX6_readArc 44 = .ok (.aload_n 0, 1) := by decide +kernel
theorem dX6_readArc_45 : decode cX6_readArc 45 = .ok (.invokevirtual 117, 3) := by decide +kernel
theorem dX6_readArc_48 : decode cX6_readArc 48 = .ok (.invokevirtual 145, 3) := by decide +kernel
theorem dX6_readArc_51 : decode cX6_readArc 51 = .ok (.aload_n 0, 1) := by decide +kernel
theorem dX6_readArc_52 : decode cX6_readArc 52 = .ok (.getfield 18, 3) := by decide +kernel
theorem dX6_readArc_55 : decode cX6_readArc 55 = .ok (.iload_n 1, 1) := by decide +kernel
theorem dX6_readArc_56 : decode cX6_readArc 56 = .ok (.iconst 1, 1) := by decide +kernel
theorem dX6_readArc_57 : decode cX6_readArc 57 = .ok (.aload_n 0, 1) := by decide +kernel
theorem dX6_readArc_58 : decode cX6_readArc 58 = .ok (.invokevirtual 117, 3) := by decide +kernel
theorem dX6_readArc_61 : decode cX6_readArc 61 = .ok (.invokevirtual 145, 3) := by decide +kernel
theorem dX6_readArc_64 : decode cX6_readArc 64 = .ok (.aload_n 0, 1) := by decide +kernel
theorem dX6_readArc_65 : decode cX6_readArc 65 = .ok (.ldc 122, 2) := by decide +kernel
theorem dX6_readArc_67 : decode cX6_readArc 67 = .ok (.invokevirtual 149, 3) := by decide +kernel
theorem dX6_readArc_70 : decode cX6_readArc 70 = .ok (.aload_n 0, 1) := by decide +kernel
theorem dX6_readArc_71 : decode cX6_readArc 71 = .ok (.getfield 153, 3) := by decide +kernel
theorem dX6_readArc_74 : decode cX6_readArc 74 = .ok (.aload_n 0, 1) := by decide +kernel
theorem dX6_readArc_75 : decode cX6_readArc 75 = .ok (.getfield 156, 3) := by decide +kernel
theorem dX6_readArc_78 : decode cX6_readArc 78 = .ok (.ior, 1) := by decide +kernel
theorem dX6_readArc_79 : decode cX6_readArc 79 = .ok (.ifCond .ne 8, 3) := by decide +kernel
theorem dX6_readArc_82 : decode cX6_readArc 82 = .ok (.aload_n 0, 1) := by decide +kernel
theorem dX6_readArc_83 : decode cX6_readArc 83 = .ok (.iconst 1, 1) := by decide +kernel
theorem dX6_readArc_84 : decode cX6_readArc 84 = .ok (.invokevirtual 68, 3) := by decide +kernel
theorem dX6_readArc_87 : decode cX6_readArc 87 = .ok (.aload_n 0, 1) := by decide +kernel
theorem dX6_readArc_88 : decode cX6_readArc 88 = .ok (.getfield 18, 3) := by decide +kernel
theorem dX6_readArc_91 : decode cX6_readArc 91 = .ok (.iload_n 1, 1) := by decide +kernel
theorem dX6_readArc_92 : decode cX6_readArc 92 = .ok (.iconst 2, 1) := by decide +kernel
theorem dX6_readArc_93 : decode cX6_readArc 93 = .ok (.aload_n 0, 1) := by decide +kernel
theorem dX6_readArc_94 : decode cX6_readArc 94 = .ok (.getfield 153, 3) := by decide +kernel
theorem dX6_readArc_97 : decode cX6_readArc 97 = .ok (.invokevirtual 145, 3) := by decide +kernel
theorem dX6_readArc_100 : decode cX6_readArc 100 = .ok (.aload_n 0, 1) := by decide +kernel
theorem dX6_readArc_101 : decode cX6_readArc 101 = .ok (.getfield 18, 3) := by decide +kernel
theorem dX6_readArc_104 : decode cX6_readArc 104 = .ok (.iload_n 1, 1) := by decide +kernel
theorem dX6_readArc_105 : decode cX6_readArc 105 = .ok (.iconst 3, 1) := by decide +kernel
theorem dX6_readArc_106 : decode cX6_readArc 106 = .ok (.aload_n 0, 1) := by decide +kernel
theorem dX6_readArc_107 : decode cX6_readArc 107 = .ok (.getfield 156, 3) := by decide +kernel
theorem dX6_readArc_110 : decode cX6_readArc 110 = .ok (.invokevirtual 145, 3) := by decide +kernel
theorem dX6_readArc_113 : decode cX6_readArc 113 = .ok (.aload_n 0, 1) := by decide +kernel
theorem dX6_readArc_114 : decode cX6_readArc 114 = .ok (.invokevirtual 131, 3) := by decide +kernel
theorem dX6_readArc_117 : decode cX6_readArc 117 = .ok (.aload_n 0, 1) := by decide +kernel
theorem dX6_readArc_118 : decode cX6_readArc 118 = .ok (.ldc 134, 2) := by decide +kernel
theorem dX6_readArc_120 : decode cX6_readArc 120 = .ok (.invokevirtual 149, 3) := by decide +kernel
theorem dX6_readArc_123 : decode cX6_readArc 123 = .ok (.aload_n 0, 1) := by decide +kernel
theorem dX6_readArc_124 : decode cX6_readArc 124 = .ok (.getfield 18, 3) := by decide +kernel
theorem dX6_readArc_127 : decode cX6_readArc 127 = .ok (.iload_n 1, 1) := by decide +kernel
theorem dX6_readArc_128 : decode cX6_readArc 128 = .ok (.iconst 4, 1) := by decide +kernel
theorem dX6_readArc_129 : decode cX6_readArc 129 = .ok (.aload_n 0, 1) := by decide +kernel
theorem dX6_readArc_130 : decode cX6_readArc 130 = .ok (.getfield 153, 3) := by decide +kernel
theorem dX6_readArc_133 : decode cX6_readArc 133 = .ok (.invokevirtual 145, 3) := by decide +kernel
theorem dX6_readArc_136 : decode cX6_readArc 136 = .ok (.aload_n 0, 1) := by decide +kernel
theorem dX6_readArc_137 : decode cX6_readArc 137 = .ok (.getfield 18, 3) := by decide +kernel
theorem dX6_readArc_140 : decode cX6_readArc 140 = .ok (.iload_n 1, 1) := by decide +kernel
theorem dX6_readArc_141 : decode cX6_readArc 141 = .ok (.iconst 5, 1) := by decide +kernel
theorem dX6_readArc_142 : decode cX6_readArc 142 = .ok (.aload_n 0, 1) := by decide +kernel
theorem dX6_readArc_143 : decode cX6_readArc 143 = .ok (.getfield 156, 3) := by decide +kernel
theorem dX6_readArc_146 : decode cX6_readArc 146 = .ok (.invokevirtual 145, 3) := by decide +kernel
theorem dX6_readArc_149 : decode cX6_readArc 149 = .ok (.return_, 1) := by decide +kernel
theorem dX6_readGate_0 : decode cX6_readGate 0 = .ok (.aload_n 0, 1) := by decide +kernel
theorem dX6_readGate_1 : decode cX6_readGate 1 = .ok (.getfield 18, 3) := by decide +kernel
theorem dX6_readGate_4 : decode cX6_readGate 4 = .ok (.getfield 159, 3) := by decide +kernel
theorem dX6_readGate_7 : decode cX6_readGate 7 = .ok (.bipush 16, 2) := by decide +kernel
theorem dX6_readGate_9 : decode cX6_readGate 9 = .ok (.if_icmp .lt 9, 3) := by decide +kernel
theorem dX6_readGate_12 : decode cX6_readGate 12 = .ok (.aload_n 0, 1) := by decide +kernel
theorem dX6_readGate_13 : decode cX6_readGate 13 = .ok (.iconst 5, 1) := by decide +kernel
theorem dX6_readGate_14 : decode cX6_readGate 14 = .ok (.invokevirtual 68, 3) := by decide +kernel
theorem dX6_readGate_17 : decode cX6_readGate 17 = .ok (.return_, 1) := by decide +kernel
theorem dX6_readGate_18 : decode cX6_readGate 18 = .ok (.aload_n 0, 1) := by decide +kernel
theorem dX6_readGate_19 : decode cX6_readGate 19 = .ok (.invokevirtual 41, 3) := by decide +kernel
theorem dX6_readGate_22 : decode cX6_readGate 22 = .ok (.aload_n 0, 1) := by decide +kernel
theorem dX6_readGate_23 : decode cX6_readGate 23 = .ok (.ldc 162, 2) := by decide +kernel
theorem dX6_readGate_25 : decode cX6_readGate 25 = .ok (.invokevirtual 164, 3) := by decide +kernel
theorem dX6_readGate_28 : decode cX6_readGate 28 = .ok (.istore_n 1, 1) := by decide +kernel
theorem dX6_readGate_29 : decode cX6_readGate 29 = .ok (.iload_n 1, 1) := by decide +kernel
theorem dX6_readGate_30 : decode cX6_readGate 30 = .ok (.ifCond .ge 9, 3) := by decide +kernel
theorem dX6_readGate_33 : decode cX6_readGate 33 = .ok (.aload_n 0, 1) := by decide +kernel
theorem dX6_readGate_34 : decode cX6_readGate 34 = .ok (.iconst 1, 1) := by decide +kernel
theorem dX6_readGate_35 : decode cX6_readGate 35 = .ok (.invokevirtual 68, 3) := by decide +kernel
theorem dX6_readGate_38 : decode cX6_readGate 38 = .ok (.return_, 1) := by decide +kernel
theorem dX6_readGate_39 : decode cX6_readGate 39 = .ok (.aload_n 0, 1) := by decide +kernel
theorem dX6_readGate_40 : decode cX6_readGate 40 = .ok (.invokevirtual 41, 3) := by decide +kernel
theorem dX6_readGate_43 : decode cX6_readGate 43 = .ok (.aload_n 0, 1) := by decide +kernel
theorem dX6_readGate_44 : decode cX6_readGate 44 = .ok (.invokevirtual 167, 3) := by decide +kernel
theorem dX6_readGate_47 : decode cX6_readGate 47 = .ok (.aload_n 0, 1) := by decide +kernel
theorem dX6_readGate_48 : decode cX6_readGate 48 = .ok (.getfield 18, 3) := by decide +kernel
theorem dX6_readGate_51 : decode cX6_readGate 51 = .ok (.iload_n 1, 1) := by decide +kernel
theorem dX6_readGate_52 : decode cX6_readGate 52 = .ok (.aload_n 0, 1) := by decide +kernel
theorem dX6_readGate_53 : decode cX6_readGate 53 = .ok (.getfield 153, 3) := by decide +kernel
theorem dX6_readGate_56 : decode cX6_readGate 56 = .ok (.aload_n 0, 1) := by decide +kernel
theorem dX6_readGate_57 : decode cX6_readGate 57 = .ok (.getfield 153, 3) := by decide +kernel
theorem dX6_readGate_60 : decode cX6_readGate 60 = .ok (.aload_n 0, 1) := by decide +kernel
theorem dX6_readGate_61 : decode cX6_readGate 61 = .ok (.getfield 156, 3) := by decide +kernel
theorem dX6_readGate_64 : decode cX6_readGate 64 = .ok (.ior, 1) := by decide +kernel
theorem dX6_readGate_65 : decode cX6_readGate 65 = .ok (.iconst (-1), 1) := by decide +kernel
theorem dX6_readGate_66 : decode cX6_readGate 66 = .ok (.ixor, 1) := by decide +kernel
theorem dX6_readGate_67 : decode cX6_readGate 67 = .ok (.invokestatic 170, 3) := by decide +kernel
theorem dX6_readGate_70 : decode cX6_readGate 70 = .ok (.invokevirtual 176, 3) := by decide +kernel
theorem dX6_readGate_73 : decode cX6_readGate 73 = .ok (.return_, 1) := by decide +kernel
theorem dX6_readLiterals_0 : decode cX6_readLiterals 0 = .ok (.aload_n 0, 1) := by decide +kernel
theorem dX6_readLiterals_1 : decode cX6_readLiterals 1 = .ok (.iconst 0, 1) := by decide +kernel
theorem dX6_readLiterals_2 : decode cX6_readLiterals 2 = .ok (.putfield 153, 3) := by decide +kernel
theorem dX6_readLiterals_5 : decode cX6_readLiterals 5 = .ok (.aload_n 0, 1) := by decide +kernel
theorem dX6_readLiterals_6 : decode cX6_readLiterals 6 = .ok (.iconst 0, 1) := by decide +kernel
theorem dX6_readLiterals_7 : decode cX6_readLiterals 7 = .ok (.putfield 156, 3) := by decide +kernel
theorem dX6_readLiterals_10 : decode cX6_readLiterals 10 = .ok (.iconst 0, 1) := by decide +kernel
theorem dX6_readLiterals_11 : decode cX6_readLiterals 11 = .ok (.istore_n 1, 1) := by decide +kernel
theorem dX6_readLiterals_12 : decode cX6_readLiterals 12 = .ok (.iload_n 1, 1) := by decide +kernel
theorem dX6_readLiterals_13 : decode cX6_readLiterals 13 = .ok (.bipush 6, 2) := by decide +kernel
theorem dX6_readLiterals_15 : decode cX6_readLiterals 15 = .ok (.if_icmp .gt 77, 3) := by decide +kernel
theorem dX6_readLiterals_18 : decode cX6_readLiterals 18 = .ok (.aload_n 0, 1) := by decide +kernel
theorem dX6_readLiterals_19 : decode cX6_readLiterals 19 = .ok (.getfield 76, 3) := by decide +kernel
theorem dX6_readLiterals_22 : decode cX6_readLiterals 22 = .ok (.iconst 1, 1) := by decide +kernel
theorem dX6_readLiterals_23 : decode cX6_readLiterals 23 = .ok (.if_icmp .ne 69, 3) := by decide +kernel
theorem dX6_readLiterals_26 : decode cX6_readLiterals 26 = .ok (.aload_n 0, 1) := by decide +kernel
theorem dX6_readLiterals_27 : decode cX6_readLiterals 27 = .ok (.ldc 180, 2) := by decide +kernel
theorem dX6_readLiterals_29 : decode cX6_readLiterals 29 = .ok (.aload_n 0, 1) := by decide +kernel
theorem dX6_readLiterals_30 : decode cX6_readLiterals 30 = .ok (.getfield 153, 3) := by decide +kernel
theorem dX6_readLiterals_33 : decode cX6_readLiterals 33 = .ok (.aload_n 0, 1) := by decide +kernel
theorem dX6_readLiterals_34 : decode cX6_readLiterals 34 = .ok (.getfield 156, 3) := by decide +kernel
theorem dX6_readLiterals_37 : decode cX6_readLiterals 37 = .ok (.ior, 1) := by decide +kernel
theorem dX6_readLiterals_38 : decode cX6_readLiterals 38 = .ok (.invokevirtual 182, 3) := by decide +kernel
theorem dX6_readLiterals_41 : decode cX6_readLiterals 41 = .ok (.istore_n 2, 1) := by decide +kernel
theorem dX6_readLiterals_42 : decode cX6_readLiterals 42 = .ok (.aload_n 0, 1) := by decide +kernel
theorem dX6_readLiterals_43 : decode cX6_readLiterals 43 = .ok (.getfield 32, 3) := by decide +kernel
theorem dX6_readLiterals_46 : decode cX6_readLiterals 46 = .ok (.ifCond .eq 4, 3) := by decide +kernel
theorem dX6_readLiterals_49 : decode cX6_readLiterals 49 = .ok (.return_, 1) := by decide +kernel
theorem dX6_readLiterals_50 : decode cX6_readLiterals 50 = .ok (.aload_n 0, 1) := by decide +kernel
theorem dX6_readLiterals_51 : decode cX6_readLiterals 51 = .ok (.bipush 39, 2) := by decide +kernel
theorem dX6_readLiterals_53 : decode cX6_readLiterals 53 = .ok (.invokevirtual 72, 3) := by decide +kernel
theorem dX6_readLiterals_56 : decode cX6_readLiterals 56 = .ok (.ifCond .eq 20, 3) := by decide +kernel
theorem dX6_readLiterals_59 : decode cX6_readLiterals 59 = .ok (.aload_n 0, 1) := by decide +kernel
theorem dX6_readLiterals_60 : decode cX6_readLiterals 60 = .ok (.dup, 1) := by decide +kernel
theorem dX6_readLiterals_61 : decode cX6_readLiterals 61 = .ok (.getfield 156, 3) := by decide +kernel
theorem dX6_readLiterals_64 : decode cX6_readLiterals 64 = .ok (.iload_n 2, 1) := by decide +kernel
theorem dX6_readLiterals_65 : decode cX6_readLiterals 65 = .ok (.ior, 1) := by decide +kernel
theorem dX6_readLiterals_66 : decode cX6_readLiterals 66 = .ok (.putfield 156, 3) := by decide +kernel
theorem dX6_readLiterals_69 : decode cX6_readLiterals 69 = .ok (.aload_n 0, 1) := by decide +kernel
theorem dX6_readLiterals_70 : decode cX6_readLiterals 70 = .ok (.invokevirtual 41, 3) := by decide +kernel
theorem dX6_readLiterals_73 : decode cX6_readLiterals 73 = .ok (.goto 13, 3) := by decide +kernel
theorem dX6_readLiterals_76 : decode cX6_readLiterals 76 = .ok (.aload_n 0, 1) := by decide +kernel
theorem dX6_readLiterals_77 : decode cX6_readLiterals 77 = .ok (.dup, 1) := by decide +kernel
theorem dX6_readLiterals_78 : decode cX6_readLiterals 78 = .ok (.getfield 153, 3) := by decide +kernel
theorem dX6_readLiterals_81 : decode cX6_readLiterals 81 = .ok (.iload_n 2, 1) := by decide +kernel
theorem dX6_readLiterals_82 : decode cX6_readLiterals 82 = .ok (.ior, 1) := by decide +kernel
theorem dX6_readLiterals_83 : decode cX6_readLiterals 83 = .ok (.putfield 153, 3) := by decide +kernel
theorem dX6_readLiterals_86 : decode cX6_readLiterals 86 = .ok (.iinc 1 1, 3) := by decide +kernel
theorem dX6_readLiterals_89 : decode cX6_readLiterals 89 = .ok (.goto (-77), 3) := by decide +kernel
theorem dX6_readLiterals_92 : decode cX6_readLiterals 92 = .ok (.return_, 1) := by decide +kernel
theorem dX6_readLetters_0 : decode cX6_readLetters 0 = .ok (.iconst 0, 1) := by decide +kernel
theorem dX6_readLetters_1 : decode cX6_readLetters 1 = .ok (.istore_n 2, 1) := by decide +kernel
theorem dX6_readLetters_2 : decode cX6_readLetters 2 = .ok (.iconst 0, 1) := by decide +kernel
theorem dX6_readLetters_3 : decode cX6_readLetters 3 = .ok (.istore_n 3, 1) := by decide +kernel
theorem dX6_readLetters_4 : decode cX6_readLetters 4 = .ok (.iload_n 3, 1) := by decide +kernel
theorem dX6_readLetters_5 : decode cX6_readLetters 5 = .ok (.aload_n 1, 1) := by decide +kernel
theorem dX6_readLetters_6 : decode cX6_readLetters 6 = .ok (.invokevirtual 101, 3) := by decide +kernel
theorem dX6_readLetters_9 : decode cX6_readLetters 9 = .ok (.if_icmp .gt 33, 3) := by decide +kernel
theorem dX6_readLetters_12 : decode cX6_readLetters 12 = .ok (.aload_n 0, 1) := by decide +kernel
theorem dX6_readLetters_13 : decode cX6_readLetters 13 = .ok (.getfield 32, 3) := by decide +kernel
theorem dX6_readLetters_16 : decode cX6_readLetters 16 = .ok (.ifCond .ne 26, 3) := by decide +kernel
theorem dX6_readLetters_19 : decode cX6_readLetters 19 = .ok (.aload_n 0, 1) := by decide +kernel
theorem dX6_readLetters_20 : decode cX6_readLetters 20 = .ok (.getfield 76, 3) := by decide +kernel
theorem dX6_readLetters_23 : decode cX6_readLetters 23 = .ok (.iconst 1, 1) := by decide +kernel
theorem dX6_readLetters_24 : decode cX6_readLetters 24 = .ok (.if_icmp .ne 18, 3) := by decide +kernel
theorem dX6_readLetters_27 : decode cX6_readLetters 27 = .ok (.iload_n 2, 1) := by decide +kernel
theorem dX6_readLetters_28 : decode cX6_readLetters 28 = .ok (.aload_n 0, 1) := by decide +kernel
theorem dX6_readLetters_29 : decode cX6_readLetters 29 = .ok (.aload_n 1, 1) := by decide +kernel
theorem dX6_readLetters_30 : decode cX6_readLetters 30 = .ok (.iload_n 2, 1) := by decide +kernel
theorem dX6_readLetters_31 : decode cX6_readLetters 31 = .ok (.invokevirtual 182, 3) := by decide +kernel
theorem dX6_readLetters_34 : decode cX6_readLetters 34 = .ok (.ior, 1) := by decide +kernel
theorem dX6_readLetters_35 : decode cX6_readLetters 35 = .ok (.istore_n 2, 1) := by decide +kernel
theorem dX6_readLetters_36 : decode cX6_readLetters 36 = .ok (.iinc 3 1, 3) := by decide +kernel
theorem dX6_readLetters_39 : decode cX6_readLetters 39 = .ok (.goto (-35), 3) := by decide +kernel
theorem dX6_readLetters_42 : decode cX6_readLetters 42 = .ok (.iload_n 2, 1) := by decide +kernel
theorem dX6_readLetters_43 : decode cX6_readLetters 43 = .ok (.ireturn, 1) := by decide +kernel
theorem dX6_readChanges_0 : decode cX6_readChanges 0 = .ok (.aload_n 0, 1) := by decide +kernel
theorem dX6_readChanges_1 : decode cX6_readChanges 1 = .ok (.iconst 0, 1) := by decide +kernel
theorem dX6_readChanges_2 : decode cX6_readChanges 2 = .ok (.putfield 153, 3) := by decide +kernel
theorem dX6_readChanges_5 : decode cX6_readChanges 5 = .ok (.aload_n 0, 1) := by decide +kernel
theorem dX6_readChanges_6 : decode cX6_readChanges 6 = .ok (.iconst 0, 1) := by decide +kernel
theorem dX6_readChanges_7 : decode cX6_readChanges 7 = .ok (.putfield 156, 3) := by decide +kernel
theorem dX6_readChanges_10 : decode cX6_readChanges 10 = .ok (.iconst 0, 1) := by decide +kernel
theorem dX6_readChanges_11 : decode cX6_readChanges 11 = .ok (.istore_n 2, 1) := by decide +kernel
theorem dX6_readChanges_12 : decode cX6_readChanges 12 = .ok (.iload_n 2, 1) := by decide +kernel
theorem dX6_readChanges_13 : decode cX6_readChanges 13 = .ok (.aload_n 1, 1) := by decide +kernel
theorem dX6_readChanges_14 : decode cX6_readChanges 14 = .ok (.invokevirtual 101, 3) := by decide +kernel
theorem dX6_readChanges_17 : decode cX6_readChanges 17 = .ok (.if_icmp .gt 99, 3) := by decide +kernel
theorem dX6_readChanges_20 : decode cX6_readChanges 20 = .ok (.aload_n 0, 1) := by decide +kernel
theorem dX6_readChanges_21 : decode cX6_readChanges 21 = .ok (.getfield 32, 3) := by decide +kernel
theorem dX6_readChanges_24 : decode cX6_readChanges 24 = .ok (.ifCond .ne 92, 3) := by decide +kernel
theorem dX6_readChanges_27 : decode cX6_readChanges 27 = .ok (.aload_n 0, 1) := by decide +kernel
theorem dX6_readChanges_28 : decode cX6_readChanges 28 = .ok (.getfield 76, 3) := by decide +kernel
theorem dX6_readChanges_31 : decode cX6_readChanges 31 = .ok (.iconst 1, 1) := by decide +kernel
theorem dX6_readChanges_32 : decode cX6_readChanges 32 = .ok (.if_icmp .ne 84, 3) := by decide +kernel
theorem dX6_readChanges_35 : decode cX6_readChanges 35 = .ok (.aload_n 0, 1) := by decide +kernel
theorem dX6_readChanges_36 : decode cX6_readChanges 36 = .ok (.aload_n 1, 1) := by decide +kernel
theorem dX6_readChanges_37 : decode cX6_readChanges 37 = .ok (.aload_n 0, 1) := by decide +kernel
theorem dX6_readChanges_38 : decode cX6_readChanges 38 = .ok (.getfield 153, 3) := by decide +kernel
theorem dX6_readChanges_41 : decode cX6_readChanges 41 = .ok (.aload_n 0, 1) := by decide +kernel
theorem dX6_readChanges_42 : decode cX6_readChanges 42 = .ok (.getfield 156, 3) := by decide +kernel
theorem dX6_readChanges_45 : decode cX6_readChanges 45 = .ok (.ior, 1) := by decide +kernel
theorem dX6_readChanges_46 : decode cX6_readChanges 46 = .ok (.invokevirtual 182, 3) := by decide +kernel
theorem dX6_readChanges_49 : decode cX6_readChanges 49 = .ok (.istore_n 3, 1) := by decide +kernel
theorem dX6_readChanges_50 : decode cX6_readChanges 50 = .ok (.aload_n 0, 1) := by decide +kernel
theorem dX6_readChanges_51 : decode cX6_readChanges 51 = .ok (.bipush 43, 2) := by decide +kernel
theorem dX6_readChanges_53 : decode cX6_readChanges 53 = .ok (.invokevirtual 72, 3) := by decide +kernel
theorem dX6_readChanges_56 : decode cX6_readChanges 56 = .ok (.ifCond .eq 16, 3) := by decide +kernel
theorem dX6_readChanges_59 : decode cX6_readChanges 59 = .ok (.aload_n 0, 1) := by decide +kernel
theorem dX6_readChanges_60 : decode cX6_readChanges 60 = .ok (.dup, 1) := by decide +kernel
theorem dX6_readChanges_61 : decode cX6_readChanges 61 = .ok (.getfield 153, 3) := by decide +kernel
theorem dX6_readChanges_64 : decode cX6_readChanges 64 = .ok (.iload_n 3, 1) := by decide +kernel
theorem dX6_readChanges_65 : decode cX6_readChanges 65 = .ok (.ior, 1) := by decide +kernel
theorem dX6_readChanges_66 : decode cX6_readChanges 66 = .ok (.putfield 153, 3) := by decide +kernel
theorem dX6_readChanges_69 : decode cX6_readChanges 69 = .ok (.goto 30, 3) := by decide +kernel
theorem dX6_readChanges_72 : decode cX6_readChanges 72 = .ok (.aload_n 0, 1) := by decide +kernel
theorem dX6_readChanges_73 : decode cX6_readChanges 73 = .ok (.bipush 45, 2) := by decide +kernel
theorem dX6_readChanges_75 : decode cX6_readChanges 75 = .ok (.invokevirtual 72, 3) := by decide +kernel
theorem dX6_readChanges_78 : decode cX6_readChanges 78 = .ok (.ifCond .eq 16, 3) := by decide +kernel
theorem dX6_readChanges_81 : decode cX6_readChanges 81 = .ok (.aload_n 0, 1) := by decide +kernel
theorem dX6_readChanges_82 : decode cX6_readChanges 82 = .ok (.dup, 1) := by decide +kernel
theorem dX6_readChanges_83 : decode cX6_readChanges 83 = .ok (.getfield 156, 3) := by decide +kernel
theorem dX6_readChanges_86 : decode cX6_readChanges 86 = .ok (.iload_n 3, 1) := by decide +kernel
theorem dX6_readChanges_87 : decode cX6_readChanges 87 = .ok (.ior, 1) := by decide +kernel
theorem dX6_readChanges_88 : decode cX6_readChanges 88 = .ok (.putfield 156, 3) := by decide +kernel
theorem dX6_readChanges_91 : decode cX6_readChanges 91 = .ok (.goto 8, 3) := by decide +kernel
theorem dX6_readChanges_94 : decode cX6_readChanges 94 = .ok (.aload_n 0, 1) := by decide +kernel
theorem dX6_readChanges_95 : decode cX6_readChanges 95 = .ok (.iconst 1, 1) := by decide +kernel
theorem dX6_readChanges_96 : decode cX6_readChanges 96 = .ok (.invokevirtual 68, 3) := by decide +kernel
theorem dX6_readChanges_99 : decode cX6_readChanges 99 = .ok (.aload_n 0, 1) := by decide +kernel
theorem dX6_readChanges_100 : decode cX6_readChanges 100 = .ok (.getfield 32, 3) := by decide +kernel
theorem dX6_readChanges_103 : decode cX6_readChanges 103 = .ok (.ifCond .ne 7, 3) := by decide +kernel
theorem dX6_readChanges_106 : decode cX6_readChanges 106 = .ok (.aload_n 0, 1) := by decide +kernel
theorem dX6_readChanges_107 : decode cX6_readChanges 107 = .ok (.invokevirtual 41, 3) := by decide +kernel
theorem dX6_readChanges_110 : decode cX6_readChanges 110 = .ok (.iinc 2 1, 3) := by decide +kernel
theorem dX6_readChanges_113 : decode cX6_readChanges 113 = .ok (.goto (-101), 3) := by decide +kernel
theorem dX6_readChanges_116 : decode cX6_readChanges 116 = .ok (.return_, 1) := by decide +kernel
theorem dX6_readFresh_0 : decode cX6_readFresh 0 = .ok (.aload_n 0, 1) := by decide +kernel
theorem dX6_readFresh_1 : decode cX6_readFresh 1 = .ok (.aload_n 1, 1) := by decide +kernel
theorem dX6_readFresh_2 : decode cX6_readFresh 2 = .ok (.invokevirtual 164, 3) := by decide +kernel
theorem dX6_readFresh_5 : decode cX6_readFresh 5 = .ok (.istore_n 3, 1) := by decide +kernel
theorem dX6_readFresh_6 : decode cX6_readFresh 6 = .ok (.iload_n 3, 1) := by decide +kernel
theorem dX6_readFresh_7 : decode cX6_readFresh 7 = .ok (.ifCond .ge 10, 3) := by decide +kernel
theorem dX6_readFresh_10 : decode cX6_readFresh 10 = .ok (.aload_n 0, 1) := by decide +kernel
theorem dX6_readFresh_11 : decode cX6_readFresh 11 = .ok (.iconst 1, 1) := by decide +kernel
theorem dX6_readFresh_12 : decode cX6_readFresh 12 = .ok (.invokevirtual 68, 3) := by decide +kernel
theorem dX6_readFresh_15 : decode cX6_readFresh 15 = .ok (.iconst 0, 1) := by decide +kernel
theorem dX6_readFresh_16 : decode cX6_readFresh 16 = .ok (.ireturn, 1) := by decide +kernel
theorem dX6_readFresh_17 : decode cX6_readFresh 17 = .ok (.iconst 1, 1) := by decide +kernel
theorem dX6_readFresh_18 : decode cX6_readFresh 18 = .ok (.iload_n 3, 1) := by decide +kernel
theorem dX6_readFresh_19 : decode cX6_readFresh 19 = .ok (.ishl, 1) := by decide +kernel
theorem dX6_readFresh_20 : decode cX6_readFresh 20 = .ok (.istore 4, 2) := by decide +kernel
theorem dX6_readFresh_22 : decode cX6_readFresh 22 = .ok (.iload_n 2, 1) := by decide +kernel
theorem dX6_readFresh_23 : decode cX6_readFresh 23 = .ok (.iload 4, 2) := by decide +kernel
theorem dX6_readFresh_25 : decode cX6_readFresh 25 = .ok (.iand, 1) := by decide +kernel
theorem dX6_readFresh_26 : decode cX6_readFresh 26 = .ok (.ifCond .eq 10, 3) := by decide +kernel
theorem dX6_readFresh_29 : decode cX6_readFresh 29 = .ok (.aload_n 0, 1) := by decide +kernel
theorem dX6_readFresh_30 : decode cX6_readFresh 30 = .ok (.iconst 3, 1) := by decide +kernel
theorem dX6_readFresh_31 : decode cX6_readFresh 31 = .ok (.invokevirtual 68, 3) := by decide +kernel
theorem dX6_readFresh_34 : decode cX6_readFresh 34 = .ok (.iconst 0, 1) := by decide +kernel
theorem dX6_readFresh_35 : decode cX6_readFresh 35 = .ok (.ireturn, 1) := by decide +kernel
theorem dX6_readFresh_36 : decode cX6_readFresh 36 = .ok (.aload_n 0, 1) := by decide +kernel
theorem dX6_readFresh_37 : decode cX6_readFresh 37 = .ok (.invokevirtual 41, 3) := by decide +kernel
theorem dX6_readFresh_40 : decode cX6_readFresh 40 = .ok (.iload 4, 2) := by decide +kernel
theorem dX6_readFresh_42 : decode cX6_readFresh 42 = .ok (.ireturn, 1) := by decide +kernel
theorem dX6_readStateNumber_0 : decode cX6_readStateNumber 0 = .ok (.aload_n 0, 1) := by decide +kernel
theorem dX6_readStateNumber_1 : decode cX6_readStateNumber 1 = .ok (.getfield 32, 3) := by decide +kernel
theorem dX6_readStateNumber_4 : decode cX6_readStateNumber 4 = .ok (.ifCond .eq 5, 3) := by decide +kernel
theorem dX6_readStateNumber_7 : decode cX6_readStateNumber 7 = .ok (.iconst 0, 1) := by decide +kernel
theorem dX6_readStateNumber_8 : decode cX6_readStateNumber 8 = .ok (.ireturn, 1) := by decide +kernel
theorem dX6_readStateNumber_9 : decode cX6_readStateNumber 9 = .ok (.aload_n 0, 1) := by decide +kernel
theorem dX6_readStateNumber_10 : decode cX6_readStateNumber 10 = .ok (.getfield 76, 3) := by decide +kernel
theorem dX6_readStateNumber_13 : decode cX6_readStateNumber 13 = .ok (.iconst 2, 1) := by decide +kernel
theorem dX6_readStateNumber_14 : decode cX6_readStateNumber 14 = .ok (.if_icmp .eq 10, 3) := by decide +kernel
theorem dX6_readStateNumber_17 : decode cX6_readStateNumber 17 = .ok (.aload_n 0, 1) := by decide +kernel
theorem dX6_readStateNumber_18 : decode cX6_readStateNumber 18 = .ok (.iconst 1, 1) := by decide +kernel
theorem dX6_readStateNumber_19 : decode cX6_readStateNumber 19 = .ok (.invokevirtual 68, 3) := by decide +kernel
theorem dX6_readStateNumber_22 : decode cX6_readStateNumber 22 = .ok (.iconst 0, 1) := by decide +kernel
theorem dX6_readStateNumber_23 : decode cX6_readStateNumber 23 = .ok (.ireturn, 1) := by decide +kernel
theorem dX6_readStateNumber_24 : decode cX6_readStateNumber 24 = .ok (.aload_n 0, 1) := by decide +kernel
theorem dX6_readStateNumber_25 : decode cX6_readStateNumber 25 = .ok (.invokevirtual 111, 3) := by decide +kernel
theorem dX6_readStateNumber_28 : decode cX6_readStateNumber 28 = .ok (.istore_n 1, 1) := by decide +kernel
theorem dX6_readStateNumber_29 : decode cX6_readStateNumber 29 = .ok (.iload_n 1, 1) := by decide +kernel
theorem dX6_readStateNumber_30 : decode cX6_readStateNumber 30 = .ok (.aload_n 0, 1) := by decide +kernel
theorem dX6_readStateNumber_31 : decode cX6_readStateNumber 31 = .ok (.getfield 18, 3) := by decide +kernel
theorem dX6_readStateNumber_34 : decode cX6_readStateNumber 34 = .ok (.getfield 108, 3) := by decide +kernel
theorem dX6_readStateNumber_37 : decode cX6_readStateNumber 37 = .ok (.if_icmp .lt 10, 3) := by decide +kernel
theorem dX6_readStateNumber_40 : decode cX6_readStateNumber 40 = .ok (.aload_n 0, 1) := by decide +kernel
theorem dX6_readStateNumber_41 : decode cX6_readStateNumber 41 = .ok (.iconst 2, 1) := by decide +kernel
theorem dX6_readStateNumber_42 : decode cX6_readStateNumber 42 = .ok (.invokevirtual 68, 3) := by decide +kernel
theorem dX6_readStateNumber_45 : decode cX6_readStateNumber 45 = .ok (.iconst 0, 1) := by decide +kernel
theorem dX6_readStateNumber_46 : decode cX6_readStateNumber 46 = .ok (.ireturn, 1) := by decide +kernel
theorem dX6_readStateNumber_47 : decode cX6_readStateNumber 47 = .ok (.aload_n 0, 1) := by decide +kernel
theorem dX6_readStateNumber_48 : decode cX6_readStateNumber 48 = .ok (.invokevirtual 41, 3) := by decide +kernel
theorem dX6_readStateNumber_51 : decode cX6_readStateNumber 51 = .ok (.iload_n 1, 1) := by decide +kernel
theorem dX6_readStateNumber_52 : decode cX6_readStateNumber 52 = .ok (.ireturn, 1) := by decide +kernel
theorem dX6_readSlash_0 : decode cX6_readSlash 0 = .ok (.aload_n 0, 1) := by decide +kernel
theorem dX6_readSlash_1 : decode cX6_readSlash 1 = .ok (.getfield 32, 3) := by decide +kernel
theorem dX6_readSlash_4 : decode cX6_readSlash 4 = .ok (.ifCond .eq 4, 3) := by decide +kernel
theorem dX6_readSlash_7 : decode cX6_readSlash 7 = .ok (.return_, 1) := by decide +kernel
theorem dX6_readSlash_8 : decode cX6_readSlash 8 = .ok (.aload_n 0, 1) := by decide +kernel
theorem dX6_readSlash_9 : decode cX6_readSlash 9 = .ok (.bipush 47, 2) := by decide +kernel
theorem dX6_readSlash_11 : decode cX6_readSlash 11 = .ok (.invokevirtual 72, 3) := by decide +kernel
theorem dX6_readSlash_14 : decode cX6_readSlash 14 = .ok (.ifCond .eq 10, 3) := by decide +kernel
theorem dX6_readSlash_17 : decode cX6_readSlash 17 = .ok (.aload_n 0, 1) := by decide +kernel
theorem dX6_readSlash_18 : decode cX6_readSlash 18 = .ok (.invokevirtual 41, 3) := by decide +kernel
theorem dX6_readSlash_21 : decode cX6_readSlash 21 = .ok (.goto 8, 3) := by decide +kernel
theorem dX6_readSlash_24 : decode cX6_readSlash 24 = .ok (.aload_n 0, 1) := by decide +kernel
theorem dX6_readSlash_25 : decode cX6_readSlash 25 = .ok (.iconst 1, 1) := by decide +kernel
theorem dX6_readSlash_26 : decode cX6_readSlash 26 = .ok (.invokevirtual 68, 3) := by decide +kernel
theorem dX6_readSlash_29 : decode cX6_readSlash 29 = .ok (.return_, 1) := by decide +kernel
theorem dX7_init_0 : decode cX7_init 0 = .ok (.aload_n 0, 1) := by decide +kernel
theorem dX7_init_1 : decode cX7_init 1 = .ok (.invokespecial 3, 3) := by decide +kernel
theorem dX7_init_4 : decode cX7_init 4 = .ok (.aload_n 0, 1) := by decide +kernel
theorem dX7_init_5 : decode cX7_init 5 = .ok (.bipush 33, 2) := by decide +kernel
theorem dX7_init_7 : decode cX7_init 7 = .ok (.newarray .int, 2) := by decide +kernel
theorem dX7_init_9 : decode cX7_init 9 = .ok (.putfield 11, 3) := by decide +kernel
theorem dX7_init_12 : decode cX7_init 12 = .ok (.aload_n 0, 1) := by decide +kernel
theorem dX7_init_13 : decode cX7_init 13 = .ok (.bipush 8, 2) := by decide +kernel
theorem dX7_init_15 : decode cX7_init 15 = .ok (.newarray .long, 2) := by decide +kernel
theorem dX7_init_17 : decode cX7_init 17 = .ok (.putfield 15, 3) := by decide +kernel
theorem dX7_init_20 : decode cX7_init 20 = .ok (.aload_n 0, 1) := by decide +kernel
theorem dX7_init_21 : decode cX7_init 21 = .ok (.bipush 8, 2) := by decide +kernel
theorem dX7_init_23 : decode cX7_init 23 = .ok (.newarray .long, 2) := by decide +kernel
theorem dX7_init_25 : decode cX7_init 25 = .ok (.putfield 19, 3) := by decide +kernel
theorem dX7_init_28 : decode cX7_init 28 = .ok (.aload_n 0, 1) := by decide +kernel
theorem dX7_init_29 : decode cX7_init 29 = .ok (.sipush 240, 3) := by decide +kernel
theorem dX7_init_32 : decode cX7_init 32 = .ok (.newarray .int, 2) := by decide +kernel
theorem dX7_init_34 : decode cX7_init 34 = .ok (.putfield 22, 3) := by decide +kernel
theorem dX7_init_37 : decode cX7_init 37 = .ok (.aload_n 0, 1) := by decide +kernel
theorem dX7_init_38 : decode cX7_init 38 = .ok (.iconst 5, 1) := by decide +kernel
theorem dX7_init_39 : decode cX7_init 39 = .ok (.newarray .int, 2) := by decide +kernel
theorem dX7_init_41 : decode cX7_init 41 = .ok (.putfield 27, 3) := by decide +kernel
theorem dX7_init_44 : decode cX7_init 44 = .ok (.aload_n 0, 1) := by decide +kernel
theorem dX7_init_45 : decode cX7_init 45 = .ok (.bipush 64, 2) := by decide +kernel
theorem dX7_init_47 : decode cX7_init 47 = .ok (.newarray .int, 2) := by decide +kernel
theorem dX7_init_49 : decode cX7_init 49 = .ok (.putfield 30, 3) := by decide +kernel
theorem dX7_init_52 : decode cX7_init 52 = .ok (.aload_n 0, 1) := by decide +kernel
theorem dX7_init_53 : decode cX7_init 53 = .ok (.iload_n 1, 1) := by decide +kernel
theorem dX7_init_54 : decode cX7_init 54 = .ok (.putfield 33, 3) := by decide +kernel
theorem dX7_init_57 : decode cX7_init 57 = .ok (.aload_n 0, 1) := by decide +kernel
theorem dX7_init_58 : decode cX7_init 58 = .ok (.aload_n 2, 1) := by decide +kernel
theorem dX7_init_59 : decode cX7_init 59 = .ok (.putfield 37, 3) := by decide +kernel
theorem dX7_init_62 : decode cX7_init 62 = .ok (.aload_n 0, 1) := by decide +kernel
theorem dX7_init_63 : decode cX7_init 63 = .ok (.aload_n 3, 1) := by decide +kernel
theorem dX7_init_64 : decode cX7_init 64 = .ok (.putfield 41, 3) := by decide +kernel
theorem dX7_init_67 : decode cX7_init 67 = .ok (.aload_n 0, 1) := by decide +kernel
theorem dX7_init_68 : decode cX7_init 68 = .ok (.aload 4, 2) := by decide +kernel
theorem dX7_init_70 : decode cX7_init 70 = .ok (.putfield 45, 3) := by decide +kernel
theorem dX7_init_73 : decode cX7_init 73 = .ok (.return_, 1) := by decide +kernel
theorem dX7_fill_0 : decode cX7_fill 0 = .ok (.aload_n 0, 1) := by decide +kernel
theorem dX7_fill_1 : decode cX7_fill 1 = .ok (.invokevirtual 49, 3) := by decide +kernel
theorem dX7_fill_4 : decode cX7_fill 4 = .ok (.aload_n 0, 1) := by decide +kernel
theorem dX7_fill_5 : decode cX7_fill 5 = .ok (.invokevirtual 52, 3) := by decide +kernel
theorem dX7_fill_8 : decode cX7_fill 8 = .ok (.aload_n 0, 1) := by decide +kernel
theorem dX7_fill_9 : decode cX7_fill 9 = .ok (.invokevirtual 55, 3) := by decide +kernel
theorem dX7_fill_12 : decode cX7_fill 12 = .ok (.aload_n 0, 1) := by decide +kernel
theorem dX7_fill_13 : decode cX7_fill 13 = .ok (.getfield 45, 3) := by decide +kernel
theorem dX7_fill_16 : decode cX7_fill 16 = .ok (.aload_n 0, 1) := by decide +kernel
theorem dX7_fill_17 : decode cX7_fill 17 = .ok (.getfield 58, 3) := by decide +kernel
theorem dX7_fill_20 : decode cX7_fill 20 = .ok (.invokevirtual 61, 3) := by decide +kernel
theorem dX7_fill_23 : decode cX7_fill 23 = .ok (.iconst 0, 1) := by decide +kernel
theorem dX7_fill_24 : decode cX7_fill 24 = .ok (.istore_n 1, 1) := by decide +kernel
theorem dX7_fill_25 : decode cX7_fill 25 = .ok (.iload_n 1, 1) := by decide +kernel
theorem dX7_fill_26 : decode cX7_fill 26 = .ok (.aload_n 0, 1) := by decide +kernel
theorem dX7_fill_27 : decode cX7_fill 27 = .ok (.getfield 65, 3) := by decide +kernel
theorem dX7_fill_30 : decode cX7_fill 30 = .ok (.if_icmp .ge 35, 3) := by decide +kernel
theorem dX7_fill_33 : decode cX7_fill 33 = .ok (.aload_n 0, 1) := by decide +kernel
theorem dX7_fill_34 : decode cX7_fill 34 = .ok (.getfield 45, 3) := by decide +kernel
theorem dX7_fill_37 : decode cX7_fill 37 = .ok (.aload_n 0, 1) := by decide +kernel
theorem dX7_fill_38 : decode cX7_fill 38 = .ok (.aload_n 0, 1) := by decide +kernel
theorem dX7_fill_39 : decode cX7_fill 39 = .ok (.getfield 41, 3) := by decide +kernel
theorem dX7_fill_42 : decode cX7_fill 42 = .ok (.aload_n 0, 1) := by decide +kernel
theorem dX7_fill_43 : decode cX7_fill 43 = .ok (.getfield 22, 3) := by decide +kernel
theorem dX7_fill_46 : decode cX7_fill 46 = .ok (.iload_n 1, 1) := by decide +kernel
theorem dX7_fill_47 : decode cX7_fill 47 = .ok (.invokestatic 68, 3) := by decide +kernel
theorem dX7_fill_50 : decode cX7_fill 50 = .ok (.invokevirtual 72, 3) := by decide +kernel
theorem dX7_fill_53 : decode cX7_fill 53 = .ok (.invokevirtual 78, 3) := by decide +kernel
theorem dX7_fill_56 : decode cX7_fill 56 = .ok (.invokevirtual 82, 3) := by decide +kernel
theorem dX7_fill_59 : decode cX7_fill 59 = .ok (.iinc 1 1, 3) := by decide +kernel
theorem dX7_fill_62 : decode cX7_fill 62 = .ok (.goto (-37), 3) := by decide +kernel
theorem dX7_fill_65 : decode cX7_fill 65 = .ok (.aload_n 0, 1) := by decide +kernel
theorem dX7_fill_66 : decode cX7_fill 66 = .ok (.aload_n 0, 1) := by decide +kernel
theorem dX7_fill_67 : decode cX7_fill 67 = .ok (.getfield 45, 3) := by decide +kernel
theorem dX7_fill_70 : decode cX7_fill 70 = .ok (.invokevirtual 86, 3) := by decide +kernel
theorem dX7_fill_73 : decode cX7_fill 73 = .ok (.putfield 90, 3) := by decide +kernel
theorem dX7_fill_76 : decode cX7_fill 76 = .ok (.aload_n 0, 1) := by decide +kernel
theorem dX7_fill_77 : decode cX7_fill 77 = .ok (.aload_n 0, 1) := by decide +kernel
theorem dX7_fill_78 : decode cX7_fill 78 = .ok (.getfield 45, 3) := by decide +kernel
theorem dX7_fill_81 : decode cX7_fill 81 = .ok (.invokevirtual 93, 3) := by decide +kernel
theorem dX7_fill_84 : decode cX7_fill 84 = .ok (.putfield 96, 3) := by decide +kernel
theorem dX7_fill_87 : decode cX7_fill 87 = .ok (.aload_n 0, 1) := by decide +kernel
theorem dX7_fill_88 : decode cX7_fill 88 = .ok (.aload_n 0, 1) := by decide +kernel
theorem dX7_fill_89 : decode cX7_fill 89 = .ok (.getfield 96, 3) := by decide +kernel
theorem dX7_fill_92 : decode cX7_fill 92 = .ok (.bipush (-2), 2) := by decide +kernel
theorem dX7_fill_94 : decode cX7_fill 94 = .ok (.if_icmp .ne 17, 3) := by decide +kernel
theorem dX7_fill_97 : decode cX7_fill 97 = .ok (.aload_n 0, 1) := by decide +kernel
theorem dX7_fill_98 : decode cX7_fill 98 = .ok (.getfield 45, 3) := by decide +kernel
theorem dX7_fill_101 : decode cX7_fill 101 = .ok (.aload_n 0, 1) := by decide +kernel
theorem dX7_fill_102 : decode cX7_fill 102 = .ok (.getfield 27, 3) := by decide +kernel
theorem dX7_fill_105 : decode cX7_fill 105 = .ok (.invokevirtual 98, 3) := by decide +kernel
theorem dX7_fill_108 : decode cX7_fill 108 = .ok (.goto 5, 3) := by decide +kernel
theorem dX7_fill_111 : decode cX7_fill 111 = .ok (.bipush (-2), 2) := by decide +kernel
theorem dX7_fill_113 : decode cX7_fill 113 = .ok (.putfield 102, 3) := by decide +kernel
theorem dX7_fill_116 : decode cX7_fill 116 = .ok (.aload_n 0, 1) := by decide +kernel
theorem dX7_fill_117 : decode cX7_fill 117 = .ok (.invokevirtual 105, 3) := by decide +kernel
theorem dX7_fill_120 : decode cX7_fill 120 = .ok (.aload_n 0, 1) := by decide +kernel
theorem dX7_fill_121 : decode cX7_fill 121 = .ok (.iconst 1, 1) := by decide +kernel
theorem dX7_fill_122 : decode cX7_fill 122 = .ok (.putfield 108, 3) := by decide +kernel
theorem dX7_fill_125 : decode cX7_fill 125 = .ok (.return_, 1) := by decide +kernel
theorem dX7_hasFewest_0 : decode cX7_hasFewest 0 = .ok (.aload_n 0, 1) := by decide +kernel
theorem dX7_hasFewest_1 : decode cX7_hasFewest 1 = .ok (.getfield 102, 3) := by decide +kernel
theorem dX7_hasFewest_4 : decode cX7_hasFewest 4 = .ok (.ifCond .lt 15, 3) := by decide +kernel
theorem dX7_hasFewest_7 : decode cX7_hasFewest 7 = .ok (.aload_n 0, 1) := by decide +kernel
theorem dX7_hasFewest_8 : decode cX7_hasFewest 8 = .ok (.getfield 102, 3) := by decide +kernel
theorem dX7_hasFewest_11 : decode cX7_hasFewest 11 = .ok (.iconst 5, 1) := by decide +kernel
theorem dX7_hasFewest_12 : decode cX7_hasFewest 12 = .ok (.if_icmp .gt 7, 3) := by decide +kernel
theorem dX7_hasFewest_15 : decode cX7_hasFewest 15 = .ok (.iconst 1, 1) := by decide +kernel
theorem dX7_hasFewest_16 : decode cX7_hasFewest 16 = .ok (.goto 4, 3) := by decide +kernel
theorem dX7_hasFewest_19 : decode cX7_hasFewest 19 = .ok (.iconst 0, 1) := by decide +kernel
theorem dX7_hasFewest_20 : decode cX7_hasFewest 20 = .ok (.ireturn, 1) := by decide +kernel
theorem dX7_valueAt_0 : decode cX7_valueAt 0 = .ok (.aload_n 0, 1) := by decide +kernel
theorem dX7_valueAt_1 : decode cX7_valueAt 1 = .ok (.lconst 1, 1) := by decide +kernel
theorem dX7_valueAt_2 : decode cX7_valueAt 2 = .ok (.iload_n 1, 1) := by decide +kernel
theorem dX7_valueAt_3 : decode cX7_valueAt 3 = .ok (.lshl, 1) := by decide +kernel
theorem dX7_valueAt_4 : decode cX7_valueAt 4 = .ok (.invokevirtual 112, 3) := by decide +kernel
theorem dX7_valueAt_7 : decode cX7_valueAt 7 = .ok (.iconst 1, 1) := by decide +kernel
theorem dX7_valueAt_8 : decode cX7_valueAt 8 = .ok (.if_icmp .ne 7, 3) := by decide +kernel
theorem dX7_valueAt_11 : decode cX7_valueAt 11 = .ok (.iconst 1, 1) := by decide +kernel
theorem dX7_valueAt_12 : decode cX7_valueAt 12 = .ok (.goto 4, 3) := by decide +kernel
theorem dX7_valueAt_15 : decode cX7_valueAt 15 = .ok (.iconst 0, 1) := by decide +kernel
theorem dX7_valueAt_16 : decode cX7_valueAt 16 = .ok (.ireturn, 1) := by decide +kernel
theorem dX7_runWith_0 : decode cX7_runWith 0 = .ok (.iconst 0, 1) := by decide +kernel
theorem dX7_runWith_1 : decode cX7_runWith 1 = .ok (.istore_n 3, 1) := by decide +kernel
theorem dX7_runWith_2 : decode cX7_runWith 2 = .ok (.iconst 0, 1) := by decide +kernel
theorem dX7_runWith_3 : decode cX7_runWith 3 = .ok (.istore 4, 2) := by decide +kernel
theorem dX7_runWith_5 : decode cX7_runWith 5 = .ok (.iload 4, 2) := by decide +kernel
theorem dX7_runWith_7 : decode cX7_runWith 7 = .ok (.aload_n 0, 1) := by decide +kernel
theorem dX7_runWith_8 : decode cX7_runWith 8 = .ok (.getfield 102, 3) := by decide +kernel
theorem dX7_runWith_11 : decode cX7_runWith 11 = .ok (.if_icmp .ge 37, 3) := by decide +kernel
theorem dX7_runWith_14 : decode cX7_runWith 14 = .ok (.iload 4, 2) := by decide +kernel
theorem dX7_runWith_16 : decode cX7_runWith 16 = .ok (.iconst 5, 1) := by decide +kernel
theorem dX7_runWith_17 : decode cX7_runWith 17 = .ok (.if_icmp .ge 31, 3) := by decide +kernel
theorem dX7_runWith_20 : decode cX7_runWith 20 = .ok (.iload_n 3, 1) := by decide +kernel
theorem dX7_runWith_21 : decode cX7_runWith 21 = .ok (.aload_n 0, 1) := by decide +kernel
theorem dX7_runWith_22 : decode cX7_runWith 22 = .ok (.getfield 41, 3) := by decide +kernel
theorem dX7_runWith_25 : decode cX7_runWith 25 = .ok (.aload_n 0, 1) := by decide +kernel
theorem dX7_runWith_26 : decode cX7_runWith 26 = .ok (.iload 4, 2) := by decide +kernel
theorem dX7_runWith_28 : decode cX7_runWith 28 = .ok (.invokevirtual 116, 3) := by decide +kernel
theorem dX7_runWith_31 : decode cX7_runWith 31 = .ok (.invokevirtual 72, 3) := by decide +kernel
theorem dX7_runWith_34 : decode cX7_runWith 34 = .ok (.lload_n 1, 1) := by decide +kernel
theorem dX7_runWith_35 : decode cX7_runWith 35 = .ok (.invokestatic 120, 3) := by decide +kernel
theorem dX7_runWith_38 : decode cX7_runWith 38 = .ok (.invokestatic 124, 3) := by decide +kernel
theorem dX7_runWith_41 : decode cX7_runWith 41 = .ok (.istore_n 3, 1) := by decide +kernel
theorem dX7_runWith_42 : decode cX7_runWith 42 = .ok (.iinc 4 1, 3) := by decide +kernel
theorem dX7_runWith_45 : decode cX7_runWith 45 = .ok (.goto (-40), 3) := by decide +kernel
theorem dX7_runWith_48 : decode cX7_runWith 48 = .ok (.iload_n 3, 1) := by decide +kernel
theorem dX7_runWith_49 : decode cX7_runWith 49 = .ok (.ireturn, 1) := by decide +kernel
theorem dX7_chosenCube_0 : decode cX7_chosenCube 0 = .ok (.aload_n 0, 1) := by decide +kernel
theorem dX7_chosenCube_1 : decode cX7_chosenCube 1 = .ok (.getfield 22, 3) := by decide +kernel
theorem dX7_chosenCube_4 : decode cX7_chosenCube 4 = .ok (.aload_n 0, 1) := by decide +kernel
theorem dX7_chosenCube_5 : decode cX7_chosenCube 5 = .ok (.getfield 27, 3) := by decide +kernel
theorem dX7_chosenCube_8 : decode cX7_chosenCube 8 = .ok (.iload_n 1, 1) := by decide +kernel
theorem dX7_chosenCube_9 : decode cX7_chosenCube 9 = .ok (.invokestatic 68, 3) := by decide +kernel
theorem dX7_chosenCube_12 : decode cX7_chosenCube 12 = .ok (.invokestatic 68, 3) := by decide +kernel
theorem dX7_chosenCube_15 : decode cX7_chosenCube 15 = .ok (.ireturn, 1) := by decide +kernel
theorem dX7_gatherRequired_0 : decode cX7_gatherRequired 0 = .ok (.aload_n 0, 1) := by decide +kernel
theorem dX7_gatherRequired_1 : decode cX7_gatherRequired 1 = .ok (.iconst 0, 1) := by decide +kernel
theorem dX7_gatherRequired_2 : decode cX7_gatherRequired 2 = .ok (.putfield 58, 3) := by decide +kernel
theorem dX7_gatherRequired_5 : decode cX7_gatherRequired 5 = .ok (.iconst 0, 1) := by decide +kernel
theorem dX7_gatherRequired_6 : decode cX7_gatherRequired 6 = .ok (.istore_n 1, 1) := by decide +kernel
theorem dX7_gatherRequired_7 : decode cX7_gatherRequired 7 = .ok (.iload_n 1, 1) := by decide +kernel
theorem dX7_gatherRequired_8 : decode cX7_gatherRequired 8 = .ok (.aload_n 0, 1) := by decide +kernel
theorem dX7_gatherRequired_9 : decode cX7_gatherRequired 9 = .ok (.getfield 37, 3) := by decide +kernel
theorem dX7_gatherRequired_12 : decode cX7_gatherRequired 12 = .ok (.getfield 128, 3) := by decide +kernel
theorem dX7_gatherRequired_15 : decode cX7_gatherRequired 15 = .ok (.getfield 134, 3) := by decide +kernel
theorem dX7_gatherRequired_18 : decode cX7_gatherRequired 18 = .ok (.if_icmp .ge 50, 3) := by decide +kernel
theorem dX7_gatherRequired_21 : decode cX7_gatherRequired 21 = .ok (.aload_n 0, 1) := by decide +kernel
theorem dX7_gatherRequired_22 : decode cX7_gatherRequired 22 = .ok (.getfield 37, 3) := by decide +kernel
theorem dX7_gatherRequired_25 : decode cX7_gatherRequired 25 = .ok (.aload_n 0, 1) := by decide +kernel
theorem dX7_gatherRequired_26 : decode cX7_gatherRequired 26 = .ok (.getfield 33, 3) := by decide +kernel
theorem dX7_gatherRequired_29 : decode cX7_gatherRequired 29 = .ok (.iload_n 1, 1) := by decide +kernel
theorem dX7_gatherRequired_30 : decode cX7_gatherRequired 30 = .ok (.invokevirtual 139, 3) := by decide +kernel
theorem dX7_gatherRequired_33 : decode cX7_gatherRequired 33 = .ok (.istore_n 2, 1) := by decide +kernel
theorem dX7_gatherRequired_34 : decode cX7_gatherRequired 34 = .ok (.iconst 0, 1) := by decide +kernel
theorem dX7_gatherRequired_35 : decode cX7_gatherRequired 35 = .ok (.istore_n 3, 1) := by decide +kernel
theorem dX7_gatherRequired_36 : decode cX7_gatherRequired 36 = .ok (.iload_n 3, 1) := by decide +kernel
theorem dX7_gatherRequired_37 : decode cX7_gatherRequired 37 = .ok (.iload_n 2, 1) := by decide +kernel
theorem dX7_gatherRequired_38 : decode cX7_gatherRequired 38 = .ok (.if_icmp .ge 24, 3) := by decide +kernel
theorem dX7_gatherRequired_41 : decode cX7_gatherRequired 41 = .ok (.aload_n 0, 1) := by decide +kernel
theorem dX7_gatherRequired_42 : decode cX7_gatherRequired 42 = .ok (.aload_n 0, 1) := by decide +kernel
theorem dX7_gatherRequired_43 : decode cX7_gatherRequired 43 = .ok (.getfield 37, 3) := by decide +kernel
theorem dX7_gatherRequired_46 : decode cX7_gatherRequired 46 = .ok (.getfield 142, 3) := by decide +kernel
theorem dX7_gatherRequired_49 : decode cX7_gatherRequired 49 = .ok (.iload_n 3, 1) := by decide +kernel
theorem dX7_gatherRequired_50 : decode cX7_gatherRequired 50 = .ok (.invokestatic 68, 3) := by decide +kernel
theorem dX7_gatherRequired_53 : decode cX7_gatherRequired 53 = .ok (.invokevirtual 145, 3) := by decide +kernel
theorem dX7_gatherRequired_56 : decode cX7_gatherRequired 56 = .ok (.iinc 3 1, 3) := by decide +kernel
theorem dX7_gatherRequired_59 : decode cX7_gatherRequired 59 = .ok (.goto (-23), 3) := by decide +kernel
theorem dX7_gatherRequired_62 : decode cX7_gatherRequired 62 = .ok (.iinc 1 1, 3) := by decide +kernel
theorem dX7_gatherRequired_65 : decode cX7_gatherRequired 65 = .ok (.goto (-58), 3) := by decide +kernel
theorem dX7_gatherRequired_68 : decode cX7_gatherRequired 68 = .ok (.aload_n 0, 1) := by decide +kernel
theorem dX7_gatherRequired_69 : decode cX7_gatherRequired 69 = .ok (.getfield 37, 3) := by decide +kernel
theorem dX7_gatherRequired_72 : decode cX7_gatherRequired 72 = .ok (.aload_n 0, 1) := by decide +kernel
theorem dX7_gatherRequired_73 : decode cX7_gatherRequired 73 = .ok (.getfield 33, 3) := by decide +kernel
theorem dX7_gatherRequired_76 : decode cX7_gatherRequired 76 = .ok (.invokevirtual 148, 3) := by decide +kernel
theorem dX7_gatherRequired_79 : decode cX7_gatherRequired 79 = .ok (.ifCond .eq 14, 3) := by decide +kernel
theorem dX7_gatherRequired_82 : decode cX7_gatherRequired 82 = .ok (.aload_n 0, 1) := by decide +kernel
theorem dX7_gatherRequired_83 : decode cX7_gatherRequired 83 = .ok (.aload_n 0, 1) := by decide +kernel
theorem dX7_gatherRequired_84 : decode cX7_gatherRequired 84 = .ok (.getfield 37, 3) := by decide +kernel
theorem dX7_gatherRequired_87 : decode cX7_gatherRequired 87 = .ok (.invokevirtual 152, 3) := by decide +kernel
theorem dX7_gatherRequired_90 : decode cX7_gatherRequired 90 = .ok (.invokevirtual 145, 3) := by decide +kernel
theorem dX7_gatherRequired_93 : decode cX7_gatherRequired 93 = .ok (.return_, 1) := by decide +kernel
theorem dX7_addRequired_0 : decode cX7_addRequired 0 = .ok (.iconst 0, 1) := by decide +kernel
theorem dX7_addRequired_1 : decode cX7_addRequired 1 = .ok (.istore_n 2, 1) := by decide +kernel
theorem dX7_addRequired_2 : decode cX7_addRequired 2 = .ok (.iload_n 2, 1) := by decide +kernel
theorem dX7_addRequired_3 : decode cX7_addRequired 3 = .ok (.aload_n 0, 1) := by decide +kernel
theorem dX7_addRequired_4 : decode cX7_addRequired 4 = .ok (.getfield 58, 3) := by decide +kernel
theorem dX7_addRequired_7 : decode cX7_addRequired 7 = .ok (.if_icmp .ge 22, 3) := by decide +kernel
theorem dX7_addRequired_10 : decode cX7_addRequired 10 = .ok (.aload_n 0, 1) := by decide +kernel
theorem dX7_addRequired_11 : decode cX7_addRequired 11 = .ok (.getfield 11, 3) := by decide +kernel
theorem dX7_addRequired_14 : decode cX7_addRequired 14 = .ok (.iload_n 2, 1) := by decide +kernel
theorem dX7_addRequired_15 : decode cX7_addRequired 15 = .ok (.invokestatic 68, 3) := by decide +kernel
theorem dX7_addRequired_18 : decode cX7_addRequired 18 = .ok (.iload_n 1, 1) := by decide +kernel
theorem dX7_addRequired_19 : decode cX7_addRequired 19 = .ok (.if_icmp .ne 4, 3) := by decide +kernel
theorem dX7_addRequired_22 : decode cX7_addRequired 22 = .ok (.return_, 1) := by decide +kernel
theorem dX7_addRequired_23 : decode cX7_addRequired 23 = .ok (.iinc 2 1, 3) := by decide +kernel
theorem dX7_addRequired_26 : decode cX7_addRequired 26 = .ok (.goto (-24), 3) := by decide +kernel
theorem dX7_addRequired_29 : decode cX7_addRequired 29 = .ok (.aload_n 0, 1) := by decide +kernel
theorem dX7_addRequired_30 : decode cX7_addRequired 30 = .ok (.getfield 11, 3) := by decide +kernel
theorem dX7_addRequired_33 : decode cX7_addRequired 33 = .ok (.aload_n 0, 1) := by decide +kernel
theorem dX7_addRequired_34 : decode cX7_addRequired 34 = .ok (.getfield 58, 3) := by decide +kernel
theorem dX7_addRequired_37 : decode cX7_addRequired 37 = .ok (.iload_n 1, 1) := by decide +kernel
theorem dX7_addRequired_38 : decode cX7_addRequired 38 = .ok (.invokestatic 155, 3) := by decide +kernel
theorem dX7_addRequired_41 : decode cX7_addRequired 41 = .ok (.aload_n 0, 1) := by decide +kernel
theorem dX7_addRequired_42 : decode cX7_addRequired 42 = .ok (.dup, 1) := by decide +kernel
theorem dX7_addRequired_43 : decode cX7_addRequired 43 = .ok (.getfield 58, 3) := by decide +kernel
theorem dX7_addRequired_46 : decode cX7_addRequired 46 = .ok (.iconst 1, 1) := by decide +kernel
theorem dX7_addRequired_47 : decode cX7_addRequired 47 = .ok (.iadd, 1) := by decide +kernel
theorem dX7_addRequired_48 : decode cX7_addRequired 48 = .ok (.putfield 58, 3) := by decide +kernel
theorem dX7_addRequired_51 : decode cX7_addRequired 51 = .ok (.return_, 1) := by decide +kernel
theorem dX7_gatherFalls_0 : decode cX7_gatherFalls 0 = .ok (.aload_n 0, 1) := by decide +kernel
theorem dX7_gatherFalls_1 : decode cX7_gatherFalls 1 = .ok (.iconst 0, 1) := by decide +kernel
theorem dX7_gatherFalls_2 : decode cX7_gatherFalls 2 = .ok (.putfield 159, 3) := by decide +kernel
theorem dX7_gatherFalls_5 : decode cX7_gatherFalls 5 = .ok (.iconst 0, 1) := by decide +kernel
theorem dX7_gatherFalls_6 : decode cX7_gatherFalls 6 = .ok (.istore_n 1, 1) := by decide +kernel
theorem dX7_gatherFalls_7 : decode cX7_gatherFalls 7 = .ok (.iload_n 1, 1) := by decide +kernel
theorem dX7_gatherFalls_8 : decode cX7_gatherFalls 8 = .ok (.aload_n 0, 1) := by decide +kernel
theorem dX7_gatherFalls_9 : decode cX7_gatherFalls 9 = .ok (.getfield 37, 3) := by decide +kernel
theorem dX7_gatherFalls_12 : decode cX7_gatherFalls 12 = .ok (.getfield 128, 3) := by decide +kernel
theorem dX7_gatherFalls_15 : decode cX7_gatherFalls 15 = .ok (.getfield 134, 3) := by decide +kernel
theorem dX7_gatherFalls_18 : decode cX7_gatherFalls 18 = .ok (.if_icmp .ge 87, 3) := by decide +kernel
theorem dX7_gatherFalls_21 : decode cX7_gatherFalls 21 = .ok (.aload_n 0, 1) := by decide +kernel
theorem dX7_gatherFalls_22 : decode cX7_gatherFalls 22 = .ok (.getfield 159, 3) := by decide +kernel
theorem dX7_gatherFalls_25 : decode cX7_gatherFalls 25 = .ok (.bipush 8, 2) := by decide +kernel
theorem dX7_gatherFalls_27 : decode cX7_gatherFalls 27 = .ok (.if_icmp .ge 78, 3) := by decide +kernel
theorem dX7_gatherFalls_30 : decode cX7_gatherFalls 30 = .ok (.aload_n 0, 1) := by decide +kernel
theorem dX7_gatherFalls_31 : decode cX7_gatherFalls 31 = .ok (.getfield 37, 3) := by decide +kernel
theorem dX7_gatherFalls_34 : decode cX7_gatherFalls 34 = .ok (.aload_n 0, 1) := by decide +kernel
theorem dX7_gatherFalls_35 : decode cX7_gatherFalls 35 = .ok (.getfield 33, 3) := by decide +kernel
theorem dX7_gatherFalls_38 : decode cX7_gatherFalls 38 = .ok (.iload_n 1, 1) := by decide +kernel
theorem dX7_gatherFalls_39 : decode cX7_gatherFalls 39 = .ok (.invokevirtual 162, 3) := by decide +kernel
theorem dX7_gatherFalls_42 : decode cX7_gatherFalls 42 = .ok (.ifCond .eq 57, 3) := by decide +kernel
theorem dX7_gatherFalls_45 : decode cX7_gatherFalls 45 = .ok (.aload_n 0, 1) := by decide +kernel
theorem dX7_gatherFalls_46 : decode cX7_gatherFalls 46 = .ok (.getfield 15, 3) := by decide +kernel
theorem dX7_gatherFalls_49 : decode cX7_gatherFalls 49 = .ok (.aload_n 0, 1) := by decide +kernel
theorem dX7_gatherFalls_50 : decode cX7_gatherFalls 50 = .ok (.getfield 159, 3) := by decide +kernel
theorem dX7_gatherFalls_53 : decode cX7_gatherFalls 53 = .ok (.aload_n 0, 1) := by decide +kernel
theorem dX7_gatherFalls_54 : decode cX7_gatherFalls 54 = .ok (.getfield 41, 3) := by decide +kernel
theorem dX7_gatherFalls_57 : decode cX7_gatherFalls 57 = .ok (.aload_n 0, 1) := by decide +kernel
theorem dX7_gatherFalls_58 : decode cX7_gatherFalls 58 = .ok (.getfield 37, 3) := by decide +kernel
theorem dX7_gatherFalls_61 : decode cX7_gatherFalls 61 = .ok (.getfield 166, 3) := by decide +kernel
theorem dX7_gatherFalls_64 : decode cX7_gatherFalls 64 = .ok (.iload_n 1, 1) := by decide +kernel
theorem dX7_gatherFalls_65 : decode cX7_gatherFalls 65 = .ok (.invokestatic 68, 3) := by decide +kernel
theorem dX7_gatherFalls_68 : decode cX7_gatherFalls 68 = .ok (.invokevirtual 72, 3) := by decide +kernel
theorem dX7_gatherFalls_71 : decode cX7_gatherFalls 71 = .ok (.lastore, 1) := by decide +kernel
theorem dX7_gatherFalls_72 : decode cX7_gatherFalls 72 = .ok (.aload_n 0, 1) := by decide +kernel
theorem dX7_gatherFalls_73 : decode cX7_gatherFalls 73 = .ok (.getfield 19, 3) := by decide +kernel
theorem dX7_gatherFalls_76 : decode cX7_gatherFalls 76 = .ok (.aload_n 0, 1) := by decide +kernel
theorem dX7_gatherFalls_77 : decode cX7_gatherFalls 77 = .ok (.getfield 159, 3) := by decide +kernel
theorem dX7_gatherFalls_80 : decode cX7_gatherFalls 80 = .ok (.aload_n 0, 1) := by decide +kernel
theorem dX7_gatherFalls_81 : decode cX7_gatherFalls 81 = .ok (.getfield 37, 3) := by decide +kernel
theorem dX7_gatherFalls_84 : decode cX7_gatherFalls 84 = .ok (.iload_n 1, 1) := by decide +kernel
theorem dX7_gatherFalls_85 : decode cX7_gatherFalls 85 = .ok (.invokevirtual 169, 3) := by decide +kernel
theorem dX7_gatherFalls_88 : decode cX7_gatherFalls 88 = .ok (.lastore, 1) := by decide +kernel
theorem dX7_gatherFalls_89 : decode cX7_gatherFalls 89 = .ok (.aload_n 0, 1) := by decide +kernel
theorem dX7_gatherFalls_90 : decode cX7_gatherFalls 90 = .ok (.dup, 1) := by decide +kernel
theorem dX7_gatherFalls_91 : decode cX7_gatherFalls 91 = .ok (.getfield 159, 3) := by decide +kernel
theorem dX7_gatherFalls_94 : decode cX7_gatherFalls 94 = .ok (.iconst 1, 1) := by decide +kernel
theorem dX7_gatherFalls_95 : decode cX7_gatherFalls 95 = .ok (.iadd, 1) := by decide +kernel
theorem dX7_gatherFalls_96 : decode cX7_gatherFalls 96 = .ok (.putfield 159, 3) := by decide +kernel
theorem dX7_gatherFalls_99 : decode cX7_gatherFalls 99 = .ok (.iinc 1 1, 3) := by decide +kernel
theorem dX7_gatherFalls_102 : decode cX7_gatherFalls 102 = .ok (.goto (-95), 3) := by decide +kernel
theorem dX7_gatherFalls_105 : decode cX7_gatherFalls 105 = .ok (.return_, 1) := by decide +kernel
theorem dX7_isSafe_0 : decode cX7_isSafe 0 = .ok (.lload_n 1, 1) := by decide +kernel
theorem dX7_isSafe_1 : decode cX7_isSafe 1 = .ok (.aload_n 0, 1) := by decide +kernel
theorem dX7_isSafe_2 : decode cX7_isSafe 2 = .ok (.getfield 37, 3) := by decide +kernel
theorem dX7_isSafe_5 : decode cX7_isSafe 5 = .ok (.getfield 172, 3) := by decide +kernel
theorem dX7_isSafe_8 : decode cX7_isSafe 8 = .ok (.aload_n 0, 1) := by decide +kernel
theorem dX7_isSafe_9 : decode cX7_isSafe 9 = .ok (.getfield 33, 3) := by decide +kernel
theorem dX7_isSafe_12 : decode cX7_isSafe 12 = .ok (.invokevirtual 176, 3) := by decide +kernel
theorem dX7_isSafe_15 : decode cX7_isSafe 15 = .ok (.land, 1) := by decide +kernel
theorem dX7_isSafe_16 : decode cX7_isSafe 16 = .ok (.lconst 0, 1) := by decide +kernel
theorem dX7_isSafe_17 : decode cX7_isSafe 17 = .ok (.lcmp, 1) := by decide +kernel
theorem dX7_isSafe_18 : decode cX7_isSafe 18 = .ok (.ifCond .eq 5, 3) := by decide +kernel
theorem dX7_isSafe_21 : decode cX7_isSafe 21 = .ok (.iconst 0, 1) := by decide +kernel
theorem dX7_isSafe_22 : decode cX7_isSafe 22 = .ok (.ireturn, 1) := by decide +kernel
theorem dX7_isSafe_23 : decode cX7_isSafe 23 = .ok (.iconst 0, 1) := by decide +kernel
theorem dX7_isSafe_24 : decode cX7_isSafe 24 = .ok (.istore_n 3, 1) := by decide +kernel
theorem dX7_isSafe_25 : decode cX7_isSafe 25 = .ok (.iload_n 3, 1) := by decide +kernel
theorem dX7_isSafe_26 : decode cX7_isSafe 26 = .ok (.aload_n 0, 1) := by decide +kernel
theorem dX7_isSafe_27 : decode cX7_isSafe 27 = .ok (.getfield 159, 3) := by decide +kernel
theorem dX7_isSafe_30 : decode cX7_isSafe 30 = .ok (.if_icmp .ge 43, 3) := by decide +kernel
theorem dX7_isSafe_33 : decode cX7_isSafe 33 = .ok (.iload_n 3, 1) := by decide +kernel
theorem dX7_isSafe_34 : decode cX7_isSafe 34 = .ok (.bipush 8, 2) := by decide +kernel
theorem dX7_isSafe_36 : decode cX7_isSafe 36 = .ok (.if_icmp .ge 37, 3) := by decide +kernel
theorem dX7_isSafe_39 : decode cX7_isSafe 39 = .ok (.lload_n 1, 1) := by decide +kernel
theorem dX7_isSafe_40 : decode cX7_isSafe 40 = .ok (.aload_n 0, 1) := by decide +kernel
theorem dX7_isSafe_41 : decode cX7_isSafe 41 = .ok (.getfield 15, 3) := by decide +kernel
theorem dX7_isSafe_44 : decode cX7_isSafe 44 = .ok (.iload_n 3, 1) := by decide +kernel
theorem dX7_isSafe_45 : decode cX7_isSafe 45 = .ok (.laload, 1) := by decide +kernel
theorem dX7_isSafe_46 : decode cX7_isSafe 46 = .ok (.land, 1) := by decide +kernel
theorem dX7_isSafe_47 : decode cX7_isSafe 47 = .ok (.lconst 0, 1) := by decide +kernel
theorem dX7_isSafe_48 : decode cX7_isSafe 48 = .ok (.lcmp, 1) := by decide +kernel
theorem dX7_isSafe_49 : decode cX7_isSafe 49 = .ok (.ifCond .eq 18, 3) := by decide +kernel
theorem dX7_isSafe_52 : decode cX7_isSafe 52 = .ok (.lload_n 1, 1) := by decide +kernel
theorem dX7_isSafe_53 : decode cX7_isSafe 53 = .ok (.aload_n 0, 1) := by decide +kernel
theorem dX7_isSafe_54 : decode cX7_isSafe 54 = .ok (.getfield 19, 3) := by decide +kernel
theorem dX7_isSafe_57 : decode cX7_isSafe 57 = .ok (.iload_n 3, 1) := by decide +kernel
theorem dX7_isSafe_58 : decode cX7_isSafe 58 = .ok (.laload, 1) := by decide +kernel
theorem dX7_isSafe_59 : decode cX7_isSafe 59 = .ok (.land, 1) := by decide +kernel
theorem dX7_isSafe_60 : decode cX7_isSafe 60 = .ok (.lconst 0, 1) := by decide +kernel
theorem dX7_isSafe_61 : decode cX7_isSafe 61 = .ok (.lcmp, 1) := by decide +kernel
theorem dX7_isSafe_62 : decode cX7_isSafe 62 = .ok (.ifCond .ne 5, 3) := by decide +kernel
theorem dX7_isSafe_65 : decode cX7_isSafe 65 = .ok (.iconst 0, 1) := by decide +kernel
theorem dX7_isSafe_66 : decode cX7_isSafe 66 = .ok (.ireturn, 1) := by decide +kernel
theorem dX7_isSafe_67 : decode cX7_isSafe 67 = .ok (.iinc 3 1, 3) := by decide +kernel
theorem dX7_isSafe_70 : decode cX7_isSafe 70 = .ok (.goto (-45), 3) := by decide +kernel
theorem dX7_isSafe_73 : decode cX7_isSafe 73 = .ok (.iconst 1, 1) := by decide +kernel
theorem dX7_isSafe_74 : decode cX7_isSafe 74 = .ok (.ireturn, 1) := by decide +kernel
theorem dX7_gatherPrimes_0 : decode cX7_gatherPrimes 0 = .ok (.aload_n 0, 1) := by decide +kernel
theorem dX7_gatherPrimes_1 : decode cX7_gatherPrimes 1 = .ok (.iconst 0, 1) := by decide +kernel
theorem dX7_gatherPrimes_2 : decode cX7_gatherPrimes 2 = .ok (.putfield 65, 3) := by decide +kernel
theorem dX7_gatherPrimes_5 : decode cX7_gatherPrimes 5 = .ok (.sipush 728, 3) := by decide +kernel
theorem dX7_gatherPrimes_8 : decode cX7_gatherPrimes 8 = .ok (.istore_n 1, 1) := by decide +kernel
theorem dX7_gatherPrimes_9 : decode cX7_gatherPrimes 9 = .ok (.iload_n 1, 1) := by decide +kernel
theorem dX7_gatherPrimes_10 : decode cX7_gatherPrimes 10 = .ok (.ifCond .lt 64, 3) := by decide +kernel
theorem dX7_gatherPrimes_13 : decode cX7_gatherPrimes 13 = .ok (.aload_n 0, 1) := by decide +kernel
theorem dX7_gatherPrimes_14 : decode cX7_gatherPrimes 14 = .ok (.getfield 41, 3) := by decide +kernel
theorem dX7_gatherPrimes_17 : decode cX7_gatherPrimes 17 = .ok (.iload_n 1, 1) := by decide +kernel
theorem dX7_gatherPrimes_18 : decode cX7_gatherPrimes 18 = .ok (.invokevirtual 72, 3) := by decide +kernel
theorem dX7_gatherPrimes_21 : decode cX7_gatherPrimes 21 = .ok (.lstore_n 2, 1) := by decide +kernel
theorem dX7_gatherPrimes_22 : decode cX7_gatherPrimes 22 = .ok (.aload_n 0, 1) := by decide +kernel
theorem dX7_gatherPrimes_23 : decode cX7_gatherPrimes 23 = .ok (.lload_n 2, 1) := by decide +kernel
theorem dX7_gatherPrimes_24 : decode cX7_gatherPrimes 24 = .ok (.invokevirtual 181, 3) := by decide +kernel
theorem dX7_gatherPrimes_27 : decode cX7_gatherPrimes 27 = .ok (.ifCond .eq 41, 3) := by decide +kernel
theorem dX7_gatherPrimes_30 : decode cX7_gatherPrimes 30 = .ok (.aload_n 0, 1) := by decide +kernel
theorem dX7_gatherPrimes_31 : decode cX7_gatherPrimes 31 = .ok (.lload_n 2, 1) := by decide +kernel
theorem dX7_gatherPrimes_32 : decode cX7_gatherPrimes 32 = .ok (.invokevirtual 185, 3) := by decide +kernel
theorem dX7_gatherPrimes_35 : decode cX7_gatherPrimes 35 = .ok (.ifCond .ne 33, 3) := by decide +kernel
theorem dX7_gatherPrimes_38 : decode cX7_gatherPrimes 38 = .ok (.aload_n 0, 1) := by decide +kernel
theorem dX7_gatherPrimes_39 : decode cX7_gatherPrimes 39 = .ok (.getfield 65, 3) := by decide +kernel
theorem dX7_gatherPrimes_42 : decode cX7_gatherPrimes 42 = .ok (.sipush 240, 3) := by decide +kernel
theorem dX7_gatherPrimes_45 : decode cX7_gatherPrimes 45 = .ok (.if_icmp .ge 23, 3) := by decide +kernel
theorem dX7_gatherPrimes_48 : decode cX7_gatherPrimes 48 = .ok (.aload_n 0, 1) := by decide +kernel
theorem dX7_gatherPrimes_49 : decode cX7_gatherPrimes 49 = .ok (.getfield 22, 3) := by decide +kernel
theorem dX7_gatherPrimes_52 : decode cX7_gatherPrimes 52 = .ok (.aload_n 0, 1) := by decide +kernel
theorem dX7_gatherPrimes_53 : decode cX7_gatherPrimes 53 = .ok (.getfield 65, 3) := by decide +kernel
theorem dX7_gatherPrimes_56 : decode cX7_gatherPrimes 56 = .ok (.iload_n 1, 1) := by decide +kernel
theorem dX7_gatherPrimes_57 : decode cX7_gatherPrimes 57 = .ok (.iastore, 1) := by decide +kernel
theorem dX7_gatherPrimes_58 : decode cX7_gatherPrimes 58 = .ok (.aload_n 0, 1) := by decide +kernel
theorem dX7_gatherPrimes_59 : decode cX7_gatherPrimes 59 = .ok (.dup, 1) := by decide +kernel
theorem dX7_gatherPrimes_60 : decode cX7_gatherPrimes 60 = .ok (.getfield 65, 3) := by decide +kernel
theorem dX7_gatherPrimes_63 : decode cX7_gatherPrimes 63 = .ok (.iconst 1, 1) := by decide +kernel
theorem dX7_gatherPrimes_64 : decode cX7_gatherPrimes 64 = .ok (.iadd, 1) := by decide +kernel
theorem dX7_gatherPrimes_65 : decode cX7_gatherPrimes 65 = .ok (.putfield 65, 3) := by decide +kernel
theorem dX7_gatherPrimes_68 : decode cX7_gatherPrimes 68 = .ok (.iinc 1 (-1), 3) := by decide +kernel
theorem dX7_gatherPrimes_71 : decode cX7_gatherPrimes 71 = .ok (.goto (-62), 3) := by decide +kernel
theorem dX7_gatherPrimes_74 : decode cX7_gatherPrimes 74 = .ok (.iconst 0, 1) := by decide +kernel
theorem dX7_gatherPrimes_75 : decode cX7_gatherPrimes 75 = .ok (.istore_n 1, 1) := by decide +kernel
theorem dX7_gatherPrimes_76 : decode cX7_gatherPrimes 76 = .ok (.iload_n 1, 1) := by decide +kernel
theorem dX7_gatherPrimes_77 : decode cX7_gatherPrimes 77 = .ok (.aload_n 0, 1) := by decide +kernel
theorem dX7_gatherPrimes_78 : decode cX7_gatherPrimes 78 = .ok (.getfield 65, 3) := by decide +kernel
theorem dX7_gatherPrimes_81 : decode cX7_gatherPrimes 81 = .ok (.iconst 2, 1) := by decide +kernel
theorem dX7_gatherPrimes_82 : decode cX7_gatherPrimes 82 = .ok (.idiv, 1) := by decide +kernel
theorem dX7_gatherPrimes_83 : decode cX7_gatherPrimes 83 = .ok (.if_icmp .ge 52, 3) := by decide +kernel
theorem dX7_gatherPrimes_86 : decode cX7_gatherPrimes 86 = .ok (.aload_n 0, 1) := by decide +kernel
theorem dX7_gatherPrimes_87 : decode cX7_gatherPrimes 87 = .ok (.getfield 65, 3) := by decide +kernel
theorem dX7_gatherPrimes_90 : decode cX7_gatherPrimes 90 = .ok (.iconst 1, 1) := by decide +kernel
theorem dX7_gatherPrimes_91 : decode cX7_gatherPrimes 91 = .ok (.isub, 1) := by decide +kernel
theorem dX7_gatherPrimes_92 : decode cX7_gatherPrimes 92 = .ok (.iload_n 1, 1) := by decide +kernel
theorem dX7_gatherPrimes_93 : decode cX7_gatherPrimes 93 = .ok (.isub, 1) := by decide +kernel
theorem dX7_gatherPrimes_94 : decode cX7_gatherPrimes 94 = .ok (.istore_n 2, 1) := by decide +kernel
theorem dX7_gatherPrimes_95 : decode cX7_gatherPrimes 95 = .ok (.aload_n 0, 1) := by decide +kernel
theorem dX7_gatherPrimes_96 : decode cX7_gatherPrimes 96 = .ok (.getfield 22, 3) := by decide +kernel
theorem dX7_gatherPrimes_99 : decode cX7_gatherPrimes 99 = .ok (.iload_n 1, 1) := by decide +kernel
theorem dX7_gatherPrimes_100 : decode cX7_gatherPrimes 100 = .ok (.invokestatic 68, 3) := by decide +kernel
theorem dX7_gatherPrimes_103 : decode cX7_gatherPrimes 103 = .ok (.istore_n 3, 1) := by decide +kernel
theorem dX7_gatherPrimes_104 : decode cX7_gatherPrimes 104 = .ok (.aload_n 0, 1) := by decide +kernel
theorem dX7_gatherPrimes_105 : decode cX7_gatherPrimes 105 = .ok (.getfield 22, 3) := by decide +kernel
theorem dX7_gatherPrimes_108 : decode cX7_gatherPrimes 108 = .ok (.iload_n 1, 1) := by decide +kernel
theorem dX7_gatherPrimes_109 : decode cX7_gatherPrimes 109 = .ok (.aload_n 0, 1) := by decide +kernel
theorem dX7_gatherPrimes_110 : decode cX7_gatherPrimes 110 = .ok (.getfield 22, 3) := by decide +kernel
theorem dX7_gatherPrimes_113 : decode cX7_gatherPrimes 113 = .ok (.iload_n 2, 1) := by decide +kernel
theorem dX7_gatherPrimes_114 : decode cX7_gatherPrimes 114 = .ok (.invokestatic 68, 3) := by decide +kernel
theorem dX7_gatherPrimes_117 : decode cX7_gatherPrimes 117 = .ok (.invokestatic 155, 3) := by decide +kernel
theorem dX7_gatherPrimes_120 : decode cX7_gatherPrimes 120 = .ok (.aload_n 0, 1) := by decide +kernel
theorem dX7_gatherPrimes_121 : decode cX7_gatherPrimes 121 = .ok (.getfield 22, 3) := by decide +kernel
theorem dX7_gatherPrimes_124 : decode cX7_gatherPrimes 124 = .ok (.iload_n 2, 1) := by decide +kernel
theorem dX7_gatherPrimes_125 : decode cX7_gatherPrimes 125 = .ok (.iload_n 3, 1) := by decide +kernel
theorem dX7_gatherPrimes_126 : decode cX7_gatherPrimes 126 = .ok (.invokestatic 155, 3) := by decide +kernel
theorem dX7_gatherPrimes_129 : decode cX7_gatherPrimes 129 = .ok (.iinc 1 1, 3) := by decide +kernel
theorem dX7_gatherPrimes_132 : decode cX7_gatherPrimes 132 = .ok (.goto (-56), 3) := by decide +kernel
theorem dX7_gatherPrimes_135 : decode cX7_gatherPrimes 135 = .ok (.return_, 1) := by decide +kernel
theorem dX7_liesWithinPrime_0 : decode cX7_liesWithinPrime 0 = .ok (.iconst 0, 1) := by decide +kernel
theorem dX7_liesWithinPrime_1 : decode cX7_liesWithinPrime 1 = .ok (.istore_n 3, 1) := by decide +kernel
theorem dX7_liesWithinPrime_2 : decode cX7_liesWithinPrime 2 = .ok (.iload_n 3, 1) := by decide +kernel
theorem dX7_liesWithinPrime_3 : decode cX7_liesWithinPrime 3 = .ok (.aload_n 0, 1) := by decide +kernel
theorem dX7_liesWithinPrime_4 : decode cX7_liesWithinPrime 4 = .ok (.getfield 65, 3) := by decide +kernel
theorem dX7_liesWithinPrime_7 : decode cX7_liesWithinPrime 7 = .ok (.if_icmp .ge 37, 3) := by decide +kernel
theorem dX7_liesWithinPrime_10 : decode cX7_liesWithinPrime 10 = .ok (.lload_n 1, 1) := by decide +kernel
theorem dX7_liesWithinPrime_11 : decode cX7_liesWithinPrime 11 = .ok (.aload_n 0, 1) := by decide +kernel
theorem dX7_liesWithinPrime_12 : decode cX7_liesWithinPrime 12 = .ok (.getfield 41, 3) := by decide +kernel
theorem dX7_liesWithinPrime_15 : decode cX7_liesWithinPrime 15 = .ok (.aload_n 0, 1) := by decide +kernel
theorem dX7_liesWithinPrime_16 : decode cX7_liesWithinPrime 16 = .ok (.getfield 22, 3) := by decide +kernel
theorem dX7_liesWithinPrime_19 : decode cX7_liesWithinPrime 19 = .ok (.iload_n 3, 1) := by decide +kernel
theorem dX7_liesWithinPrime_20 : decode cX7_liesWithinPrime 20 = .ok (.invokestatic 68, 3) := by decide +kernel
theorem dX7_liesWithinPrime_23 : decode cX7_liesWithinPrime 23 = .ok (.invokevirtual 72, 3) := by decide +kernel
theorem dX7_liesWithinPrime_26 : decode cX7_liesWithinPrime 26 = .ok (.ldc2_w 188, 3) := by decide +kernel
theorem dX7_liesWithinPrime_29 : decode cX7_liesWithinPrime 29 = .ok (.lxor, 1) := by decide +kernel
theorem dX7_liesWithinPrime_30 : decode cX7_liesWithinPrime 30 = .ok (.land, 1) := by decide +kernel
theorem dX7_liesWithinPrime_31 : decode cX7_liesWithinPrime 31 = .ok (.lconst 0, 1) := by decide +kernel
theorem dX7_liesWithinPrime_32 : decode cX7_liesWithinPrime 32 = .ok (.lcmp, 1) := by decide +kernel
theorem dX7_liesWithinPrime_33 : decode cX7_liesWithinPrime 33 = .ok (.ifCond .ne 5, 3) := by decide +kernel
theorem dX7_liesWithinPrime_36 : decode cX7_liesWithinPrime 36 = .ok (.iconst 1, 1) := by decide +kernel
theorem dX7_liesWithinPrime_37 : decode cX7_liesWithinPrime 37 = .ok (.ireturn, 1) := by decide +kernel
theorem dX7_liesWithinPrime_38 : decode cX7_liesWithinPrime 38 = .ok (.iinc 3 1, 3) := by decide +kernel
theorem dX7_liesWithinPrime_41 : decode cX7_liesWithinPrime 41 = .ok (.goto (-39), 3) := by decide +kernel
theorem dX7_liesWithinPrime_44 : decode cX7_liesWithinPrime 44 = .ok (.iconst 0, 1) := by decide +kernel
theorem dX7_liesWithinPrime_45 : decode cX7_liesWithinPrime 45 = .ok (.ireturn, 1) := by decide +kernel
theorem dX7_heldWithin_0 : decode cX7_heldWithin 0 = .ok (.lconst 0, 1) := by decide +kernel
theorem dX7_heldWithin_1 : decode cX7_heldWithin 1 = .ok (.lstore_n 3, 1) := by decide +kernel
theorem dX7_heldWithin_2 : decode cX7_heldWithin 2 = .ok (.iconst 0, 1) := by decide +kernel
theorem dX7_heldWithin_3 : decode cX7_heldWithin 3 = .ok (.istore 5, 2) := by decide +kernel
theorem dX7_heldWithin_5 : decode cX7_heldWithin 5 = .ok (.iload 5, 2) := by decide +kernel
theorem dX7_heldWithin_7 : decode cX7_heldWithin 7 = .ok (.aload_n 0, 1) := by decide +kernel
theorem dX7_heldWithin_8 : decode cX7_heldWithin 8 = .ok (.getfield 58, 3) := by decide +kernel
theorem dX7_heldWithin_11 : decode cX7_heldWithin 11 = .ok (.if_icmp .ge 43, 3) := by decide +kernel
theorem dX7_heldWithin_14 : decode cX7_heldWithin 14 = .ok (.aload_n 0, 1) := by decide +kernel
theorem dX7_heldWithin_15 : decode cX7_heldWithin 15 = .ok (.getfield 41, 3) := by decide +kernel
theorem dX7_heldWithin_18 : decode cX7_heldWithin 18 = .ok (.aload_n 0, 1) := by decide +kernel
theorem dX7_heldWithin_19 : decode cX7_heldWithin 19 = .ok (.getfield 11, 3) := by decide +kernel
theorem dX7_heldWithin_22 : decode cX7_heldWithin 22 = .ok (.iload 5, 2) := by decide +kernel
theorem dX7_heldWithin_24 : decode cX7_heldWithin 24 = .ok (.invokestatic 68, 3) := by decide +kernel
theorem dX7_heldWithin_27 : decode cX7_heldWithin 27 = .ok (.invokevirtual 72, 3) := by decide +kernel
theorem dX7_heldWithin_30 : decode cX7_heldWithin 30 = .ok (.lload_n 1, 1) := by decide +kernel
theorem dX7_heldWithin_31 : decode cX7_heldWithin 31 = .ok (.ldc2_w 188, 3) := by decide +kernel
theorem dX7_heldWithin_34 : decode cX7_heldWithin 34 = .ok (.lxor, 1) := by decide +kernel
theorem dX7_heldWithin_35 : decode cX7_heldWithin 35 = .ok (.land, 1) := by decide +kernel
theorem dX7_heldWithin_36 : decode cX7_heldWithin 36 = .ok (.lconst 0, 1) := by decide +kernel
theorem dX7_heldWithin_37 : decode cX7_heldWithin 37 = .ok (.lcmp, 1) := by decide +kernel
theorem dX7_heldWithin_38 : decode cX7_heldWithin 38 = .ok (.ifCond .ne 10, 3) := by decide +kernel
theorem dX7_heldWithin_41 : decode cX7_heldWithin 41 = .ok (.lload_n 3, 1) := by decide +kernel
theorem dX7_heldWithin_42 : decode cX7_heldWithin 42 = .ok (.lconst 1, 1) := by decide +kernel
theorem dX7_heldWithin_43 : decode cX7_heldWithin 43 = .ok (.iload 5, 2) := by decide +kernel
theorem dX7_heldWithin_45 : decode cX7_heldWithin 45 = .ok (.lshl, 1) := by decide +kernel
theorem dX7_heldWithin_46 : decode cX7_heldWithin 46 = .ok (.lor, 1) := by decide +kernel
theorem dX7_heldWithin_47 : decode cX7_heldWithin 47 = .ok (.lstore_n 3, 1) := by decide +kernel
theorem dX7_heldWithin_48 : decode cX7_heldWithin 48 = .ok (.iinc 5 1, 3) := by decide +kernel
theorem dX7_heldWithin_51 : decode cX7_heldWithin 51 = .ok (.goto (-46), 3) := by decide +kernel
theorem dX7_heldWithin_54 : decode cX7_heldWithin 54 = .ok (.lload_n 3, 1) := by decide +kernel
theorem dX7_heldWithin_55 : decode cX7_heldWithin 55 = .ok (.lreturn, 1) := by decide +kernel
theorem dX7_spell_0 : decode cX7_spell 0 = .ok (.aload_n 0, 1) := by decide +kernel
theorem dX7_spell_1 : decode cX7_spell 1 = .ok (.iconst 0, 1) := by decide +kernel
theorem dX7_spell_2 : decode cX7_spell 2 = .ok (.putfield 190, 3) := by decide +kernel
theorem dX7_spell_5 : decode cX7_spell 5 = .ok (.aload_n 0, 1) := by decide +kernel
theorem dX7_spell_6 : decode cX7_spell 6 = .ok (.iconst 0, 1) := by decide +kernel
theorem dX7_spell_7 : decode cX7_spell 7 = .ok (.putfield 193, 3) := by decide +kernel
theorem dX7_spell_10 : decode cX7_spell 10 = .ok (.aload_n 0, 1) := by decide +kernel
theorem dX7_spell_11 : decode cX7_spell 11 = .ok (.invokevirtual 196, 3) := by decide +kernel
theorem dX7_spell_14 : decode cX7_spell 14 = .ok (.ifCond .ne 4, 3) := by decide +kernel
theorem dX7_spell_17 : decode cX7_spell 17 = .ok (.return_, 1) := by decide +kernel
theorem dX7_spell_18 : decode cX7_spell 18 = .ok (.iconst 0, 1) := by decide +kernel
theorem dX7_spell_19 : decode cX7_spell 19 = .ok (.istore_n 1, 1) := by decide +kernel
theorem dX7_spell_20 : decode cX7_spell 20 = .ok (.iload_n 1, 1) := by decide +kernel
theorem dX7_spell_21 : decode cX7_spell 21 = .ok (.aload_n 0, 1) := by decide +kernel
theorem dX7_spell_22 : decode cX7_spell 22 = .ok (.getfield 102, 3) := by decide +kernel
theorem dX7_spell_25 : decode cX7_spell 25 = .ok (.if_icmp .ge 28, 3) := by decide +kernel
theorem dX7_spell_28 : decode cX7_spell 28 = .ok (.iload_n 1, 1) := by decide +kernel
theorem dX7_spell_29 : decode cX7_spell 29 = .ok (.ifCond .le 9, 3) := by decide +kernel
theorem dX7_spell_32 : decode cX7_spell 32 = .ok (.aload_n 0, 1) := by decide +kernel
theorem dX7_spell_33 : decode cX7_spell 33 = .ok (.bipush 43, 2) := by decide +kernel
theorem dX7_spell_35 : decode cX7_spell 35 = .ok (.invokevirtual 200, 3) := by decide +kernel
theorem dX7_spell_38 : decode cX7_spell 38 = .ok (.aload_n 0, 1) := by decide +kernel
theorem dX7_spell_39 : decode cX7_spell 39 = .ok (.aload_n 0, 1) := by decide +kernel
theorem dX7_spell_40 : decode cX7_spell 40 = .ok (.iload_n 1, 1) := by decide +kernel
theorem dX7_spell_41 : decode cX7_spell 41 = .ok (.invokevirtual 116, 3) := by decide +kernel
theorem dX7_spell_44 : decode cX7_spell 44 = .ok (.invokevirtual 204, 3) := by decide +kernel
theorem dX7_spell_47 : decode cX7_spell 47 = .ok (.iinc 1 1, 3) := by decide +kernel
theorem dX7_spell_50 : decode cX7_spell 50 = .ok (.goto (-30), 3) := by decide +kernel
theorem dX7_spell_53 : decode cX7_spell 53 = .ok (.aload_n 0, 1) := by decide +kernel
theorem dX7_spell_54 : decode cX7_spell 54 = .ok (.getfield 102, 3) := by decide +kernel
theorem dX7_spell_57 : decode cX7_spell 57 = .ok (.ifCond .ne 9, 3) := by decide +kernel
theorem dX7_spell_60 : decode cX7_spell 60 = .ok (.aload_n 0, 1) := by decide +kernel
theorem dX7_spell_61 : decode cX7_spell 61 = .ok (.bipush 48, 2) := by decide +kernel
theorem dX7_spell_63 : decode cX7_spell 63 = .ok (.invokevirtual 200, 3) := by decide +kernel
theorem dX7_spell_66 : decode cX7_spell 66 = .ok (.return_, 1) := by decide +kernel
theorem dX7_spellCube_0 : decode cX7_spellCube 0 = .ok (.aload_n 0, 1) := by decide +kernel
theorem dX7_spellCube_1 : decode cX7_spellCube 1 = .ok (.getfield 193, 3) := by decide +kernel
theorem dX7_spellCube_4 : decode cX7_spellCube 4 = .ok (.istore_n 2, 1) := by decide +kernel
theorem dX7_spellCube_5 : decode cX7_spellCube 5 = .ok (.iconst 0, 1) := by decide +kernel
theorem dX7_spellCube_6 : decode cX7_spellCube 6 = .ok (.istore_n 3, 1) := by decide +kernel
theorem dX7_spellCube_7 : decode cX7_spellCube 7 = .ok (.iload_n 3, 1) := by decide +kernel
theorem dX7_spellCube_8 : decode cX7_spellCube 8 = .ok (.bipush 6, 2) := by decide +kernel
theorem dX7_spellCube_10 : decode cX7_spellCube 10 = .ok (.if_icmp .ge 53, 3) := by decide +kernel
theorem dX7_spellCube_13 : decode cX7_spellCube 13 = .ok (.iload_n 1, 1) := by decide +kernel
theorem dX7_spellCube_14 : decode cX7_spellCube 14 = .ok (.iload_n 3, 1) := by decide +kernel
theorem dX7_spellCube_15 : decode cX7_spellCube 15 = .ok (.invokestatic 207, 3) := by decide +kernel
theorem dX7_spellCube_18 : decode cX7_spellCube 18 = .ok (.istore 4, 2) := by decide +kernel
theorem dX7_spellCube_20 : decode cX7_spellCube 20 = .ok (.iload 4, 2) := by decide +kernel
theorem dX7_spellCube_22 : decode cX7_spellCube 22 = .ok (.iconst 2, 1) := by decide +kernel
theorem dX7_spellCube_23 : decode cX7_spellCube 23 = .ok (.if_icmp .eq 23, 3) := by decide +kernel
theorem dX7_spellCube_26 : decode cX7_spellCube 26 = .ok (.aload_n 0, 1) := by decide +kernel
theorem dX7_spellCube_27 : decode cX7_spellCube 27 = .ok (.dup, 1) := by decide +kernel
theorem dX7_spellCube_28 : decode cX7_spellCube 28 = .ok (.getfield 193, 3) := by decide +kernel
theorem dX7_spellCube_31 : decode cX7_spellCube 31 = .ok (.iconst 1, 1) := by decide +kernel
theorem dX7_spellCube_32 : decode cX7_spellCube 32 = .ok (.iadd, 1) := by decide +kernel
theorem dX7_spellCube_33 : decode cX7_spellCube 33 = .ok (.putfield 193, 3) := by decide +kernel
theorem dX7_spellCube_36 : decode cX7_spellCube 36 = .ok (.aload_n 0, 1) := by decide +kernel
theorem dX7_spellCube_37 : decode cX7_spellCube 37 = .ok (.ldc 210, 2) := by decide +kernel
theorem dX7_spellCube_39 : decode cX7_spellCube 39 = .ok (.iload_n 3, 1) := by decide +kernel
theorem dX7_spellCube_40 : decode cX7_spellCube 40 = .ok (.invokevirtual 212, 3) := by decide +kernel
theorem dX7_spellCube_43 : decode cX7_spellCube 43 = .ok (.invokevirtual 200, 3) := by decide +kernel
theorem dX7_spellCube_46 : decode cX7_spellCube 46 = .ok (.iload 4, 2) := by decide +kernel
theorem dX7_spellCube_48 : decode cX7_spellCube 48 = .ok (.ifCond .ne 9, 3) := by decide +kernel
theorem dX7_spellCube_51 : decode cX7_spellCube 51 = .ok (.aload_n 0, 1) := by decide +kernel
theorem dX7_spellCube_52 : decode cX7_spellCube 52 = .ok (.bipush 39, 2) := by decide +kernel
theorem dX7_spellCube_54 : decode cX7_spellCube 54 = .ok (.invokevirtual 200, 3) := by decide +kernel
theorem dX7_spellCube_57 : decode cX7_spellCube 57 = .ok (.iinc 3 1, 3) := by decide +kernel
theorem dX7_spellCube_60 : decode cX7_spellCube 60 = .ok (.goto (-53), 3) := by decide +kernel
theorem dX7_spellCube_63 : decode cX7_spellCube 63 = .ok (.aload_n 0, 1) := by decide +kernel
theorem dX7_spellCube_64 : decode cX7_spellCube 64 = .ok (.getfield 193, 3) := by decide +kernel
theorem dX7_spellCube_67 : decode cX7_spellCube 67 = .ok (.iload_n 2, 1) := by decide +kernel
theorem dX7_spellCube_68 : decode cX7_spellCube 68 = .ok (.if_icmp .ne 9, 3) := by decide +kernel
theorem dX7_spellCube_71 : decode cX7_spellCube 71 = .ok (.aload_n 0, 1) := by decide +kernel
theorem dX7_spellCube_72 : decode cX7_spellCube 72 = .ok (.bipush 49, 2) := by decide +kernel
theorem dX7_spellCube_74 : decode cX7_spellCube 74 = .ok (.invokevirtual 200, 3) := by decide +kernel
theorem dX7_spellCube_77 : decode cX7_spellCube 77 = .ok (.return_, 1) := by decide +kernel
theorem dX7_write_0 : decode cX7_write 0 = .ok (.aload_n 0, 1) := by decide +kernel
theorem dX7_write_1 : decode cX7_write 1 = .ok (.getfield 30, 3) := by decide +kernel
theorem dX7_write_4 : decode cX7_write 4 = .ok (.aload_n 0, 1) := by decide +kernel
theorem dX7_write_5 : decode cX7_write 5 = .ok (.getfield 190, 3) := by decide +kernel
theorem dX7_write_8 : decode cX7_write 8 = .ok (.iload_n 1, 1) := by decide +kernel
theorem dX7_write_9 : decode cX7_write 9 = .ok (.invokestatic 155, 3) := by decide +kernel
theorem dX7_write_12 : decode cX7_write 12 = .ok (.aload_n 0, 1) := by decide +kernel
theorem dX7_write_13 : decode cX7_write 13 = .ok (.dup, 1) := by decide +kernel
theorem dX7_write_14 : decode cX7_write 14 = .ok (.getfield 190, 3) := by decide +kernel
theorem dX7_write_17 : decode cX7_write 17 = .ok (.iconst 1, 1) := by decide +kernel
theorem dX7_write_18 : decode cX7_write 18 = .ok (.iadd, 1) := by decide +kernel
theorem dX7_write_19 : decode cX7_write 19 = .ok (.putfield 190, 3) := by decide +kernel
theorem dX7_write_22 : decode cX7_write 22 = .ok (.return_, 1) := by decide +kernel
theorem dX8_init_0 : decode cX8_init 0 = .ok (.aload_n 0, 1) := by decide +kernel
theorem dX8_init_1 : decode cX8_init 1 = .ok (.invokespecial 3, 3) := by decide +kernel
theorem dX8_init_4 : decode cX8_init 4 = .ok (.aload_n 0, 1) := by decide +kernel
theorem dX8_init_5 : decode cX8_init 5 = .ok (.bipush 6, 2) := by decide +kernel
theorem dX8_init_7 : decode cX8_init 7 = .ok (.newarray .int, 2) := by decide +kernel
theorem dX8_init_9 : decode cX8_init 9 = .ok (.putfield 9, 3) := by decide +kernel
theorem dX8_init_12 : decode cX8_init 12 = .ok (.aload_n 0, 1) := by decide +kernel
theorem dX8_init_13 : decode cX8_init 13 = .ok (.bipush 6, 2) := by decide +kernel
theorem dX8_init_15 : decode cX8_init 15 = .ok (.newarray .int, 2) := by decide +kernel
theorem dX8_init_17 : decode cX8_init 17 = .ok (.putfield 15, 3) := by decide +kernel
theorem dX8_init_20 : decode cX8_init 20 = .ok (.aload_n 0, 1) := by decide +kernel
theorem dX8_init_21 : decode cX8_init 21 = .ok (.bipush 6, 2) := by decide +kernel
theorem dX8_init_23 : decode cX8_init 23 = .ok (.newarray .boolean, 2) := by decide +kernel
theorem dX8_init_25 : decode cX8_init 25 = .ok (.putfield 18, 3) := by decide +kernel
theorem dX8_init_28 : decode cX8_init 28 = .ok (.aload_n 0, 1) := by decide +kernel
theorem dX8_init_29 : decode cX8_init 29 = .ok (.bipush 8, 2) := by decide +kernel
theorem dX8_init_31 : decode cX8_init 31 = .ok (.newarray .boolean, 2) := by decide +kernel
theorem dX8_init_33 : decode cX8_init 33 = .ok (.putfield 22, 3) := by decide +kernel
theorem dX8_init_36 : decode cX8_init 36 = .ok (.aload_n 0, 1) := by decide +kernel
theorem dX8_init_37 : decode cX8_init 37 = .ok (.new 25, 3) := by decide +kernel
theorem dX8_init_40 : decode cX8_init 40 = .ok (.dup, 1) := by decide +kernel
theorem dX8_init_41 : decode cX8_init 41 = .ok (.invokespecial 27, 3) := by decide +kernel
theorem dX8_init_44 : decode cX8_init 44 = .ok (.putfield 28, 3) := by decide +kernel
theorem dX8_init_47 : decode cX8_init 47 = .ok (.aload_n 0, 1) := by decide +kernel
theorem dX8_init_48 : decode cX8_init 48 = .ok (.bipush (-2), 2) := by decide +kernel
theorem dX8_init_50 : decode cX8_init 50 = .ok (.putfield 32, 3) := by decide +kernel
theorem dX8_init_53 : decode cX8_init 53 = .ok (.aload_n 0, 1) := by decide +kernel
theorem dX8_init_54 : decode cX8_init 54 = .ok (.bipush 8, 2) := by decide +kernel
theorem dX8_init_56 : decode cX8_init 56 = .ok (.newarray .int, 2) := by decide +kernel
theorem dX8_init_58 : decode cX8_init 58 = .ok (.putfield 36, 3) := by decide +kernel
theorem dX8_init_61 : decode cX8_init 61 = .ok (.aload_n 0, 1) := by decide +kernel
theorem dX8_init_62 : decode cX8_init 62 = .ok (.bipush 8, 2) := by decide +kernel
theorem dX8_init_64 : decode cX8_init 64 = .ok (.newarray .int, 2) := by decide +kernel
theorem dX8_init_66 : decode cX8_init 66 = .ok (.putfield 39, 3) := by decide +kernel
theorem dX8_init_69 : decode cX8_init 69 = .ok (.aload_n 0, 1) := by decide +kernel
theorem dX8_init_70 : decode cX8_init 70 = .ok (.bipush 8, 2) := by decide +kernel
theorem dX8_init_72 : decode cX8_init 72 = .ok (.newarray .int, 2) := by decide +kernel
theorem dX8_init_74 : decode cX8_init 74 = .ok (.putfield 42, 3) := by decide +kernel
theorem dX8_init_77 : decode cX8_init 77 = .ok (.aload_n 0, 1) := by decide +kernel
theorem dX8_init_78 : decode cX8_init 78 = .ok (.bipush 8, 2) := by decide +kernel
theorem dX8_init_80 : decode cX8_init 80 = .ok (.newarray .int, 2) := by decide +kernel
theorem dX8_init_82 : decode cX8_init 82 = .ok (.putfield 45, 3) := by decide +kernel
theorem dX8_init_85 : decode cX8_init 85 = .ok (.aload_n 0, 1) := by decide +kernel
theorem dX8_init_86 : decode cX8_init 86 = .ok (.bipush 8, 2) := by decide +kernel
theorem dX8_init_88 : decode cX8_init 88 = .ok (.newarray .int, 2) := by decide +kernel
theorem dX8_init_90 : decode cX8_init 90 = .ok (.putfield 48, 3) := by decide +kernel
theorem dX8_init_93 : decode cX8_init 93 = .ok (.aload_n 0, 1) := by decide +kernel
theorem dX8_init_94 : decode cX8_init 94 = .ok (.iconst 4, 1) := by decide +kernel
theorem dX8_init_95 : decode cX8_init 95 = .ok (.newarray .int, 2) := by decide +kernel
theorem dX8_init_97 : decode cX8_init 97 = .ok (.putfield 51, 3) := by decide +kernel
theorem dX8_init_100 : decode cX8_init 100 = .ok (.aload_n 0, 1) := by decide +kernel
theorem dX8_init_101 : decode cX8_init 101 = .ok (.aload_n 1, 1) := by decide +kernel
theorem dX8_init_102 : decode cX8_init 102 = .ok (.putfield 54, 3) := by decide +kernel
theorem dX8_init_105 : decode cX8_init 105 = .ok (.return_, 1) := by decide +kernel
theorem dX8_hasValues_0 : decode cX8_hasValues 0 = .ok (.iload_n 1, 1) := by decide +kernel
theorem dX8_hasValues_1 : decode cX8_hasValues 1 = .ok (.ifCond .lt 22, 3) := by decide +kernel
theorem dX8_hasValues_4 : decode cX8_hasValues 4 = .ok (.iload_n 1, 1) := by decide +kernel
theorem dX8_hasValues_5 : decode cX8_hasValues 5 = .ok (.bipush 6, 2) := by decide +kernel
theorem dX8_hasValues_7 : decode cX8_hasValues 7 = .ok (.if_icmp .ge 16, 3) := by decide +kernel
theorem dX8_hasValues_10 : decode cX8_hasValues 10 = .ok (.aload_n 0, 1) := by decide +kernel
theorem dX8_hasValues_11 : decode cX8_hasValues 11 = .ok (.getfield 18, 3) := by decide +kernel
theorem dX8_hasValues_14 : decode cX8_hasValues 14 = .ok (.iload_n 1, 1) := by decide +kernel
theorem dX8_hasValues_15 : decode cX8_hasValues 15 = .ok (.baload, 1) := by decide +kernel
theorem dX8_hasValues_16 : decode cX8_hasValues 16 = .ok (.ifCond .eq 7, 3) := by decide +kernel
theorem dX8_hasValues_19 : decode cX8_hasValues 19 = .ok (.iconst 1, 1) := by decide +kernel
theorem dX8_hasValues_20 : decode cX8_hasValues 20 = .ok (.goto 4, 3) := by decide +kernel
theorem dX8_hasValues_23 : decode cX8_hasValues 23 = .ok (.iconst 0, 1) := by decide +kernel
theorem dX8_hasValues_24 : decode cX8_hasValues 24 = .ok (.ireturn, 1) := by decide +kernel
theorem dX8_wasGoneAlong_0 : decode cX8_wasGoneAlong 0 = .ok (.iload_n 1, 1) := by decide +kernel
theorem dX8_wasGoneAlong_1 : decode cX8_wasGoneAlong 1 = .ok (.ifCond .lt 22, 3) := by decide +kernel
theorem dX8_wasGoneAlong_4 : decode cX8_wasGoneAlong 4 = .ok (.iload_n 1, 1) := by decide +kernel
theorem dX8_wasGoneAlong_5 : decode cX8_wasGoneAlong 5 = .ok (.bipush 8, 2) := by decide +kernel
theorem dX8_wasGoneAlong_7 : decode cX8_wasGoneAlong 7 = .ok (.if_icmp .ge 16, 3) := by decide +kernel
theorem dX8_wasGoneAlong_10 : decode cX8_wasGoneAlong 10 = .ok (.aload_n 0, 1) := by decide +kernel
theorem dX8_wasGoneAlong_11 : decode cX8_wasGoneAlong 11 = .ok (.getfield 22, 3) := by decide +kernel
theorem dX8_wasGoneAlong_14 : decode cX8_wasGoneAlong 14 = .ok (.iload_n 1, 1) := by decide +kernel
theorem dX8_wasGoneAlong_15 : decode cX8_wasGoneAlong 15 = .ok (.baload, 1) := by decide +kernel
theorem dX8_wasGoneAlong_16 : decode cX8_wasGoneAlong 16 = .ok (.ifCond .eq 7, 3) := by decide +kernel
theorem dX8_wasGoneAlong_19 : decode cX8_wasGoneAlong 19 = .ok (.iconst 1, 1) := by decide +kernel
theorem dX8_wasGoneAlong_20 : decode cX8_wasGoneAlong 20 = .ok (.goto 4, 3) := by decide +kernel
theorem dX8_wasGoneAlong_23 : decode cX8_wasGoneAlong 23 = .ok (.iconst 0, 1) := by decide +kernel
theorem dX8_wasGoneAlong_24 : decode cX8_wasGoneAlong 24 = .ok (.ireturn, 1) := by decide +kernel
theorem dX8_look_0 : decode cX8_look 0 = .ok (.aload_n 0, 1) := by decide +kernel
theorem dX8_look_1 : decode cX8_look 1 = .ok (.iconst 0, 1) := by decide +kernel
theorem dX8_look_2 : decode cX8_look 2 = .ok (.putfield 58, 3) := by decide +kernel
theorem dX8_look_5 : decode cX8_look 5 = .ok (.aload_n 0, 1) := by decide +kernel
theorem dX8_look_6 : decode cX8_look 6 = .ok (.bipush (-2), 2) := by decide +kernel
theorem dX8_look_8 : decode cX8_look 8 = .ok (.putfield 32, 3) := by decide +kernel
theorem dX8_look_11 : decode cX8_look 11 = .ok (.aload_n 0, 1) := by decide +kernel
theorem dX8_look_12 : decode cX8_look 12 = .ok (.invokevirtual 61, 3) := by decide +kernel
theorem dX8_look_15 : decode cX8_look 15 = .ok (.aload_n 0, 1) := by decide +kernel
theorem dX8_look_16 : decode cX8_look 16 = .ok (.getfield 58, 3) := by decide +kernel
theorem dX8_look_19 : decode cX8_look 19 = .ok (.ifCond .ne 7, 3) := by decide +kernel
theorem dX8_look_22 : decode cX8_look 22 = .ok (.aload_n 0, 1) := by decide +kernel
theorem dX8_look_23 : decode cX8_look 23 = .ok (.invokevirtual 64, 3) := by decide +kernel
theorem dX8_look_26 : decode cX8_look 26 = .ok (.aload_n 0, 1) := by decide +kernel
theorem dX8_look_27 : decode cX8_look 27 = .ok (.getfield 58, 3) := by decide +kernel
theorem dX8_look_30 : decode cX8_look 30 = .ok (.ifCond .ne 7, 3) := by decide +kernel
theorem dX8_look_33 : decode cX8_look 33 = .ok (.aload_n 0, 1) := by decide +kernel
theorem dX8_look_34 : decode cX8_look 34 = .ok (.invokevirtual 67, 3) := by decide +kernel
theorem dX8_look_37 : decode cX8_look 37 = .ok (.aload_n 0, 1) := by decide +kernel
theorem dX8_look_38 : decode cX8_look 38 = .ok (.getfield 58, 3) := by decide +kernel
theorem dX8_look_41 : decode cX8_look 41 = .ok (.ifCond .ne 7, 3) := by decide +kernel
theorem dX8_look_44 : decode cX8_look 44 = .ok (.aload_n 0, 1) := by decide +kernel
theorem dX8_look_45 : decode cX8_look 45 = .ok (.invokevirtual 70, 3) := by decide +kernel
theorem dX8_look_48 : decode cX8_look 48 = .ok (.aload_n 0, 1) := by decide +kernel
theorem dX8_look_49 : decode cX8_look 49 = .ok (.getfield 58, 3) := by decide +kernel
theorem dX8_look_52 : decode cX8_look 52 = .ok (.ifCond .ne 7, 3) := by decide +kernel
theorem dX8_look_55 : decode cX8_look 55 = .ok (.aload_n 0, 1) := by decide +kernel
theorem dX8_look_56 : decode cX8_look 56 = .ok (.invokevirtual 73, 3) := by decide +kernel
theorem dX8_look_59 : decode cX8_look 59 = .ok (.aload_n 0, 1) := by decide +kernel
theorem dX8_look_60 : decode cX8_look 60 = .ok (.getfield 58, 3) := by decide +kernel
theorem dX8_look_63 : decode cX8_look 63 = .ok (.ifCond .ne 7, 3) := by decide +kernel
theorem dX8_look_66 : decode cX8_look 66 = .ok (.aload_n 0, 1) := by decide +kernel
theorem dX8_look_67 : decode cX8_look 67 = .ok (.invokevirtual 76, 3) := by decide +kernel
theorem dX8_look_70 : decode cX8_look 70 = .ok (.return_, 1) := by decide +kernel
theorem dX8_spoil_0 : decode cX8_spoil 0 = .ok (.aload_n 0, 1) := by decide +kernel
theorem dX8_spoil_1 : decode cX8_spoil 1 = .ok (.getfield 58, 3) := by decide +kernel
theorem dX8_spoil_4 : decode cX8_spoil 4 = .ok (.ifCond .ne 13, 3) := by decide +kernel
theorem dX8_spoil_7 : decode cX8_spoil 7 = .ok (.aload_n 0, 1) := by decide +kernel
theorem dX8_spoil_8 : decode cX8_spoil 8 = .ok (.iload_n 1, 1) := by decide +kernel
theorem dX8_spoil_9 : decode cX8_spoil 9 = .ok (.putfield 58, 3) := by decide +kernel
theorem dX8_spoil_12 : decode cX8_spoil 12 = .ok (.aload_n 0, 1) := by decide +kernel
theorem dX8_spoil_13 : decode cX8_spoil 13 = .ok (.iload_n 2, 1) := by decide +kernel
theorem dX8_spoil_14 : decode cX8_spoil 14 = .ok (.putfield 32, 3) := by decide +kernel
theorem dX8_spoil_17 : decode cX8_spoil 17 = .ok (.return_, 1) := by decide +kernel
theorem dX8_goAlong_0 : decode cX8_goAlong 0 = .ok (.iconst 0, 1) := by decide +kernel
theorem dX8_goAlong_1 : decode cX8_goAlong 1 = .ok (.istore_n 1, 1) := by decide +kernel
theorem dX8_goAlong_2 : decode cX8_goAlong 2 = .ok (.iload_n 1, 1) := by decide +kernel
theorem dX8_goAlong_3 : decode cX8_goAlong 3 = .ok (.bipush 6, 2) := by decide +kernel
theorem dX8_goAlong_5 : decode cX8_goAlong 5 = .ok (.if_icmp .ge 16, 3) := by decide +kernel
theorem dX8_goAlong_8 : decode cX8_goAlong 8 = .ok (.aload_n 0, 1) := by decide +kernel
theorem dX8_goAlong_9 : decode cX8_goAlong 9 = .ok (.getfield 18, 3) := by decide +kernel
theorem dX8_goAlong_12 : decode cX8_goAlong 12 = .ok (.iload_n 1, 1) := by decide +kernel
theorem dX8_goAlong_13 : decode cX8_goAlong 13 = .ok (.iconst 0, 1) := by decide +kernel
theorem dX8_goAlong_14 : decode cX8_goAlong 14 = .ok (.bastore, 1) := by decide +kernel
theorem dX8_goAlong_15 : decode cX8_goAlong 15 = .ok (.iinc 1 1, 3) := by decide +kernel
theorem dX8_goAlong_18 : decode cX8_goAlong 18 = .ok (.goto (-16), 3) := by decide +kernel
theorem dX8_goAlong_21 : decode cX8_goAlong 21 = .ok (.iconst 0, 1) := by decide +kernel
theorem dX8_goAlong_22 : decode cX8_goAlong 22 = .ok (.istore_n 1, 1) := by decide +kernel
theorem dX8_goAlong_23 : decode cX8_goAlong 23 = .ok (.iload_n 1, 1) := by decide +kernel
theorem dX8_goAlong_24 : decode cX8_goAlong 24 = .ok (.bipush 8, 2) := by decide +kernel
theorem dX8_goAlong_26 : decode cX8_goAlong 26 = .ok (.if_icmp .ge 16, 3) := by decide +kernel
theorem dX8_goAlong_29 : decode cX8_goAlong 29 = .ok (.aload_n 0, 1) := by decide +kernel
theorem dX8_goAlong_30 : decode cX8_goAlong 30 = .ok (.getfield 22, 3) := by decide +kernel
theorem dX8_goAlong_33 : decode cX8_goAlong 33 = .ok (.iload_n 1, 1) := by decide +kernel
theorem dX8_goAlong_34 : decode cX8_goAlong 34 = .ok (.iconst 0, 1) := by decide +kernel
theorem dX8_goAlong_35 : decode cX8_goAlong 35 = .ok (.bastore, 1) := by decide +kernel
theorem dX8_goAlong_36 : decode cX8_goAlong 36 = .ok (.iinc 1 1, 3) := by decide +kernel
theorem dX8_goAlong_39 : decode cX8_goAlong 39 = .ok (.goto (-16), 3) := by decide +kernel
theorem dX8_goAlong_42 : decode cX8_goAlong 42 = .ok (.aload_n 0, 1) := by decide +kernel
theorem dX8_goAlong_43 : decode cX8_goAlong 43 = .ok (.aload_n 0, 1) := by decide +kernel
theorem dX8_goAlong_44 : decode cX8_goAlong 44 = .ok (.getfield 54, 3) := by decide +kernel
theorem dX8_goAlong_47 : decode cX8_goAlong 47 = .ok (.getfield 79, 3) := by decide +kernel
theorem dX8_goAlong_50 : decode cX8_goAlong 50 = .ok (.aload_n 0, 1) := by decide +kernel
theorem dX8_goAlong_51 : decode cX8_goAlong 51 = .ok (.getfield 54, 3) := by decide +kernel
theorem dX8_goAlong_54 : decode cX8_goAlong 54 = .ok (.getfield 84, 3) := by decide +kernel
theorem dX8_goAlong_57 : decode cX8_goAlong 57 = .ok (.aload_n 0, 1) := by decide +kernel
theorem dX8_goAlong_58 : decode cX8_goAlong 58 = .ok (.getfield 54, 3) := by decide +kernel
theorem dX8_goAlong_61 : decode cX8_goAlong 61 = .ok (.getfield 87, 3) := by decide +kernel
theorem dX8_goAlong_64 : decode cX8_goAlong 64 = .ok (.invokevirtual 90, 3) := by decide +kernel
theorem dX8_goAlong_67 : decode cX8_goAlong 67 = .ok (.iconst 0, 1) := by decide +kernel
theorem dX8_goAlong_68 : decode cX8_goAlong 68 = .ok (.istore_n 1, 1) := by decide +kernel
theorem dX8_goAlong_69 : decode cX8_goAlong 69 = .ok (.iload_n 1, 1) := by decide +kernel
theorem dX8_goAlong_70 : decode cX8_goAlong 70 = .ok (.aload_n 0, 1) := by decide +kernel
theorem dX8_goAlong_71 : decode cX8_goAlong 71 = .ok (.getfield 54, 3) := by decide +kernel
theorem dX8_goAlong_74 : decode cX8_goAlong 74 = .ok (.getfield 94, 3) := by decide +kernel
theorem dX8_goAlong_77 : decode cX8_goAlong 77 = .ok (.if_icmp .ge 31, 3) := by decide +kernel
theorem dX8_goAlong_80 : decode cX8_goAlong 80 = .ok (.aload_n 0, 1) := by decide +kernel
theorem dX8_goAlong_81 : decode cX8_goAlong 81 = .ok (.getfield 58, 3) := by decide +kernel
theorem dX8_goAlong_84 : decode cX8_goAlong 84 = .ok (.ifCond .ne 24, 3) := by decide +kernel
theorem dX8_goAlong_87 : decode cX8_goAlong 87 = .ok (.aload_n 0, 1) := by decide +kernel
theorem dX8_goAlong_88 : decode cX8_goAlong 88 = .ok (.invokevirtual 97, 3) := by decide +kernel
theorem dX8_goAlong_91 : decode cX8_goAlong 91 = .ok (.istore_n 2, 1) := by decide +kernel
theorem dX8_goAlong_92 : decode cX8_goAlong 92 = .ok (.iload_n 2, 1) := by decide +kernel
theorem dX8_goAlong_93 : decode cX8_goAlong 93 = .ok (.ifCond .ge 4, 3) := by decide +kernel
theorem dX8_goAlong_96 : decode cX8_goAlong 96 = .ok (.return_, 1) := by decide +kernel
theorem dX8_goAlong_97 : decode cX8_goAlong 97 = .ok (.aload_n 0, 1) := by decide +kernel
theorem dX8_goAlong_98 : decode cX8_goAlong 98 = .ok (.iload_n 2, 1) := by decide +kernel
theorem dX8_goAlong_99 : decode cX8_goAlong 99 = .ok (.invokevirtual 101, 3) := by decide +kernel
theorem dX8_goAlong_102 : decode cX8_goAlong 102 = .ok (.iinc 1 1, 3) := by decide +kernel
theorem dX8_goAlong_105 : decode cX8_goAlong 105 = .ok (.goto (-36), 3) := by decide +kernel
theorem dX8_goAlong_108 : decode cX8_goAlong 108 = .ok (.return_, 1) := by decide +kernel
theorem dX8_setValues_0 : decode cX8_setValues 0 = .ok (.iload_n 1, 1) := by decide +kernel
theorem dX8_setValues_1 : decode cX8_setValues 1 = .ok (.ifCond .lt 30, 3) := by decide +kernel
theorem dX8_setValues_4 : decode cX8_setValues 4 = .ok (.iload_n 1, 1) := by decide +kernel
theorem dX8_setValues_5 : decode cX8_setValues 5 = .ok (.bipush 6, 2) := by decide +kernel
theorem dX8_setValues_7 : decode cX8_setValues 7 = .ok (.if_icmp .ge 24, 3) := by decide +kernel
theorem dX8_setValues_10 : decode cX8_setValues 10 = .ok (.aload_n 0, 1) := by decide +kernel
theorem dX8_setValues_11 : decode cX8_setValues 11 = .ok (.getfield 9, 3) := by decide +kernel
theorem dX8_setValues_14 : decode cX8_setValues 14 = .ok (.iload_n 1, 1) := by decide +kernel
theorem dX8_setValues_15 : decode cX8_setValues 15 = .ok (.iload_n 2, 1) := by decide +kernel
theorem dX8_setValues_16 : decode cX8_setValues 16 = .ok (.iastore, 1) := by decide +kernel
theorem dX8_setValues_17 : decode cX8_setValues 17 = .ok (.aload_n 0, 1) := by decide +kernel
theorem dX8_setValues_18 : decode cX8_setValues 18 = .ok (.getfield 15, 3) := by decide +kernel
theorem dX8_setValues_21 : decode cX8_setValues 21 = .ok (.iload_n 1, 1) := by decide +kernel
theorem dX8_setValues_22 : decode cX8_setValues 22 = .ok (.iload_n 3, 1) := by decide +kernel
theorem dX8_setValues_23 : decode cX8_setValues 23 = .ok (.iastore, 1) := by decide +kernel
theorem dX8_setValues_24 : decode cX8_setValues 24 = .ok (.aload_n 0, 1) := by decide +kernel
theorem dX8_setValues_25 : decode cX8_setValues 25 = .ok (.getfield 18, 3) := by decide +kernel
theorem dX8_setValues_28 : decode cX8_setValues 28 = .ok (.iload_n 1, 1) := by decide +kernel
theorem dX8_setValues_29 : decode cX8_setValues 29 = .ok (.iconst 1, 1) := by decide +kernel
theorem dX8_setValues_30 : decode cX8_setValues 30 = .ok (.bastore, 1) := by decide +kernel
theorem dX8_setValues_31 : decode cX8_setValues 31 = .ok (.return_, 1) := by decide +kernel
theorem dX8_nextArc_0 : decode cX8_nextArc 0 = .ok (.iconst 0, 1) := by decide +kernel
theorem dX8_nextArc_1 : decode cX8_nextArc 1 = .ok (.istore_n 1, 1) := by decide +kernel
theorem dX8_nextArc_2 : decode cX8_nextArc 2 = .ok (.iload_n 1, 1) := by decide +kernel
theorem dX8_nextArc_3 : decode cX8_nextArc 3 = .ok (.aload_n 0, 1) := by decide +kernel
theorem dX8_nextArc_4 : decode cX8_nextArc 4 = .ok (.getfield 54, 3) := by decide +kernel
theorem dX8_nextArc_7 : decode cX8_nextArc 7 = .ok (.getfield 94, 3) := by decide +kernel
theorem dX8_nextArc_10 : decode cX8_nextArc 10 = .ok (.if_icmp .ge 42, 3) := by decide +kernel
theorem dX8_nextArc_13 : decode cX8_nextArc 13 = .ok (.iload_n 1, 1) := by decide +kernel
theorem dX8_nextArc_14 : decode cX8_nextArc 14 = .ok (.bipush 8, 2) := by decide +kernel
theorem dX8_nextArc_16 : decode cX8_nextArc 16 = .ok (.if_icmp .ge 36, 3) := by decide +kernel
theorem dX8_nextArc_19 : decode cX8_nextArc 19 = .ok (.aload_n 0, 1) := by decide +kernel
theorem dX8_nextArc_20 : decode cX8_nextArc 20 = .ok (.getfield 22, 3) := by decide +kernel
theorem dX8_nextArc_23 : decode cX8_nextArc 23 = .ok (.iload_n 1, 1) := by decide +kernel
theorem dX8_nextArc_24 : decode cX8_nextArc 24 = .ok (.baload, 1) := by decide +kernel
theorem dX8_nextArc_25 : decode cX8_nextArc 25 = .ok (.ifCond .ne 21, 3) := by decide +kernel
theorem dX8_nextArc_28 : decode cX8_nextArc 28 = .ok (.aload_n 0, 1) := by decide +kernel
theorem dX8_nextArc_29 : decode cX8_nextArc 29 = .ok (.aload_n 0, 1) := by decide +kernel
theorem dX8_nextArc_30 : decode cX8_nextArc 30 = .ok (.getfield 54, 3) := by decide +kernel
theorem dX8_nextArc_33 : decode cX8_nextArc 33 = .ok (.iload_n 1, 1) := by decide +kernel
theorem dX8_nextArc_34 : decode cX8_nextArc 34 = .ok (.iconst 0, 1) := by decide +kernel
theorem dX8_nextArc_35 : decode cX8_nextArc 35 = .ok (.invokevirtual 105, 3) := by decide +kernel
theorem dX8_nextArc_38 : decode cX8_nextArc 38 = .ok (.invokevirtual 109, 3) := by decide +kernel
theorem dX8_nextArc_41 : decode cX8_nextArc 41 = .ok (.ifCond .eq 5, 3) := by decide +kernel
theorem dX8_nextArc_44 : decode cX8_nextArc 44 = .ok (.iload_n 1, 1) := by decide +kernel
theorem dX8_nextArc_45 : decode cX8_nextArc 45 = .ok (.ireturn, 1) := by decide +kernel
theorem dX8_nextArc_46 : decode cX8_nextArc 46 = .ok (.iinc 1 1, 3) := by decide +kernel
theorem dX8_nextArc_49 : decode cX8_nextArc 49 = .ok (.goto (-47), 3) := by decide +kernel
theorem dX8_nextArc_52 : decode cX8_nextArc 52 = .ok (.iconst (-1), 1) := by decide +kernel
theorem dX8_nextArc_53 : decode cX8_nextArc 53 = .ok (.ireturn, 1) := by decide +kernel
theorem dX8_follow_0 : decode cX8_follow 0 = .ok (.iload_n 1, 1) := by decide +kernel
theorem dX8_follow_1 : decode cX8_follow 1 = .ok (.ifCond .lt 9, 3) := by decide +kernel
theorem dX8_follow_4 : decode cX8_follow 4 = .ok (.iload_n 1, 1) := by decide +kernel
theorem dX8_follow_5 : decode cX8_follow 5 = .ok (.bipush 8, 2) := by decide +kernel
theorem dX8_follow_7 : decode cX8_follow 7 = .ok (.if_icmp .lt 4, 3) := by decide +kernel
theorem dX8_follow_10 : decode cX8_follow 10 = .ok (.return_, 1) := by decide +kernel
theorem dX8_follow_11 : decode cX8_follow 11 = .ok (.aload_n 0, 1) := by decide +kernel
theorem dX8_follow_12 : decode cX8_follow 12 = .ok (.getfield 22, 3) := by decide +kernel
theorem dX8_follow_15 : decode cX8_follow 15 = .ok (.iload_n 1, 1) := by decide +kernel
theorem dX8_follow_16 : decode cX8_follow 16 = .ok (.iconst 1, 1) := by decide +kernel
theorem dX8_follow_17 : decode cX8_follow 17 = .ok (.bastore, 1) := by decide +kernel
theorem dX8_follow_18 : decode cX8_follow 18 = .ok (.aload_n 0, 1) := by decide +kernel
theorem dX8_follow_19 : decode cX8_follow 19 = .ok (.getfield 9, 3) := by decide +kernel
theorem dX8_follow_22 : decode cX8_follow 22 = .ok (.aload_n 0, 1) := by decide +kernel
theorem dX8_follow_23 : decode cX8_follow 23 = .ok (.getfield 54, 3) := by decide +kernel
theorem dX8_follow_26 : decode cX8_follow 26 = .ok (.iload_n 1, 1) := by decide +kernel
theorem dX8_follow_27 : decode cX8_follow 27 = .ok (.iconst 0, 1) := by decide +kernel
theorem dX8_follow_28 : decode cX8_follow 28 = .ok (.invokevirtual 105, 3) := by decide +kernel
theorem dX8_follow_31 : decode cX8_follow 31 = .ok (.invokestatic 113, 3) := by decide +kernel
theorem dX8_follow_34 : decode cX8_follow 34 = .ok (.istore_n 2, 1) := by decide +kernel
theorem dX8_follow_35 : decode cX8_follow 35 = .ok (.aload_n 0, 1) := by decide +kernel
theorem dX8_follow_36 : decode cX8_follow 36 = .ok (.getfield 15, 3) := by decide +kernel
theorem dX8_follow_39 : decode cX8_follow 39 = .ok (.aload_n 0, 1) := by decide +kernel
theorem dX8_follow_40 : decode cX8_follow 40 = .ok (.getfield 54, 3) := by decide +kernel
theorem dX8_follow_43 : decode cX8_follow 43 = .ok (.iload_n 1, 1) := by decide +kernel
theorem dX8_follow_44 : decode cX8_follow 44 = .ok (.iconst 0, 1) := by decide +kernel
theorem dX8_follow_45 : decode cX8_follow 45 = .ok (.invokevirtual 105, 3) := by decide +kernel
theorem dX8_follow_48 : decode cX8_follow 48 = .ok (.invokestatic 113, 3) := by decide +kernel
theorem dX8_follow_51 : decode cX8_follow 51 = .ok (.istore_n 3, 1) := by decide +kernel
theorem dX8_follow_52 : decode cX8_follow 52 = .ok (.aload_n 0, 1) := by decide +kernel
theorem dX8_follow_53 : decode cX8_follow 53 = .ok (.getfield 54, 3) := by decide +kernel
theorem dX8_follow_56 : decode cX8_follow 56 = .ok (.iload_n 1, 1) := by decide +kernel
theorem dX8_follow_57 : decode cX8_follow 57 = .ok (.iconst 2, 1) := by decide +kernel
theorem dX8_follow_58 : decode cX8_follow 58 = .ok (.invokevirtual 105, 3) := by decide +kernel
theorem dX8_follow_61 : decode cX8_follow 61 = .ok (.istore 4, 2) := by decide +kernel
theorem dX8_follow_63 : decode cX8_follow 63 = .ok (.aload_n 0, 1) := by decide +kernel
theorem dX8_follow_64 : decode cX8_follow 64 = .ok (.getfield 54, 3) := by decide +kernel
theorem dX8_follow_67 : decode cX8_follow 67 = .ok (.iload_n 1, 1) := by decide +kernel
theorem dX8_follow_68 : decode cX8_follow 68 = .ok (.iconst 3, 1) := by decide +kernel
theorem dX8_follow_69 : decode cX8_follow 69 = .ok (.invokevirtual 105, 3) := by decide +kernel
theorem dX8_follow_72 : decode cX8_follow 72 = .ok (.istore 5, 2) := by decide +kernel
theorem dX8_follow_74 : decode cX8_follow 74 = .ok (.aload_n 0, 1) := by decide +kernel
theorem dX8_follow_75 : decode cX8_follow 75 = .ok (.getfield 54, 3) := by decide +kernel
theorem dX8_follow_78 : decode cX8_follow 78 = .ok (.iload_n 1, 1) := by decide +kernel
theorem dX8_follow_79 : decode cX8_follow 79 = .ok (.iconst 4, 1) := by decide +kernel
theorem dX8_follow_80 : decode cX8_follow 80 = .ok (.invokevirtual 105, 3) := by decide +kernel
theorem dX8_follow_83 : decode cX8_follow 83 = .ok (.istore 6, 2) := by decide +kernel
theorem dX8_follow_85 : decode cX8_follow 85 = .ok (.aload_n 0, 1) := by decide +kernel
theorem dX8_follow_86 : decode cX8_follow 86 = .ok (.getfield 54, 3) := by decide +kernel
theorem dX8_follow_89 : decode cX8_follow 89 = .ok (.iload_n 1, 1) := by decide +kernel
theorem dX8_follow_90 : decode cX8_follow 90 = .ok (.iconst 5, 1) := by decide +kernel
theorem dX8_follow_91 : decode cX8_follow 91 = .ok (.invokevirtual 105, 3) := by decide +kernel
theorem dX8_follow_94 : decode cX8_follow 94 = .ok (.istore 7, 2) := by decide +kernel
theorem dX8_follow_96 : decode cX8_follow 96 = .ok (.iload_n 2, 1) := by decide +kernel
theorem dX8_follow_97 : decode cX8_follow 97 = .ok (.iload 4, 2) := by decide +kernel
theorem dX8_follow_99 : decode cX8_follow 99 = .ok (.iand, 1) := by decide +kernel
theorem dX8_follow_100 : decode cX8_follow 100 = .ok (.iload_n 2, 1) := by decide +kernel
theorem dX8_follow_101 : decode cX8_follow 101 = .ok (.iconst (-1), 1) := by decide +kernel
theorem dX8_follow_102 : decode cX8_follow 102 = .ok (.ixor, 1) := by decide +kernel
theorem dX8_follow_103 : decode cX8_follow 103 = .ok (.iload 5, 2) := by decide +kernel
theorem dX8_follow_105 : decode cX8_follow 105 = .ok (.iand, 1) := by decide +kernel
theorem dX8_follow_106 : decode cX8_follow 106 = .ok (.ior, 1) := by decide +kernel
theorem dX8_follow_107 : decode cX8_follow 107 = .ok (.iload_n 3, 1) := by decide +kernel
theorem dX8_follow_108 : decode cX8_follow 108 = .ok (.iload 6, 2) := by decide +kernel
theorem dX8_follow_110 : decode cX8_follow 110 = .ok (.iand, 1) := by decide +kernel
theorem dX8_follow_111 : decode cX8_follow 111 = .ok (.ior, 1) := by decide +kernel
theorem dX8_follow_112 : decode cX8_follow 112 = .ok (.iload_n 3, 1) := by decide +kernel
theorem dX8_follow_113 : decode cX8_follow 113 = .ok (.iconst (-1), 1) := by decide +kernel
theorem dX8_follow_114 : decode cX8_follow 114 = .ok (.ixor, 1) := by decide +kernel
theorem dX8_follow_115 : decode cX8_follow 115 = .ok (.iload 7, 2) := by decide +kernel
theorem dX8_follow_117 : decode cX8_follow 117 = .ok (.iand, 1) := by decide +kernel
theorem dX8_follow_118 : decode cX8_follow 118 = .ok (.ior, 1) := by decide +kernel
theorem dX8_follow_119 : decode cX8_follow 119 = .ok (.ifCond .eq 10, 3) := by decide +kernel
theorem dX8_follow_122 : decode cX8_follow 122 = .ok (.aload_n 0, 1) := by decide +kernel
theorem dX8_follow_123 : decode cX8_follow 123 = .ok (.iconst 1, 1) := by decide +kernel
theorem dX8_follow_124 : decode cX8_follow 124 = .ok (.iload_n 1, 1) := by decide +kernel
theorem dX8_follow_125 : decode cX8_follow 125 = .ok (.invokevirtual 117, 3) := by decide +kernel
theorem dX8_follow_128 : decode cX8_follow 128 = .ok (.return_, 1) := by decide +kernel
theorem dX8_follow_129 : decode cX8_follow 129 = .ok (.iload_n 2, 1) := by decide +kernel
theorem dX8_follow_130 : decode cX8_follow 130 = .ok (.iload 4, 2) := by decide +kernel
theorem dX8_follow_132 : decode cX8_follow 132 = .ok (.iload 5, 2) := by decide +kernel
theorem dX8_follow_134 : decode cX8_follow 134 = .ok (.ior, 1) := by decide +kernel
theorem dX8_follow_135 : decode cX8_follow 135 = .ok (.ixor, 1) := by decide +kernel
theorem dX8_follow_136 : decode cX8_follow 136 = .ok (.istore 8, 2) := by decide +kernel
theorem dX8_follow_138 : decode cX8_follow 138 = .ok (.iload_n 3, 1) := by decide +kernel
theorem dX8_follow_139 : decode cX8_follow 139 = .ok (.iload 6, 2) := by decide +kernel
theorem dX8_follow_141 : decode cX8_follow 141 = .ok (.iload 7, 2) := by decide +kernel
theorem dX8_follow_143 : decode cX8_follow 143 = .ok (.ior, 1) := by decide +kernel
theorem dX8_follow_144 : decode cX8_follow 144 = .ok (.ixor, 1) := by decide +kernel
theorem dX8_follow_145 : decode cX8_follow 145 = .ok (.istore 9, 2) := by decide +kernel
theorem dX8_follow_147 : decode cX8_follow 147 = .ok (.aload_n 0, 1) := by decide +kernel
theorem dX8_follow_148 : decode cX8_follow 148 = .ok (.getfield 54, 3) := by decide +kernel
theorem dX8_follow_151 : decode cX8_follow 151 = .ok (.iload_n 1, 1) := by decide +kernel
theorem dX8_follow_152 : decode cX8_follow 152 = .ok (.iconst 1, 1) := by decide +kernel
theorem dX8_follow_153 : decode cX8_follow 153 = .ok (.invokevirtual 105, 3) := by decide +kernel
theorem dX8_follow_156 : decode cX8_follow 156 = .ok (.istore 10, 2) := by decide +kernel
theorem dX8_follow_158 : decode cX8_follow 158 = .ok (.aload_n 0, 1) := by decide +kernel
theorem dX8_follow_159 : decode cX8_follow 159 = .ok (.iload 10, 2) := by decide +kernel
theorem dX8_follow_161 : decode cX8_follow 161 = .ok (.invokevirtual 109, 3) := by decide +kernel
theorem dX8_follow_164 : decode cX8_follow 164 = .ok (.ifCond .ne 16, 3) := by decide +kernel
theorem dX8_follow_167 : decode cX8_follow 167 = .ok (.aload_n 0, 1) := by decide +kernel
theorem dX8_follow_168 : decode cX8_follow 168 = .ok (.iload 10, 2) := by decide +kernel
theorem dX8_follow_170 : decode cX8_follow 170 = .ok (.iload 8, 2) := by decide +kernel
theorem dX8_follow_172 : decode cX8_follow 172 = .ok (.iload 9, 2) := by decide +kernel
theorem dX8_follow_174 : decode cX8_follow 174 = .ok (.invokevirtual 90, 3) := by decide +kernel
theorem dX8_follow_177 : decode cX8_follow 177 = .ok (.goto 37, 3) := by decide +kernel
theorem dX8_follow_180 : decode cX8_follow 180 = .ok (.aload_n 0, 1) := by decide +kernel
theorem dX8_follow_181 : decode cX8_follow 181 = .ok (.getfield 9, 3) := by decide +kernel
theorem dX8_follow_184 : decode cX8_follow 184 = .ok (.iload 10, 2) := by decide +kernel
theorem dX8_follow_186 : decode cX8_follow 186 = .ok (.invokestatic 113, 3) := by decide +kernel
theorem dX8_follow_189 : decode cX8_follow 189 = .ok (.iload 8, 2) := by decide +kernel
theorem dX8_follow_191 : decode cX8_follow 191 = .ok (.if_icmp .ne 17, 3) := by decide +kernel
theorem dX8_follow_194 : decode cX8_follow 194 = .ok (.aload_n 0, 1) := by decide +kernel
theorem dX8_follow_195 : decode cX8_follow 195 = .ok (.getfield 15, 3) := by decide +kernel
theorem dX8_follow_198 : decode cX8_follow 198 = .ok (.iload 10, 2) := by decide +kernel
theorem dX8_follow_200 : decode cX8_follow 200 = .ok (.invokestatic 113, 3) := by decide +kernel
theorem dX8_follow_203 : decode cX8_follow 203 = .ok (.iload 9, 2) := by decide +kernel
theorem dX8_follow_205 : decode cX8_follow 205 = .ok (.if_icmp .eq 9, 3) := by decide +kernel
theorem dX8_follow_208 : decode cX8_follow 208 = .ok (.aload_n 0, 1) := by decide +kernel
theorem dX8_follow_209 : decode cX8_follow 209 = .ok (.iconst 2, 1) := by decide +kernel
theorem dX8_follow_210 : decode cX8_follow 210 = .ok (.iload_n 1, 1) := by decide +kernel
theorem dX8_follow_211 : decode cX8_follow 211 = .ok (.invokevirtual 117, 3) := by decide +kernel
theorem dX8_follow_214 : decode cX8_follow 214 = .ok (.return_, 1) := by decide +kernel
theorem dX8_seekValueless_0 : decode cX8_seekValueless 0 = .ok (.iconst 0, 1) := by decide +kernel
theorem dX8_seekValueless_1 : decode cX8_seekValueless 1 = .ok (.istore_n 1, 1) := by decide +kernel
theorem dX8_seekValueless_2 : decode cX8_seekValueless 2 = .ok (.iload_n 1, 1) := by decide +kernel
theorem dX8_seekValueless_3 : decode cX8_seekValueless 3 = .ok (.aload_n 0, 1) := by decide +kernel
theorem dX8_seekValueless_4 : decode cX8_seekValueless 4 = .ok (.getfield 54, 3) := by decide +kernel
theorem dX8_seekValueless_7 : decode cX8_seekValueless 7 = .ok (.getfield 121, 3) := by decide +kernel
theorem dX8_seekValueless_10 : decode cX8_seekValueless 10 = .ok (.if_icmp .ge 23, 3) := by decide +kernel
theorem dX8_seekValueless_13 : decode cX8_seekValueless 13 = .ok (.aload_n 0, 1) := by decide +kernel
theorem dX8_seekValueless_14 : decode cX8_seekValueless 14 = .ok (.iload_n 1, 1) := by decide +kernel
theorem dX8_seekValueless_15 : decode cX8_seekValueless 15 = .ok (.invokevirtual 109, 3) := by decide +kernel
theorem dX8_seekValueless_18 : decode cX8_seekValueless 18 = .ok (.ifCond .ne 9, 3) := by decide +kernel
theorem dX8_seekValueless_21 : decode cX8_seekValueless 21 = .ok (.aload_n 0, 1) := by decide +kernel
theorem dX8_seekValueless_22 : decode cX8_seekValueless 22 = .ok (.iconst 3, 1) := by decide +kernel
theorem dX8_seekValueless_23 : decode cX8_seekValueless 23 = .ok (.iload_n 1, 1) := by decide +kernel
theorem dX8_seekValueless_24 : decode cX8_seekValueless 24 = .ok (.invokevirtual 117, 3) := by decide +kernel
theorem dX8_seekValueless_27 : decode cX8_seekValueless 27 = .ok (.iinc 1 1, 3) := by decide +kernel
theorem dX8_seekValueless_30 : decode cX8_seekValueless 30 = .ok (.goto (-28), 3) := by decide +kernel
theorem dX8_seekValueless_33 : decode cX8_seekValueless 33 = .ok (.return_, 1) := by decide +kernel
theorem dX8_seekInner_0 : decode cX8_seekInner 0 = .ok (.iconst 0, 1) := by decide +kernel
theorem dX8_seekInner_1 : decode cX8_seekInner 1 = .ok (.istore_n 1, 1) := by decide +kernel
theorem dX8_seekInner_2 : decode cX8_seekInner 2 = .ok (.iload_n 1, 1) := by decide +kernel
theorem dX8_seekInner_3 : decode cX8_seekInner 3 = .ok (.aload_n 0, 1) := by decide +kernel
theorem dX8_seekInner_4 : decode cX8_seekInner 4 = .ok (.getfield 54, 3) := by decide +kernel
theorem dX8_seekInner_7 : decode cX8_seekInner 7 = .ok (.getfield 94, 3) := by decide +kernel
theorem dX8_seekInner_10 : decode cX8_seekInner 10 = .ok (.if_icmp .ge 92, 3) := by decide +kernel
theorem dX8_seekInner_13 : decode cX8_seekInner 13 = .ok (.iconst 0, 1) := by decide +kernel
theorem dX8_seekInner_14 : decode cX8_seekInner 14 = .ok (.istore_n 2, 1) := by decide +kernel
theorem dX8_seekInner_15 : decode cX8_seekInner 15 = .ok (.iload_n 2, 1) := by decide +kernel
theorem dX8_seekInner_16 : decode cX8_seekInner 16 = .ok (.aload_n 0, 1) := by decide +kernel
theorem dX8_seekInner_17 : decode cX8_seekInner 17 = .ok (.getfield 54, 3) := by decide +kernel
theorem dX8_seekInner_20 : decode cX8_seekInner 20 = .ok (.getfield 94, 3) := by decide +kernel
theorem dX8_seekInner_23 : decode cX8_seekInner 23 = .ok (.if_icmp .ge 73, 3) := by decide +kernel
theorem dX8_seekInner_26 : decode cX8_seekInner 26 = .ok (.iload_n 2, 1) := by decide +kernel
theorem dX8_seekInner_27 : decode cX8_seekInner 27 = .ok (.iload_n 1, 1) := by decide +kernel
theorem dX8_seekInner_28 : decode cX8_seekInner 28 = .ok (.if_icmp .eq 28, 3) := by decide +kernel
theorem dX8_seekInner_31 : decode cX8_seekInner 31 = .ok (.aload_n 0, 1) := by decide +kernel
theorem dX8_seekInner_32 : decode cX8_seekInner 32 = .ok (.getfield 54, 3) := by decide +kernel
theorem dX8_seekInner_35 : decode cX8_seekInner 35 = .ok (.iload_n 1, 1) := by decide +kernel
theorem dX8_seekInner_36 : decode cX8_seekInner 36 = .ok (.iconst 0, 1) := by decide +kernel
theorem dX8_seekInner_37 : decode cX8_seekInner 37 = .ok (.invokevirtual 105, 3) := by decide +kernel
theorem dX8_seekInner_40 : decode cX8_seekInner 40 = .ok (.aload_n 0, 1) := by decide +kernel
theorem dX8_seekInner_41 : decode cX8_seekInner 41 = .ok (.getfield 54, 3) := by decide +kernel
theorem dX8_seekInner_44 : decode cX8_seekInner 44 = .ok (.iload_n 2, 1) := by decide +kernel
theorem dX8_seekInner_45 : decode cX8_seekInner 45 = .ok (.iconst 0, 1) := by decide +kernel
theorem dX8_seekInner_46 : decode cX8_seekInner 46 = .ok (.invokevirtual 105, 3) := by decide +kernel
theorem dX8_seekInner_49 : decode cX8_seekInner 49 = .ok (.if_icmp .ne 7, 3) := by decide +kernel
theorem dX8_seekInner_52 : decode cX8_seekInner 52 = .ok (.iconst 1, 1) := by decide +kernel
theorem dX8_seekInner_53 : decode cX8_seekInner 53 = .ok (.goto 4, 3) := by decide +kernel
theorem dX8_seekInner_56 : decode cX8_seekInner 56 = .ok (.iconst 0, 1) := by decide +kernel
theorem dX8_seekInner_57 : decode cX8_seekInner 57 = .ok (.istore_n 3, 1) := by decide +kernel
theorem dX8_seekInner_58 : decode cX8_seekInner 58 = .ok (.iload_n 3, 1) := by decide +kernel
theorem dX8_seekInner_59 : decode cX8_seekInner 59 = .ok (.ifCond .eq 31, 3) := by decide +kernel
theorem dX8_seekInner_62 : decode cX8_seekInner 62 = .ok (.aload_n 0, 1) := by decide +kernel
theorem dX8_seekInner_63 : decode cX8_seekInner 63 = .ok (.getfield 54, 3) := by decide +kernel
theorem dX8_seekInner_66 : decode cX8_seekInner 66 = .ok (.iload_n 1, 1) := by decide +kernel
theorem dX8_seekInner_67 : decode cX8_seekInner 67 = .ok (.invokevirtual 124, 3) := by decide +kernel
theorem dX8_seekInner_70 : decode cX8_seekInner 70 = .ok (.aload_n 0, 1) := by decide +kernel
theorem dX8_seekInner_71 : decode cX8_seekInner 71 = .ok (.getfield 54, 3) := by decide +kernel
theorem dX8_seekInner_74 : decode cX8_seekInner 74 = .ok (.iload_n 2, 1) := by decide +kernel
theorem dX8_seekInner_75 : decode cX8_seekInner 75 = .ok (.invokevirtual 124, 3) := by decide +kernel
theorem dX8_seekInner_78 : decode cX8_seekInner 78 = .ok (.iconst (-1), 1) := by decide +kernel
theorem dX8_seekInner_79 : decode cX8_seekInner 79 = .ok (.ixor, 1) := by decide +kernel
theorem dX8_seekInner_80 : decode cX8_seekInner 80 = .ok (.iand, 1) := by decide +kernel
theorem dX8_seekInner_81 : decode cX8_seekInner 81 = .ok (.ifCond .ne 9, 3) := by decide +kernel
theorem dX8_seekInner_84 : decode cX8_seekInner 84 = .ok (.aload_n 0, 1) := by decide +kernel
theorem dX8_seekInner_85 : decode cX8_seekInner 85 = .ok (.iconst 4, 1) := by decide +kernel
theorem dX8_seekInner_86 : decode cX8_seekInner 86 = .ok (.iload_n 1, 1) := by decide +kernel
theorem dX8_seekInner_87 : decode cX8_seekInner 87 = .ok (.invokevirtual 117, 3) := by decide +kernel
theorem dX8_seekInner_90 : decode cX8_seekInner 90 = .ok (.iinc 2 1, 3) := by decide +kernel
theorem dX8_seekInner_93 : decode cX8_seekInner 93 = .ok (.goto (-78), 3) := by decide +kernel
theorem dX8_seekInner_96 : decode cX8_seekInner 96 = .ok (.iinc 1 1, 3) := by decide +kernel
theorem dX8_seekInner_99 : decode cX8_seekInner 99 = .ok (.goto (-97), 3) := by decide +kernel
theorem dX8_seekInner_102 : decode cX8_seekInner 102 = .ok (.return_, 1) := by decide +kernel
theorem dX8_seekTwins_0 : decode cX8_seekTwins 0 = .ok (.iconst 0, 1) := by decide +kernel
theorem dX8_seekTwins_1 : decode cX8_seekTwins 1 = .ok (.istore_n 1, 1) := by decide +kernel
theorem dX8_seekTwins_2 : decode cX8_seekTwins 2 = .ok (.iload_n 1, 1) := by decide +kernel
theorem dX8_seekTwins_3 : decode cX8_seekTwins 3 = .ok (.aload_n 0, 1) := by decide +kernel
theorem dX8_seekTwins_4 : decode cX8_seekTwins 4 = .ok (.getfield 54, 3) := by decide +kernel
theorem dX8_seekTwins_7 : decode cX8_seekTwins 7 = .ok (.getfield 121, 3) := by decide +kernel
theorem dX8_seekTwins_10 : decode cX8_seekTwins 10 = .ok (.if_icmp .ge 84, 3) := by decide +kernel
theorem dX8_seekTwins_13 : decode cX8_seekTwins 13 = .ok (.iconst 0, 1) := by decide +kernel
theorem dX8_seekTwins_14 : decode cX8_seekTwins 14 = .ok (.istore_n 2, 1) := by decide +kernel
theorem dX8_seekTwins_15 : decode cX8_seekTwins 15 = .ok (.iload_n 2, 1) := by decide +kernel
theorem dX8_seekTwins_16 : decode cX8_seekTwins 16 = .ok (.iload_n 1, 1) := by decide +kernel
theorem dX8_seekTwins_17 : decode cX8_seekTwins 17 = .ok (.if_icmp .ge 71, 3) := by decide +kernel
theorem dX8_seekTwins_20 : decode cX8_seekTwins 20 = .ok (.aload_n 0, 1) := by decide +kernel
theorem dX8_seekTwins_21 : decode cX8_seekTwins 21 = .ok (.aload_n 0, 1) := by decide +kernel
theorem dX8_seekTwins_22 : decode cX8_seekTwins 22 = .ok (.getfield 54, 3) := by decide +kernel
theorem dX8_seekTwins_25 : decode cX8_seekTwins 25 = .ok (.getfield 128, 3) := by decide +kernel
theorem dX8_seekTwins_28 : decode cX8_seekTwins 28 = .ok (.iload_n 1, 1) := by decide +kernel
theorem dX8_seekTwins_29 : decode cX8_seekTwins 29 = .ok (.invokevirtual 131, 3) := by decide +kernel
theorem dX8_seekTwins_32 : decode cX8_seekTwins 32 = .ok (.aload_n 0, 1) := by decide +kernel
theorem dX8_seekTwins_33 : decode cX8_seekTwins 33 = .ok (.aload_n 0, 1) := by decide +kernel
theorem dX8_seekTwins_34 : decode cX8_seekTwins 34 = .ok (.getfield 54, 3) := by decide +kernel
theorem dX8_seekTwins_37 : decode cX8_seekTwins 37 = .ok (.getfield 128, 3) := by decide +kernel
theorem dX8_seekTwins_40 : decode cX8_seekTwins 40 = .ok (.iload_n 2, 1) := by decide +kernel
theorem dX8_seekTwins_41 : decode cX8_seekTwins 41 = .ok (.invokevirtual 131, 3) := by decide +kernel
theorem dX8_seekTwins_44 : decode cX8_seekTwins 44 = .ok (.if_icmp .ne 7, 3) := by decide +kernel
theorem dX8_seekTwins_47 : decode cX8_seekTwins 47 = .ok (.iconst 1, 1) := by decide +kernel
theorem dX8_seekTwins_48 : decode cX8_seekTwins 48 = .ok (.goto 4, 3) := by decide +kernel
theorem dX8_seekTwins_51 : decode cX8_seekTwins 51 = .ok (.iconst 0, 1) := by decide +kernel
theorem dX8_seekTwins_52 : decode cX8_seekTwins 52 = .ok (.istore_n 3, 1) := by decide +kernel
theorem dX8_seekTwins_53 : decode cX8_seekTwins 53 = .ok (.iload_n 3, 1) := by decide +kernel
theorem dX8_seekTwins_54 : decode cX8_seekTwins 54 = .ok (.ifCond .eq 28, 3) := by decide +kernel
theorem dX8_seekTwins_57 : decode cX8_seekTwins 57 = .ok (.aload_n 0, 1) := by decide +kernel
theorem dX8_seekTwins_58 : decode cX8_seekTwins 58 = .ok (.getfield 15, 3) := by decide +kernel
theorem dX8_seekTwins_61 : decode cX8_seekTwins 61 = .ok (.iload_n 1, 1) := by decide +kernel
theorem dX8_seekTwins_62 : decode cX8_seekTwins 62 = .ok (.invokestatic 113, 3) := by decide +kernel
theorem dX8_seekTwins_65 : decode cX8_seekTwins 65 = .ok (.aload_n 0, 1) := by decide +kernel
theorem dX8_seekTwins_66 : decode cX8_seekTwins 66 = .ok (.getfield 15, 3) := by decide +kernel
theorem dX8_seekTwins_69 : decode cX8_seekTwins 69 = .ok (.iload_n 2, 1) := by decide +kernel
theorem dX8_seekTwins_70 : decode cX8_seekTwins 70 = .ok (.invokestatic 113, 3) := by decide +kernel
theorem dX8_seekTwins_73 : decode cX8_seekTwins 73 = .ok (.if_icmp .eq 9, 3) := by decide +kernel
theorem dX8_seekTwins_76 : decode cX8_seekTwins 76 = .ok (.aload_n 0, 1) := by decide +kernel
theorem dX8_seekTwins_77 : decode cX8_seekTwins 77 = .ok (.iconst 5, 1) := by decide +kernel
theorem dX8_seekTwins_78 : decode cX8_seekTwins 78 = .ok (.iload_n 1, 1) := by decide +kernel
theorem dX8_seekTwins_79 : decode cX8_seekTwins 79 = .ok (.invokevirtual 117, 3) := by decide +kernel
theorem dX8_seekTwins_82 : decode cX8_seekTwins 82 = .ok (.iinc 2 1, 3) := by decide +kernel
theorem dX8_seekTwins_85 : decode cX8_seekTwins 85 = .ok (.goto (-70), 3) := by decide +kernel
theorem dX8_seekTwins_88 : decode cX8_seekTwins 88 = .ok (.iinc 1 1, 3) := by decide +kernel
theorem dX8_seekTwins_91 : decode cX8_seekTwins 91 = .ok (.goto (-89), 3) := by decide +kernel
theorem dX8_seekTwins_94 : decode cX8_seekTwins 94 = .ok (.return_, 1) := by decide +kernel
theorem dX8_seekClash_0 : decode cX8_seekClash 0 = .ok (.aload_n 0, 1) := by decide +kernel
theorem dX8_seekClash_1 : decode cX8_seekClash 1 = .ok (.getfield 28, 3) := by decide +kernel
theorem dX8_seekClash_4 : decode cX8_seekClash 4 = .ok (.invokevirtual 134, 3) := by decide +kernel
theorem dX8_seekClash_7 : decode cX8_seekClash 7 = .ok (.iconst 0, 1) := by decide +kernel
theorem dX8_seekClash_8 : decode cX8_seekClash 8 = .ok (.istore_n 1, 1) := by decide +kernel
theorem dX8_seekClash_9 : decode cX8_seekClash 9 = .ok (.iload_n 1, 1) := by decide +kernel
theorem dX8_seekClash_10 : decode cX8_seekClash 10 = .ok (.aload_n 0, 1) := by decide +kernel
theorem dX8_seekClash_11 : decode cX8_seekClash 11 = .ok (.getfield 54, 3) := by decide +kernel
theorem dX8_seekClash_14 : decode cX8_seekClash 14 = .ok (.getfield 121, 3) := by decide +kernel
theorem dX8_seekClash_17 : decode cX8_seekClash 17 = .ok (.if_icmp .ge 25, 3) := by decide +kernel
theorem dX8_seekClash_20 : decode cX8_seekClash 20 = .ok (.aload_n 0, 1) := by decide +kernel
theorem dX8_seekClash_21 : decode cX8_seekClash 21 = .ok (.aload_n 0, 1) := by decide +kernel
theorem dX8_seekClash_22 : decode cX8_seekClash 22 = .ok (.getfield 28, 3) := by decide +kernel
theorem dX8_seekClash_25 : decode cX8_seekClash 25 = .ok (.aload_n 0, 1) := by decide +kernel
theorem dX8_seekClash_26 : decode cX8_seekClash 26 = .ok (.getfield 54, 3) := by decide +kernel
theorem dX8_seekClash_29 : decode cX8_seekClash 29 = .ok (.getfield 128, 3) := by decide +kernel
theorem dX8_seekClash_32 : decode cX8_seekClash 32 = .ok (.iload_n 1, 1) := by decide +kernel
theorem dX8_seekClash_33 : decode cX8_seekClash 33 = .ok (.invokevirtual 137, 3) := by decide +kernel
theorem dX8_seekClash_36 : decode cX8_seekClash 36 = .ok (.iinc 1 1, 3) := by decide +kernel
theorem dX8_seekClash_39 : decode cX8_seekClash 39 = .ok (.goto (-30), 3) := by decide +kernel
theorem dX8_seekClash_42 : decode cX8_seekClash 42 = .ok (.iconst 0, 1) := by decide +kernel
theorem dX8_seekClash_43 : decode cX8_seekClash 43 = .ok (.istore_n 1, 1) := by decide +kernel
theorem dX8_seekClash_44 : decode cX8_seekClash 44 = .ok (.iload_n 1, 1) := by decide +kernel
theorem dX8_seekClash_45 : decode cX8_seekClash 45 = .ok (.aload_n 0, 1) := by decide +kernel
theorem dX8_seekClash_46 : decode cX8_seekClash 46 = .ok (.getfield 54, 3) := by decide +kernel
theorem dX8_seekClash_49 : decode cX8_seekClash 49 = .ok (.getfield 94, 3) := by decide +kernel
theorem dX8_seekClash_52 : decode cX8_seekClash 52 = .ok (.if_icmp .ge 49, 3) := by decide +kernel
theorem dX8_seekClash_55 : decode cX8_seekClash 55 = .ok (.aload_n 0, 1) := by decide +kernel
theorem dX8_seekClash_56 : decode cX8_seekClash 56 = .ok (.getfield 58, 3) := by decide +kernel
theorem dX8_seekClash_59 : decode cX8_seekClash 59 = .ok (.ifCond .ne 42, 3) := by decide +kernel
theorem dX8_seekClash_62 : decode cX8_seekClash 62 = .ok (.aload_n 0, 1) := by decide +kernel
theorem dX8_seekClash_63 : decode cX8_seekClash 63 = .ok (.aload_n 0, 1) := by decide +kernel
theorem dX8_seekClash_64 : decode cX8_seekClash 64 = .ok (.getfield 28, 3) := by decide +kernel
theorem dX8_seekClash_67 : decode cX8_seekClash 67 = .ok (.aload_n 0, 1) := by decide +kernel
theorem dX8_seekClash_68 : decode cX8_seekClash 68 = .ok (.getfield 54, 3) := by decide +kernel
theorem dX8_seekClash_71 : decode cX8_seekClash 71 = .ok (.getfield 128, 3) := by decide +kernel
theorem dX8_seekClash_74 : decode cX8_seekClash 74 = .ok (.iload_n 1, 1) := by decide +kernel
theorem dX8_seekClash_75 : decode cX8_seekClash 75 = .ok (.invokevirtual 141, 3) := by decide +kernel
theorem dX8_seekClash_78 : decode cX8_seekClash 78 = .ok (.aload_n 0, 1) := by decide +kernel
theorem dX8_seekClash_79 : decode cX8_seekClash 79 = .ok (.getfield 28, 3) := by decide +kernel
theorem dX8_seekClash_82 : decode cX8_seekClash 82 = .ok (.invokevirtual 144, 3) := by decide +kernel
theorem dX8_seekClash_85 : decode cX8_seekClash 85 = .ok (.ifCond .eq 10, 3) := by decide +kernel
theorem dX8_seekClash_88 : decode cX8_seekClash 88 = .ok (.aload_n 0, 1) := by decide +kernel
theorem dX8_seekClash_89 : decode cX8_seekClash 89 = .ok (.bipush 6, 2) := by decide +kernel
theorem dX8_seekClash_91 : decode cX8_seekClash 91 = .ok (.iload_n 1, 1) := by decide +kernel
theorem dX8_seekClash_92 : decode cX8_seekClash 92 = .ok (.invokevirtual 117, 3) := by decide +kernel
theorem dX8_seekClash_95 : decode cX8_seekClash 95 = .ok (.iinc 1 1, 3) := by decide +kernel
theorem dX8_seekClash_98 : decode cX8_seekClash 98 = .ok (.goto (-54), 3) := by decide +kernel
theorem dX8_seekClash_101 : decode cX8_seekClash 101 = .ok (.return_, 1) := by decide +kernel
theorem dX8_describeArcs_0 : decode cX8_describeArcs 0 = .ok (.iconst 0, 1) := by decide +kernel
theorem dX8_describeArcs_1 : decode cX8_describeArcs 1 = .ok (.istore_n 1, 1) := by decide +kernel
theorem dX8_describeArcs_2 : decode cX8_describeArcs 2 = .ok (.iload_n 1, 1) := by decide +kernel
theorem dX8_describeArcs_3 : decode cX8_describeArcs 3 = .ok (.aload_n 0, 1) := by decide +kernel
theorem dX8_describeArcs_4 : decode cX8_describeArcs 4 = .ok (.getfield 54, 3) := by decide +kernel
theorem dX8_describeArcs_7 : decode cX8_describeArcs 7 = .ok (.getfield 94, 3) := by decide +kernel
theorem dX8_describeArcs_10 : decode cX8_describeArcs 10 = .ok (.if_icmp .ge 151, 3) := by decide +kernel
theorem dX8_describeArcs_13 : decode cX8_describeArcs 13 = .ok (.iload_n 1, 1) := by decide +kernel
theorem dX8_describeArcs_14 : decode cX8_describeArcs 14 = .ok (.bipush 8, 2) := by decide +kernel
theorem dX8_describeArcs_16 : decode cX8_describeArcs 16 = .ok (.if_icmp .ge 145, 3) := by decide +kernel
theorem dX8_describeArcs_19 : decode cX8_describeArcs 19 = .ok (.aload_n 0, 1) := by decide +kernel
theorem dX8_describeArcs_20 : decode cX8_describeArcs 20 = .ok (.getfield 54, 3) := by decide +kernel
theorem dX8_describeArcs_23 : decode cX8_describeArcs 23 = .ok (.iload_n 1, 1) := by decide +kernel
theorem dX8_describeArcs_24 : decode cX8_describeArcs 24 = .ok (.iconst 0, 1) := by decide +kernel
theorem dX8_describeArcs_25 : decode cX8_describeArcs 25 = .ok (.invokevirtual 105, 3) := by decide +kernel
theorem dX8_describeArcs_28 : decode cX8_describeArcs 28 = .ok (.istore_n 2, 1) := by decide +kernel
theorem dX8_describeArcs_29 : decode cX8_describeArcs 29 = .ok (.aload_n 0, 1) := by decide +kernel
theorem dX8_describeArcs_30 : decode cX8_describeArcs 30 = .ok (.getfield 54, 3) := by decide +kernel
theorem dX8_describeArcs_33 : decode cX8_describeArcs 33 = .ok (.iload_n 1, 1) := by decide +kernel
theorem dX8_describeArcs_34 : decode cX8_describeArcs 34 = .ok (.iconst 1, 1) := by decide +kernel
theorem dX8_describeArcs_35 : decode cX8_describeArcs 35 = .ok (.invokevirtual 105, 3) := by decide +kernel
theorem dX8_describeArcs_38 : decode cX8_describeArcs 38 = .ok (.istore_n 3, 1) := by decide +kernel
theorem dX8_describeArcs_39 : decode cX8_describeArcs 39 = .ok (.aload_n 0, 1) := by decide +kernel
theorem dX8_describeArcs_40 : decode cX8_describeArcs 40 = .ok (.aload_n 0, 1) := by decide +kernel
theorem dX8_describeArcs_41 : decode cX8_describeArcs 41 = .ok (.getfield 54, 3) := by decide +kernel
theorem dX8_describeArcs_44 : decode cX8_describeArcs 44 = .ok (.getfield 128, 3) := by decide +kernel
theorem dX8_describeArcs_47 : decode cX8_describeArcs 47 = .ok (.iload_n 2, 1) := by decide +kernel
theorem dX8_describeArcs_48 : decode cX8_describeArcs 48 = .ok (.invokevirtual 131, 3) := by decide +kernel
theorem dX8_describeArcs_51 : decode cX8_describeArcs 51 = .ok (.istore 4, 2) := by decide +kernel
theorem dX8_describeArcs_53 : decode cX8_describeArcs 53 = .ok (.iload 4, 2) := by decide +kernel
theorem dX8_describeArcs_55 : decode cX8_describeArcs 55 = .ok (.aload_n 0, 1) := by decide +kernel
theorem dX8_describeArcs_56 : decode cX8_describeArcs 56 = .ok (.getfield 54, 3) := by decide +kernel
theorem dX8_describeArcs_59 : decode cX8_describeArcs 59 = .ok (.iload_n 1, 1) := by decide +kernel
theorem dX8_describeArcs_60 : decode cX8_describeArcs 60 = .ok (.invokevirtual 124, 3) := by decide +kernel
theorem dX8_describeArcs_63 : decode cX8_describeArcs 63 = .ok (.ixor, 1) := by decide +kernel
theorem dX8_describeArcs_64 : decode cX8_describeArcs 64 = .ok (.istore 5, 2) := by decide +kernel
theorem dX8_describeArcs_66 : decode cX8_describeArcs 66 = .ok (.aload_n 0, 1) := by decide +kernel
theorem dX8_describeArcs_67 : decode cX8_describeArcs 67 = .ok (.getfield 42, 3) := by decide +kernel
theorem dX8_describeArcs_70 : decode cX8_describeArcs 70 = .ok (.iload_n 1, 1) := by decide +kernel
theorem dX8_describeArcs_71 : decode cX8_describeArcs 71 = .ok (.iload 4, 2) := by decide +kernel
theorem dX8_describeArcs_73 : decode cX8_describeArcs 73 = .ok (.iastore, 1) := by decide +kernel
theorem dX8_describeArcs_74 : decode cX8_describeArcs 74 = .ok (.aload_n 0, 1) := by decide +kernel
theorem dX8_describeArcs_75 : decode cX8_describeArcs 75 = .ok (.getfield 36, 3) := by decide +kernel
theorem dX8_describeArcs_78 : decode cX8_describeArcs 78 = .ok (.iload_n 1, 1) := by decide +kernel
theorem dX8_describeArcs_79 : decode cX8_describeArcs 79 = .ok (.iload 4, 2) := by decide +kernel
theorem dX8_describeArcs_81 : decode cX8_describeArcs 81 = .ok (.aload_n 0, 1) := by decide +kernel
theorem dX8_describeArcs_82 : decode cX8_describeArcs 82 = .ok (.getfield 54, 3) := by decide +kernel
theorem dX8_describeArcs_85 : decode cX8_describeArcs 85 = .ok (.iload_n 1, 1) := by decide +kernel
theorem dX8_describeArcs_86 : decode cX8_describeArcs 86 = .ok (.invokevirtual 124, 3) := by decide +kernel
theorem dX8_describeArcs_89 : decode cX8_describeArcs 89 = .ok (.invokestatic 148, 3) := by decide +kernel
theorem dX8_describeArcs_92 : decode cX8_describeArcs 92 = .ok (.iastore, 1) := by decide +kernel
theorem dX8_describeArcs_93 : decode cX8_describeArcs 93 = .ok (.aload_n 0, 1) := by decide +kernel
theorem dX8_describeArcs_94 : decode cX8_describeArcs 94 = .ok (.getfield 39, 3) := by decide +kernel
theorem dX8_describeArcs_97 : decode cX8_describeArcs 97 = .ok (.iload_n 1, 1) := by decide +kernel
theorem dX8_describeArcs_98 : decode cX8_describeArcs 98 = .ok (.iload 5, 2) := by decide +kernel
theorem dX8_describeArcs_100 : decode cX8_describeArcs 100 = .ok (.iload 5, 2) := by decide +kernel
theorem dX8_describeArcs_102 : decode cX8_describeArcs 102 = .ok (.aload_n 0, 1) := by decide +kernel
theorem dX8_describeArcs_103 : decode cX8_describeArcs 103 = .ok (.aload_n 0, 1) := by decide +kernel
theorem dX8_describeArcs_104 : decode cX8_describeArcs 104 = .ok (.getfield 54, 3) := by decide +kernel
theorem dX8_describeArcs_107 : decode cX8_describeArcs 107 = .ok (.getfield 128, 3) := by decide +kernel
theorem dX8_describeArcs_110 : decode cX8_describeArcs 110 = .ok (.iload_n 3, 1) := by decide +kernel
theorem dX8_describeArcs_111 : decode cX8_describeArcs 111 = .ok (.invokevirtual 131, 3) := by decide +kernel
theorem dX8_describeArcs_114 : decode cX8_describeArcs 114 = .ok (.ixor, 1) := by decide +kernel
theorem dX8_describeArcs_115 : decode cX8_describeArcs 115 = .ok (.invokestatic 148, 3) := by decide +kernel
theorem dX8_describeArcs_118 : decode cX8_describeArcs 118 = .ok (.iastore, 1) := by decide +kernel
theorem dX8_describeArcs_119 : decode cX8_describeArcs 119 = .ok (.aload_n 0, 1) := by decide +kernel
theorem dX8_describeArcs_120 : decode cX8_describeArcs 120 = .ok (.getfield 45, 3) := by decide +kernel
theorem dX8_describeArcs_123 : decode cX8_describeArcs 123 = .ok (.iload_n 1, 1) := by decide +kernel
theorem dX8_describeArcs_124 : decode cX8_describeArcs 124 = .ok (.aload_n 0, 1) := by decide +kernel
theorem dX8_describeArcs_125 : decode cX8_describeArcs 125 = .ok (.aload_n 0, 1) := by decide +kernel
theorem dX8_describeArcs_126 : decode cX8_describeArcs 126 = .ok (.getfield 54, 3) := by decide +kernel
theorem dX8_describeArcs_129 : decode cX8_describeArcs 129 = .ok (.getfield 128, 3) := by decide +kernel
theorem dX8_describeArcs_132 : decode cX8_describeArcs 132 = .ok (.iload_n 2, 1) := by decide +kernel
theorem dX8_describeArcs_133 : decode cX8_describeArcs 133 = .ok (.invokevirtual 153, 3) := by decide +kernel
theorem dX8_describeArcs_136 : decode cX8_describeArcs 136 = .ok (.iastore, 1) := by decide +kernel
theorem dX8_describeArcs_137 : decode cX8_describeArcs 137 = .ok (.aload_n 0, 1) := by decide +kernel
theorem dX8_describeArcs_138 : decode cX8_describeArcs 138 = .ok (.getfield 48, 3) := by decide +kernel
theorem dX8_describeArcs_141 : decode cX8_describeArcs 141 = .ok (.iload_n 1, 1) := by decide +kernel
theorem dX8_describeArcs_142 : decode cX8_describeArcs 142 = .ok (.aload_n 0, 1) := by decide +kernel
theorem dX8_describeArcs_143 : decode cX8_describeArcs 143 = .ok (.aload_n 0, 1) := by decide +kernel
theorem dX8_describeArcs_144 : decode cX8_describeArcs 144 = .ok (.getfield 54, 3) := by decide +kernel
theorem dX8_describeArcs_147 : decode cX8_describeArcs 147 = .ok (.getfield 128, 3) := by decide +kernel
theorem dX8_describeArcs_150 : decode cX8_describeArcs 150 = .ok (.iload_n 3, 1) := by decide +kernel
theorem dX8_describeArcs_151 : decode cX8_describeArcs 151 = .ok (.invokevirtual 153, 3) := by decide +kernel
theorem dX8_describeArcs_154 : decode cX8_describeArcs 154 = .ok (.iastore, 1) := by decide +kernel
theorem dX8_describeArcs_155 : decode cX8_describeArcs 155 = .ok (.iinc 1 1, 3) := by decide +kernel
theorem dX8_describeArcs_158 : decode cX8_describeArcs 158 = .ok (.goto (-156), 3) := by decide +kernel
theorem dX8_describeArcs_161 : decode cX8_describeArcs 161 = .ok (.return_, 1) := by decide +kernel
theorem dX8_pointIn_0 : decode cX8_pointIn 0 = .ok (.aload_n 0, 1) := by decide +kernel
theorem dX8_pointIn_1 : decode cX8_pointIn 1 = .ok (.getfield 9, 3) := by decide +kernel
theorem dX8_pointIn_4 : decode cX8_pointIn 4 = .ok (.iload_n 2, 1) := by decide +kernel
theorem dX8_pointIn_5 : decode cX8_pointIn 5 = .ok (.invokestatic 113, 3) := by decide +kernel
theorem dX8_pointIn_8 : decode cX8_pointIn 8 = .ok (.aload_n 1, 1) := by decide +kernel
theorem dX8_pointIn_9 : decode cX8_pointIn 9 = .ok (.iload_n 2, 1) := by decide +kernel
theorem dX8_pointIn_10 : decode cX8_pointIn 10 = .ok (.invokestatic 113, 3) := by decide +kernel
theorem dX8_pointIn_13 : decode cX8_pointIn 13 = .ok (.iconst 4, 1) := by decide +kernel
theorem dX8_pointIn_14 : decode cX8_pointIn 14 = .ok (.ishl, 1) := by decide +kernel
theorem dX8_pointIn_15 : decode cX8_pointIn 15 = .ok (.ior, 1) := by decide +kernel
theorem dX8_pointIn_16 : decode cX8_pointIn 16 = .ok (.ireturn, 1) := by decide +kernel
theorem dX8_valuesIn_0 : decode cX8_valuesIn 0 = .ok (.aload_n 0, 1) := by decide +kernel
theorem dX8_valuesIn_1 : decode cX8_valuesIn 1 = .ok (.getfield 15, 3) := by decide +kernel
theorem dX8_valuesIn_4 : decode cX8_valuesIn 4 = .ok (.iload_n 2, 1) := by decide +kernel
theorem dX8_valuesIn_5 : decode cX8_valuesIn 5 = .ok (.invokestatic 113, 3) := by decide +kernel
theorem dX8_valuesIn_8 : decode cX8_valuesIn 8 = .ok (.aload_n 1, 1) := by decide +kernel
theorem dX8_valuesIn_9 : decode cX8_valuesIn 9 = .ok (.iload_n 2, 1) := by decide +kernel
theorem dX8_valuesIn_10 : decode cX8_valuesIn 10 = .ok (.invokestatic 113, 3) := by decide +kernel
theorem dX8_valuesIn_13 : decode cX8_valuesIn 13 = .ok (.iconst 3, 1) := by decide +kernel
theorem dX8_valuesIn_14 : decode cX8_valuesIn 14 = .ok (.ishl, 1) := by decide +kernel
theorem dX8_valuesIn_15 : decode cX8_valuesIn 15 = .ok (.ior, 1) := by decide +kernel
theorem dX8_valuesIn_16 : decode cX8_valuesIn 16 = .ok (.ireturn, 1) := by decide +kernel
theorem dX8_demandByState_0 : decode cX8_demandByState 0 = .ok (.aload_n 1, 1) := by decide +kernel
theorem dX8_demandByState_1 : decode cX8_demandByState 1 = .ok (.aload_n 0, 1) := by decide +kernel
theorem dX8_demandByState_2 : decode cX8_demandByState 2 = .ok (.aload_n 2, 1) := by decide +kernel
theorem dX8_demandByState_3 : decode cX8_demandByState 3 = .ok (.iload_n 3, 1) := by decide +kernel
theorem dX8_demandByState_4 : decode cX8_demandByState 4 = .ok (.invokevirtual 153, 3) := by decide +kernel
theorem dX8_demandByState_7 : decode cX8_demandByState 7 = .ok (.lconst 1, 1) := by decide +kernel
theorem dX8_demandByState_8 : decode cX8_demandByState 8 = .ok (.aload_n 0, 1) := by decide +kernel
theorem dX8_demandByState_9 : decode cX8_demandByState 9 = .ok (.aload_n 2, 1) := by decide +kernel
theorem dX8_demandByState_10 : decode cX8_demandByState 10 = .ok (.iload_n 3, 1) := by decide +kernel
theorem dX8_demandByState_11 : decode cX8_demandByState 11 = .ok (.invokevirtual 131, 3) := by decide +kernel
theorem dX8_demandByState_14 : decode cX8_demandByState 14 = .ok (.lshl, 1) := by decide +kernel
theorem dX8_demandByState_15 : decode cX8_demandByState 15 = .ok (.invokevirtual 156, 3) := by decide +kernel
theorem dX8_demandByState_18 : decode cX8_demandByState 18 = .ok (.return_, 1) := by decide +kernel
theorem dX8_demandByArc_0 : decode cX8_demandByArc 0 = .ok (.aload_n 0, 1) := by decide +kernel
theorem dX8_demandByArc_1 : decode cX8_demandByArc 1 = .ok (.getfield 54, 3) := by decide +kernel
theorem dX8_demandByArc_4 : decode cX8_demandByArc 4 = .ok (.iload_n 3, 1) := by decide +kernel
theorem dX8_demandByArc_5 : decode cX8_demandByArc 5 = .ok (.iconst 0, 1) := by decide +kernel
theorem dX8_demandByArc_6 : decode cX8_demandByArc 6 = .ok (.invokevirtual 105, 3) := by decide +kernel
theorem dX8_demandByArc_9 : decode cX8_demandByArc 9 = .ok (.istore 4, 2) := by decide +kernel
theorem dX8_demandByArc_11 : decode cX8_demandByArc 11 = .ok (.aload_n 0, 1) := by decide +kernel
theorem dX8_demandByArc_12 : decode cX8_demandByArc 12 = .ok (.getfield 54, 3) := by decide +kernel
theorem dX8_demandByArc_15 : decode cX8_demandByArc 15 = .ok (.iload_n 3, 1) := by decide +kernel
theorem dX8_demandByArc_16 : decode cX8_demandByArc 16 = .ok (.iconst 1, 1) := by decide +kernel
theorem dX8_demandByArc_17 : decode cX8_demandByArc 17 = .ok (.invokevirtual 105, 3) := by decide +kernel
theorem dX8_demandByArc_20 : decode cX8_demandByArc 20 = .ok (.istore 5, 2) := by decide +kernel
theorem dX8_demandByArc_22 : decode cX8_demandByArc 22 = .ok (.aload_n 0, 1) := by decide +kernel
theorem dX8_demandByArc_23 : decode cX8_demandByArc 23 = .ok (.aload_n 2, 1) := by decide +kernel
theorem dX8_demandByArc_24 : decode cX8_demandByArc 24 = .ok (.iload 4, 2) := by decide +kernel
theorem dX8_demandByArc_26 : decode cX8_demandByArc 26 = .ok (.invokevirtual 131, 3) := by decide +kernel
theorem dX8_demandByArc_29 : decode cX8_demandByArc 29 = .ok (.istore 6, 2) := by decide +kernel
theorem dX8_demandByArc_31 : decode cX8_demandByArc 31 = .ok (.iload 6, 2) := by decide +kernel
theorem dX8_demandByArc_33 : decode cX8_demandByArc 33 = .ok (.aload_n 0, 1) := by decide +kernel
theorem dX8_demandByArc_34 : decode cX8_demandByArc 34 = .ok (.getfield 54, 3) := by decide +kernel
theorem dX8_demandByArc_37 : decode cX8_demandByArc 37 = .ok (.iload_n 3, 1) := by decide +kernel
theorem dX8_demandByArc_38 : decode cX8_demandByArc 38 = .ok (.invokevirtual 124, 3) := by decide +kernel
theorem dX8_demandByArc_41 : decode cX8_demandByArc 41 = .ok (.ixor, 1) := by decide +kernel
theorem dX8_demandByArc_42 : decode cX8_demandByArc 42 = .ok (.istore 7, 2) := by decide +kernel
theorem dX8_demandByArc_44 : decode cX8_demandByArc 44 = .ok (.iload 6, 2) := by decide +kernel
theorem dX8_demandByArc_46 : decode cX8_demandByArc 46 = .ok (.aload_n 0, 1) := by decide +kernel
theorem dX8_demandByArc_47 : decode cX8_demandByArc 47 = .ok (.getfield 54, 3) := by decide +kernel
theorem dX8_demandByArc_50 : decode cX8_demandByArc 50 = .ok (.iload_n 3, 1) := by decide +kernel
theorem dX8_demandByArc_51 : decode cX8_demandByArc 51 = .ok (.invokevirtual 124, 3) := by decide +kernel
theorem dX8_demandByArc_54 : decode cX8_demandByArc 54 = .ok (.invokestatic 160, 3) := by decide +kernel
theorem dX8_demandByArc_57 : decode cX8_demandByArc 57 = .ok (.lstore 8, 2) := by decide +kernel
theorem dX8_demandByArc_59 : decode cX8_demandByArc 59 = .ok (.aload_n 1, 1) := by decide +kernel
theorem dX8_demandByArc_60 : decode cX8_demandByArc 60 = .ok (.aload_n 0, 1) := by decide +kernel
theorem dX8_demandByArc_61 : decode cX8_demandByArc 61 = .ok (.aload_n 2, 1) := by decide +kernel
theorem dX8_demandByArc_62 : decode cX8_demandByArc 62 = .ok (.iload 4, 2) := by decide +kernel
theorem dX8_demandByArc_64 : decode cX8_demandByArc 64 = .ok (.invokevirtual 153, 3) := by decide +kernel
theorem dX8_demandByArc_67 : decode cX8_demandByArc 67 = .ok (.lload 8, 2) := by decide +kernel
theorem dX8_demandByArc_69 : decode cX8_demandByArc 69 = .ok (.lconst 1, 1) := by decide +kernel
theorem dX8_demandByArc_70 : decode cX8_demandByArc 70 = .ok (.iload 7, 2) := by decide +kernel
theorem dX8_demandByArc_72 : decode cX8_demandByArc 72 = .ok (.lshl, 1) := by decide +kernel
theorem dX8_demandByArc_73 : decode cX8_demandByArc 73 = .ok (.ldc2_w 164, 3) := by decide +kernel
theorem dX8_demandByArc_76 : decode cX8_demandByArc 76 = .ok (.lxor, 1) := by decide +kernel
theorem dX8_demandByArc_77 : decode cX8_demandByArc 77 = .ok (.land, 1) := by decide +kernel
theorem dX8_demandByArc_78 : decode cX8_demandByArc 78 = .ok (.invokevirtual 156, 3) := by decide +kernel
theorem dX8_demandByArc_81 : decode cX8_demandByArc 81 = .ok (.aload_n 1, 1) := by decide +kernel
theorem dX8_demandByArc_82 : decode cX8_demandByArc 82 = .ok (.aload_n 0, 1) := by decide +kernel
theorem dX8_demandByArc_83 : decode cX8_demandByArc 83 = .ok (.aload_n 2, 1) := by decide +kernel
theorem dX8_demandByArc_84 : decode cX8_demandByArc 84 = .ok (.iload 5, 2) := by decide +kernel
theorem dX8_demandByArc_86 : decode cX8_demandByArc 86 = .ok (.invokevirtual 153, 3) := by decide +kernel
theorem dX8_demandByArc_89 : decode cX8_demandByArc 89 = .ok (.iload 7, 2) := by decide +kernel
theorem dX8_demandByArc_91 : decode cX8_demandByArc 91 = .ok (.iload 7, 2) := by decide +kernel
theorem dX8_demandByArc_93 : decode cX8_demandByArc 93 = .ok (.aload_n 0, 1) := by decide +kernel
theorem dX8_demandByArc_94 : decode cX8_demandByArc 94 = .ok (.aload_n 2, 1) := by decide +kernel
theorem dX8_demandByArc_95 : decode cX8_demandByArc 95 = .ok (.iload 5, 2) := by decide +kernel
theorem dX8_demandByArc_97 : decode cX8_demandByArc 97 = .ok (.invokevirtual 131, 3) := by decide +kernel
theorem dX8_demandByArc_100 : decode cX8_demandByArc 100 = .ok (.ixor, 1) := by decide +kernel
theorem dX8_demandByArc_101 : decode cX8_demandByArc 101 = .ok (.invokestatic 160, 3) := by decide +kernel
theorem dX8_demandByArc_104 : decode cX8_demandByArc 104 = .ok (.invokevirtual 156, 3) := by decide +kernel
theorem dX8_demandByArc_107 : decode cX8_demandByArc 107 = .ok (.return_, 1) := by decide +kernel
theorem dX8_fallsBy_0 : decode cX8_fallsBy 0 = .ok (.aload_n 0, 1) := by decide +kernel
theorem dX8_fallsBy_1 : decode cX8_fallsBy 1 = .ok (.getfield 45, 3) := by decide +kernel
theorem dX8_fallsBy_4 : decode cX8_fallsBy 4 = .ok (.iload_n 2, 1) := by decide +kernel
theorem dX8_fallsBy_5 : decode cX8_fallsBy 5 = .ok (.invokestatic 113, 3) := by decide +kernel
theorem dX8_fallsBy_8 : decode cX8_fallsBy 8 = .ok (.aload_n 0, 1) := by decide +kernel
theorem dX8_fallsBy_9 : decode cX8_fallsBy 9 = .ok (.getfield 48, 3) := by decide +kernel
theorem dX8_fallsBy_12 : decode cX8_fallsBy 12 = .ok (.iload_n 2, 1) := by decide +kernel
theorem dX8_fallsBy_13 : decode cX8_fallsBy 13 = .ok (.invokestatic 113, 3) := by decide +kernel
theorem dX8_fallsBy_16 : decode cX8_fallsBy 16 = .ok (.iconst (-1), 1) := by decide +kernel
theorem dX8_fallsBy_17 : decode cX8_fallsBy 17 = .ok (.ixor, 1) := by decide +kernel
theorem dX8_fallsBy_18 : decode cX8_fallsBy 18 = .ok (.iand, 1) := by decide +kernel
theorem dX8_fallsBy_19 : decode cX8_fallsBy 19 = .ok (.iconst 1, 1) := by decide +kernel
theorem dX8_fallsBy_20 : decode cX8_fallsBy 20 = .ok (.iload_n 1, 1) := by decide +kernel
theorem dX8_fallsBy_21 : decode cX8_fallsBy 21 = .ok (.ishl, 1) := by decide +kernel
theorem dX8_fallsBy_22 : decode cX8_fallsBy 22 = .ok (.iand, 1) := by decide +kernel
theorem dX8_fallsBy_23 : decode cX8_fallsBy 23 = .ok (.ifCond .eq 7, 3) := by decide +kernel
theorem dX8_fallsBy_26 : decode cX8_fallsBy 26 = .ok (.iconst 1, 1) := by decide +kernel
theorem dX8_fallsBy_27 : decode cX8_fallsBy 27 = .ok (.goto 4, 3) := by decide +kernel
theorem dX8_fallsBy_30 : decode cX8_fallsBy 30 = .ok (.iconst 0, 1) := by decide +kernel
theorem dX8_fallsBy_31 : decode cX8_fallsBy 31 = .ok (.ireturn, 1) := by decide +kernel
theorem dX8_fromPoint_0 : decode cX8_fromPoint 0 = .ok (.lconst 1, 1) := by decide +kernel
theorem dX8_fromPoint_1 : decode cX8_fromPoint 1 = .ok (.aload_n 0, 1) := by decide +kernel
theorem dX8_fromPoint_2 : decode cX8_fromPoint 2 = .ok (.getfield 42, 3) := by decide +kernel
theorem dX8_fromPoint_5 : decode cX8_fromPoint 5 = .ok (.iload_n 1, 1) := by decide +kernel
theorem dX8_fromPoint_6 : decode cX8_fromPoint 6 = .ok (.invokestatic 113, 3) := by decide +kernel
theorem dX8_fromPoint_9 : decode cX8_fromPoint 9 = .ok (.lshl, 1) := by decide +kernel
theorem dX8_fromPoint_10 : decode cX8_fromPoint 10 = .ok (.lreturn, 1) := by decide +kernel
theorem dX8_isOneAtBegin_0 : decode cX8_isOneAtBegin 0 = .ok (.aload_n 0, 1) := by decide +kernel
theorem dX8_isOneAtBegin_1 : decode cX8_isOneAtBegin 1 = .ok (.aload_n 0, 1) := by decide +kernel
theorem dX8_isOneAtBegin_2 : decode cX8_isOneAtBegin 2 = .ok (.getfield 54, 3) := by decide +kernel
theorem dX8_isOneAtBegin_5 : decode cX8_isOneAtBegin 5 = .ok (.getfield 128, 3) := by decide +kernel
theorem dX8_isOneAtBegin_8 : decode cX8_isOneAtBegin 8 = .ok (.aload_n 0, 1) := by decide +kernel
theorem dX8_isOneAtBegin_9 : decode cX8_isOneAtBegin 9 = .ok (.getfield 54, 3) := by decide +kernel
theorem dX8_isOneAtBegin_12 : decode cX8_isOneAtBegin 12 = .ok (.getfield 79, 3) := by decide +kernel
theorem dX8_isOneAtBegin_15 : decode cX8_isOneAtBegin 15 = .ok (.invokevirtual 153, 3) := by decide +kernel
theorem dX8_isOneAtBegin_18 : decode cX8_isOneAtBegin 18 = .ok (.iload_n 1, 1) := by decide +kernel
theorem dX8_isOneAtBegin_19 : decode cX8_isOneAtBegin 19 = .ok (.ishr, 1) := by decide +kernel
theorem dX8_isOneAtBegin_20 : decode cX8_isOneAtBegin 20 = .ok (.iconst 1, 1) := by decide +kernel
theorem dX8_isOneAtBegin_21 : decode cX8_isOneAtBegin 21 = .ok (.iand, 1) := by decide +kernel
theorem dX8_isOneAtBegin_22 : decode cX8_isOneAtBegin 22 = .ok (.ifCond .eq 7, 3) := by decide +kernel
theorem dX8_isOneAtBegin_25 : decode cX8_isOneAtBegin 25 = .ok (.iconst 1, 1) := by decide +kernel
theorem dX8_isOneAtBegin_26 : decode cX8_isOneAtBegin 26 = .ok (.goto 4, 3) := by decide +kernel
theorem dX8_isOneAtBegin_29 : decode cX8_isOneAtBegin 29 = .ok (.iconst 0, 1) := by decide +kernel
theorem dX8_isOneAtBegin_30 : decode cX8_isOneAtBegin 30 = .ok (.ireturn, 1) := by decide +kernel
theorem dX8_beginCube_0 : decode cX8_beginCube 0 = .ok (.aload_n 0, 1) := by decide +kernel
theorem dX8_beginCube_1 : decode cX8_beginCube 1 = .ok (.aload_n 0, 1) := by decide +kernel
theorem dX8_beginCube_2 : decode cX8_beginCube 2 = .ok (.getfield 54, 3) := by decide +kernel
theorem dX8_beginCube_5 : decode cX8_beginCube 5 = .ok (.getfield 128, 3) := by decide +kernel
theorem dX8_beginCube_8 : decode cX8_beginCube 8 = .ok (.aload_n 0, 1) := by decide +kernel
theorem dX8_beginCube_9 : decode cX8_beginCube 9 = .ok (.getfield 54, 3) := by decide +kernel
theorem dX8_beginCube_12 : decode cX8_beginCube 12 = .ok (.getfield 79, 3) := by decide +kernel
theorem dX8_beginCube_15 : decode cX8_beginCube 15 = .ok (.invokevirtual 131, 3) := by decide +kernel
theorem dX8_beginCube_18 : decode cX8_beginCube 18 = .ok (.iconst 0, 1) := by decide +kernel
theorem dX8_beginCube_19 : decode cX8_beginCube 19 = .ok (.invokestatic 148, 3) := by decide +kernel
theorem dX8_beginCube_22 : decode cX8_beginCube 22 = .ok (.ireturn, 1) := by decide +kernel
theorem dX8_findRequired_0 : decode cX8_findRequired 0 = .ok (.iconst 0, 1) := by decide +kernel
theorem dX8_findRequired_1 : decode cX8_findRequired 1 = .ok (.istore_n 3, 1) := by decide +kernel
theorem dX8_findRequired_2 : decode cX8_findRequired 2 = .ok (.aload_n 0, 1) := by decide +kernel
theorem dX8_findRequired_3 : decode cX8_findRequired 3 = .ok (.getfield 45, 3) := by decide +kernel
theorem dX8_findRequired_6 : decode cX8_findRequired 6 = .ok (.iload_n 2, 1) := by decide +kernel
theorem dX8_findRequired_7 : decode cX8_findRequired 7 = .ok (.invokestatic 113, 3) := by decide +kernel
theorem dX8_findRequired_10 : decode cX8_findRequired 10 = .ok (.iconst 1, 1) := by decide +kernel
theorem dX8_findRequired_11 : decode cX8_findRequired 11 = .ok (.iload_n 1, 1) := by decide +kernel
theorem dX8_findRequired_12 : decode cX8_findRequired 12 = .ok (.ishl, 1) := by decide +kernel
theorem dX8_findRequired_13 : decode cX8_findRequired 13 = .ok (.iand, 1) := by decide +kernel
theorem dX8_findRequired_14 : decode cX8_findRequired 14 = .ok (.ifCond .eq 7, 3) := by decide +kernel
theorem dX8_findRequired_17 : decode cX8_findRequired 17 = .ok (.iconst 1, 1) := by decide +kernel
theorem dX8_findRequired_18 : decode cX8_findRequired 18 = .ok (.goto 4, 3) := by decide +kernel
theorem dX8_findRequired_21 : decode cX8_findRequired 21 = .ok (.iconst 0, 1) := by decide +kernel
theorem dX8_findRequired_22 : decode cX8_findRequired 22 = .ok (.istore 4, 2) := by decide +kernel
theorem dX8_findRequired_24 : decode cX8_findRequired 24 = .ok (.aload_n 0, 1) := by decide +kernel
theorem dX8_findRequired_25 : decode cX8_findRequired 25 = .ok (.getfield 48, 3) := by decide +kernel
theorem dX8_findRequired_28 : decode cX8_findRequired 28 = .ok (.iload_n 2, 1) := by decide +kernel
theorem dX8_findRequired_29 : decode cX8_findRequired 29 = .ok (.invokestatic 113, 3) := by decide +kernel
theorem dX8_findRequired_32 : decode cX8_findRequired 32 = .ok (.iconst 1, 1) := by decide +kernel
theorem dX8_findRequired_33 : decode cX8_findRequired 33 = .ok (.iload_n 1, 1) := by decide +kernel
theorem dX8_findRequired_34 : decode cX8_findRequired 34 = .ok (.ishl, 1) := by decide +kernel
theorem dX8_findRequired_35 : decode cX8_findRequired 35 = .ok (.iand, 1) := by decide +kernel
theorem dX8_findRequired_36 : decode cX8_findRequired 36 = .ok (.ifCond .eq 7, 3) := by decide +kernel
theorem dX8_findRequired_39 : decode cX8_findRequired 39 = .ok (.iconst 1, 1) := by decide +kernel
theorem dX8_findRequired_40 : decode cX8_findRequired 40 = .ok (.goto 4, 3) := by decide +kernel
theorem dX8_findRequired_43 : decode cX8_findRequired 43 = .ok (.iconst 0, 1) := by decide +kernel
theorem dX8_findRequired_44 : decode cX8_findRequired 44 = .ok (.istore 5, 2) := by decide +kernel
theorem dX8_findRequired_46 : decode cX8_findRequired 46 = .ok (.iload 4, 2) := by decide +kernel
theorem dX8_findRequired_48 : decode cX8_findRequired 48 = .ok (.ifCond .eq 76, 3) := by decide +kernel
theorem dX8_findRequired_51 : decode cX8_findRequired 51 = .ok (.iload 5, 2) := by decide +kernel
theorem dX8_findRequired_53 : decode cX8_findRequired 53 = .ok (.ifCond .ne 71, 3) := by decide +kernel
theorem dX8_findRequired_56 : decode cX8_findRequired 56 = .ok (.aload_n 0, 1) := by decide +kernel
theorem dX8_findRequired_57 : decode cX8_findRequired 57 = .ok (.getfield 54, 3) := by decide +kernel
theorem dX8_findRequired_60 : decode cX8_findRequired 60 = .ok (.iload_n 2, 1) := by decide +kernel
theorem dX8_findRequired_61 : decode cX8_findRequired 61 = .ok (.invokevirtual 124, 3) := by decide +kernel
theorem dX8_findRequired_64 : decode cX8_findRequired 64 = .ok (.istore 6, 2) := by decide +kernel
theorem dX8_findRequired_66 : decode cX8_findRequired 66 = .ok (.iconst 0, 1) := by decide +kernel
theorem dX8_findRequired_67 : decode cX8_findRequired 67 = .ok (.istore 7, 2) := by decide +kernel
theorem dX8_findRequired_69 : decode cX8_findRequired 69 = .ok (.iload 7, 2) := by decide +kernel
theorem dX8_findRequired_71 : decode cX8_findRequired 71 = .ok (.iconst 4, 1) := by decide +kernel
theorem dX8_findRequired_72 : decode cX8_findRequired 72 = .ok (.if_icmp .ge 52, 3) := by decide +kernel
theorem dX8_findRequired_75 : decode cX8_findRequired 75 = .ok (.iconst 1, 1) := by decide +kernel
theorem dX8_findRequired_76 : decode cX8_findRequired 76 = .ok (.iload 7, 2) := by decide +kernel
theorem dX8_findRequired_78 : decode cX8_findRequired 78 = .ok (.ishl, 1) := by decide +kernel
theorem dX8_findRequired_79 : decode cX8_findRequired 79 = .ok (.istore 8, 2) := by decide +kernel
theorem dX8_findRequired_81 : decode cX8_findRequired 81 = .ok (.iload 6, 2) := by decide +kernel
theorem dX8_findRequired_83 : decode cX8_findRequired 83 = .ok (.iload 8, 2) := by decide +kernel
theorem dX8_findRequired_85 : decode cX8_findRequired 85 = .ok (.iand, 1) := by decide +kernel
theorem dX8_findRequired_86 : decode cX8_findRequired 86 = .ok (.ifCond .eq 32, 3) := by decide +kernel
theorem dX8_findRequired_89 : decode cX8_findRequired 89 = .ok (.aload_n 0, 1) := by decide +kernel
theorem dX8_findRequired_90 : decode cX8_findRequired 90 = .ok (.getfield 51, 3) := by decide +kernel
theorem dX8_findRequired_93 : decode cX8_findRequired 93 = .ok (.iload_n 3, 1) := by decide +kernel
theorem dX8_findRequired_94 : decode cX8_findRequired 94 = .ok (.aload_n 0, 1) := by decide +kernel
theorem dX8_findRequired_95 : decode cX8_findRequired 95 = .ok (.getfield 42, 3) := by decide +kernel
theorem dX8_findRequired_98 : decode cX8_findRequired 98 = .ok (.iload_n 2, 1) := by decide +kernel
theorem dX8_findRequired_99 : decode cX8_findRequired 99 = .ok (.invokestatic 113, 3) := by decide +kernel
theorem dX8_findRequired_102 : decode cX8_findRequired 102 = .ok (.iload 6, 2) := by decide +kernel
theorem dX8_findRequired_104 : decode cX8_findRequired 104 = .ok (.iload 8, 2) := by decide +kernel
theorem dX8_findRequired_106 : decode cX8_findRequired 106 = .ok (.iconst (-1), 1) := by decide +kernel
theorem dX8_findRequired_107 : decode cX8_findRequired 107 = .ok (.ixor, 1) := by decide +kernel
theorem dX8_findRequired_108 : decode cX8_findRequired 108 = .ok (.iand, 1) := by decide +kernel
theorem dX8_findRequired_109 : decode cX8_findRequired 109 = .ok (.invokestatic 148, 3) := by decide +kernel
theorem dX8_findRequired_112 : decode cX8_findRequired 112 = .ok (.invokestatic 166, 3) := by decide +kernel
theorem dX8_findRequired_115 : decode cX8_findRequired 115 = .ok (.iinc 3 1, 3) := by decide +kernel
theorem dX8_findRequired_118 : decode cX8_findRequired 118 = .ok (.iinc 7 1, 3) := by decide +kernel
theorem dX8_findRequired_121 : decode cX8_findRequired 121 = .ok (.goto (-52), 3) := by decide +kernel
theorem dX8_findRequired_124 : decode cX8_findRequired 124 = .ok (.iload 4, 2) := by decide +kernel
theorem dX8_findRequired_126 : decode cX8_findRequired 126 = .ok (.ifCond .eq 27, 3) := by decide +kernel
theorem dX8_findRequired_129 : decode cX8_findRequired 129 = .ok (.iload 5, 2) := by decide +kernel
theorem dX8_findRequired_131 : decode cX8_findRequired 131 = .ok (.ifCond .eq 22, 3) := by decide +kernel
theorem dX8_findRequired_134 : decode cX8_findRequired 134 = .ok (.aload_n 0, 1) := by decide +kernel
theorem dX8_findRequired_135 : decode cX8_findRequired 135 = .ok (.getfield 51, 3) := by decide +kernel
theorem dX8_findRequired_138 : decode cX8_findRequired 138 = .ok (.iload_n 3, 1) := by decide +kernel
theorem dX8_findRequired_139 : decode cX8_findRequired 139 = .ok (.aload_n 0, 1) := by decide +kernel
theorem dX8_findRequired_140 : decode cX8_findRequired 140 = .ok (.getfield 36, 3) := by decide +kernel
theorem dX8_findRequired_143 : decode cX8_findRequired 143 = .ok (.iload_n 2, 1) := by decide +kernel
theorem dX8_findRequired_144 : decode cX8_findRequired 144 = .ok (.invokestatic 113, 3) := by decide +kernel
theorem dX8_findRequired_147 : decode cX8_findRequired 147 = .ok (.invokestatic 166, 3) := by decide +kernel
theorem dX8_findRequired_150 : decode cX8_findRequired 150 = .ok (.iinc 3 1, 3) := by decide +kernel
theorem dX8_findRequired_153 : decode cX8_findRequired 153 = .ok (.iload 5, 2) := by decide +kernel
theorem dX8_findRequired_155 : decode cX8_findRequired 155 = .ok (.ifCond .eq 22, 3) := by decide +kernel
theorem dX8_findRequired_158 : decode cX8_findRequired 158 = .ok (.aload_n 0, 1) := by decide +kernel
theorem dX8_findRequired_159 : decode cX8_findRequired 159 = .ok (.getfield 51, 3) := by decide +kernel
theorem dX8_findRequired_162 : decode cX8_findRequired 162 = .ok (.iload_n 3, 1) := by decide +kernel
theorem dX8_findRequired_163 : decode cX8_findRequired 163 = .ok (.aload_n 0, 1) := by decide +kernel
theorem dX8_findRequired_164 : decode cX8_findRequired 164 = .ok (.getfield 39, 3) := by decide +kernel
theorem dX8_findRequired_167 : decode cX8_findRequired 167 = .ok (.iload_n 2, 1) := by decide +kernel
theorem dX8_findRequired_168 : decode cX8_findRequired 168 = .ok (.invokestatic 113, 3) := by decide +kernel
theorem dX8_findRequired_171 : decode cX8_findRequired 171 = .ok (.invokestatic 166, 3) := by decide +kernel
theorem dX8_findRequired_174 : decode cX8_findRequired 174 = .ok (.iinc 3 1, 3) := by decide +kernel
theorem dX8_findRequired_177 : decode cX8_findRequired 177 = .ok (.iload_n 3, 1) := by decide +kernel
theorem dX8_findRequired_178 : decode cX8_findRequired 178 = .ok (.ireturn, 1) := by decide +kernel
theorem dX9_init_0 : decode cX9_init 0 = .ok (.aload_n 0, 1) := by decide +kernel
theorem dX9_init_1 : decode cX9_init 1 = .ok (.invokespecial 1, 3) := by decide +kernel
theorem dX9_init_4 : decode cX9_init 4 = .ok (.aload_n 0, 1) := by decide +kernel
theorem dX9_init_5 : decode cX9_init 5 = .ok (.aload_n 1, 1) := by decide +kernel
theorem dX9_init_6 : decode cX9_init 6 = .ok (.putfield 7, 3) := by decide +kernel
theorem dX9_init_9 : decode cX9_init 9 = .ok (.return_, 1) := by decide +kernel
theorem dX9_restart_0 : decode cX9_restart 0 = .ok (.aload_n 0, 1) := by decide +kernel
theorem dX9_restart_1 : decode cX9_restart 1 = .ok (.aload_n 0, 1) := by decide +kernel
theorem dX9_restart_2 : decode cX9_restart 2 = .ok (.getfield 7, 3) := by decide +kernel
theorem dX9_restart_5 : decode cX9_restart 5 = .ok (.getfield 13, 3) := by decide +kernel
theorem dX9_restart_8 : decode cX9_restart 8 = .ok (.getfield 19, 3) := by decide +kernel
theorem dX9_restart_11 : decode cX9_restart 11 = .ok (.putfield 25, 3) := by decide +kernel
theorem dX9_restart_14 : decode cX9_restart 14 = .ok (.aload_n 0, 1) := by decide +kernel
theorem dX9_restart_15 : decode cX9_restart 15 = .ok (.iconst 0, 1) := by decide +kernel
theorem dX9_restart_16 : decode cX9_restart 16 = .ok (.putfield 28, 3) := by decide +kernel
theorem dX9_restart_19 : decode cX9_restart 19 = .ok (.return_, 1) := by decide +kernel
theorem dX9_inputsNow_0 : decode cX9_inputsNow 0 = .ok (.aload_n 0, 1) := by decide +kernel
theorem dX9_inputsNow_1 : decode cX9_inputsNow 1 = .ok (.getfield 7, 3) := by decide +kernel
theorem dX9_inputsNow_4 : decode cX9_inputsNow 4 = .ok (.getfield 31, 3) := by decide +kernel
theorem dX9_inputsNow_7 : decode cX9_inputsNow 7 = .ok (.aload_n 0, 1) := by decide +kernel
theorem dX9_inputsNow_8 : decode cX9_inputsNow 8 = .ok (.getfield 25, 3) := by decide +kernel
theorem dX9_inputsNow_11 : decode cX9_inputsNow 11 = .ok (.invokestatic 35, 3) := by decide +kernel
theorem dX9_inputsNow_14 : decode cX9_inputsNow 14 = .ok (.aload_n 0, 1) := by decide +kernel
theorem dX9_inputsNow_15 : decode cX9_inputsNow 15 = .ok (.getfield 28, 3) := by decide +kernel
theorem dX9_inputsNow_18 : decode cX9_inputsNow 18 = .ok (.ixor, 1) := by decide +kernel
theorem dX9_inputsNow_19 : decode cX9_inputsNow 19 = .ok (.ireturn, 1) := by decide +kernel
theorem dX9_changes_0 : decode cX9_changes 0 = .ok (.iconst 1, 1) := by decide +kernel
theorem dX9_changes_1 : decode cX9_changes 1 = .ok (.iload_n 1, 1) := by decide +kernel
theorem dX9_changes_2 : decode cX9_changes 2 = .ok (.ishl, 1) := by decide +kernel
theorem dX9_changes_3 : decode cX9_changes 3 = .ok (.istore_n 2, 1) := by decide +kernel
theorem dX9_changes_4 : decode cX9_changes 4 = .ok (.aload_n 0, 1) := by decide +kernel
theorem dX9_changes_5 : decode cX9_changes 5 = .ok (.getfield 28, 3) := by decide +kernel
theorem dX9_changes_8 : decode cX9_changes 8 = .ok (.iload_n 2, 1) := by decide +kernel
theorem dX9_changes_9 : decode cX9_changes 9 = .ok (.iand, 1) := by decide +kernel
theorem dX9_changes_10 : decode cX9_changes 10 = .ok (.ifCond .eq 5, 3) := by decide +kernel
theorem dX9_changes_13 : decode cX9_changes 13 = .ok (.iconst 0, 1) := by decide +kernel
theorem dX9_changes_14 : decode cX9_changes 14 = .ok (.ireturn, 1) := by decide +kernel
theorem dX9_changes_15 : decode cX9_changes 15 = .ok (.aload_n 0, 1) := by decide +kernel
theorem dX9_changes_16 : decode cX9_changes 16 = .ok (.getfield 28, 3) := by decide +kernel
theorem dX9_changes_19 : decode cX9_changes 19 = .ok (.iload_n 2, 1) := by decide +kernel
theorem dX9_changes_20 : decode cX9_changes 20 = .ok (.ior, 1) := by decide +kernel
theorem dX9_changes_21 : decode cX9_changes 21 = .ok (.istore_n 3, 1) := by decide +kernel
theorem dX9_changes_22 : decode cX9_changes 22 = .ok (.aload_n 0, 1) := by decide +kernel
theorem dX9_changes_23 : decode cX9_changes 23 = .ok (.getfield 7, 3) := by decide +kernel
theorem dX9_changes_26 : decode cX9_changes 26 = .ok (.getfield 13, 3) := by decide +kernel
theorem dX9_changes_29 : decode cX9_changes 29 = .ok (.astore 4, 2) := by decide +kernel
theorem dX9_changes_31 : decode cX9_changes 31 = .ok (.iconst 0, 1) := by decide +kernel
theorem dX9_changes_32 : decode cX9_changes 32 = .ok (.istore 5, 2) := by decide +kernel
theorem dX9_changes_34 : decode cX9_changes 34 = .ok (.iconst 0, 1) := by decide +kernel
theorem dX9_changes_35 : decode cX9_changes 35 = .ok (.istore 6, 2) := by decide +kernel
theorem dX9_changes_37 : decode cX9_changes 37 = .ok (.iload 6, 2) := by decide +kernel
theorem dX9_changes_39 : decode cX9_changes 39 = .ok (.aload 4, 2) := by decide +kernel
theorem dX9_changes_41 : decode cX9_changes 41 = .ok (.getfield 41, 3) := by decide +kernel
theorem dX9_changes_44 : decode cX9_changes 44 = .ok (.if_icmp .ge 79, 3) := by decide +kernel
theorem dX9_changes_47 : decode cX9_changes 47 = .ok (.aload 4, 2) := by decide +kernel
theorem dX9_changes_49 : decode cX9_changes 49 = .ok (.iload 6, 2) := by decide +kernel
theorem dX9_changes_51 : decode cX9_changes 51 = .ok (.iconst 0, 1) := by decide +kernel
theorem dX9_changes_52 : decode cX9_changes 52 = .ok (.invokevirtual 44, 3) := by decide +kernel
theorem dX9_changes_55 : decode cX9_changes 55 = .ok (.aload_n 0, 1) := by decide +kernel
theorem dX9_changes_56 : decode cX9_changes 56 = .ok (.getfield 25, 3) := by decide +kernel
theorem dX9_changes_59 : decode cX9_changes 59 = .ok (.if_icmp .ne 58, 3) := by decide +kernel
theorem dX9_changes_62 : decode cX9_changes 62 = .ok (.aload 4, 2) := by decide +kernel
theorem dX9_changes_64 : decode cX9_changes 64 = .ok (.iload 6, 2) := by decide +kernel
theorem dX9_changes_66 : decode cX9_changes 66 = .ok (.invokevirtual 48, 3) := by decide +kernel
theorem dX9_changes_69 : decode cX9_changes 69 = .ok (.istore 7, 2) := by decide +kernel
theorem dX9_changes_71 : decode cX9_changes 71 = .ok (.iload 7, 2) := by decide +kernel
theorem dX9_changes_73 : decode cX9_changes 73 = .ok (.iload_n 3, 1) := by decide +kernel
theorem dX9_changes_74 : decode cX9_changes 74 = .ok (.if_icmp .ne 22, 3) := by decide +kernel
theorem dX9_changes_77 : decode cX9_changes 77 = .ok (.aload_n 0, 1) := by decide +kernel
theorem dX9_changes_78 : decode cX9_changes 78 = .ok (.aload 4, 2) := by decide +kernel
theorem dX9_changes_80 : decode cX9_changes 80 = .ok (.iload 6, 2) := by decide +kernel
theorem dX9_changes_82 : decode cX9_changes 82 = .ok (.iconst 1, 1) := by decide +kernel
theorem dX9_changes_83 : decode cX9_changes 83 = .ok (.invokevirtual 44, 3) := by decide +kernel
theorem dX9_changes_86 : decode cX9_changes 86 = .ok (.putfield 25, 3) := by decide +kernel
theorem dX9_changes_89 : decode cX9_changes 89 = .ok (.aload_n 0, 1) := by decide +kernel
theorem dX9_changes_90 : decode cX9_changes 90 = .ok (.iconst 0, 1) := by decide +kernel
theorem dX9_changes_91 : decode cX9_changes 91 = .ok (.putfield 28, 3) := by decide +kernel
theorem dX9_changes_94 : decode cX9_changes 94 = .ok (.iconst 1, 1) := by decide +kernel
theorem dX9_changes_95 : decode cX9_changes 95 = .ok (.ireturn, 1) := by decide +kernel
theorem dX9_changes_96 : decode cX9_changes 96 = .ok (.iload 5, 2) := by decide +kernel
theorem dX9_changes_98 : decode cX9_changes 98 = .ok (.ifCond .ne 12, 3) := by decide +kernel
theorem dX9_changes_101 : decode cX9_changes 101 = .ok (.iload_n 3, 1) := by decide +kernel
theorem dX9_changes_102 : decode cX9_changes 102 = .ok (.iload 7, 2) := by decide +kernel
theorem dX9_changes_104 : decode cX9_changes 104 = .ok (.iconst (-1), 1) := by decide +kernel
theorem dX9_changes_105 : decode cX9_changes 105 = .ok (.ixor, 1) := by decide +kernel
theorem dX9_changes_106 : decode cX9_changes 106 = .ok (.iand, 1) := by decide +kernel
theorem dX9_changes_107 : decode cX9_changes 107 = .ok (.ifCond .ne 7, 3) := by decide +kernel
theorem dX9_changes_110 : decode cX9_changes 110 = .ok (.iconst 1, 1) := by decide +kernel
theorem dX9_changes_111 : decode cX9_changes 111 = .ok (.goto 4, 3) := by decide +kernel
theorem dX9_changes_114 : decode cX9_changes 114 = .ok (.iconst 0, 1) := by decide +kernel
theorem dX9_changes_115 : decode cX9_changes 115 = .ok (.istore 5, 2) := by decide +kernel
theorem dX9_changes_117 : decode cX9_changes 117 = .ok (.iinc 6 1, 3) := by decide +kernel
theorem dX9_changes_120 : decode cX9_changes 120 = .ok (.goto (-83), 3) := by decide +kernel
theorem dX9_changes_123 : decode cX9_changes 123 = .ok (.iload 5, 2) := by decide +kernel
theorem dX9_changes_125 : decode cX9_changes 125 = .ok (.ifCond .eq 8, 3) := by decide +kernel
theorem dX9_changes_128 : decode cX9_changes 128 = .ok (.aload_n 0, 1) := by decide +kernel
theorem dX9_changes_129 : decode cX9_changes 129 = .ok (.iload_n 3, 1) := by decide +kernel
theorem dX9_changes_130 : decode cX9_changes 130 = .ok (.putfield 28, 3) := by decide +kernel
theorem dX9_changes_133 : decode cX9_changes 133 = .ok (.iload 5, 2) := by decide +kernel
theorem dX9_changes_135 : decode cX9_changes 135 = .ok (.ireturn, 1) := by decide +kernel
theorem dX10_init_0 : decode cX10_init 0 = .ok (.aload_n 0, 1) := by decide +kernel
theorem dX10_init_1 : decode cX10_init 1 = .ok (.invokespecial 1, 3) := by decide +kernel
theorem dX10_init_4 : decode cX10_init 4 = .ok (.aload_n 0, 1) := by decide +kernel
theorem dX10_init_5 : decode cX10_init 5 = .ok (.new 7, 3) := by decide +kernel
theorem dX10_init_8 : decode cX10_init 8 = .ok (.dup, 1) := by decide +kernel
theorem dX10_init_9 : decode cX10_init 9 = .ok (.invokespecial 9, 3) := by decide +kernel
theorem dX10_init_12 : decode cX10_init 12 = .ok (.putfield 10, 3) := by decide +kernel
theorem dX10_init_15 : decode cX10_init 15 = .ok (.aload_n 0, 1) := by decide +kernel
theorem dX10_init_16 : decode cX10_init 16 = .ok (.new 16, 3) := by decide +kernel
theorem dX10_init_19 : decode cX10_init 19 = .ok (.dup, 1) := by decide +kernel
theorem dX10_init_20 : decode cX10_init 20 = .ok (.invokespecial 18, 3) := by decide +kernel
theorem dX10_init_23 : decode cX10_init 23 = .ok (.putfield 19, 3) := by decide +kernel
theorem dX10_init_26 : decode cX10_init 26 = .ok (.aload_n 0, 1) := by decide +kernel
theorem dX10_init_27 : decode cX10_init 27 = .ok (.new 23, 3) := by decide +kernel
theorem dX10_init_30 : decode cX10_init 30 = .ok (.dup, 1) := by decide +kernel
theorem dX10_init_31 : decode cX10_init 31 = .ok (.aload_n 0, 1) := by decide +kernel
theorem dX10_init_32 : decode cX10_init 32 = .ok (.getfield 10, 3) := by decide +kernel
theorem dX10_init_35 : decode cX10_init 35 = .ok (.invokespecial 25, 3) := by decide +kernel
theorem dX10_init_38 : decode cX10_init 38 = .ok (.putfield 28, 3) := by decide +kernel
theorem dX10_init_41 : decode cX10_init 41 = .ok (.aload_n 0, 1) := by decide +kernel
theorem dX10_init_42 : decode cX10_init 42 = .ok (.new 32, 3) := by decide +kernel
theorem dX10_init_45 : decode cX10_init 45 = .ok (.dup, 1) := by decide +kernel
theorem dX10_init_46 : decode cX10_init 46 = .ok (.aload_n 0, 1) := by decide +kernel
theorem dX10_init_47 : decode cX10_init 47 = .ok (.getfield 10, 3) := by decide +kernel
theorem dX10_init_50 : decode cX10_init 50 = .ok (.invokespecial 34, 3) := by decide +kernel
theorem dX10_init_53 : decode cX10_init 53 = .ok (.putfield 35, 3) := by decide +kernel
theorem dX10_init_56 : decode cX10_init 56 = .ok (.aload_n 0, 1) := by decide +kernel
theorem dX10_init_57 : decode cX10_init 57 = .ok (.new 39, 3) := by decide +kernel
theorem dX10_init_60 : decode cX10_init 60 = .ok (.dup, 1) := by decide +kernel
theorem dX10_init_61 : decode cX10_init 61 = .ok (.invokespecial 41, 3) := by decide +kernel
theorem dX10_init_64 : decode cX10_init 64 = .ok (.putfield 42, 3) := by decide +kernel
theorem dX10_init_67 : decode cX10_init 67 = .ok (.aload_n 0, 1) := by decide +kernel
theorem dX10_init_68 : decode cX10_init 68 = .ok (.iconst 5, 1) := by decide +kernel
theorem dX10_init_69 : decode cX10_init 69 = .ok (.anewarray 46, 3) := by decide +kernel
theorem dX10_init_72 : decode cX10_init 72 = .ok (.putfield 48, 3) := by decide +kernel
theorem dX10_init_75 : decode cX10_init 75 = .ok (.aload_n 0, 1) := by decide +kernel
theorem dX10_init_76 : decode cX10_init 76 = .ok (.new 52, 3) := by decide +kernel
theorem dX10_init_79 : decode cX10_init 79 = .ok (.dup, 1) := by decide +kernel
theorem dX10_init_80 : decode cX10_init 80 = .ok (.aload_n 0, 1) := by decide +kernel
theorem dX10_init_81 : decode cX10_init 81 = .ok (.getfield 35, 3) := by decide +kernel
theorem dX10_init_84 : decode cX10_init 84 = .ok (.invokespecial 54, 3) := by decide +kernel
theorem dX10_init_87 : decode cX10_init 87 = .ok (.putfield 57, 3) := by decide +kernel
theorem dX10_init_90 : decode cX10_init 90 = .ok (.aload_n 0, 1) := by decide +kernel
theorem dX10_init_91 : decode cX10_init 91 = .ok (.new 61, 3) := by decide +kernel
theorem dX10_init_94 : decode cX10_init 94 = .ok (.dup, 1) := by decide +kernel
theorem dX10_init_95 : decode cX10_init 95 = .ok (.aload_n 0, 1) := by decide +kernel
theorem dX10_init_96 : decode cX10_init 96 = .ok (.getfield 35, 3) := by decide +kernel
theorem dX10_init_99 : decode cX10_init 99 = .ok (.invokespecial 63, 3) := by decide +kernel
theorem dX10_init_102 : decode cX10_init 102 = .ok (.putfield 64, 3) := by decide +kernel
theorem dX10_init_105 : decode cX10_init 105 = .ok (.new 68, 3) := by decide +kernel
theorem dX10_init_108 : decode cX10_init 108 = .ok (.dup, 1) := by decide +kernel
theorem dX10_init_109 : decode cX10_init 109 = .ok (.invokespecial 70, 3) := by decide +kernel
theorem dX10_init_112 : decode cX10_init 112 = .ok (.astore_n 1, 1) := by decide +kernel
theorem dX10_init_113 : decode cX10_init 113 = .ok (.iconst 0, 1) := by decide +kernel
theorem dX10_init_114 : decode cX10_init 114 = .ok (.istore_n 2, 1) := by decide +kernel
theorem dX10_init_115 : decode cX10_init 115 = .ok (.iload_n 2, 1) := by decide +kernel
theorem dX10_init_116 : decode cX10_init 116 = .ok (.iconst 5, 1) := by decide +kernel
theorem dX10_init_117 : decode cX10_init 117 = .ok (.if_icmp .ge 32, 3) := by decide +kernel
theorem dX10_init_120 : decode cX10_init 120 = .ok (.aload_n 0, 1) := by decide +kernel
theorem dX10_init_121 : decode cX10_init 121 = .ok (.getfield 48, 3) := by decide +kernel
theorem dX10_init_124 : decode cX10_init 124 = .ok (.iload_n 2, 1) := by decide +kernel
theorem dX10_init_125 : decode cX10_init 125 = .ok (.new 46, 3) := by decide +kernel
theorem dX10_init_128 : decode cX10_init 128 = .ok (.dup, 1) := by decide +kernel
theorem dX10_init_129 : decode cX10_init 129 = .ok (.iload_n 2, 1) := by decide +kernel
theorem dX10_init_130 : decode cX10_init 130 = .ok (.aload_n 0, 1) := by decide +kernel
theorem dX10_init_131 : decode cX10_init 131 = .ok (.getfield 35, 3) := by decide +kernel
theorem dX10_init_134 : decode cX10_init 134 = .ok (.aload_n 0, 1) := by decide +kernel
theorem dX10_init_135 : decode cX10_init 135 = .ok (.getfield 42, 3) := by decide +kernel
theorem dX10_init_138 : decode cX10_init 138 = .ok (.aload_n 1, 1) := by decide +kernel
theorem dX10_init_139 : decode cX10_init 139 = .ok (.invokespecial 71, 3) := by decide +kernel
theorem dX10_init_142 : decode cX10_init 142 = .ok (.aastore, 1) := by decide +kernel
theorem dX10_init_143 : decode cX10_init 143 = .ok (.iinc 2 1, 3) := by decide +kernel
theorem dX10_init_146 : decode cX10_init 146 = .ok (.goto (-31), 3) := by decide +kernel
theorem dX10_init_149 : decode cX10_init 149 = .ok (.return_, 1) := by decide +kernel
theorem dX10_feed_0 : decode cX10_feed 0 = .ok (.aload_n 0, 1) := by decide +kernel
theorem dX10_feed_1 : decode cX10_feed 1 = .ok (.getfield 19, 3) := by decide +kernel
theorem dX10_feed_4 : decode cX10_feed 4 = .ok (.invokevirtual 74, 3) := by decide +kernel
theorem dX10_feed_7 : decode cX10_feed 7 = .ok (.ifCond .ne 5, 3) := by decide +kernel
theorem dX10_feed_10 : decode cX10_feed 10 = .ok (.iconst (-1), 1) := by decide +kernel
theorem dX10_feed_11 : decode cX10_feed 11 = .ok (.ireturn, 1) := by decide +kernel
theorem dX10_feed_12 : decode cX10_feed 12 = .ok (.aload_n 0, 1) := by decide +kernel
theorem dX10_feed_13 : decode cX10_feed 13 = .ok (.getfield 19, 3) := by decide +kernel
theorem dX10_feed_16 : decode cX10_feed 16 = .ok (.iload_n 1, 1) := by decide +kernel
theorem dX10_feed_17 : decode cX10_feed 17 = .ok (.invokevirtual 78, 3) := by decide +kernel
theorem dX10_feed_20 : decode cX10_feed 20 = .ok (.aload_n 0, 1) := by decide +kernel
theorem dX10_feed_21 : decode cX10_feed 21 = .ok (.getfield 19, 3) := by decide +kernel
theorem dX10_feed_24 : decode cX10_feed 24 = .ok (.iload_n 2, 1) := by decide +kernel
theorem dX10_feed_25 : decode cX10_feed 25 = .ok (.invokevirtual 78, 3) := by decide +kernel
theorem dX10_feed_28 : decode cX10_feed 28 = .ok (.aload_n 0, 1) := by decide +kernel
theorem dX10_feed_29 : decode cX10_feed 29 = .ok (.getfield 19, 3) := by decide +kernel
theorem dX10_feed_32 : decode cX10_feed 32 = .ok (.iload_n 3, 1) := by decide +kernel
theorem dX10_feed_33 : decode cX10_feed 33 = .ok (.invokevirtual 78, 3) := by decide +kernel
theorem dX10_feed_36 : decode cX10_feed 36 = .ok (.aload_n 0, 1) := by decide +kernel
theorem dX10_feed_37 : decode cX10_feed 37 = .ok (.getfield 19, 3) := by decide +kernel
theorem dX10_feed_40 : decode cX10_feed 40 = .ok (.iload 4, 2) := by decide +kernel
theorem dX10_feed_42 : decode cX10_feed 42 = .ok (.invokevirtual 78, 3) := by decide +kernel
theorem dX10_feed_45 : decode cX10_feed 45 = .ok (.aload_n 0, 1) := by decide +kernel
theorem dX10_feed_46 : decode cX10_feed 46 = .ok (.getfield 19, 3) := by decide +kernel
theorem dX10_feed_49 : decode cX10_feed 49 = .ok (.iload 5, 2) := by decide +kernel
theorem dX10_feed_51 : decode cX10_feed 51 = .ok (.invokevirtual 78, 3) := by decide +kernel
theorem dX10_feed_54 : decode cX10_feed 54 = .ok (.aload_n 0, 1) := by decide +kernel
theorem dX10_feed_55 : decode cX10_feed 55 = .ok (.getfield 19, 3) := by decide +kernel
theorem dX10_feed_58 : decode cX10_feed 58 = .ok (.getfield 82, 3) := by decide +kernel
theorem dX10_feed_61 : decode cX10_feed 61 = .ok (.ireturn, 1) := by decide +kernel
theorem dX10_machine_0 : decode cX10_machine 0 = .ok (.iload_n 1, 1) := by decide +kernel
theorem dX10_machine_1 : decode cX10_machine 1 = .ok (.ifCond .lt 14, 3) := by decide +kernel
theorem dX10_machine_4 : decode cX10_machine 4 = .ok (.iload_n 1, 1) := by decide +kernel
theorem dX10_machine_5 : decode cX10_machine 5 = .ok (.aload_n 0, 1) := by decide +kernel
theorem dX10_machine_6 : decode cX10_machine 6 = .ok (.getfield 19, 3) := by decide +kernel
theorem dX10_machine_9 : decode cX10_machine 9 = .ok (.getfield 82, 3) := by decide +kernel
theorem dX10_machine_12 : decode cX10_machine 12 = .ok (.if_icmp .le 9, 3) := by decide +kernel
theorem dX10_machine_15 : decode cX10_machine 15 = .ok (.aload_n 0, 1) := by decide +kernel
theorem dX10_machine_16 : decode cX10_machine 16 = .ok (.iconst 2, 1) := by decide +kernel
theorem dX10_machine_17 : decode cX10_machine 17 = .ok (.invokevirtual 86, 3) := by decide +kernel
theorem dX10_machine_20 : decode cX10_machine 20 = .ok (.ireturn, 1) := by decide +kernel
theorem dX10_machine_21 : decode cX10_machine 21 = .ok (.aload_n 0, 1) := by decide +kernel
theorem dX10_machine_22 : decode cX10_machine 22 = .ok (.getfield 19, 3) := by decide +kernel
theorem dX10_machine_25 : decode cX10_machine 25 = .ok (.iload_n 1, 1) := by decide +kernel
theorem dX10_machine_26 : decode cX10_machine 26 = .ok (.invokevirtual 90, 3) := by decide +kernel
theorem dX10_machine_29 : decode cX10_machine 29 = .ok (.istore_n 2, 1) := by decide +kernel
theorem dX10_machine_30 : decode cX10_machine 30 = .ok (.aload_n 0, 1) := by decide +kernel
theorem dX10_machine_31 : decode cX10_machine 31 = .ok (.getfield 19, 3) := by decide +kernel
theorem dX10_machine_34 : decode cX10_machine 34 = .ok (.iconst 0, 1) := by decide +kernel
theorem dX10_machine_35 : decode cX10_machine 35 = .ok (.putfield 82, 3) := by decide +kernel
theorem dX10_machine_38 : decode cX10_machine 38 = .ok (.aload_n 0, 1) := by decide +kernel
theorem dX10_machine_39 : decode cX10_machine 39 = .ok (.aload_n 0, 1) := by decide +kernel
theorem dX10_machine_40 : decode cX10_machine 40 = .ok (.getfield 19, 3) := by decide +kernel
theorem dX10_machine_43 : decode cX10_machine 43 = .ok (.getfield 94, 3) := by decide +kernel
theorem dX10_machine_46 : decode cX10_machine 46 = .ok (.putfield 97, 3) := by decide +kernel
theorem dX10_machine_49 : decode cX10_machine 49 = .ok (.iload_n 2, 1) := by decide +kernel
theorem dX10_machine_50 : decode cX10_machine 50 = .ok (.ifCond .ne 9, 3) := by decide +kernel
theorem dX10_machine_53 : decode cX10_machine 53 = .ok (.aload_n 0, 1) := by decide +kernel
theorem dX10_machine_54 : decode cX10_machine 54 = .ok (.iconst 4, 1) := by decide +kernel
theorem dX10_machine_55 : decode cX10_machine 55 = .ok (.invokevirtual 86, 3) := by decide +kernel
theorem dX10_machine_58 : decode cX10_machine 58 = .ok (.ireturn, 1) := by decide +kernel
theorem dX10_machine_59 : decode cX10_machine 59 = .ok (.aload_n 0, 1) := by decide +kernel
theorem dX10_machine_60 : decode cX10_machine 60 = .ok (.getfield 10, 3) := by decide +kernel
theorem dX10_machine_63 : decode cX10_machine 63 = .ok (.aload_n 0, 1) := by decide +kernel
theorem dX10_machine_64 : decode cX10_machine 64 = .ok (.getfield 19, 3) := by decide +kernel
theorem dX10_machine_67 : decode cX10_machine 67 = .ok (.getfield 100, 3) := by decide +kernel
theorem dX10_machine_70 : decode cX10_machine 70 = .ok (.invokevirtual 103, 3) := by decide +kernel
theorem dX10_machine_73 : decode cX10_machine 73 = .ok (.aload_n 0, 1) := by decide +kernel
theorem dX10_machine_74 : decode cX10_machine 74 = .ok (.getfield 28, 3) := by decide +kernel
theorem dX10_machine_77 : decode cX10_machine 77 = .ok (.iconst 0, 1) := by decide +kernel
theorem dX10_machine_78 : decode cX10_machine 78 = .ok (.putfield 106, 3) := by decide +kernel
theorem dX10_machine_81 : decode cX10_machine 81 = .ok (.aload_n 0, 1) := by decide +kernel
theorem dX10_machine_82 : decode cX10_machine 82 = .ok (.invokevirtual 109, 3) := by decide +kernel
theorem dX10_machine_85 : decode cX10_machine 85 = .ok (.aload_n 0, 1) := by decide +kernel
theorem dX10_machine_86 : decode cX10_machine 86 = .ok (.aload_n 0, 1) := by decide +kernel
theorem dX10_machine_87 : decode cX10_machine 87 = .ok (.getfield 10, 3) := by decide +kernel
theorem dX10_machine_90 : decode cX10_machine 90 = .ok (.getfield 112, 3) := by decide +kernel
theorem dX10_machine_93 : decode cX10_machine 93 = .ok (.invokevirtual 115, 3) := by decide +kernel
theorem dX10_machine_96 : decode cX10_machine 96 = .ok (.ireturn, 1) := by decide +kernel
theorem dX10_fault_0 : decode cX10_fault 0 = .ok (.aload_n 0, 1) := by decide +kernel
theorem dX10_fault_1 : decode cX10_fault 1 = .ok (.getfield 97, 3) := by decide +kernel
theorem dX10_fault_4 : decode cX10_fault 4 = .ok (.ireturn, 1) := by decide +kernel
theorem dX10_where_0 : decode cX10_where 0 = .ok (.aload_n 0, 1) := by decide +kernel
theorem dX10_where_1 : decode cX10_where 1 = .ok (.getfield 118, 3) := by decide +kernel
theorem dX10_where_4 : decode cX10_where 4 = .ok (.iconst 4, 1) := by decide +kernel
theorem dX10_where_5 : decode cX10_where 5 = .ok (.if_icmp .ne 13, 3) := by decide +kernel
theorem dX10_where_8 : decode cX10_where 8 = .ok (.aload_n 0, 1) := by decide +kernel
theorem dX10_where_9 : decode cX10_where 9 = .ok (.getfield 19, 3) := by decide +kernel
theorem dX10_where_12 : decode cX10_where 12 = .ok (.getfield 121, 3) := by decide +kernel
theorem dX10_where_15 : decode cX10_where 15 = .ok (.goto 4, 3) := by decide +kernel
theorem dX10_where_18 : decode cX10_where 18 = .ok (.iconst (-1), 1) := by decide +kernel
theorem dX10_where_19 : decode cX10_where 19 = .ok (.ireturn, 1) := by decide +kernel
theorem dX10_bad_0 : decode cX10_bad 0 = .ok (.aload_n 0, 1) := by decide +kernel
theorem dX10_bad_1 : decode cX10_bad 1 = .ok (.getfield 10, 3) := by decide +kernel
theorem dX10_bad_4 : decode cX10_bad 4 = .ok (.getfield 124, 3) := by decide +kernel
theorem dX10_bad_7 : decode cX10_bad 7 = .ok (.ifCond .eq 17, 3) := by decide +kernel
theorem dX10_bad_10 : decode cX10_bad 10 = .ok (.aload_n 0, 1) := by decide +kernel
theorem dX10_bad_11 : decode cX10_bad 11 = .ok (.aload_n 0, 1) := by decide +kernel
theorem dX10_bad_12 : decode cX10_bad 12 = .ok (.getfield 35, 3) := by decide +kernel
theorem dX10_bad_15 : decode cX10_bad 15 = .ok (.getfield 127, 3) := by decide +kernel
theorem dX10_bad_18 : decode cX10_bad 18 = .ok (.invokevirtual 115, 3) := by decide +kernel
theorem dX10_bad_21 : decode cX10_bad 21 = .ok (.goto 8, 3) := by decide +kernel
theorem dX10_bad_24 : decode cX10_bad 24 = .ok (.aload_n 0, 1) := by decide +kernel
theorem dX10_bad_25 : decode cX10_bad 25 = .ok (.iconst 1, 1) := by decide +kernel
theorem dX10_bad_26 : decode cX10_bad 26 = .ok (.invokevirtual 86, 3) := by decide +kernel
theorem dX10_bad_29 : decode cX10_bad 29 = .ok (.ireturn, 1) := by decide +kernel
theorem dX10_badAt_0 : decode cX10_badAt 0 = .ok (.aload_n 0, 1) := by decide +kernel
theorem dX10_badAt_1 : decode cX10_badAt 1 = .ok (.getfield 10, 3) := by decide +kernel
theorem dX10_badAt_4 : decode cX10_badAt 4 = .ok (.getfield 124, 3) := by decide +kernel
theorem dX10_badAt_7 : decode cX10_badAt 7 = .ok (.ifCond .eq 17, 3) := by decide +kernel
theorem dX10_badAt_10 : decode cX10_badAt 10 = .ok (.aload_n 0, 1) := by decide +kernel
theorem dX10_badAt_11 : decode cX10_badAt 11 = .ok (.aload_n 0, 1) := by decide +kernel
theorem dX10_badAt_12 : decode cX10_badAt 12 = .ok (.getfield 35, 3) := by decide +kernel
theorem dX10_badAt_15 : decode cX10_badAt 15 = .ok (.getfield 130, 3) := by decide +kernel
theorem dX10_badAt_18 : decode cX10_badAt 18 = .ok (.invokevirtual 115, 3) := by decide +kernel
theorem dX10_badAt_21 : decode cX10_badAt 21 = .ok (.goto 8, 3) := by decide +kernel
theorem dX10_badAt_24 : decode cX10_badAt 24 = .ok (.aload_n 0, 1) := by decide +kernel
theorem dX10_badAt_25 : decode cX10_badAt 25 = .ok (.iconst 1, 1) := by decide +kernel
theorem dX10_badAt_26 : decode cX10_badAt 26 = .ok (.invokevirtual 86, 3) := by decide +kernel
theorem dX10_badAt_29 : decode cX10_badAt 29 = .ok (.ireturn, 1) := by decide +kernel
theorem dX10_state_0 : decode cX10_state 0 = .ok (.iload_n 1, 1) := by decide +kernel
theorem dX10_state_1 : decode cX10_state 1 = .ok (.ifCond .lt 23, 3) := by decide +kernel
theorem dX10_state_4 : decode cX10_state 4 = .ok (.iload_n 1, 1) := by decide +kernel
theorem dX10_state_5 : decode cX10_state 5 = .ok (.aload_n 0, 1) := by decide +kernel
theorem dX10_state_6 : decode cX10_state 6 = .ok (.getfield 10, 3) := by decide +kernel
theorem dX10_state_9 : decode cX10_state 9 = .ok (.getfield 133, 3) := by decide +kernel
theorem dX10_state_12 : decode cX10_state 12 = .ok (.if_icmp .ge 12, 3) := by decide +kernel
theorem dX10_state_15 : decode cX10_state 15 = .ok (.iload_n 2, 1) := by decide +kernel
theorem dX10_state_16 : decode cX10_state 16 = .ok (.ifCond .lt 8, 3) := by decide +kernel
theorem dX10_state_19 : decode cX10_state 19 = .ok (.iload_n 2, 1) := by decide +kernel
theorem dX10_state_20 : decode cX10_state 20 = .ok (.iconst 2, 1) := by decide +kernel
theorem dX10_state_21 : decode cX10_state 21 = .ok (.if_icmp .le 9, 3) := by decide +kernel
theorem dX10_state_24 : decode cX10_state 24 = .ok (.aload_n 0, 1) := by decide +kernel
theorem dX10_state_25 : decode cX10_state 25 = .ok (.iconst 1, 1) := by decide +kernel
theorem dX10_state_26 : decode cX10_state 26 = .ok (.invokevirtual 86, 3) := by decide +kernel
theorem dX10_state_29 : decode cX10_state 29 = .ok (.ireturn, 1) := by decide +kernel
theorem dX10_state_30 : decode cX10_state 30 = .ok (.iload_n 2, 1) := by decide +kernel
theorem dX10_state_31 : decode cX10_state 31 = .ok (.ifCond .ne 19, 3) := by decide +kernel
theorem dX10_state_34 : decode cX10_state 34 = .ok (.aload_n 0, 1) := by decide +kernel
theorem dX10_state_35 : decode cX10_state 35 = .ok (.aload_n 0, 1) := by decide +kernel
theorem dX10_state_36 : decode cX10_state 36 = .ok (.getfield 10, 3) := by decide +kernel
theorem dX10_state_39 : decode cX10_state 39 = .ok (.getfield 136, 3) := by decide +kernel
theorem dX10_state_42 : decode cX10_state 42 = .ok (.iload_n 1, 1) := by decide +kernel
theorem dX10_state_43 : decode cX10_state 43 = .ok (.invokestatic 140, 3) := by decide +kernel
theorem dX10_state_46 : decode cX10_state 46 = .ok (.invokevirtual 115, 3) := by decide +kernel
theorem dX10_state_49 : decode cX10_state 49 = .ok (.ireturn, 1) := by decide +kernel
theorem dX10_state_50 : decode cX10_state 50 = .ok (.aload_n 0, 1) := by decide +kernel
theorem dX10_state_51 : decode cX10_state 51 = .ok (.getfield 35, 3) := by decide +kernel
theorem dX10_state_54 : decode cX10_state 54 = .ok (.iload_n 1, 1) := by decide +kernel
theorem dX10_state_55 : decode cX10_state 55 = .ok (.invokevirtual 144, 3) := by decide +kernel
theorem dX10_state_58 : decode cX10_state 58 = .ok (.ifCond .ne 10, 3) := by decide +kernel
theorem dX10_state_61 : decode cX10_state 61 = .ok (.aload_n 0, 1) := by decide +kernel
theorem dX10_state_62 : decode cX10_state 62 = .ok (.bipush (-2), 2) := by decide +kernel
theorem dX10_state_64 : decode cX10_state 64 = .ok (.invokevirtual 115, 3) := by decide +kernel
theorem dX10_state_67 : decode cX10_state 67 = .ok (.ireturn, 1) := by decide +kernel
theorem dX10_state_68 : decode cX10_state 68 = .ok (.aload_n 0, 1) := by decide +kernel
theorem dX10_state_69 : decode cX10_state 69 = .ok (.iload_n 2, 1) := by decide +kernel
theorem dX10_state_70 : decode cX10_state 70 = .ok (.iconst 1, 1) := by decide +kernel
theorem dX10_state_71 : decode cX10_state 71 = .ok (.if_icmp .ne 13, 3) := by decide +kernel
theorem dX10_state_74 : decode cX10_state 74 = .ok (.aload_n 0, 1) := by decide +kernel
theorem dX10_state_75 : decode cX10_state 75 = .ok (.getfield 35, 3) := by decide +kernel
theorem dX10_state_78 : decode cX10_state 78 = .ok (.getfield 147, 3) := by decide +kernel
theorem dX10_state_81 : decode cX10_state 81 = .ok (.goto 10, 3) := by decide +kernel
theorem dX10_state_84 : decode cX10_state 84 = .ok (.aload_n 0, 1) := by decide +kernel
theorem dX10_state_85 : decode cX10_state 85 = .ok (.getfield 35, 3) := by decide +kernel
theorem dX10_state_88 : decode cX10_state 88 = .ok (.getfield 150, 3) := by decide +kernel
theorem dX10_state_91 : decode cX10_state 91 = .ok (.iload_n 1, 1) := by decide +kernel
theorem dX10_state_92 : decode cX10_state 92 = .ok (.invokestatic 140, 3) := by decide +kernel
theorem dX10_state_95 : decode cX10_state 95 = .ok (.invokevirtual 115, 3) := by decide +kernel
theorem dX10_state_98 : decode cX10_state 98 = .ok (.ireturn, 1) := by decide +kernel
theorem dX10_arc_0 : decode cX10_arc 0 = .ok (.aload_n 0, 1) := by decide +kernel
theorem dX10_arc_1 : decode cX10_arc 1 = .ok (.iload_n 1, 1) := by decide +kernel
theorem dX10_arc_2 : decode cX10_arc 2 = .ok (.invokevirtual 153, 3) := by decide +kernel
theorem dX10_arc_5 : decode cX10_arc 5 = .ok (.ifCond .eq 13, 3) := by decide +kernel
theorem dX10_arc_8 : decode cX10_arc 8 = .ok (.iload_n 2, 1) := by decide +kernel
theorem dX10_arc_9 : decode cX10_arc 9 = .ok (.ifCond .lt 9, 3) := by decide +kernel
theorem dX10_arc_12 : decode cX10_arc 12 = .ok (.iload_n 2, 1) := by decide +kernel
theorem dX10_arc_13 : decode cX10_arc 13 = .ok (.bipush 6, 2) := by decide +kernel
theorem dX10_arc_15 : decode cX10_arc 15 = .ok (.if_icmp .le 9, 3) := by decide +kernel
theorem dX10_arc_18 : decode cX10_arc 18 = .ok (.aload_n 0, 1) := by decide +kernel
theorem dX10_arc_19 : decode cX10_arc 19 = .ok (.iconst 1, 1) := by decide +kernel
theorem dX10_arc_20 : decode cX10_arc 20 = .ok (.invokevirtual 86, 3) := by decide +kernel
theorem dX10_arc_23 : decode cX10_arc 23 = .ok (.ireturn, 1) := by decide +kernel
theorem dX10_arc_24 : decode cX10_arc 24 = .ok (.iload_n 2, 1) := by decide +kernel
theorem dX10_arc_25 : decode cX10_arc 25 = .ok (.bipush 6, 2) := by decide +kernel
theorem dX10_arc_27 : decode cX10_arc 27 = .ok (.if_icmp .ne 24, 3) := by decide +kernel
theorem dX10_arc_30 : decode cX10_arc 30 = .ok (.aload_n 0, 1) := by decide +kernel
theorem dX10_arc_31 : decode cX10_arc 31 = .ok (.aload_n 0, 1) := by decide +kernel
theorem dX10_arc_32 : decode cX10_arc 32 = .ok (.getfield 35, 3) := by decide +kernel
theorem dX10_arc_35 : decode cX10_arc 35 = .ok (.iload_n 1, 1) := by decide +kernel
theorem dX10_arc_36 : decode cX10_arc 36 = .ok (.invokevirtual 156, 3) := by decide +kernel
theorem dX10_arc_39 : decode cX10_arc 39 = .ok (.ifCond .eq 7, 3) := by decide +kernel
theorem dX10_arc_42 : decode cX10_arc 42 = .ok (.iconst 1, 1) := by decide +kernel
theorem dX10_arc_43 : decode cX10_arc 43 = .ok (.goto 4, 3) := by decide +kernel
theorem dX10_arc_46 : decode cX10_arc 46 = .ok (.iconst 0, 1) := by decide +kernel
theorem dX10_arc_47 : decode cX10_arc 47 = .ok (.invokevirtual 115, 3) := by decide +kernel
theorem dX10_arc_50 : decode cX10_arc 50 = .ok (.ireturn, 1) := by decide +kernel
theorem dX10_arc_51 : decode cX10_arc 51 = .ok (.aload_n 0, 1) := by decide +kernel
theorem dX10_arc_52 : decode cX10_arc 52 = .ok (.aload_n 0, 1) := by decide +kernel
theorem dX10_arc_53 : decode cX10_arc 53 = .ok (.getfield 10, 3) := by decide +kernel
theorem dX10_arc_56 : decode cX10_arc 56 = .ok (.iload_n 1, 1) := by decide +kernel
theorem dX10_arc_57 : decode cX10_arc 57 = .ok (.iload_n 2, 1) := by decide +kernel
theorem dX10_arc_58 : decode cX10_arc 58 = .ok (.invokevirtual 159, 3) := by decide +kernel
theorem dX10_arc_61 : decode cX10_arc 61 = .ok (.invokevirtual 115, 3) := by decide +kernel
theorem dX10_arc_64 : decode cX10_arc 64 = .ok (.ireturn, 1) := by decide +kernel
theorem dX10_gate_0 : decode cX10_gate 0 = .ok (.iload_n 1, 1) := by decide +kernel
theorem dX10_gate_1 : decode cX10_gate 1 = .ok (.ifCond .lt 23, 3) := by decide +kernel
theorem dX10_gate_4 : decode cX10_gate 4 = .ok (.iload_n 1, 1) := by decide +kernel
theorem dX10_gate_5 : decode cX10_gate 5 = .ok (.aload_n 0, 1) := by decide +kernel
theorem dX10_gate_6 : decode cX10_gate 6 = .ok (.getfield 10, 3) := by decide +kernel
theorem dX10_gate_9 : decode cX10_gate 9 = .ok (.getfield 163, 3) := by decide +kernel
theorem dX10_gate_12 : decode cX10_gate 12 = .ok (.if_icmp .ge 12, 3) := by decide +kernel
theorem dX10_gate_15 : decode cX10_gate 15 = .ok (.iload_n 2, 1) := by decide +kernel
theorem dX10_gate_16 : decode cX10_gate 16 = .ok (.ifCond .lt 8, 3) := by decide +kernel
theorem dX10_gate_19 : decode cX10_gate 19 = .ok (.iload_n 2, 1) := by decide +kernel
theorem dX10_gate_20 : decode cX10_gate 20 = .ok (.iconst 1, 1) := by decide +kernel
theorem dX10_gate_21 : decode cX10_gate 21 = .ok (.if_icmp .le 9, 3) := by decide +kernel
theorem dX10_gate_24 : decode cX10_gate 24 = .ok (.aload_n 0, 1) := by decide +kernel
theorem dX10_gate_25 : decode cX10_gate 25 = .ok (.iconst 1, 1) := by decide +kernel
theorem dX10_gate_26 : decode cX10_gate 26 = .ok (.invokevirtual 86, 3) := by decide +kernel
theorem dX10_gate_29 : decode cX10_gate 29 = .ok (.ireturn, 1) := by decide +kernel
theorem dX10_gate_30 : decode cX10_gate 30 = .ok (.aload_n 0, 1) := by decide +kernel
theorem dX10_gate_31 : decode cX10_gate 31 = .ok (.iload_n 2, 1) := by decide +kernel
theorem dX10_gate_32 : decode cX10_gate 32 = .ok (.ifCond .ne 13, 3) := by decide +kernel
theorem dX10_gate_35 : decode cX10_gate 35 = .ok (.aload_n 0, 1) := by decide +kernel
theorem dX10_gate_36 : decode cX10_gate 36 = .ok (.getfield 10, 3) := by decide +kernel
theorem dX10_gate_39 : decode cX10_gate 39 = .ok (.getfield 166, 3) := by decide +kernel
theorem dX10_gate_42 : decode cX10_gate 42 = .ok (.goto 10, 3) := by decide +kernel
theorem dX10_gate_45 : decode cX10_gate 45 = .ok (.aload_n 0, 1) := by decide +kernel
theorem dX10_gate_46 : decode cX10_gate 46 = .ok (.getfield 10, 3) := by decide +kernel
theorem dX10_gate_49 : decode cX10_gate 49 = .ok (.getfield 169, 3) := by decide +kernel
theorem dX10_gate_52 : decode cX10_gate 52 = .ok (.iload_n 1, 1) := by decide +kernel
theorem dX10_gate_53 : decode cX10_gate 53 = .ok (.invokestatic 140, 3) := by decide +kernel
theorem dX10_gate_56 : decode cX10_gate 56 = .ok (.invokevirtual 115, 3) := by decide +kernel
theorem dX10_gate_59 : decode cX10_gate 59 = .ok (.ireturn, 1) := by decide +kernel
theorem dX10_at_0 : decode cX10_at 0 = .ok (.aload_n 0, 1) := by decide +kernel
theorem dX10_at_1 : decode cX10_at 1 = .ok (.iload_n 1, 1) := by decide +kernel
theorem dX10_at_2 : decode cX10_at 2 = .ok (.invokevirtual 172, 3) := by decide +kernel
theorem dX10_at_5 : decode cX10_at 5 = .ok (.istore_n 3, 1) := by decide +kernel
theorem dX10_at_6 : decode cX10_at 6 = .ok (.iload_n 3, 1) := by decide +kernel
theorem dX10_at_7 : decode cX10_at 7 = .ok (.ifCond .ne 15, 3) := by decide +kernel
theorem dX10_at_10 : decode cX10_at 10 = .ok (.iload_n 2, 1) := by decide +kernel
theorem dX10_at_11 : decode cX10_at 11 = .ok (.ifCond .lt 9, 3) := by decide +kernel
theorem dX10_at_14 : decode cX10_at 14 = .ok (.iload_n 2, 1) := by decide +kernel
theorem dX10_at_15 : decode cX10_at 15 = .ok (.bipush 64, 2) := by decide +kernel
theorem dX10_at_17 : decode cX10_at 17 = .ok (.if_icmp .lt 5, 3) := by decide +kernel
theorem dX10_at_20 : decode cX10_at 20 = .ok (.iconst 2, 1) := by decide +kernel
theorem dX10_at_21 : decode cX10_at 21 = .ok (.istore_n 3, 1) := by decide +kernel
theorem dX10_at_22 : decode cX10_at 22 = .ok (.iload_n 3, 1) := by decide +kernel
theorem dX10_at_23 : decode cX10_at 23 = .ok (.ifCond .eq 9, 3) := by decide +kernel
theorem dX10_at_26 : decode cX10_at 26 = .ok (.aload_n 0, 1) := by decide +kernel
theorem dX10_at_27 : decode cX10_at 27 = .ok (.iload_n 3, 1) := by decide +kernel
theorem dX10_at_28 : decode cX10_at 28 = .ok (.invokevirtual 86, 3) := by decide +kernel
theorem dX10_at_31 : decode cX10_at 31 = .ok (.ireturn, 1) := by decide +kernel
theorem dX10_at_32 : decode cX10_at 32 = .ok (.aload_n 0, 1) := by decide +kernel
theorem dX10_at_33 : decode cX10_at 33 = .ok (.getfield 35, 3) := by decide +kernel
theorem dX10_at_36 : decode cX10_at 36 = .ok (.getfield 175, 3) := by decide +kernel
theorem dX10_at_39 : decode cX10_at 39 = .ok (.iload_n 1, 1) := by decide +kernel
theorem dX10_at_40 : decode cX10_at 40 = .ok (.invokevirtual 179, 3) := by decide +kernel
theorem dX10_at_43 : decode cX10_at 43 = .ok (.iload_n 2, 1) := by decide +kernel
theorem dX10_at_44 : decode cX10_at 44 = .ok (.lushr, 1) := by decide +kernel
theorem dX10_at_45 : decode cX10_at 45 = .ok (.lconst 1, 1) := by decide +kernel
theorem dX10_at_46 : decode cX10_at 46 = .ok (.land, 1) := by decide +kernel
theorem dX10_at_47 : decode cX10_at 47 = .ok (.lconst 0, 1) := by decide +kernel
theorem dX10_at_48 : decode cX10_at 48 = .ok (.lcmp, 1) := by decide +kernel
theorem dX10_at_49 : decode cX10_at 49 = .ok (.ifCond .eq 9, 3) := by decide +kernel
theorem dX10_at_52 : decode cX10_at 52 = .ok (.aload_n 0, 1) := by decide +kernel
theorem dX10_at_53 : decode cX10_at 53 = .ok (.iconst 0, 1) := by decide +kernel
theorem dX10_at_54 : decode cX10_at 54 = .ok (.invokevirtual 115, 3) := by decide +kernel
theorem dX10_at_57 : decode cX10_at 57 = .ok (.ireturn, 1) := by decide +kernel
theorem dX10_at_58 : decode cX10_at 58 = .ok (.aload_n 0, 1) := by decide +kernel
theorem dX10_at_59 : decode cX10_at 59 = .ok (.aload_n 0, 1) := by decide +kernel
theorem dX10_at_60 : decode cX10_at 60 = .ok (.getfield 35, 3) := by decide +kernel
theorem dX10_at_63 : decode cX10_at 63 = .ok (.getfield 175, 3) := by decide +kernel
theorem dX10_at_66 : decode cX10_at 66 = .ok (.iload_n 1, 1) := by decide +kernel
theorem dX10_at_67 : decode cX10_at 67 = .ok (.invokevirtual 185, 3) := by decide +kernel
theorem dX10_at_70 : decode cX10_at 70 = .ok (.iload_n 2, 1) := by decide +kernel
theorem dX10_at_71 : decode cX10_at 71 = .ok (.lushr, 1) := by decide +kernel
theorem dX10_at_72 : decode cX10_at 72 = .ok (.lconst 1, 1) := by decide +kernel
theorem dX10_at_73 : decode cX10_at 73 = .ok (.land, 1) := by decide +kernel
theorem dX10_at_74 : decode cX10_at 74 = .ok (.lconst 0, 1) := by decide +kernel
theorem dX10_at_75 : decode cX10_at 75 = .ok (.lcmp, 1) := by decide +kernel
theorem dX10_at_76 : decode cX10_at 76 = .ok (.ifCond .eq 7, 3) := by decide +kernel
theorem dX10_at_79 : decode cX10_at 79 = .ok (.iconst 1, 1) := by decide +kernel
theorem dX10_at_80 : decode cX10_at 80 = .ok (.goto 4, 3) := by decide +kernel
theorem dX10_at_83 : decode cX10_at 83 = .ok (.iconst 2, 1) := by decide +kernel
theorem dX10_at_84 : decode cX10_at 84 = .ok (.invokevirtual 115, 3) := by decide +kernel
theorem dX10_at_87 : decode cX10_at 87 = .ok (.ireturn, 1) := by decide +kernel
theorem dX10_points_0 : decode cX10_points 0 = .ok (.aload_n 0, 1) := by decide +kernel
theorem dX10_points_1 : decode cX10_points 1 = .ok (.iload_n 1, 1) := by decide +kernel
theorem dX10_points_2 : decode cX10_points 2 = .ok (.invokevirtual 172, 3) := by decide +kernel
theorem dX10_points_5 : decode cX10_points 5 = .ok (.istore_n 3, 1) := by decide +kernel
theorem dX10_points_6 : decode cX10_points 6 = .ok (.iload_n 3, 1) := by decide +kernel
theorem dX10_points_7 : decode cX10_points 7 = .ok (.ifCond .ne 14, 3) := by decide +kernel
theorem dX10_points_10 : decode cX10_points 10 = .ok (.iload_n 2, 1) := by decide +kernel
theorem dX10_points_11 : decode cX10_points 11 = .ok (.ifCond .lt 8, 3) := by decide +kernel
theorem dX10_points_14 : decode cX10_points 14 = .ok (.iload_n 2, 1) := by decide +kernel
theorem dX10_points_15 : decode cX10_points 15 = .ok (.iconst 2, 1) := by decide +kernel
theorem dX10_points_16 : decode cX10_points 16 = .ok (.if_icmp .le 5, 3) := by decide +kernel
theorem dX10_points_19 : decode cX10_points 19 = .ok (.iconst 2, 1) := by decide +kernel
theorem dX10_points_20 : decode cX10_points 20 = .ok (.istore_n 3, 1) := by decide +kernel
theorem dX10_points_21 : decode cX10_points 21 = .ok (.iload_n 3, 1) := by decide +kernel
theorem dX10_points_22 : decode cX10_points 22 = .ok (.ifCond .eq 9, 3) := by decide +kernel
theorem dX10_points_25 : decode cX10_points 25 = .ok (.aload_n 0, 1) := by decide +kernel
theorem dX10_points_26 : decode cX10_points 26 = .ok (.iload_n 3, 1) := by decide +kernel
theorem dX10_points_27 : decode cX10_points 27 = .ok (.invokevirtual 86, 3) := by decide +kernel
theorem dX10_points_30 : decode cX10_points 30 = .ok (.ireturn, 1) := by decide +kernel
theorem dX10_points_31 : decode cX10_points 31 = .ok (.aload_n 0, 1) := by decide +kernel
theorem dX10_points_32 : decode cX10_points 32 = .ok (.getfield 35, 3) := by decide +kernel
theorem dX10_points_35 : decode cX10_points 35 = .ok (.getfield 175, 3) := by decide +kernel
theorem dX10_points_38 : decode cX10_points 38 = .ok (.iload_n 1, 1) := by decide +kernel
theorem dX10_points_39 : decode cX10_points 39 = .ok (.invokevirtual 179, 3) := by decide +kernel
theorem dX10_points_42 : decode cX10_points 42 = .ok (.invokestatic 188, 3) := by decide +kernel
theorem dX10_points_45 : decode cX10_points 45 = .ok (.istore 4, 2) := by decide +kernel
theorem dX10_points_47 : decode cX10_points 47 = .ok (.aload_n 0, 1) := by decide +kernel
theorem dX10_points_48 : decode cX10_points 48 = .ok (.getfield 35, 3) := by decide +kernel
theorem dX10_points_51 : decode cX10_points 51 = .ok (.getfield 175, 3) := by decide +kernel
theorem dX10_points_54 : decode cX10_points 54 = .ok (.iload_n 1, 1) := by decide +kernel
theorem dX10_points_55 : decode cX10_points 55 = .ok (.invokevirtual 185, 3) := by decide +kernel
theorem dX10_points_58 : decode cX10_points 58 = .ok (.invokestatic 188, 3) := by decide +kernel
theorem dX10_points_61 : decode cX10_points 61 = .ok (.istore 5, 2) := by decide +kernel
theorem dX10_points_63 : decode cX10_points 63 = .ok (.iload_n 2, 1) := by decide +kernel
theorem dX10_points_64 : decode cX10_points 64 = .ok (.iconst 2, 1) := by decide +kernel
theorem dX10_points_65 : decode cX10_points 65 = .ok (.if_icmp .ne 16, 3) := by decide +kernel
theorem dX10_points_68 : decode cX10_points 68 = .ok (.aload_n 0, 1) := by decide +kernel
theorem dX10_points_69 : decode cX10_points 69 = .ok (.bipush 64, 2) := by decide +kernel
theorem dX10_points_71 : decode cX10_points 71 = .ok (.iload 4, 2) := by decide +kernel
theorem dX10_points_73 : decode cX10_points 73 = .ok (.isub, 1) := by decide +kernel
theorem dX10_points_74 : decode cX10_points 74 = .ok (.iload 5, 2) := by decide +kernel
theorem dX10_points_76 : decode cX10_points 76 = .ok (.isub, 1) := by decide +kernel
theorem dX10_points_77 : decode cX10_points 77 = .ok (.invokevirtual 115, 3) := by decide +kernel
theorem dX10_points_80 : decode cX10_points 80 = .ok (.ireturn, 1) := by decide +kernel
theorem dX10_points_81 : decode cX10_points 81 = .ok (.aload_n 0, 1) := by decide +kernel
theorem dX10_points_82 : decode cX10_points 82 = .ok (.iload_n 2, 1) := by decide +kernel
theorem dX10_points_83 : decode cX10_points 83 = .ok (.iconst 1, 1) := by decide +kernel
theorem dX10_points_84 : decode cX10_points 84 = .ok (.if_icmp .ne 8, 3) := by decide +kernel
theorem dX10_points_87 : decode cX10_points 87 = .ok (.iload 5, 2) := by decide +kernel
theorem dX10_points_89 : decode cX10_points 89 = .ok (.goto 5, 3) := by decide +kernel
theorem dX10_points_92 : decode cX10_points 92 = .ok (.iload 4, 2) := by decide +kernel
theorem dX10_points_94 : decode cX10_points 94 = .ok (.invokevirtual 115, 3) := by decide +kernel
theorem dX10_points_97 : decode cX10_points 97 = .ok (.ireturn, 1) := by decide +kernel
theorem dX10_required_0 : decode cX10_required 0 = .ok (.aload_n 0, 1) := by decide +kernel
theorem dX10_required_1 : decode cX10_required 1 = .ok (.iload_n 1, 1) := by decide +kernel
theorem dX10_required_2 : decode cX10_required 2 = .ok (.invokevirtual 172, 3) := by decide +kernel
theorem dX10_required_5 : decode cX10_required 5 = .ok (.istore_n 2, 1) := by decide +kernel
theorem dX10_required_6 : decode cX10_required 6 = .ok (.iload_n 2, 1) := by decide +kernel
theorem dX10_required_7 : decode cX10_required 7 = .ok (.ifCond .ne 18, 3) := by decide +kernel
theorem dX10_required_10 : decode cX10_required 10 = .ok (.aload_n 0, 1) := by decide +kernel
theorem dX10_required_11 : decode cX10_required 11 = .ok (.aload_n 0, 1) := by decide +kernel
theorem dX10_required_12 : decode cX10_required 12 = .ok (.iload_n 1, 1) := by decide +kernel
theorem dX10_required_13 : decode cX10_required 13 = .ok (.invokevirtual 194, 3) := by decide +kernel
theorem dX10_required_16 : decode cX10_required 16 = .ok (.getfield 198, 3) := by decide +kernel
theorem dX10_required_19 : decode cX10_required 19 = .ok (.invokevirtual 115, 3) := by decide +kernel
theorem dX10_required_22 : decode cX10_required 22 = .ok (.goto 8, 3) := by decide +kernel
theorem dX10_required_25 : decode cX10_required 25 = .ok (.aload_n 0, 1) := by decide +kernel
theorem dX10_required_26 : decode cX10_required 26 = .ok (.iload_n 2, 1) := by decide +kernel
theorem dX10_required_27 : decode cX10_required 27 = .ok (.invokevirtual 86, 3) := by decide +kernel
theorem dX10_required_30 : decode cX10_required 30 = .ok (.ireturn, 1) := by decide +kernel
theorem dX10_requiredCube_0 : decode cX10_requiredCube 0 = .ok (.aload_n 0, 1) := by decide +kernel
theorem dX10_requiredCube_1 : decode cX10_requiredCube 1 = .ok (.iload_n 1, 1) := by decide +kernel
theorem dX10_requiredCube_2 : decode cX10_requiredCube 2 = .ok (.invokevirtual 172, 3) := by decide +kernel
theorem dX10_requiredCube_5 : decode cX10_requiredCube 5 = .ok (.istore_n 3, 1) := by decide +kernel
theorem dX10_requiredCube_6 : decode cX10_requiredCube 6 = .ok (.iload_n 3, 1) := by decide +kernel
theorem dX10_requiredCube_7 : decode cX10_requiredCube 7 = .ok (.ifCond .ne 21, 3) := by decide +kernel
theorem dX10_requiredCube_10 : decode cX10_requiredCube 10 = .ok (.iload_n 2, 1) := by decide +kernel
theorem dX10_requiredCube_11 : decode cX10_requiredCube 11 = .ok (.ifCond .lt 15, 3) := by decide +kernel
theorem dX10_requiredCube_14 : decode cX10_requiredCube 14 = .ok (.iload_n 2, 1) := by decide +kernel
theorem dX10_requiredCube_15 : decode cX10_requiredCube 15 = .ok (.aload_n 0, 1) := by decide +kernel
theorem dX10_requiredCube_16 : decode cX10_requiredCube 16 = .ok (.iload_n 1, 1) := by decide +kernel
theorem dX10_requiredCube_17 : decode cX10_requiredCube 17 = .ok (.invokevirtual 194, 3) := by decide +kernel
theorem dX10_requiredCube_20 : decode cX10_requiredCube 20 = .ok (.getfield 198, 3) := by decide +kernel
theorem dX10_requiredCube_23 : decode cX10_requiredCube 23 = .ok (.if_icmp .lt 5, 3) := by decide +kernel
theorem dX10_requiredCube_26 : decode cX10_requiredCube 26 = .ok (.iconst 1, 1) := by decide +kernel
theorem dX10_requiredCube_27 : decode cX10_requiredCube 27 = .ok (.istore_n 3, 1) := by decide +kernel
theorem dX10_requiredCube_28 : decode cX10_requiredCube 28 = .ok (.iload_n 3, 1) := by decide +kernel
theorem dX10_requiredCube_29 : decode cX10_requiredCube 29 = .ok (.ifCond .ne 22, 3) := by decide +kernel
theorem dX10_requiredCube_32 : decode cX10_requiredCube 32 = .ok (.aload_n 0, 1) := by decide +kernel
theorem dX10_requiredCube_33 : decode cX10_requiredCube 33 = .ok (.aload_n 0, 1) := by decide +kernel
theorem dX10_requiredCube_34 : decode cX10_requiredCube 34 = .ok (.iload_n 1, 1) := by decide +kernel
theorem dX10_requiredCube_35 : decode cX10_requiredCube 35 = .ok (.invokevirtual 194, 3) := by decide +kernel
theorem dX10_requiredCube_38 : decode cX10_requiredCube 38 = .ok (.getfield 201, 3) := by decide +kernel
theorem dX10_requiredCube_41 : decode cX10_requiredCube 41 = .ok (.iload_n 2, 1) := by decide +kernel
theorem dX10_requiredCube_42 : decode cX10_requiredCube 42 = .ok (.invokestatic 140, 3) := by decide +kernel
theorem dX10_requiredCube_45 : decode cX10_requiredCube 45 = .ok (.invokevirtual 115, 3) := by decide +kernel
theorem dX10_requiredCube_48 : decode cX10_requiredCube 48 = .ok (.goto 8, 3) := by decide +kernel
theorem dX10_requiredCube_51 : decode cX10_requiredCube 51 = .ok (.aload_n 0, 1) := by decide +kernel
theorem dX10_requiredCube_52 : decode cX10_requiredCube 52 = .ok (.iload_n 3, 1) := by decide +kernel
theorem dX10_requiredCube_53 : decode cX10_requiredCube 53 = .ok (.invokevirtual 86, 3) := by decide +kernel
theorem dX10_requiredCube_56 : decode cX10_requiredCube 56 = .ok (.ireturn, 1) := by decide +kernel
theorem dX10_falls_0 : decode cX10_falls 0 = .ok (.aload_n 0, 1) := by decide +kernel
theorem dX10_falls_1 : decode cX10_falls 1 = .ok (.iload_n 1, 1) := by decide +kernel
theorem dX10_falls_2 : decode cX10_falls 2 = .ok (.invokevirtual 172, 3) := by decide +kernel
theorem dX10_falls_5 : decode cX10_falls 5 = .ok (.istore_n 2, 1) := by decide +kernel
theorem dX10_falls_6 : decode cX10_falls 6 = .ok (.iload_n 2, 1) := by decide +kernel
theorem dX10_falls_7 : decode cX10_falls 7 = .ok (.ifCond .ne 18, 3) := by decide +kernel
theorem dX10_falls_10 : decode cX10_falls 10 = .ok (.aload_n 0, 1) := by decide +kernel
theorem dX10_falls_11 : decode cX10_falls 11 = .ok (.aload_n 0, 1) := by decide +kernel
theorem dX10_falls_12 : decode cX10_falls 12 = .ok (.iload_n 1, 1) := by decide +kernel
theorem dX10_falls_13 : decode cX10_falls 13 = .ok (.invokevirtual 194, 3) := by decide +kernel
theorem dX10_falls_16 : decode cX10_falls 16 = .ok (.getfield 204, 3) := by decide +kernel
theorem dX10_falls_19 : decode cX10_falls 19 = .ok (.invokevirtual 115, 3) := by decide +kernel
theorem dX10_falls_22 : decode cX10_falls 22 = .ok (.goto 8, 3) := by decide +kernel
theorem dX10_falls_25 : decode cX10_falls 25 = .ok (.aload_n 0, 1) := by decide +kernel
theorem dX10_falls_26 : decode cX10_falls 26 = .ok (.iload_n 2, 1) := by decide +kernel
theorem dX10_falls_27 : decode cX10_falls 27 = .ok (.invokevirtual 86, 3) := by decide +kernel
theorem dX10_falls_30 : decode cX10_falls 30 = .ok (.ireturn, 1) := by decide +kernel
theorem dX10_safe_0 : decode cX10_safe 0 = .ok (.aload_n 0, 1) := by decide +kernel
theorem dX10_safe_1 : decode cX10_safe 1 = .ok (.iload_n 1, 1) := by decide +kernel
theorem dX10_safe_2 : decode cX10_safe 2 = .ok (.invokevirtual 172, 3) := by decide +kernel
theorem dX10_safe_5 : decode cX10_safe 5 = .ok (.istore_n 3, 1) := by decide +kernel
theorem dX10_safe_6 : decode cX10_safe 6 = .ok (.iload_n 3, 1) := by decide +kernel
theorem dX10_safe_7 : decode cX10_safe 7 = .ok (.ifCond .ne 12, 3) := by decide +kernel
theorem dX10_safe_10 : decode cX10_safe 10 = .ok (.iload_n 2, 1) := by decide +kernel
theorem dX10_safe_11 : decode cX10_safe 11 = .ok (.invokestatic 207, 3) := by decide +kernel
theorem dX10_safe_14 : decode cX10_safe 14 = .ok (.ifCond .ne 5, 3) := by decide +kernel
theorem dX10_safe_17 : decode cX10_safe 17 = .ok (.iconst 2, 1) := by decide +kernel
theorem dX10_safe_18 : decode cX10_safe 18 = .ok (.istore_n 3, 1) := by decide +kernel
theorem dX10_safe_19 : decode cX10_safe 19 = .ok (.iload_n 3, 1) := by decide +kernel
theorem dX10_safe_20 : decode cX10_safe 20 = .ok (.ifCond .eq 9, 3) := by decide +kernel
theorem dX10_safe_23 : decode cX10_safe 23 = .ok (.aload_n 0, 1) := by decide +kernel
theorem dX10_safe_24 : decode cX10_safe 24 = .ok (.iload_n 3, 1) := by decide +kernel
theorem dX10_safe_25 : decode cX10_safe 25 = .ok (.invokevirtual 86, 3) := by decide +kernel
theorem dX10_safe_28 : decode cX10_safe 28 = .ok (.ireturn, 1) := by decide +kernel
theorem dX10_safe_29 : decode cX10_safe 29 = .ok (.aload_n 0, 1) := by decide +kernel
theorem dX10_safe_30 : decode cX10_safe 30 = .ok (.aload_n 0, 1) := by decide +kernel
theorem dX10_safe_31 : decode cX10_safe 31 = .ok (.iload_n 1, 1) := by decide +kernel
theorem dX10_safe_32 : decode cX10_safe 32 = .ok (.invokevirtual 194, 3) := by decide +kernel
theorem dX10_safe_35 : decode cX10_safe 35 = .ok (.aload_n 0, 1) := by decide +kernel
theorem dX10_safe_36 : decode cX10_safe 36 = .ok (.getfield 42, 3) := by decide +kernel
theorem dX10_safe_39 : decode cX10_safe 39 = .ok (.iload_n 2, 1) := by decide +kernel
theorem dX10_safe_40 : decode cX10_safe 40 = .ok (.invokevirtual 210, 3) := by decide +kernel
theorem dX10_safe_43 : decode cX10_safe 43 = .ok (.invokevirtual 213, 3) := by decide +kernel
theorem dX10_safe_46 : decode cX10_safe 46 = .ok (.ifCond .eq 7, 3) := by decide +kernel
theorem dX10_safe_49 : decode cX10_safe 49 = .ok (.iconst 1, 1) := by decide +kernel
theorem dX10_safe_50 : decode cX10_safe 50 = .ok (.goto 4, 3) := by decide +kernel
theorem dX10_safe_53 : decode cX10_safe 53 = .ok (.iconst 0, 1) := by decide +kernel
theorem dX10_safe_54 : decode cX10_safe 54 = .ok (.invokevirtual 115, 3) := by decide +kernel
theorem dX10_safe_57 : decode cX10_safe 57 = .ok (.ireturn, 1) := by decide +kernel
theorem dX10_primes_0 : decode cX10_primes 0 = .ok (.aload_n 0, 1) := by decide +kernel
theorem dX10_primes_1 : decode cX10_primes 1 = .ok (.iload_n 1, 1) := by decide +kernel
theorem dX10_primes_2 : decode cX10_primes 2 = .ok (.invokevirtual 172, 3) := by decide +kernel
theorem dX10_primes_5 : decode cX10_primes 5 = .ok (.istore_n 2, 1) := by decide +kernel
theorem dX10_primes_6 : decode cX10_primes 6 = .ok (.iload_n 2, 1) := by decide +kernel
theorem dX10_primes_7 : decode cX10_primes 7 = .ok (.ifCond .ne 18, 3) := by decide +kernel
theorem dX10_primes_10 : decode cX10_primes 10 = .ok (.aload_n 0, 1) := by decide +kernel
theorem dX10_primes_11 : decode cX10_primes 11 = .ok (.aload_n 0, 1) := by decide +kernel
theorem dX10_primes_12 : decode cX10_primes 12 = .ok (.iload_n 1, 1) := by decide +kernel
theorem dX10_primes_13 : decode cX10_primes 13 = .ok (.invokevirtual 194, 3) := by decide +kernel
theorem dX10_primes_16 : decode cX10_primes 16 = .ok (.getfield 217, 3) := by decide +kernel
theorem dX10_primes_19 : decode cX10_primes 19 = .ok (.invokevirtual 115, 3) := by decide +kernel
theorem dX10_primes_22 : decode cX10_primes 22 = .ok (.goto 8, 3) := by decide +kernel
theorem dX10_primes_25 : decode cX10_primes 25 = .ok (.aload_n 0, 1) := by decide +kernel
theorem dX10_primes_26 : decode cX10_primes 26 = .ok (.iload_n 2, 1) := by decide +kernel
theorem dX10_primes_27 : decode cX10_primes 27 = .ok (.invokevirtual 86, 3) := by decide +kernel
theorem dX10_primes_30 : decode cX10_primes 30 = .ok (.ireturn, 1) := by decide +kernel
theorem dX10_prime_0 : decode cX10_prime 0 = .ok (.aload_n 0, 1) := by decide +kernel
theorem dX10_prime_1 : decode cX10_prime 1 = .ok (.iload_n 1, 1) := by decide +kernel
theorem dX10_prime_2 : decode cX10_prime 2 = .ok (.invokevirtual 172, 3) := by decide +kernel
theorem dX10_prime_5 : decode cX10_prime 5 = .ok (.istore_n 3, 1) := by decide +kernel
theorem dX10_prime_6 : decode cX10_prime 6 = .ok (.iload_n 3, 1) := by decide +kernel
theorem dX10_prime_7 : decode cX10_prime 7 = .ok (.ifCond .ne 21, 3) := by decide +kernel
theorem dX10_prime_10 : decode cX10_prime 10 = .ok (.iload_n 2, 1) := by decide +kernel
theorem dX10_prime_11 : decode cX10_prime 11 = .ok (.ifCond .lt 15, 3) := by decide +kernel
theorem dX10_prime_14 : decode cX10_prime 14 = .ok (.iload_n 2, 1) := by decide +kernel
theorem dX10_prime_15 : decode cX10_prime 15 = .ok (.aload_n 0, 1) := by decide +kernel
theorem dX10_prime_16 : decode cX10_prime 16 = .ok (.iload_n 1, 1) := by decide +kernel
theorem dX10_prime_17 : decode cX10_prime 17 = .ok (.invokevirtual 194, 3) := by decide +kernel
theorem dX10_prime_20 : decode cX10_prime 20 = .ok (.getfield 217, 3) := by decide +kernel
theorem dX10_prime_23 : decode cX10_prime 23 = .ok (.if_icmp .lt 5, 3) := by decide +kernel
theorem dX10_prime_26 : decode cX10_prime 26 = .ok (.iconst 1, 1) := by decide +kernel
theorem dX10_prime_27 : decode cX10_prime 27 = .ok (.istore_n 3, 1) := by decide +kernel
theorem dX10_prime_28 : decode cX10_prime 28 = .ok (.iload_n 3, 1) := by decide +kernel
theorem dX10_prime_29 : decode cX10_prime 29 = .ok (.ifCond .ne 22, 3) := by decide +kernel
theorem dX10_prime_32 : decode cX10_prime 32 = .ok (.aload_n 0, 1) := by decide +kernel
theorem dX10_prime_33 : decode cX10_prime 33 = .ok (.aload_n 0, 1) := by decide +kernel
theorem dX10_prime_34 : decode cX10_prime 34 = .ok (.iload_n 1, 1) := by decide +kernel
theorem dX10_prime_35 : decode cX10_prime 35 = .ok (.invokevirtual 194, 3) := by decide +kernel
theorem dX10_prime_38 : decode cX10_prime 38 = .ok (.getfield 220, 3) := by decide +kernel
theorem dX10_prime_41 : decode cX10_prime 41 = .ok (.iload_n 2, 1) := by decide +kernel
theorem dX10_prime_42 : decode cX10_prime 42 = .ok (.invokestatic 140, 3) := by decide +kernel
theorem dX10_prime_45 : decode cX10_prime 45 = .ok (.invokevirtual 115, 3) := by decide +kernel
theorem dX10_prime_48 : decode cX10_prime 48 = .ok (.goto 8, 3) := by decide +kernel
theorem dX10_prime_51 : decode cX10_prime 51 = .ok (.aload_n 0, 1) := by decide +kernel
theorem dX10_prime_52 : decode cX10_prime 52 = .ok (.iload_n 3, 1) := by decide +kernel
theorem dX10_prime_53 : decode cX10_prime 53 = .ok (.invokevirtual 86, 3) := by decide +kernel
theorem dX10_prime_56 : decode cX10_prime 56 = .ok (.ireturn, 1) := by decide +kernel
theorem dX10_needed_0 : decode cX10_needed 0 = .ok (.aload_n 0, 1) := by decide +kernel
theorem dX10_needed_1 : decode cX10_needed 1 = .ok (.iload_n 1, 1) := by decide +kernel
theorem dX10_needed_2 : decode cX10_needed 2 = .ok (.invokevirtual 172, 3) := by decide +kernel
theorem dX10_needed_5 : decode cX10_needed 5 = .ok (.istore_n 2, 1) := by decide +kernel
theorem dX10_needed_6 : decode cX10_needed 6 = .ok (.iload_n 2, 1) := by decide +kernel
theorem dX10_needed_7 : decode cX10_needed 7 = .ok (.ifCond .ne 18, 3) := by decide +kernel
theorem dX10_needed_10 : decode cX10_needed 10 = .ok (.aload_n 0, 1) := by decide +kernel
theorem dX10_needed_11 : decode cX10_needed 11 = .ok (.aload_n 0, 1) := by decide +kernel
theorem dX10_needed_12 : decode cX10_needed 12 = .ok (.iload_n 1, 1) := by decide +kernel
theorem dX10_needed_13 : decode cX10_needed 13 = .ok (.invokevirtual 194, 3) := by decide +kernel
theorem dX10_needed_16 : decode cX10_needed 16 = .ok (.getfield 223, 3) := by decide +kernel
theorem dX10_needed_19 : decode cX10_needed 19 = .ok (.invokevirtual 115, 3) := by decide +kernel
theorem dX10_needed_22 : decode cX10_needed 22 = .ok (.goto 8, 3) := by decide +kernel
theorem dX10_needed_25 : decode cX10_needed 25 = .ok (.aload_n 0, 1) := by decide +kernel
theorem dX10_needed_26 : decode cX10_needed 26 = .ok (.iload_n 2, 1) := by decide +kernel
theorem dX10_needed_27 : decode cX10_needed 27 = .ok (.invokevirtual 86, 3) := by decide +kernel
theorem dX10_needed_30 : decode cX10_needed 30 = .ok (.ireturn, 1) := by decide +kernel
theorem dX10_lacking_0 : decode cX10_lacking 0 = .ok (.aload_n 0, 1) := by decide +kernel
theorem dX10_lacking_1 : decode cX10_lacking 1 = .ok (.iload_n 1, 1) := by decide +kernel
theorem dX10_lacking_2 : decode cX10_lacking 2 = .ok (.invokevirtual 172, 3) := by decide +kernel
theorem dX10_lacking_5 : decode cX10_lacking 5 = .ok (.istore_n 2, 1) := by decide +kernel
theorem dX10_lacking_6 : decode cX10_lacking 6 = .ok (.iload_n 2, 1) := by decide +kernel
theorem dX10_lacking_7 : decode cX10_lacking 7 = .ok (.ifCond .ne 18, 3) := by decide +kernel
theorem dX10_lacking_10 : decode cX10_lacking 10 = .ok (.aload_n 0, 1) := by decide +kernel
theorem dX10_lacking_11 : decode cX10_lacking 11 = .ok (.aload_n 0, 1) := by decide +kernel
theorem dX10_lacking_12 : decode cX10_lacking 12 = .ok (.iload_n 1, 1) := by decide +kernel
theorem dX10_lacking_13 : decode cX10_lacking 13 = .ok (.invokevirtual 194, 3) := by decide +kernel
theorem dX10_lacking_16 : decode cX10_lacking 16 = .ok (.getfield 226, 3) := by decide +kernel
theorem dX10_lacking_19 : decode cX10_lacking 19 = .ok (.invokevirtual 115, 3) := by decide +kernel
theorem dX10_lacking_22 : decode cX10_lacking 22 = .ok (.goto 8, 3) := by decide +kernel
theorem dX10_lacking_25 : decode cX10_lacking 25 = .ok (.aload_n 0, 1) := by decide +kernel
theorem dX10_lacking_26 : decode cX10_lacking 26 = .ok (.iload_n 2, 1) := by decide +kernel
theorem dX10_lacking_27 : decode cX10_lacking 27 = .ok (.invokevirtual 86, 3) := by decide +kernel
theorem dX10_lacking_30 : decode cX10_lacking 30 = .ok (.ireturn, 1) := by decide +kernel
theorem dX10_fewest_0 : decode cX10_fewest 0 = .ok (.aload_n 0, 1) := by decide +kernel
theorem dX10_fewest_1 : decode cX10_fewest 1 = .ok (.iload_n 1, 1) := by decide +kernel
theorem dX10_fewest_2 : decode cX10_fewest 2 = .ok (.invokevirtual 172, 3) := by decide +kernel
theorem dX10_fewest_5 : decode cX10_fewest 5 = .ok (.istore_n 2, 1) := by decide +kernel
theorem dX10_fewest_6 : decode cX10_fewest 6 = .ok (.iload_n 2, 1) := by decide +kernel
theorem dX10_fewest_7 : decode cX10_fewest 7 = .ok (.ifCond .ne 18, 3) := by decide +kernel
theorem dX10_fewest_10 : decode cX10_fewest 10 = .ok (.aload_n 0, 1) := by decide +kernel
theorem dX10_fewest_11 : decode cX10_fewest 11 = .ok (.aload_n 0, 1) := by decide +kernel
theorem dX10_fewest_12 : decode cX10_fewest 12 = .ok (.iload_n 1, 1) := by decide +kernel
theorem dX10_fewest_13 : decode cX10_fewest 13 = .ok (.invokevirtual 194, 3) := by decide +kernel
theorem dX10_fewest_16 : decode cX10_fewest 16 = .ok (.getfield 229, 3) := by decide +kernel
theorem dX10_fewest_19 : decode cX10_fewest 19 = .ok (.invokevirtual 115, 3) := by decide +kernel
theorem dX10_fewest_22 : decode cX10_fewest 22 = .ok (.goto 8, 3) := by decide +kernel
theorem dX10_fewest_25 : decode cX10_fewest 25 = .ok (.aload_n 0, 1) := by decide +kernel
theorem dX10_fewest_26 : decode cX10_fewest 26 = .ok (.iload_n 2, 1) := by decide +kernel
theorem dX10_fewest_27 : decode cX10_fewest 27 = .ok (.invokevirtual 86, 3) := by decide +kernel
theorem dX10_fewest_30 : decode cX10_fewest 30 = .ok (.ireturn, 1) := by decide +kernel
theorem dX10_chosen_0 : decode cX10_chosen 0 = .ok (.aload_n 0, 1) := by decide +kernel
theorem dX10_chosen_1 : decode cX10_chosen 1 = .ok (.iload_n 1, 1) := by decide +kernel
theorem dX10_chosen_2 : decode cX10_chosen 2 = .ok (.invokevirtual 232, 3) := by decide +kernel
theorem dX10_chosen_5 : decode cX10_chosen 5 = .ok (.istore_n 3, 1) := by decide +kernel
theorem dX10_chosen_6 : decode cX10_chosen 6 = .ok (.iload_n 3, 1) := by decide +kernel
theorem dX10_chosen_7 : decode cX10_chosen 7 = .ok (.ifCond .ne 21, 3) := by decide +kernel
theorem dX10_chosen_10 : decode cX10_chosen 10 = .ok (.iload_n 2, 1) := by decide +kernel
theorem dX10_chosen_11 : decode cX10_chosen 11 = .ok (.ifCond .lt 15, 3) := by decide +kernel
theorem dX10_chosen_14 : decode cX10_chosen 14 = .ok (.iload_n 2, 1) := by decide +kernel
theorem dX10_chosen_15 : decode cX10_chosen 15 = .ok (.aload_n 0, 1) := by decide +kernel
theorem dX10_chosen_16 : decode cX10_chosen 16 = .ok (.iload_n 1, 1) := by decide +kernel
theorem dX10_chosen_17 : decode cX10_chosen 17 = .ok (.invokevirtual 194, 3) := by decide +kernel
theorem dX10_chosen_20 : decode cX10_chosen 20 = .ok (.getfield 229, 3) := by decide +kernel
theorem dX10_chosen_23 : decode cX10_chosen 23 = .ok (.if_icmp .lt 5, 3) := by decide +kernel
theorem dX10_chosen_26 : decode cX10_chosen 26 = .ok (.iconst 1, 1) := by decide +kernel
theorem dX10_chosen_27 : decode cX10_chosen 27 = .ok (.istore_n 3, 1) := by decide +kernel
theorem dX10_chosen_28 : decode cX10_chosen 28 = .ok (.iload_n 3, 1) := by decide +kernel
theorem dX10_chosen_29 : decode cX10_chosen 29 = .ok (.ifCond .ne 22, 3) := by decide +kernel
theorem dX10_chosen_32 : decode cX10_chosen 32 = .ok (.aload_n 0, 1) := by decide +kernel
theorem dX10_chosen_33 : decode cX10_chosen 33 = .ok (.aload_n 0, 1) := by decide +kernel
theorem dX10_chosen_34 : decode cX10_chosen 34 = .ok (.iload_n 1, 1) := by decide +kernel
theorem dX10_chosen_35 : decode cX10_chosen 35 = .ok (.invokevirtual 194, 3) := by decide +kernel
theorem dX10_chosen_38 : decode cX10_chosen 38 = .ok (.getfield 235, 3) := by decide +kernel
theorem dX10_chosen_41 : decode cX10_chosen 41 = .ok (.iload_n 2, 1) := by decide +kernel
theorem dX10_chosen_42 : decode cX10_chosen 42 = .ok (.invokestatic 140, 3) := by decide +kernel
theorem dX10_chosen_45 : decode cX10_chosen 45 = .ok (.invokevirtual 115, 3) := by decide +kernel
theorem dX10_chosen_48 : decode cX10_chosen 48 = .ok (.goto 8, 3) := by decide +kernel
theorem dX10_chosen_51 : decode cX10_chosen 51 = .ok (.aload_n 0, 1) := by decide +kernel
theorem dX10_chosen_52 : decode cX10_chosen 52 = .ok (.iload_n 3, 1) := by decide +kernel
theorem dX10_chosen_53 : decode cX10_chosen 53 = .ok (.invokevirtual 86, 3) := by decide +kernel
theorem dX10_chosen_56 : decode cX10_chosen 56 = .ok (.ireturn, 1) := by decide +kernel
theorem dX10_literals_0 : decode cX10_literals 0 = .ok (.aload_n 0, 1) := by decide +kernel
theorem dX10_literals_1 : decode cX10_literals 1 = .ok (.iload_n 1, 1) := by decide +kernel
theorem dX10_literals_2 : decode cX10_literals 2 = .ok (.invokevirtual 232, 3) := by decide +kernel
theorem dX10_literals_5 : decode cX10_literals 5 = .ok (.istore_n 2, 1) := by decide +kernel
theorem dX10_literals_6 : decode cX10_literals 6 = .ok (.iload_n 2, 1) := by decide +kernel
theorem dX10_literals_7 : decode cX10_literals 7 = .ok (.ifCond .ne 18, 3) := by decide +kernel
theorem dX10_literals_10 : decode cX10_literals 10 = .ok (.aload_n 0, 1) := by decide +kernel
theorem dX10_literals_11 : decode cX10_literals 11 = .ok (.aload_n 0, 1) := by decide +kernel
theorem dX10_literals_12 : decode cX10_literals 12 = .ok (.iload_n 1, 1) := by decide +kernel
theorem dX10_literals_13 : decode cX10_literals 13 = .ok (.invokevirtual 194, 3) := by decide +kernel
theorem dX10_literals_16 : decode cX10_literals 16 = .ok (.getfield 238, 3) := by decide +kernel
theorem dX10_literals_19 : decode cX10_literals 19 = .ok (.invokevirtual 115, 3) := by decide +kernel
theorem dX10_literals_22 : decode cX10_literals 22 = .ok (.goto 8, 3) := by decide +kernel
theorem dX10_literals_25 : decode cX10_literals 25 = .ok (.aload_n 0, 1) := by decide +kernel
theorem dX10_literals_26 : decode cX10_literals 26 = .ok (.iload_n 2, 1) := by decide +kernel
theorem dX10_literals_27 : decode cX10_literals 27 = .ok (.invokevirtual 86, 3) := by decide +kernel
theorem dX10_literals_30 : decode cX10_literals 30 = .ok (.ireturn, 1) := by decide +kernel
theorem dX10_formula_0 : decode cX10_formula 0 = .ok (.aload_n 0, 1) := by decide +kernel
theorem dX10_formula_1 : decode cX10_formula 1 = .ok (.iload_n 1, 1) := by decide +kernel
theorem dX10_formula_2 : decode cX10_formula 2 = .ok (.invokevirtual 232, 3) := by decide +kernel
theorem dX10_formula_5 : decode cX10_formula 5 = .ok (.istore_n 2, 1) := by decide +kernel
theorem dX10_formula_6 : decode cX10_formula 6 = .ok (.iload_n 2, 1) := by decide +kernel
theorem dX10_formula_7 : decode cX10_formula 7 = .ok (.ifCond .ne 18, 3) := by decide +kernel
theorem dX10_formula_10 : decode cX10_formula 10 = .ok (.aload_n 0, 1) := by decide +kernel
theorem dX10_formula_11 : decode cX10_formula 11 = .ok (.aload_n 0, 1) := by decide +kernel
theorem dX10_formula_12 : decode cX10_formula 12 = .ok (.iload_n 1, 1) := by decide +kernel
theorem dX10_formula_13 : decode cX10_formula 13 = .ok (.invokevirtual 194, 3) := by decide +kernel
theorem dX10_formula_16 : decode cX10_formula 16 = .ok (.getfield 241, 3) := by decide +kernel
theorem dX10_formula_19 : decode cX10_formula 19 = .ok (.invokevirtual 115, 3) := by decide +kernel
theorem dX10_formula_22 : decode cX10_formula 22 = .ok (.goto 8, 3) := by decide +kernel
theorem dX10_formula_25 : decode cX10_formula 25 = .ok (.aload_n 0, 1) := by decide +kernel
theorem dX10_formula_26 : decode cX10_formula 26 = .ok (.iload_n 2, 1) := by decide +kernel
theorem dX10_formula_27 : decode cX10_formula 27 = .ok (.invokevirtual 86, 3) := by decide +kernel
theorem dX10_formula_30 : decode cX10_formula 30 = .ok (.ireturn, 1) := by decide +kernel
theorem dX10_sign_0 : decode cX10_sign 0 = .ok (.aload_n 0, 1) := by decide +kernel
theorem dX10_sign_1 : decode cX10_sign 1 = .ok (.iload_n 1, 1) := by decide +kernel
theorem dX10_sign_2 : decode cX10_sign 2 = .ok (.invokevirtual 232, 3) := by decide +kernel
theorem dX10_sign_5 : decode cX10_sign 5 = .ok (.istore_n 3, 1) := by decide +kernel
theorem dX10_sign_6 : decode cX10_sign 6 = .ok (.iload_n 3, 1) := by decide +kernel
theorem dX10_sign_7 : decode cX10_sign 7 = .ok (.ifCond .ne 21, 3) := by decide +kernel
theorem dX10_sign_10 : decode cX10_sign 10 = .ok (.iload_n 2, 1) := by decide +kernel
theorem dX10_sign_11 : decode cX10_sign 11 = .ok (.ifCond .lt 15, 3) := by decide +kernel
theorem dX10_sign_14 : decode cX10_sign 14 = .ok (.iload_n 2, 1) := by decide +kernel
theorem dX10_sign_15 : decode cX10_sign 15 = .ok (.aload_n 0, 1) := by decide +kernel
theorem dX10_sign_16 : decode cX10_sign 16 = .ok (.iload_n 1, 1) := by decide +kernel
theorem dX10_sign_17 : decode cX10_sign 17 = .ok (.invokevirtual 194, 3) := by decide +kernel
theorem dX10_sign_20 : decode cX10_sign 20 = .ok (.getfield 241, 3) := by decide +kernel
theorem dX10_sign_23 : decode cX10_sign 23 = .ok (.if_icmp .lt 5, 3) := by decide +kernel
theorem dX10_sign_26 : decode cX10_sign 26 = .ok (.iconst 1, 1) := by decide +kernel
theorem dX10_sign_27 : decode cX10_sign 27 = .ok (.istore_n 3, 1) := by decide +kernel
theorem dX10_sign_28 : decode cX10_sign 28 = .ok (.iload_n 3, 1) := by decide +kernel
theorem dX10_sign_29 : decode cX10_sign 29 = .ok (.ifCond .ne 22, 3) := by decide +kernel
theorem dX10_sign_32 : decode cX10_sign 32 = .ok (.aload_n 0, 1) := by decide +kernel
theorem dX10_sign_33 : decode cX10_sign 33 = .ok (.aload_n 0, 1) := by decide +kernel
theorem dX10_sign_34 : decode cX10_sign 34 = .ok (.iload_n 1, 1) := by decide +kernel
theorem dX10_sign_35 : decode cX10_sign 35 = .ok (.invokevirtual 194, 3) := by decide +kernel
theorem dX10_sign_38 : decode cX10_sign 38 = .ok (.getfield 244, 3) := by decide +kernel
theorem dX10_sign_41 : decode cX10_sign 41 = .ok (.iload_n 2, 1) := by decide +kernel
theorem dX10_sign_42 : decode cX10_sign 42 = .ok (.invokestatic 140, 3) := by decide +kernel
theorem dX10_sign_45 : decode cX10_sign 45 = .ok (.invokevirtual 115, 3) := by decide +kernel
theorem dX10_sign_48 : decode cX10_sign 48 = .ok (.goto 8, 3) := by decide +kernel
theorem dX10_sign_51 : decode cX10_sign 51 = .ok (.aload_n 0, 1) := by decide +kernel
theorem dX10_sign_52 : decode cX10_sign 52 = .ok (.iload_n 3, 1) := by decide +kernel
theorem dX10_sign_53 : decode cX10_sign 53 = .ok (.invokevirtual 86, 3) := by decide +kernel
theorem dX10_sign_56 : decode cX10_sign 56 = .ok (.ireturn, 1) := by decide +kernel
theorem dX10_harm_0 : decode cX10_harm 0 = .ok (.iload_n 1, 1) := by decide +kernel
theorem dX10_harm_1 : decode cX10_harm 1 = .ok (.invokestatic 247, 3) := by decide +kernel
theorem dX10_harm_4 : decode cX10_harm 4 = .ok (.ifCond .eq 11, 3) := by decide +kernel
theorem dX10_harm_7 : decode cX10_harm 7 = .ok (.aload_n 0, 1) := by decide +kernel
theorem dX10_harm_8 : decode cX10_harm 8 = .ok (.iload_n 2, 1) := by decide +kernel
theorem dX10_harm_9 : decode cX10_harm 9 = .ok (.invokevirtual 153, 3) := by decide +kernel
theorem dX10_harm_12 : decode cX10_harm 12 = .ok (.ifCond .ne 9, 3) := by decide +kernel
theorem dX10_harm_15 : decode cX10_harm 15 = .ok (.aload_n 0, 1) := by decide +kernel
theorem dX10_harm_16 : decode cX10_harm 16 = .ok (.iconst 1, 1) := by decide +kernel
theorem dX10_harm_17 : decode cX10_harm 17 = .ok (.invokevirtual 86, 3) := by decide +kernel
theorem dX10_harm_20 : decode cX10_harm 20 = .ok (.ireturn, 1) := by decide +kernel
theorem dX10_harm_21 : decode cX10_harm 21 = .ok (.aload_n 0, 1) := by decide +kernel
theorem dX10_harm_22 : decode cX10_harm 22 = .ok (.getfield 35, 3) := by decide +kernel
theorem dX10_harm_25 : decode cX10_harm 25 = .ok (.getfield 127, 3) := by decide +kernel
theorem dX10_harm_28 : decode cX10_harm 28 = .ok (.ifCond .ne 16, 3) := by decide +kernel
theorem dX10_harm_31 : decode cX10_harm 31 = .ok (.aload_n 0, 1) := by decide +kernel
theorem dX10_harm_32 : decode cX10_harm 32 = .ok (.aload_n 0, 1) := by decide +kernel
theorem dX10_harm_33 : decode cX10_harm 33 = .ok (.iload_n 1, 1) := by decide +kernel
theorem dX10_harm_34 : decode cX10_harm 34 = .ok (.iload_n 2, 1) := by decide +kernel
theorem dX10_harm_35 : decode cX10_harm 35 = .ok (.invokevirtual 250, 3) := by decide +kernel
theorem dX10_harm_38 : decode cX10_harm 38 = .ok (.invokevirtual 115, 3) := by decide +kernel
theorem dX10_harm_41 : decode cX10_harm 41 = .ok (.goto 8, 3) := by decide +kernel
theorem dX10_harm_44 : decode cX10_harm 44 = .ok (.aload_n 0, 1) := by decide +kernel
theorem dX10_harm_45 : decode cX10_harm 45 = .ok (.iconst 5, 1) := by decide +kernel
theorem dX10_harm_46 : decode cX10_harm 46 = .ok (.invokevirtual 86, 3) := by decide +kernel
theorem dX10_harm_49 : decode cX10_harm 49 = .ok (.ireturn, 1) := by decide +kernel
theorem dX10_glitch_0 : decode cX10_glitch 0 = .ok (.aload_n 0, 1) := by decide +kernel
theorem dX10_glitch_1 : decode cX10_glitch 1 = .ok (.iload_n 1, 1) := by decide +kernel
theorem dX10_glitch_2 : decode cX10_glitch 2 = .ok (.invokevirtual 172, 3) := by decide +kernel
theorem dX10_glitch_5 : decode cX10_glitch 5 = .ok (.istore_n 2, 1) := by decide +kernel
theorem dX10_glitch_6 : decode cX10_glitch 6 = .ok (.iload_n 2, 1) := by decide +kernel
theorem dX10_glitch_7 : decode cX10_glitch 7 = .ok (.ifCond .eq 9, 3) := by decide +kernel
theorem dX10_glitch_10 : decode cX10_glitch 10 = .ok (.aload_n 0, 1) := by decide +kernel
theorem dX10_glitch_11 : decode cX10_glitch 11 = .ok (.iload_n 2, 1) := by decide +kernel
theorem dX10_glitch_12 : decode cX10_glitch 12 = .ok (.invokevirtual 86, 3) := by decide +kernel
theorem dX10_glitch_15 : decode cX10_glitch 15 = .ok (.ireturn, 1) := by decide +kernel
theorem dX10_glitch_16 : decode cX10_glitch 16 = .ok (.iconst 0, 1) := by decide +kernel
theorem dX10_glitch_17 : decode cX10_glitch 17 = .ok (.istore_n 3, 1) := by decide +kernel
theorem dX10_glitch_18 : decode cX10_glitch 18 = .ok (.iload_n 3, 1) := by decide +kernel
theorem dX10_glitch_19 : decode cX10_glitch 19 = .ok (.aload_n 0, 1) := by decide +kernel
theorem dX10_glitch_20 : decode cX10_glitch 20 = .ok (.getfield 10, 3) := by decide +kernel
theorem dX10_glitch_23 : decode cX10_glitch 23 = .ok (.getfield 112, 3) := by decide +kernel
theorem dX10_glitch_26 : decode cX10_glitch 26 = .ok (.if_icmp .ge 24, 3) := by decide +kernel
theorem dX10_glitch_29 : decode cX10_glitch 29 = .ok (.aload_n 0, 1) := by decide +kernel
theorem dX10_glitch_30 : decode cX10_glitch 30 = .ok (.iload_n 1, 1) := by decide +kernel
theorem dX10_glitch_31 : decode cX10_glitch 31 = .ok (.iload_n 3, 1) := by decide +kernel
theorem dX10_glitch_32 : decode cX10_glitch 32 = .ok (.invokevirtual 250, 3) := by decide +kernel
theorem dX10_glitch_35 : decode cX10_glitch 35 = .ok (.ifCond .eq 9, 3) := by decide +kernel
theorem dX10_glitch_38 : decode cX10_glitch 38 = .ok (.aload_n 0, 1) := by decide +kernel
theorem dX10_glitch_39 : decode cX10_glitch 39 = .ok (.iload_n 3, 1) := by decide +kernel
theorem dX10_glitch_40 : decode cX10_glitch 40 = .ok (.invokevirtual 115, 3) := by decide +kernel
theorem dX10_glitch_43 : decode cX10_glitch 43 = .ok (.ireturn, 1) := by decide +kernel
theorem dX10_glitch_44 : decode cX10_glitch 44 = .ok (.iinc 3 1, 3) := by decide +kernel
theorem dX10_glitch_47 : decode cX10_glitch 47 = .ok (.goto (-29), 3) := by decide +kernel
theorem dX10_glitch_50 : decode cX10_glitch 50 = .ok (.aload_n 0, 1) := by decide +kernel
theorem dX10_glitch_51 : decode cX10_glitch 51 = .ok (.bipush (-2), 2) := by decide +kernel
theorem dX10_glitch_53 : decode cX10_glitch 53 = .ok (.invokevirtual 115, 3) := by decide +kernel
theorem dX10_glitch_56 : decode cX10_glitch 56 = .ok (.ireturn, 1) := by decide +kernel
theorem dX10_run_0 : decode cX10_run 0 = .ok (.iload_n 3, 1) := by decide +kernel
theorem dX10_run_1 : decode cX10_run 1 = .ok (.ifCond .eq 11, 3) := by decide +kernel
theorem dX10_run_4 : decode cX10_run 4 = .ok (.aload_n 0, 1) := by decide +kernel
theorem dX10_run_5 : decode cX10_run 5 = .ok (.iload_n 1, 1) := by decide +kernel
theorem dX10_run_6 : decode cX10_run 6 = .ok (.invokevirtual 172, 3) := by decide +kernel
theorem dX10_run_9 : decode cX10_run 9 = .ok (.goto 8, 3) := by decide +kernel
theorem dX10_run_12 : decode cX10_run 12 = .ok (.aload_n 0, 1) := by decide +kernel
theorem dX10_run_13 : decode cX10_run 13 = .ok (.iload_n 1, 1) := by decide +kernel
theorem dX10_run_14 : decode cX10_run 14 = .ok (.invokevirtual 232, 3) := by decide +kernel
theorem dX10_run_17 : decode cX10_run 17 = .ok (.istore 4, 2) := by decide +kernel
theorem dX10_run_19 : decode cX10_run 19 = .ok (.iload 4, 2) := by decide +kernel
theorem dX10_run_21 : decode cX10_run 21 = .ok (.ifCond .ne 13, 3) := by decide +kernel
theorem dX10_run_24 : decode cX10_run 24 = .ok (.iload_n 2, 1) := by decide +kernel
theorem dX10_run_25 : decode cX10_run 25 = .ok (.invokestatic 207, 3) := by decide +kernel
theorem dX10_run_28 : decode cX10_run 28 = .ok (.ifCond .ne 6, 3) := by decide +kernel
theorem dX10_run_31 : decode cX10_run 31 = .ok (.iconst 2, 1) := by decide +kernel
theorem dX10_run_32 : decode cX10_run 32 = .ok (.istore 4, 2) := by decide +kernel
theorem dX10_run_34 : decode cX10_run 34 = .ok (.iload 4, 2) := by decide +kernel
theorem dX10_run_36 : decode cX10_run 36 = .ok (.ifCond .ne 24, 3) := by decide +kernel
theorem dX10_run_39 : decode cX10_run 39 = .ok (.aload_n 0, 1) := by decide +kernel
theorem dX10_run_40 : decode cX10_run 40 = .ok (.aload_n 0, 1) := by decide +kernel
theorem dX10_run_41 : decode cX10_run 41 = .ok (.iload_n 1, 1) := by decide +kernel
theorem dX10_run_42 : decode cX10_run 42 = .ok (.aload_n 0, 1) := by decide +kernel
theorem dX10_run_43 : decode cX10_run 43 = .ok (.getfield 42, 3) := by decide +kernel
theorem dX10_run_46 : decode cX10_run 46 = .ok (.iload_n 2, 1) := by decide +kernel
theorem dX10_run_47 : decode cX10_run 47 = .ok (.invokevirtual 210, 3) := by decide +kernel
theorem dX10_run_50 : decode cX10_run 50 = .ok (.iload_n 3, 1) := by decide +kernel
theorem dX10_run_51 : decode cX10_run 51 = .ok (.invokevirtual 253, 3) := by decide +kernel
theorem dX10_run_54 : decode cX10_run 54 = .ok (.invokevirtual 115, 3) := by decide +kernel
theorem dX10_run_57 : decode cX10_run 57 = .ok (.goto 9, 3) := by decide +kernel
theorem dX10_run_60 : decode cX10_run 60 = .ok (.aload_n 0, 1) := by decide +kernel
theorem dX10_run_61 : decode cX10_run 61 = .ok (.iload 4, 2) := by decide +kernel
theorem dX10_run_63 : decode cX10_run 63 = .ok (.invokevirtual 86, 3) := by decide +kernel
theorem dX10_run_66 : decode cX10_run 66 = .ok (.ireturn, 1) := by decide +kernel
theorem dX10_runBurst_0 : decode cX10_runBurst 0 = .ok (.iload_n 1, 1) := by decide +kernel
theorem dX10_runBurst_1 : decode cX10_runBurst 1 = .ok (.invokestatic 247, 3) := by decide +kernel
theorem dX10_runBurst_4 : decode cX10_runBurst 4 = .ok (.ifCond .eq 11, 3) := by decide +kernel
theorem dX10_runBurst_7 : decode cX10_runBurst 7 = .ok (.aload_n 0, 1) := by decide +kernel
theorem dX10_runBurst_8 : decode cX10_runBurst 8 = .ok (.iload_n 2, 1) := by decide +kernel
theorem dX10_runBurst_9 : decode cX10_runBurst 9 = .ok (.invokevirtual 153, 3) := by decide +kernel
theorem dX10_runBurst_12 : decode cX10_runBurst 12 = .ok (.ifCond .ne 9, 3) := by decide +kernel
theorem dX10_runBurst_15 : decode cX10_runBurst 15 = .ok (.aload_n 0, 1) := by decide +kernel
theorem dX10_runBurst_16 : decode cX10_runBurst 16 = .ok (.iconst 1, 1) := by decide +kernel
theorem dX10_runBurst_17 : decode cX10_runBurst 17 = .ok (.invokevirtual 86, 3) := by decide +kernel
theorem dX10_runBurst_20 : decode cX10_runBurst 20 = .ok (.ireturn, 1) := by decide +kernel
theorem dX10_runBurst_21 : decode cX10_runBurst 21 = .ok (.iload_n 3, 1) := by decide +kernel
theorem dX10_runBurst_22 : decode cX10_runBurst 22 = .ok (.ifCond .eq 11, 3) := by decide +kernel
theorem dX10_runBurst_25 : decode cX10_runBurst 25 = .ok (.aload_n 0, 1) := by decide +kernel
theorem dX10_runBurst_26 : decode cX10_runBurst 26 = .ok (.iload_n 1, 1) := by decide +kernel
theorem dX10_runBurst_27 : decode cX10_runBurst 27 = .ok (.invokevirtual 172, 3) := by decide +kernel
theorem dX10_runBurst_30 : decode cX10_runBurst 30 = .ok (.goto 8, 3) := by decide +kernel
theorem dX10_runBurst_33 : decode cX10_runBurst 33 = .ok (.aload_n 0, 1) := by decide +kernel
theorem dX10_runBurst_34 : decode cX10_runBurst 34 = .ok (.iload_n 1, 1) := by decide +kernel
theorem dX10_runBurst_35 : decode cX10_runBurst 35 = .ok (.invokevirtual 232, 3) := by decide +kernel
theorem dX10_runBurst_38 : decode cX10_runBurst 38 = .ok (.istore 4, 2) := by decide +kernel
theorem dX10_runBurst_40 : decode cX10_runBurst 40 = .ok (.iload 4, 2) := by decide +kernel
theorem dX10_runBurst_42 : decode cX10_runBurst 42 = .ok (.ifCond .ne 21, 3) := by decide +kernel
theorem dX10_runBurst_45 : decode cX10_runBurst 45 = .ok (.aload_n 0, 1) := by decide +kernel
theorem dX10_runBurst_46 : decode cX10_runBurst 46 = .ok (.aload_n 0, 1) := by decide +kernel
theorem dX10_runBurst_47 : decode cX10_runBurst 47 = .ok (.iload_n 1, 1) := by decide +kernel
theorem dX10_runBurst_48 : decode cX10_runBurst 48 = .ok (.aload_n 0, 1) := by decide +kernel
theorem dX10_runBurst_49 : decode cX10_runBurst 49 = .ok (.iload_n 2, 1) := by decide +kernel
theorem dX10_runBurst_50 : decode cX10_runBurst 50 = .ok (.invokevirtual 257, 3) := by decide +kernel
theorem dX10_runBurst_53 : decode cX10_runBurst 53 = .ok (.iload_n 3, 1) := by decide +kernel
theorem dX10_runBurst_54 : decode cX10_runBurst 54 = .ok (.invokevirtual 253, 3) := by decide +kernel
theorem dX10_runBurst_57 : decode cX10_runBurst 57 = .ok (.invokevirtual 115, 3) := by decide +kernel
theorem dX10_runBurst_60 : decode cX10_runBurst 60 = .ok (.goto 9, 3) := by decide +kernel
theorem dX10_runBurst_63 : decode cX10_runBurst 63 = .ok (.aload_n 0, 1) := by decide +kernel
theorem dX10_runBurst_64 : decode cX10_runBurst 64 = .ok (.iload 4, 2) := by decide +kernel
theorem dX10_runBurst_66 : decode cX10_runBurst 66 = .ok (.invokevirtual 86, 3) := by decide +kernel
theorem dX10_runBurst_69 : decode cX10_runBurst 69 = .ok (.ireturn, 1) := by decide +kernel
theorem dX10_settles_0 : decode cX10_settles 0 = .ok (.aload_n 0, 1) := by decide +kernel
theorem dX10_settles_1 : decode cX10_settles 1 = .ok (.iload_n 1, 1) := by decide +kernel
theorem dX10_settles_2 : decode cX10_settles 2 = .ok (.invokevirtual 260, 3) := by decide +kernel
theorem dX10_settles_5 : decode cX10_settles 5 = .ok (.istore_n 2, 1) := by decide +kernel
theorem dX10_settles_6 : decode cX10_settles 6 = .ok (.iload_n 2, 1) := by decide +kernel
theorem dX10_settles_7 : decode cX10_settles 7 = .ok (.ifCond .ne 16, 3) := by decide +kernel
theorem dX10_settles_10 : decode cX10_settles 10 = .ok (.aload_n 0, 1) := by decide +kernel
theorem dX10_settles_11 : decode cX10_settles 11 = .ok (.aload_n 0, 1) := by decide +kernel
theorem dX10_settles_12 : decode cX10_settles 12 = .ok (.iload_n 1, 1) := by decide +kernel
theorem dX10_settles_13 : decode cX10_settles 13 = .ok (.iconst 1, 1) := by decide +kernel
theorem dX10_settles_14 : decode cX10_settles 14 = .ok (.invokevirtual 263, 3) := by decide +kernel
theorem dX10_settles_17 : decode cX10_settles 17 = .ok (.invokevirtual 115, 3) := by decide +kernel
theorem dX10_settles_20 : decode cX10_settles 20 = .ok (.goto 8, 3) := by decide +kernel
theorem dX10_settles_23 : decode cX10_settles 23 = .ok (.aload_n 0, 1) := by decide +kernel
theorem dX10_settles_24 : decode cX10_settles 24 = .ok (.iload_n 2, 1) := by decide +kernel
theorem dX10_settles_25 : decode cX10_settles 25 = .ok (.invokevirtual 86, 3) := by decide +kernel
theorem dX10_settles_28 : decode cX10_settles 28 = .ok (.ireturn, 1) := by decide +kernel
theorem dX10_settled_0 : decode cX10_settled 0 = .ok (.aload_n 0, 1) := by decide +kernel
theorem dX10_settled_1 : decode cX10_settled 1 = .ok (.iload_n 1, 1) := by decide +kernel
theorem dX10_settled_2 : decode cX10_settled 2 = .ok (.invokevirtual 260, 3) := by decide +kernel
theorem dX10_settled_5 : decode cX10_settled 5 = .ok (.istore_n 2, 1) := by decide +kernel
theorem dX10_settled_6 : decode cX10_settled 6 = .ok (.iload_n 2, 1) := by decide +kernel
theorem dX10_settled_7 : decode cX10_settled 7 = .ok (.ifCond .ne 16, 3) := by decide +kernel
theorem dX10_settled_10 : decode cX10_settled 10 = .ok (.aload_n 0, 1) := by decide +kernel
theorem dX10_settled_11 : decode cX10_settled 11 = .ok (.aload_n 0, 1) := by decide +kernel
theorem dX10_settled_12 : decode cX10_settled 12 = .ok (.iload_n 1, 1) := by decide +kernel
theorem dX10_settled_13 : decode cX10_settled 13 = .ok (.iconst 0, 1) := by decide +kernel
theorem dX10_settled_14 : decode cX10_settled 14 = .ok (.invokevirtual 263, 3) := by decide +kernel
theorem dX10_settled_17 : decode cX10_settled 17 = .ok (.invokevirtual 115, 3) := by decide +kernel
theorem dX10_settled_20 : decode cX10_settled 20 = .ok (.goto 8, 3) := by decide +kernel
theorem dX10_settled_23 : decode cX10_settled 23 = .ok (.aload_n 0, 1) := by decide +kernel
theorem dX10_settled_24 : decode cX10_settled 24 = .ok (.iload_n 2, 1) := by decide +kernel
theorem dX10_settled_25 : decode cX10_settled 25 = .ok (.invokevirtual 86, 3) := by decide +kernel
theorem dX10_settled_28 : decode cX10_settled 28 = .ok (.ireturn, 1) := by decide +kernel
theorem dX10_push_0 : decode cX10_push 0 = .ok (.aload_n 0, 1) := by decide +kernel
theorem dX10_push_1 : decode cX10_push 1 = .ok (.invokevirtual 267, 3) := by decide +kernel
theorem dX10_push_4 : decode cX10_push 4 = .ok (.istore_n 2, 1) := by decide +kernel
theorem dX10_push_5 : decode cX10_push 5 = .ok (.iload_n 2, 1) := by decide +kernel
theorem dX10_push_6 : decode cX10_push 6 = .ok (.ifCond .ne 14, 3) := by decide +kernel
theorem dX10_push_9 : decode cX10_push 9 = .ok (.iload_n 1, 1) := by decide +kernel
theorem dX10_push_10 : decode cX10_push 10 = .ok (.ifCond .lt 8, 3) := by decide +kernel
theorem dX10_push_13 : decode cX10_push 13 = .ok (.iload_n 1, 1) := by decide +kernel
theorem dX10_push_14 : decode cX10_push 14 = .ok (.iconst 4, 1) := by decide +kernel
theorem dX10_push_15 : decode cX10_push 15 = .ok (.if_icmp .lt 5, 3) := by decide +kernel
theorem dX10_push_18 : decode cX10_push 18 = .ok (.iconst 2, 1) := by decide +kernel
theorem dX10_push_19 : decode cX10_push 19 = .ok (.istore_n 2, 1) := by decide +kernel
theorem dX10_push_20 : decode cX10_push 20 = .ok (.iload_n 2, 1) := by decide +kernel
theorem dX10_push_21 : decode cX10_push 21 = .ok (.ifCond .ne 16, 3) := by decide +kernel
theorem dX10_push_24 : decode cX10_push 24 = .ok (.aload_n 0, 1) := by decide +kernel
theorem dX10_push_25 : decode cX10_push 25 = .ok (.getfield 64, 3) := by decide +kernel
theorem dX10_push_28 : decode cX10_push 28 = .ok (.iload_n 1, 1) := by decide +kernel
theorem dX10_push_29 : decode cX10_push 29 = .ok (.invokevirtual 271, 3) := by decide +kernel
theorem dX10_push_32 : decode cX10_push 32 = .ok (.ifCond .ne 5, 3) := by decide +kernel
theorem dX10_push_35 : decode cX10_push 35 = .ok (.iconst 5, 1) := by decide +kernel
theorem dX10_push_36 : decode cX10_push 36 = .ok (.istore_n 2, 1) := by decide +kernel
theorem dX10_push_37 : decode cX10_push 37 = .ok (.iload_n 2, 1) := by decide +kernel
theorem dX10_push_38 : decode cX10_push 38 = .ok (.ifCond .ne 17, 3) := by decide +kernel
theorem dX10_push_41 : decode cX10_push 41 = .ok (.aload_n 0, 1) := by decide +kernel
theorem dX10_push_42 : decode cX10_push 42 = .ok (.aload_n 0, 1) := by decide +kernel
theorem dX10_push_43 : decode cX10_push 43 = .ok (.getfield 64, 3) := by decide +kernel
theorem dX10_push_46 : decode cX10_push 46 = .ok (.getfield 274, 3) := by decide +kernel
theorem dX10_push_49 : decode cX10_push 49 = .ok (.invokevirtual 115, 3) := by decide +kernel
theorem dX10_push_52 : decode cX10_push 52 = .ok (.goto 8, 3) := by decide +kernel
theorem dX10_push_55 : decode cX10_push 55 = .ok (.aload_n 0, 1) := by decide +kernel
theorem dX10_push_56 : decode cX10_push 56 = .ok (.iload_n 2, 1) := by decide +kernel
theorem dX10_push_57 : decode cX10_push 57 = .ok (.invokevirtual 86, 3) := by decide +kernel
theorem dX10_push_60 : decode cX10_push 60 = .ok (.ireturn, 1) := by decide +kernel
theorem dX10_walk_0 : decode cX10_walk 0 = .ok (.aload_n 0, 1) := by decide +kernel
theorem dX10_walk_1 : decode cX10_walk 1 = .ok (.getfield 10, 3) := by decide +kernel
theorem dX10_walk_4 : decode cX10_walk 4 = .ok (.getfield 124, 3) := by decide +kernel
theorem dX10_walk_7 : decode cX10_walk 7 = .ok (.ifCond .eq 12, 3) := by decide +kernel
theorem dX10_walk_10 : decode cX10_walk 10 = .ok (.iload_n 1, 1) := by decide +kernel
theorem dX10_walk_11 : decode cX10_walk 11 = .ok (.ifCond .lt 8, 3) := by decide +kernel
theorem dX10_walk_14 : decode cX10_walk 14 = .ok (.iload_n 1, 1) := by decide +kernel
theorem dX10_walk_15 : decode cX10_walk 15 = .ok (.iconst 3, 1) := by decide +kernel
theorem dX10_walk_16 : decode cX10_walk 16 = .ok (.if_icmp .le 9, 3) := by decide +kernel
theorem dX10_walk_19 : decode cX10_walk 19 = .ok (.aload_n 0, 1) := by decide +kernel
theorem dX10_walk_20 : decode cX10_walk 20 = .ok (.iconst 1, 1) := by decide +kernel
theorem dX10_walk_21 : decode cX10_walk 21 = .ok (.invokevirtual 86, 3) := by decide +kernel
theorem dX10_walk_24 : decode cX10_walk 24 = .ok (.ireturn, 1) := by decide +kernel
theorem dX10_walk_25 : decode cX10_walk 25 = .ok (.aload_n 0, 1) := by decide +kernel
theorem dX10_walk_26 : decode cX10_walk 26 = .ok (.getfield 35, 3) := by decide +kernel
theorem dX10_walk_29 : decode cX10_walk 29 = .ok (.getfield 127, 3) := by decide +kernel
theorem dX10_walk_32 : decode cX10_walk 32 = .ok (.ifCond .eq 9, 3) := by decide +kernel
theorem dX10_walk_35 : decode cX10_walk 35 = .ok (.aload_n 0, 1) := by decide +kernel
theorem dX10_walk_36 : decode cX10_walk 36 = .ok (.iconst 5, 1) := by decide +kernel
theorem dX10_walk_37 : decode cX10_walk 37 = .ok (.invokevirtual 86, 3) := by decide +kernel
theorem dX10_walk_40 : decode cX10_walk 40 = .ok (.ireturn, 1) := by decide +kernel
theorem dX10_walk_41 : decode cX10_walk 41 = .ok (.iload_n 1, 1) := by decide +kernel
theorem dX10_walk_42 : decode cX10_walk 42 = .ok (.tableswitch 72 0 2 #[26, 38, 50], 26) := by decide +kernel
theorem dX10_walk_68 : decode cX10_walk 68 = .ok (.aload_n 0, 1) := by decide +kernel
theorem dX10_walk_69 : decode cX10_walk 69 = .ok (.aload_n 0, 1) := by decide +kernel
theorem dX10_walk_70 : decode cX10_walk 70 = .ok (.getfield 64, 3) := by decide +kernel
theorem dX10_walk_73 : decode cX10_walk 73 = .ok (.getfield 274, 3) := by decide +kernel
theorem dX10_walk_76 : decode cX10_walk 76 = .ok (.invokevirtual 115, 3) := by decide +kernel
theorem dX10_walk_79 : decode cX10_walk 79 = .ok (.ireturn, 1) := by decide +kernel
theorem dX10_walk_80 : decode cX10_walk 80 = .ok (.aload_n 0, 1) := by decide +kernel
theorem dX10_walk_81 : decode cX10_walk 81 = .ok (.aload_n 0, 1) := by decide +kernel
theorem dX10_walk_82 : decode cX10_walk 82 = .ok (.getfield 64, 3) := by decide +kernel
theorem dX10_walk_85 : decode cX10_walk 85 = .ok (.invokevirtual 275, 3) := by decide +kernel
theorem dX10_walk_88 : decode cX10_walk 88 = .ok (.invokevirtual 115, 3) := by decide +kernel
theorem dX10_walk_91 : decode cX10_walk 91 = .ok (.ireturn, 1) := by decide +kernel
theorem dX10_walk_92 : decode cX10_walk 92 = .ok (.aload_n 0, 1) := by decide +kernel
theorem dX10_walk_93 : decode cX10_walk 93 = .ok (.aload_n 0, 1) := by decide +kernel
theorem dX10_walk_94 : decode cX10_walk 94 = .ok (.getfield 35, 3) := by decide +kernel
theorem dX10_walk_97 : decode cX10_walk 97 = .ok (.getfield 150, 3) := by decide +kernel
theorem dX10_walk_100 : decode cX10_walk 100 = .ok (.aload_n 0, 1) := by decide +kernel
theorem dX10_walk_101 : decode cX10_walk 101 = .ok (.getfield 64, 3) := by decide +kernel
theorem dX10_walk_104 : decode cX10_walk 104 = .ok (.getfield 274, 3) := by decide +kernel
theorem dX10_walk_107 : decode cX10_walk 107 = .ok (.invokestatic 140, 3) := by decide +kernel
theorem dX10_walk_110 : decode cX10_walk 110 = .ok (.invokevirtual 115, 3) := by decide +kernel
theorem dX10_walk_113 : decode cX10_walk 113 = .ok (.ireturn, 1) := by decide +kernel
theorem dX10_walk_114 : decode cX10_walk 114 = .ok (.aload_n 0, 1) := by decide +kernel
theorem dX10_walk_115 : decode cX10_walk 115 = .ok (.aload_n 0, 1) := by decide +kernel
theorem dX10_walk_116 : decode cX10_walk 116 = .ok (.getfield 64, 3) := by decide +kernel
theorem dX10_walk_119 : decode cX10_walk 119 = .ok (.getfield 278, 3) := by decide +kernel
theorem dX10_walk_122 : decode cX10_walk 122 = .ok (.invokevirtual 115, 3) := by decide +kernel
theorem dX10_walk_125 : decode cX10_walk 125 = .ok (.ireturn, 1) := by decide +kernel
theorem dX10_shown_0 : decode cX10_shown 0 = .ok (.aload_n 0, 1) := by decide +kernel
theorem dX10_shown_1 : decode cX10_shown 1 = .ok (.invokevirtual 267, 3) := by decide +kernel
theorem dX10_shown_4 : decode cX10_shown 4 = .ok (.istore_n 1, 1) := by decide +kernel
theorem dX10_shown_5 : decode cX10_shown 5 = .ok (.iload_n 1, 1) := by decide +kernel
theorem dX10_shown_6 : decode cX10_shown 6 = .ok (.ifCond .eq 9, 3) := by decide +kernel
theorem dX10_shown_9 : decode cX10_shown 9 = .ok (.aload_n 0, 1) := by decide +kernel
theorem dX10_shown_10 : decode cX10_shown 10 = .ok (.iload_n 1, 1) := by decide +kernel
theorem dX10_shown_11 : decode cX10_shown 11 = .ok (.invokevirtual 86, 3) := by decide +kernel
theorem dX10_shown_14 : decode cX10_shown 14 = .ok (.ireturn, 1) := by decide +kernel
theorem dX10_shown_15 : decode cX10_shown 15 = .ok (.aload_n 0, 1) := by decide +kernel
theorem dX10_shown_16 : decode cX10_shown 16 = .ok (.getfield 35, 3) := by decide +kernel
theorem dX10_shown_19 : decode cX10_shown 19 = .ok (.aload_n 0, 1) := by decide +kernel
theorem dX10_shown_20 : decode cX10_shown 20 = .ok (.getfield 10, 3) := by decide +kernel
theorem dX10_shown_23 : decode cX10_shown 23 = .ok (.getfield 136, 3) := by decide +kernel
theorem dX10_shown_26 : decode cX10_shown 26 = .ok (.aload_n 0, 1) := by decide +kernel
theorem dX10_shown_27 : decode cX10_shown 27 = .ok (.getfield 64, 3) := by decide +kernel
theorem dX10_shown_30 : decode cX10_shown 30 = .ok (.getfield 274, 3) := by decide +kernel
theorem dX10_shown_33 : decode cX10_shown 33 = .ok (.invokevirtual 281, 3) := by decide +kernel
theorem dX10_shown_36 : decode cX10_shown 36 = .ok (.aload_n 0, 1) := by decide +kernel
theorem dX10_shown_37 : decode cX10_shown 37 = .ok (.getfield 64, 3) := by decide +kernel
theorem dX10_shown_40 : decode cX10_shown 40 = .ok (.getfield 278, 3) := by decide +kernel
theorem dX10_shown_43 : decode cX10_shown 43 = .ok (.ixor, 1) := by decide +kernel
theorem dX10_shown_44 : decode cX10_shown 44 = .ok (.istore_n 2, 1) := by decide +kernel
theorem dX10_shown_45 : decode cX10_shown 45 = .ok (.iconst 0, 1) := by decide +kernel
theorem dX10_shown_46 : decode cX10_shown 46 = .ok (.istore_n 3, 1) := by decide +kernel
theorem dX10_shown_47 : decode cX10_shown 47 = .ok (.iconst 0, 1) := by decide +kernel
theorem dX10_shown_48 : decode cX10_shown 48 = .ok (.istore 4, 2) := by decide +kernel
theorem dX10_shown_50 : decode cX10_shown 50 = .ok (.iload 4, 2) := by decide +kernel
theorem dX10_shown_52 : decode cX10_shown 52 = .ok (.iconst 5, 1) := by decide +kernel
theorem dX10_shown_53 : decode cX10_shown 53 = .ok (.if_icmp .ge 44, 3) := by decide +kernel
theorem dX10_shown_56 : decode cX10_shown 56 = .ok (.aload_n 0, 1) := by decide +kernel
theorem dX10_shown_57 : decode cX10_shown 57 = .ok (.iload 4, 2) := by decide +kernel
theorem dX10_shown_59 : decode cX10_shown 59 = .ok (.invokevirtual 194, 3) := by decide +kernel
theorem dX10_shown_62 : decode cX10_shown 62 = .ok (.astore 5, 2) := by decide +kernel
theorem dX10_shown_64 : decode cX10_shown 64 = .ok (.aload 5, 2) := by decide +kernel
theorem dX10_shown_66 : decode cX10_shown 66 = .ok (.invokevirtual 284, 3) := by decide +kernel
theorem dX10_shown_69 : decode cX10_shown 69 = .ok (.ifCond .ne 10, 3) := by decide +kernel
theorem dX10_shown_72 : decode cX10_shown 72 = .ok (.aload_n 0, 1) := by decide +kernel
theorem dX10_shown_73 : decode cX10_shown 73 = .ok (.bipush (-2), 2) := by decide +kernel
theorem dX10_shown_75 : decode cX10_shown 75 = .ok (.invokevirtual 115, 3) := by decide +kernel
theorem dX10_shown_78 : decode cX10_shown 78 = .ok (.ireturn, 1) := by decide +kernel
theorem dX10_shown_79 : decode cX10_shown 79 = .ok (.iload_n 3, 1) := by decide +kernel
theorem dX10_shown_80 : decode cX10_shown 80 = .ok (.aload 5, 2) := by decide +kernel
theorem dX10_shown_82 : decode cX10_shown 82 = .ok (.iload_n 2, 1) := by decide +kernel
theorem dX10_shown_83 : decode cX10_shown 83 = .ok (.invokevirtual 287, 3) := by decide +kernel
theorem dX10_shown_86 : decode cX10_shown 86 = .ok (.iload 4, 2) := by decide +kernel
theorem dX10_shown_88 : decode cX10_shown 88 = .ok (.ishl, 1) := by decide +kernel
theorem dX10_shown_89 : decode cX10_shown 89 = .ok (.ior, 1) := by decide +kernel
theorem dX10_shown_90 : decode cX10_shown 90 = .ok (.istore_n 3, 1) := by decide +kernel
theorem dX10_shown_91 : decode cX10_shown 91 = .ok (.iinc 4 1, 3) := by decide +kernel
theorem dX10_shown_94 : decode cX10_shown 94 = .ok (.goto (-44), 3) := by decide +kernel
theorem dX10_shown_97 : decode cX10_shown 97 = .ok (.aload_n 0, 1) := by decide +kernel
theorem dX10_shown_98 : decode cX10_shown 98 = .ok (.iload_n 3, 1) := by decide +kernel
theorem dX10_shown_99 : decode cX10_shown 99 = .ok (.invokevirtual 115, 3) := by decide +kernel
theorem dX10_shown_102 : decode cX10_shown 102 = .ok (.ireturn, 1) := by decide +kernel
theorem dX10_codings_0 : decode cX10_codings 0 = .ok (.aload_n 0, 1) := by decide +kernel
theorem dX10_codings_1 : decode cX10_codings 1 = .ok (.iload_n 1, 1) := by decide +kernel
theorem dX10_codings_2 : decode cX10_codings 2 = .ok (.invokevirtual 290, 3) := by decide +kernel
theorem dX10_codings_5 : decode cX10_codings 5 = .ok (.istore_n 2, 1) := by decide +kernel
theorem dX10_codings_6 : decode cX10_codings 6 = .ok (.iload_n 2, 1) := by decide +kernel
theorem dX10_codings_7 : decode cX10_codings 7 = .ok (.ifCond .eq 9, 3) := by decide +kernel
theorem dX10_codings_10 : decode cX10_codings 10 = .ok (.aload_n 0, 1) := by decide +kernel
theorem dX10_codings_11 : decode cX10_codings 11 = .ok (.iload_n 2, 1) := by decide +kernel
theorem dX10_codings_12 : decode cX10_codings 12 = .ok (.invokevirtual 86, 3) := by decide +kernel
theorem dX10_codings_15 : decode cX10_codings 15 = .ok (.ireturn, 1) := by decide +kernel
theorem dX10_codings_16 : decode cX10_codings 16 = .ok (.aload_n 0, 1) := by decide +kernel
theorem dX10_codings_17 : decode cX10_codings 17 = .ok (.getfield 57, 3) := by decide +kernel
theorem dX10_codings_20 : decode cX10_codings 20 = .ok (.iload_n 1, 1) := by decide +kernel
theorem dX10_codings_21 : decode cX10_codings 21 = .ok (.invokevirtual 293, 3) := by decide +kernel
theorem dX10_codings_24 : decode cX10_codings 24 = .ok (.aload_n 0, 1) := by decide +kernel
theorem dX10_codings_25 : decode cX10_codings 25 = .ok (.aload_n 0, 1) := by decide +kernel
theorem dX10_codings_26 : decode cX10_codings 26 = .ok (.getfield 57, 3) := by decide +kernel
theorem dX10_codings_29 : decode cX10_codings 29 = .ok (.getfield 296, 3) := by decide +kernel
theorem dX10_codings_32 : decode cX10_codings 32 = .ok (.invokevirtual 115, 3) := by decide +kernel
theorem dX10_codings_35 : decode cX10_codings 35 = .ok (.ireturn, 1) := by decide +kernel
theorem dX10_coding_0 : decode cX10_coding 0 = .ok (.iload_n 2, 1) := by decide +kernel
theorem dX10_coding_1 : decode cX10_coding 1 = .ok (.ifCond .lt 14, 3) := by decide +kernel
theorem dX10_coding_4 : decode cX10_coding 4 = .ok (.iload_n 2, 1) := by decide +kernel
theorem dX10_coding_5 : decode cX10_coding 5 = .ok (.aload_n 0, 1) := by decide +kernel
theorem dX10_coding_6 : decode cX10_coding 6 = .ok (.getfield 10, 3) := by decide +kernel
theorem dX10_coding_9 : decode cX10_coding 9 = .ok (.getfield 133, 3) := by decide +kernel
theorem dX10_coding_12 : decode cX10_coding 12 = .ok (.if_icmp .lt 9, 3) := by decide +kernel
theorem dX10_coding_15 : decode cX10_coding 15 = .ok (.aload_n 0, 1) := by decide +kernel
theorem dX10_coding_16 : decode cX10_coding 16 = .ok (.iconst 1, 1) := by decide +kernel
theorem dX10_coding_17 : decode cX10_coding 17 = .ok (.invokevirtual 86, 3) := by decide +kernel
theorem dX10_coding_20 : decode cX10_coding 20 = .ok (.ireturn, 1) := by decide +kernel
theorem dX10_coding_21 : decode cX10_coding 21 = .ok (.aload_n 0, 1) := by decide +kernel
theorem dX10_coding_22 : decode cX10_coding 22 = .ok (.iload_n 1, 1) := by decide +kernel
theorem dX10_coding_23 : decode cX10_coding 23 = .ok (.invokevirtual 290, 3) := by decide +kernel
theorem dX10_coding_26 : decode cX10_coding 26 = .ok (.istore_n 3, 1) := by decide +kernel
theorem dX10_coding_27 : decode cX10_coding 27 = .ok (.iload_n 3, 1) := by decide +kernel
theorem dX10_coding_28 : decode cX10_coding 28 = .ok (.ifCond .eq 9, 3) := by decide +kernel
theorem dX10_coding_31 : decode cX10_coding 31 = .ok (.aload_n 0, 1) := by decide +kernel
theorem dX10_coding_32 : decode cX10_coding 32 = .ok (.iload_n 3, 1) := by decide +kernel
theorem dX10_coding_33 : decode cX10_coding 33 = .ok (.invokevirtual 86, 3) := by decide +kernel
theorem dX10_coding_36 : decode cX10_coding 36 = .ok (.ireturn, 1) := by decide +kernel
theorem dX10_coding_37 : decode cX10_coding 37 = .ok (.aload_n 0, 1) := by decide +kernel
theorem dX10_coding_38 : decode cX10_coding 38 = .ok (.getfield 57, 3) := by decide +kernel
theorem dX10_coding_41 : decode cX10_coding 41 = .ok (.iload_n 1, 1) := by decide +kernel
theorem dX10_coding_42 : decode cX10_coding 42 = .ok (.invokevirtual 293, 3) := by decide +kernel
theorem dX10_coding_45 : decode cX10_coding 45 = .ok (.aload_n 0, 1) := by decide +kernel
theorem dX10_coding_46 : decode cX10_coding 46 = .ok (.getfield 57, 3) := by decide +kernel
theorem dX10_coding_49 : decode cX10_coding 49 = .ok (.getfield 296, 3) := by decide +kernel
theorem dX10_coding_52 : decode cX10_coding 52 = .ok (.ifCond .le 21, 3) := by decide +kernel
theorem dX10_coding_55 : decode cX10_coding 55 = .ok (.aload_n 0, 1) := by decide +kernel
theorem dX10_coding_56 : decode cX10_coding 56 = .ok (.aload_n 0, 1) := by decide +kernel
theorem dX10_coding_57 : decode cX10_coding 57 = .ok (.getfield 57, 3) := by decide +kernel
theorem dX10_coding_60 : decode cX10_coding 60 = .ok (.getfield 299, 3) := by decide +kernel
theorem dX10_coding_63 : decode cX10_coding 63 = .ok (.iload_n 2, 1) := by decide +kernel
theorem dX10_coding_64 : decode cX10_coding 64 = .ok (.invokestatic 140, 3) := by decide +kernel
theorem dX10_coding_67 : decode cX10_coding 67 = .ok (.invokevirtual 115, 3) := by decide +kernel
theorem dX10_coding_70 : decode cX10_coding 70 = .ok (.goto 8, 3) := by decide +kernel
theorem dX10_coding_73 : decode cX10_coding 73 = .ok (.aload_n 0, 1) := by decide +kernel
theorem dX10_coding_74 : decode cX10_coding 74 = .ok (.iconst 1, 1) := by decide +kernel
theorem dX10_coding_75 : decode cX10_coding 75 = .ok (.invokevirtual 86, 3) := by decide +kernel
theorem dX10_coding_78 : decode cX10_coding 78 = .ok (.ireturn, 1) := by decide +kernel
theorem dX10_recode_0 : decode cX10_recode 0 = .ok (.iload_n 1, 1) := by decide +kernel
theorem dX10_recode_1 : decode cX10_recode 1 = .ok (.ifCond .lt 14, 3) := by decide +kernel
theorem dX10_recode_4 : decode cX10_recode 4 = .ok (.iload_n 1, 1) := by decide +kernel
theorem dX10_recode_5 : decode cX10_recode 5 = .ok (.aload_n 0, 1) := by decide +kernel
theorem dX10_recode_6 : decode cX10_recode 6 = .ok (.getfield 10, 3) := by decide +kernel
theorem dX10_recode_9 : decode cX10_recode 9 = .ok (.getfield 133, 3) := by decide +kernel
theorem dX10_recode_12 : decode cX10_recode 12 = .ok (.if_icmp .lt 9, 3) := by decide +kernel
theorem dX10_recode_15 : decode cX10_recode 15 = .ok (.aload_n 0, 1) := by decide +kernel
theorem dX10_recode_16 : decode cX10_recode 16 = .ok (.iconst 1, 1) := by decide +kernel
theorem dX10_recode_17 : decode cX10_recode 17 = .ok (.invokevirtual 86, 3) := by decide +kernel
theorem dX10_recode_20 : decode cX10_recode 20 = .ok (.ireturn, 1) := by decide +kernel
theorem dX10_recode_21 : decode cX10_recode 21 = .ok (.iload_n 2, 1) := by decide +kernel
theorem dX10_recode_22 : decode cX10_recode 22 = .ok (.ifCond .lt 8, 3) := by decide +kernel
theorem dX10_recode_25 : decode cX10_recode 25 = .ok (.iload_n 2, 1) := by decide +kernel
theorem dX10_recode_26 : decode cX10_recode 26 = .ok (.iconst 4, 1) := by decide +kernel
theorem dX10_recode_27 : decode cX10_recode 27 = .ok (.if_icmp .lt 9, 3) := by decide +kernel
theorem dX10_recode_30 : decode cX10_recode 30 = .ok (.aload_n 0, 1) := by decide +kernel
theorem dX10_recode_31 : decode cX10_recode 31 = .ok (.iconst 2, 1) := by decide +kernel
theorem dX10_recode_32 : decode cX10_recode 32 = .ok (.invokevirtual 86, 3) := by decide +kernel
theorem dX10_recode_35 : decode cX10_recode 35 = .ok (.ireturn, 1) := by decide +kernel
theorem dX10_recode_36 : decode cX10_recode 36 = .ok (.aload_n 0, 1) := by decide +kernel
theorem dX10_recode_37 : decode cX10_recode 37 = .ok (.getfield 10, 3) := by decide +kernel
theorem dX10_recode_40 : decode cX10_recode 40 = .ok (.getfield 136, 3) := by decide +kernel
theorem dX10_recode_43 : decode cX10_recode 43 = .ok (.iload_n 1, 1) := by decide +kernel
theorem dX10_recode_44 : decode cX10_recode 44 = .ok (.invokestatic 140, 3) := by decide +kernel
theorem dX10_recode_47 : decode cX10_recode 47 = .ok (.istore_n 3, 1) := by decide +kernel
theorem dX10_recode_48 : decode cX10_recode 48 = .ok (.aload_n 0, 1) := by decide +kernel
theorem dX10_recode_49 : decode cX10_recode 49 = .ok (.getfield 28, 3) := by decide +kernel
theorem dX10_recode_52 : decode cX10_recode 52 = .ok (.iload_n 1, 1) := by decide +kernel
theorem dX10_recode_53 : decode cX10_recode 53 = .ok (.iload_n 2, 1) := by decide +kernel
theorem dX10_recode_54 : decode cX10_recode 54 = .ok (.invokevirtual 302, 3) := by decide +kernel
theorem dX10_recode_57 : decode cX10_recode 57 = .ok (.aload_n 0, 1) := by decide +kernel
theorem dX10_recode_58 : decode cX10_recode 58 = .ok (.invokevirtual 109, 3) := by decide +kernel
theorem dX10_recode_61 : decode cX10_recode 61 = .ok (.aload_n 0, 1) := by decide +kernel
theorem dX10_recode_62 : decode cX10_recode 62 = .ok (.iload_n 3, 1) := by decide +kernel
theorem dX10_recode_63 : decode cX10_recode 63 = .ok (.invokevirtual 115, 3) := by decide +kernel
theorem dX10_recode_66 : decode cX10_recode 66 = .ok (.ireturn, 1) := by decide +kernel
theorem dX10_strike_0 : decode cX10_strike 0 = .ok (.aload_n 0, 1) := by decide +kernel
theorem dX10_strike_1 : decode cX10_strike 1 = .ok (.iload_n 1, 1) := by decide +kernel
theorem dX10_strike_2 : decode cX10_strike 2 = .ok (.invokevirtual 153, 3) := by decide +kernel
theorem dX10_strike_5 : decode cX10_strike 5 = .ok (.ifCond .ne 9, 3) := by decide +kernel
theorem dX10_strike_8 : decode cX10_strike 8 = .ok (.aload_n 0, 1) := by decide +kernel
theorem dX10_strike_9 : decode cX10_strike 9 = .ok (.iconst 1, 1) := by decide +kernel
theorem dX10_strike_10 : decode cX10_strike 10 = .ok (.invokevirtual 86, 3) := by decide +kernel
theorem dX10_strike_13 : decode cX10_strike 13 = .ok (.ireturn, 1) := by decide +kernel
theorem dX10_strike_14 : decode cX10_strike 14 = .ok (.aload_n 0, 1) := by decide +kernel
theorem dX10_strike_15 : decode cX10_strike 15 = .ok (.getfield 28, 3) := by decide +kernel
theorem dX10_strike_18 : decode cX10_strike 18 = .ok (.iload_n 1, 1) := by decide +kernel
theorem dX10_strike_19 : decode cX10_strike 19 = .ok (.invokevirtual 306, 3) := by decide +kernel
theorem dX10_strike_22 : decode cX10_strike 22 = .ok (.aload_n 0, 1) := by decide +kernel
theorem dX10_strike_23 : decode cX10_strike 23 = .ok (.invokevirtual 109, 3) := by decide +kernel
theorem dX10_strike_26 : decode cX10_strike 26 = .ok (.aload_n 0, 1) := by decide +kernel
theorem dX10_strike_27 : decode cX10_strike 27 = .ok (.aload_n 0, 1) := by decide +kernel
theorem dX10_strike_28 : decode cX10_strike 28 = .ok (.getfield 10, 3) := by decide +kernel
theorem dX10_strike_31 : decode cX10_strike 31 = .ok (.getfield 112, 3) := by decide +kernel
theorem dX10_strike_34 : decode cX10_strike 34 = .ok (.invokevirtual 115, 3) := by decide +kernel
theorem dX10_strike_37 : decode cX10_strike 37 = .ok (.ireturn, 1) := by decide +kernel
theorem dX10_add_0 : decode cX10_add 0 = .ok (.aload_n 0, 1) := by decide +kernel
theorem dX10_add_1 : decode cX10_add 1 = .ok (.getfield 10, 3) := by decide +kernel
theorem dX10_add_4 : decode cX10_add 4 = .ok (.getfield 124, 3) := by decide +kernel
theorem dX10_add_7 : decode cX10_add 7 = .ok (.ifCond .eq 10, 3) := by decide +kernel
theorem dX10_add_10 : decode cX10_add 10 = .ok (.iload_n 1, 1) := by decide +kernel
theorem dX10_add_11 : decode cX10_add 11 = .ok (.invokestatic 247, 3) := by decide +kernel
theorem dX10_add_14 : decode cX10_add 14 = .ok (.ifCond .ne 9, 3) := by decide +kernel
theorem dX10_add_17 : decode cX10_add 17 = .ok (.aload_n 0, 1) := by decide +kernel
theorem dX10_add_18 : decode cX10_add 18 = .ok (.iconst 1, 1) := by decide +kernel
theorem dX10_add_19 : decode cX10_add 19 = .ok (.invokevirtual 86, 3) := by decide +kernel
theorem dX10_add_22 : decode cX10_add 22 = .ok (.ireturn, 1) := by decide +kernel
theorem dX10_add_23 : decode cX10_add 23 = .ok (.iload_n 2, 1) := by decide +kernel
theorem dX10_add_24 : decode cX10_add 24 = .ok (.invokestatic 207, 3) := by decide +kernel
theorem dX10_add_27 : decode cX10_add 27 = .ok (.ifCond .ne 9, 3) := by decide +kernel
theorem dX10_add_30 : decode cX10_add 30 = .ok (.aload_n 0, 1) := by decide +kernel
theorem dX10_add_31 : decode cX10_add 31 = .ok (.iconst 2, 1) := by decide +kernel
theorem dX10_add_32 : decode cX10_add 32 = .ok (.invokevirtual 86, 3) := by decide +kernel
theorem dX10_add_35 : decode cX10_add 35 = .ok (.ireturn, 1) := by decide +kernel
theorem dX10_add_36 : decode cX10_add 36 = .ok (.aload_n 0, 1) := by decide +kernel
theorem dX10_add_37 : decode cX10_add 37 = .ok (.getfield 10, 3) := by decide +kernel
theorem dX10_add_40 : decode cX10_add 40 = .ok (.getfield 163, 3) := by decide +kernel
theorem dX10_add_43 : decode cX10_add 43 = .ok (.bipush 16, 2) := by decide +kernel
theorem dX10_add_45 : decode cX10_add 45 = .ok (.if_icmp .lt 9, 3) := by decide +kernel
theorem dX10_add_48 : decode cX10_add 48 = .ok (.aload_n 0, 1) := by decide +kernel
theorem dX10_add_49 : decode cX10_add 49 = .ok (.iconst 3, 1) := by decide +kernel
theorem dX10_add_50 : decode cX10_add 50 = .ok (.invokevirtual 86, 3) := by decide +kernel
theorem dX10_add_53 : decode cX10_add 53 = .ok (.ireturn, 1) := by decide +kernel
theorem dX10_add_54 : decode cX10_add 54 = .ok (.aload_n 0, 1) := by decide +kernel
theorem dX10_add_55 : decode cX10_add 55 = .ok (.getfield 28, 3) := by decide +kernel
theorem dX10_add_58 : decode cX10_add 58 = .ok (.iload_n 1, 1) := by decide +kernel
theorem dX10_add_59 : decode cX10_add 59 = .ok (.iload_n 2, 1) := by decide +kernel
theorem dX10_add_60 : decode cX10_add 60 = .ok (.invokevirtual 309, 3) := by decide +kernel
theorem dX10_add_63 : decode cX10_add 63 = .ok (.aload_n 0, 1) := by decide +kernel
theorem dX10_add_64 : decode cX10_add 64 = .ok (.getfield 64, 3) := by decide +kernel
theorem dX10_add_67 : decode cX10_add 67 = .ok (.invokevirtual 312, 3) := by decide +kernel
theorem dX10_add_70 : decode cX10_add 70 = .ok (.aload_n 0, 1) := by decide +kernel
theorem dX10_add_71 : decode cX10_add 71 = .ok (.aload_n 0, 1) := by decide +kernel
theorem dX10_add_72 : decode cX10_add 72 = .ok (.getfield 10, 3) := by decide +kernel
theorem dX10_add_75 : decode cX10_add 75 = .ok (.getfield 163, 3) := by decide +kernel
theorem dX10_add_78 : decode cX10_add 78 = .ok (.invokevirtual 115, 3) := by decide +kernel
theorem dX10_add_81 : decode cX10_add 81 = .ok (.ireturn, 1) := by decide +kernel
theorem dX10_undo_0 : decode cX10_undo 0 = .ok (.aload_n 0, 1) := by decide +kernel
theorem dX10_undo_1 : decode cX10_undo 1 = .ok (.getfield 28, 3) := by decide +kernel
theorem dX10_undo_4 : decode cX10_undo 4 = .ok (.getfield 106, 3) := by decide +kernel
theorem dX10_undo_7 : decode cX10_undo 7 = .ok (.ifCond .gt 10, 3) := by decide +kernel
theorem dX10_undo_10 : decode cX10_undo 10 = .ok (.aload_n 0, 1) := by decide +kernel
theorem dX10_undo_11 : decode cX10_undo 11 = .ok (.iconst 1, 1) := by decide +kernel
theorem dX10_undo_12 : decode cX10_undo 12 = .ok (.putfield 118, 3) := by decide +kernel
theorem dX10_undo_15 : decode cX10_undo 15 = .ok (.iconst 0, 1) := by decide +kernel
theorem dX10_undo_16 : decode cX10_undo 16 = .ok (.ireturn, 1) := by decide +kernel
theorem dX10_undo_17 : decode cX10_undo 17 = .ok (.aload_n 0, 1) := by decide +kernel
theorem dX10_undo_18 : decode cX10_undo 18 = .ok (.getfield 28, 3) := by decide +kernel
theorem dX10_undo_21 : decode cX10_undo 21 = .ok (.invokevirtual 315, 3) := by decide +kernel
theorem dX10_undo_24 : decode cX10_undo 24 = .ok (.iconst 2, 1) := by decide +kernel
theorem dX10_undo_25 : decode cX10_undo 25 = .ok (.if_icmp .ne 13, 3) := by decide +kernel
theorem dX10_undo_28 : decode cX10_undo 28 = .ok (.aload_n 0, 1) := by decide +kernel
theorem dX10_undo_29 : decode cX10_undo 29 = .ok (.getfield 64, 3) := by decide +kernel
theorem dX10_undo_32 : decode cX10_undo 32 = .ok (.invokevirtual 312, 3) := by decide +kernel
theorem dX10_undo_35 : decode cX10_undo 35 = .ok (.goto 7, 3) := by decide +kernel
theorem dX10_undo_38 : decode cX10_undo 38 = .ok (.aload_n 0, 1) := by decide +kernel
theorem dX10_undo_39 : decode cX10_undo 39 = .ok (.invokevirtual 109, 3) := by decide +kernel
theorem dX10_undo_42 : decode cX10_undo 42 = .ok (.aload_n 0, 1) := by decide +kernel
theorem dX10_undo_43 : decode cX10_undo 43 = .ok (.iconst 0, 1) := by decide +kernel
theorem dX10_undo_44 : decode cX10_undo 44 = .ok (.putfield 118, 3) := by decide +kernel
theorem dX10_undo_47 : decode cX10_undo 47 = .ok (.iconst 1, 1) := by decide +kernel
theorem dX10_undo_48 : decode cX10_undo 48 = .ok (.ireturn, 1) := by decide +kernel
theorem dX10_last_0 : decode cX10_last 0 = .ok (.iload_n 1, 1) := by decide +kernel
theorem dX10_last_1 : decode cX10_last 1 = .ok (.istore_n 2, 1) := by decide +kernel
theorem dX10_last_2 : decode cX10_last 2 = .ok (.iconst 0, 1) := by decide +kernel
theorem dX10_last_3 : decode cX10_last 3 = .ok (.istore_n 3, 1) := by decide +kernel
theorem dX10_last_4 : decode cX10_last 4 = .ok (.iload_n 3, 1) := by decide +kernel
theorem dX10_last_5 : decode cX10_last 5 = .ok (.aload_n 0, 1) := by decide +kernel
theorem dX10_last_6 : decode cX10_last 6 = .ok (.getfield 10, 3) := by decide +kernel
theorem dX10_last_9 : decode cX10_last 9 = .ok (.getfield 133, 3) := by decide +kernel
theorem dX10_last_12 : decode cX10_last 12 = .ok (.if_icmp .ge 29, 3) := by decide +kernel
theorem dX10_last_15 : decode cX10_last 15 = .ok (.aload_n 0, 1) := by decide +kernel
theorem dX10_last_16 : decode cX10_last 16 = .ok (.getfield 10, 3) := by decide +kernel
theorem dX10_last_19 : decode cX10_last 19 = .ok (.iload_n 3, 1) := by decide +kernel
theorem dX10_last_20 : decode cX10_last 20 = .ok (.invokevirtual 318, 3) := by decide +kernel
theorem dX10_last_23 : decode cX10_last 23 = .ok (.ifCond .ne 12, 3) := by decide +kernel
theorem dX10_last_26 : decode cX10_last 26 = .ok (.iload_n 2, 1) := by decide +kernel
theorem dX10_last_27 : decode cX10_last 27 = .ok (.ifCond .ne 5, 3) := by decide +kernel
theorem dX10_last_30 : decode cX10_last 30 = .ok (.iload_n 3, 1) := by decide +kernel
theorem dX10_last_31 : decode cX10_last 31 = .ok (.ireturn, 1) := by decide +kernel
theorem dX10_last_32 : decode cX10_last 32 = .ok (.iinc 2 (-1), 3) := by decide +kernel
theorem dX10_last_35 : decode cX10_last 35 = .ok (.iinc 3 1, 3) := by decide +kernel
theorem dX10_last_38 : decode cX10_last 38 = .ok (.goto (-34), 3) := by decide +kernel
theorem dX10_last_41 : decode cX10_last 41 = .ok (.new 321, 3) := by decide +kernel
theorem dX10_last_44 : decode cX10_last 44 = .ok (.dup, 1) := by decide +kernel
theorem dX10_last_45 : decode cX10_last 45 = .ok (.ldc_w 323, 3) := by decide +kernel
theorem dX10_last_48 : decode cX10_last 48 = .ok (.invokespecial 325, 3) := by decide +kernel
theorem dX10_last_51 : decode cX10_last 51 = .ok (.athrow, 1) := by decide +kernel
theorem dX10_size_0 : decode cX10_size 0 = .ok (.iload_n 1, 1) := by decide +kernel
theorem dX10_size_1 : decode cX10_size 1 = .ok (.tableswitch 87 0 5 #[39, 47, 55, 63, 71, 79], 39) := by decide +kernel
theorem dX10_size_40 : decode cX10_size 40 = .ok (.aload_n 0, 1) := by decide +kernel
theorem dX10_size_41 : decode cX10_size 41 = .ok (.getfield 10, 3) := by decide +kernel
theorem dX10_size_44 : decode cX10_size 44 = .ok (.getfield 133, 3) := by decide +kernel
theorem dX10_size_47 : decode cX10_size 47 = .ok (.ireturn, 1) := by decide +kernel
theorem dX10_size_48 : decode cX10_size 48 = .ok (.aload_n 0, 1) := by decide +kernel
theorem dX10_size_49 : decode cX10_size 49 = .ok (.getfield 10, 3) := by decide +kernel
theorem dX10_size_52 : decode cX10_size 52 = .ok (.getfield 112, 3) := by decide +kernel
theorem dX10_size_55 : decode cX10_size 55 = .ok (.ireturn, 1) := by decide +kernel
theorem dX10_size_56 : decode cX10_size 56 = .ok (.aload_n 0, 1) := by decide +kernel
theorem dX10_size_57 : decode cX10_size 57 = .ok (.getfield 10, 3) := by decide +kernel
theorem dX10_size_60 : decode cX10_size 60 = .ok (.getfield 163, 3) := by decide +kernel
theorem dX10_size_63 : decode cX10_size 63 = .ok (.ireturn, 1) := by decide +kernel
theorem dX10_size_64 : decode cX10_size 64 = .ok (.aload_n 0, 1) := by decide +kernel
theorem dX10_size_65 : decode cX10_size 65 = .ok (.getfield 28, 3) := by decide +kernel
theorem dX10_size_68 : decode cX10_size 68 = .ok (.getfield 106, 3) := by decide +kernel
theorem dX10_size_71 : decode cX10_size 71 = .ok (.ireturn, 1) := by decide +kernel
theorem dX10_size_72 : decode cX10_size 72 = .ok (.aload_n 0, 1) := by decide +kernel
theorem dX10_size_73 : decode cX10_size 73 = .ok (.getfield 19, 3) := by decide +kernel
theorem dX10_size_76 : decode cX10_size 76 = .ok (.getfield 82, 3) := by decide +kernel
theorem dX10_size_79 : decode cX10_size 79 = .ok (.ireturn, 1) := by decide +kernel
theorem dX10_size_80 : decode cX10_size 80 = .ok (.aload_n 0, 1) := by decide +kernel
theorem dX10_size_81 : decode cX10_size 81 = .ok (.getfield 10, 3) := by decide +kernel
theorem dX10_size_84 : decode cX10_size 84 = .ok (.getfield 328, 3) := by decide +kernel
theorem dX10_size_87 : decode cX10_size 87 = .ok (.ireturn, 1) := by decide +kernel
theorem dX10_size_88 : decode cX10_size 88 = .ok (.iconst (-1), 1) := by decide +kernel
theorem dX10_size_89 : decode cX10_size 89 = .ok (.ireturn, 1) := by decide +kernel
theorem dX10_trouble_0 : decode cX10_trouble 0 = .ok (.aload_n 0, 1) := by decide +kernel
theorem dX10_trouble_1 : decode cX10_trouble 1 = .ok (.getfield 118, 3) := by decide +kernel
theorem dX10_trouble_4 : decode cX10_trouble 4 = .ok (.ireturn, 1) := by decide +kernel
theorem dX10_told_0 : decode cX10_told 0 = .ok (.aload_n 0, 1) := by decide +kernel
theorem dX10_told_1 : decode cX10_told 1 = .ok (.iconst 0, 1) := by decide +kernel
theorem dX10_told_2 : decode cX10_told 2 = .ok (.putfield 118, 3) := by decide +kernel
theorem dX10_told_5 : decode cX10_told 5 = .ok (.iload_n 1, 1) := by decide +kernel
theorem dX10_told_6 : decode cX10_told 6 = .ok (.ireturn, 1) := by decide +kernel
theorem dX10_refuse_0 : decode cX10_refuse 0 = .ok (.aload_n 0, 1) := by decide +kernel
theorem dX10_refuse_1 : decode cX10_refuse 1 = .ok (.iload_n 1, 1) := by decide +kernel
theorem dX10_refuse_2 : decode cX10_refuse 2 = .ok (.putfield 118, 3) := by decide +kernel
theorem dX10_refuse_5 : decode cX10_refuse 5 = .ok (.iconst (-1), 1) := by decide +kernel
theorem dX10_refuse_6 : decode cX10_refuse 6 = .ok (.ireturn, 1) := by decide +kernel
theorem dX10_studyAnew_0 : decode cX10_studyAnew 0 = .ok (.aload_n 0, 1) := by decide +kernel
theorem dX10_studyAnew_1 : decode cX10_studyAnew 1 = .ok (.getfield 35, 3) := by decide +kernel
theorem dX10_studyAnew_4 : decode cX10_studyAnew 4 = .ok (.invokevirtual 331, 3) := by decide +kernel
theorem dX10_studyAnew_7 : decode cX10_studyAnew 7 = .ok (.iconst 0, 1) := by decide +kernel
theorem dX10_studyAnew_8 : decode cX10_studyAnew 8 = .ok (.istore_n 1, 1) := by decide +kernel
theorem dX10_studyAnew_9 : decode cX10_studyAnew 9 = .ok (.iload_n 1, 1) := by decide +kernel
theorem dX10_studyAnew_10 : decode cX10_studyAnew 10 = .ok (.iconst 5, 1) := by decide +kernel
theorem dX10_studyAnew_11 : decode cX10_studyAnew 11 = .ok (.if_icmp .ge 19, 3) := by decide +kernel
theorem dX10_studyAnew_14 : decode cX10_studyAnew 14 = .ok (.aload_n 0, 1) := by decide +kernel
theorem dX10_studyAnew_15 : decode cX10_studyAnew 15 = .ok (.getfield 48, 3) := by decide +kernel
theorem dX10_studyAnew_18 : decode cX10_studyAnew 18 = .ok (.iload_n 1, 1) := by decide +kernel
theorem dX10_studyAnew_19 : decode cX10_studyAnew 19 = .ok (.aaload, 1) := by decide +kernel
theorem dX10_studyAnew_20 : decode cX10_studyAnew 20 = .ok (.iconst 0, 1) := by decide +kernel
theorem dX10_studyAnew_21 : decode cX10_studyAnew 21 = .ok (.putfield 334, 3) := by decide +kernel
theorem dX10_studyAnew_24 : decode cX10_studyAnew 24 = .ok (.iinc 1 1, 3) := by decide +kernel
theorem dX10_studyAnew_27 : decode cX10_studyAnew 27 = .ok (.goto (-18), 3) := by decide +kernel
theorem dX10_studyAnew_30 : decode cX10_studyAnew 30 = .ok (.aload_n 0, 1) := by decide +kernel
theorem dX10_studyAnew_31 : decode cX10_studyAnew 31 = .ok (.getfield 57, 3) := by decide +kernel
theorem dX10_studyAnew_34 : decode cX10_studyAnew 34 = .ok (.iconst 0, 1) := by decide +kernel
theorem dX10_studyAnew_35 : decode cX10_studyAnew 35 = .ok (.putfield 337, 3) := by decide +kernel
theorem dX10_studyAnew_38 : decode cX10_studyAnew 38 = .ok (.aload_n 0, 1) := by decide +kernel
theorem dX10_studyAnew_39 : decode cX10_studyAnew 39 = .ok (.getfield 64, 3) := by decide +kernel
theorem dX10_studyAnew_42 : decode cX10_studyAnew 42 = .ok (.invokevirtual 312, 3) := by decide +kernel
theorem dX10_studyAnew_45 : decode cX10_studyAnew 45 = .ok (.return_, 1) := by decide +kernel
theorem dX10_isFunction_0 : decode cX10_isFunction 0 = .ok (.iload_n 0, 1) := by decide +kernel
theorem dX10_isFunction_1 : decode cX10_isFunction 1 = .ok (.ifCond .lt 12, 3) := by decide +kernel
theorem dX10_isFunction_4 : decode cX10_isFunction 4 = .ok (.iload_n 0, 1) := by decide +kernel
theorem dX10_isFunction_5 : decode cX10_isFunction 5 = .ok (.iconst 5, 1) := by decide +kernel
theorem dX10_isFunction_6 : decode cX10_isFunction 6 = .ok (.if_icmp .ge 7, 3) := by decide +kernel
theorem dX10_isFunction_9 : decode cX10_isFunction 9 = .ok (.iconst 1, 1) := by decide +kernel
theorem dX10_isFunction_10 : decode cX10_isFunction 10 = .ok (.goto 4, 3) := by decide +kernel
theorem dX10_isFunction_13 : decode cX10_isFunction 13 = .ok (.iconst 0, 1) := by decide +kernel
theorem dX10_isFunction_14 : decode cX10_isFunction 14 = .ok (.ireturn, 1) := by decide +kernel
theorem dX10_isCube_0 : decode cX10_isCube 0 = .ok (.iload_n 0, 1) := by decide +kernel
theorem dX10_isCube_1 : decode cX10_isCube 1 = .ok (.ifCond .lt 14, 3) := by decide +kernel
theorem dX10_isCube_4 : decode cX10_isCube 4 = .ok (.iload_n 0, 1) := by decide +kernel
theorem dX10_isCube_5 : decode cX10_isCube 5 = .ok (.sipush 729, 3) := by decide +kernel
theorem dX10_isCube_8 : decode cX10_isCube 8 = .ok (.if_icmp .ge 7, 3) := by decide +kernel
theorem dX10_isCube_11 : decode cX10_isCube 11 = .ok (.iconst 1, 1) := by decide +kernel
theorem dX10_isCube_12 : decode cX10_isCube 12 = .ok (.goto 4, 3) := by decide +kernel
theorem dX10_isCube_15 : decode cX10_isCube 15 = .ok (.iconst 0, 1) := by decide +kernel
theorem dX10_isCube_16 : decode cX10_isCube 16 = .ok (.ireturn, 1) := by decide +kernel
theorem dX10_hasArc_0 : decode cX10_hasArc 0 = .ok (.iload_n 1, 1) := by decide +kernel
theorem dX10_hasArc_1 : decode cX10_hasArc 1 = .ok (.ifCond .lt 18, 3) := by decide +kernel
theorem dX10_hasArc_4 : decode cX10_hasArc 4 = .ok (.iload_n 1, 1) := by decide +kernel
theorem dX10_hasArc_5 : decode cX10_hasArc 5 = .ok (.aload_n 0, 1) := by decide +kernel
theorem dX10_hasArc_6 : decode cX10_hasArc 6 = .ok (.getfield 10, 3) := by decide +kernel
theorem dX10_hasArc_9 : decode cX10_hasArc 9 = .ok (.getfield 112, 3) := by decide +kernel
theorem dX10_hasArc_12 : decode cX10_hasArc 12 = .ok (.if_icmp .ge 7, 3) := by decide +kernel
theorem dX10_hasArc_15 : decode cX10_hasArc 15 = .ok (.iconst 1, 1) := by decide +kernel
theorem dX10_hasArc_16 : decode cX10_hasArc 16 = .ok (.goto 4, 3) := by decide +kernel
theorem dX10_hasArc_19 : decode cX10_hasArc 19 = .ok (.iconst 0, 1) := by decide +kernel
theorem dX10_hasArc_20 : decode cX10_hasArc 20 = .ok (.ireturn, 1) := by decide +kernel
theorem dX10_machineTrouble_0 : decode cX10_machineTrouble 0 = .ok (.aload_n 0, 1) := by decide +kernel
theorem dX10_machineTrouble_1 : decode cX10_machineTrouble 1 = .ok (.getfield 10, 3) := by decide +kernel
theorem dX10_machineTrouble_4 : decode cX10_machineTrouble 4 = .ok (.getfield 124, 3) := by decide +kernel
theorem dX10_machineTrouble_7 : decode cX10_machineTrouble 7 = .ok (.ifCond .ne 5, 3) := by decide +kernel
theorem dX10_machineTrouble_10 : decode cX10_machineTrouble 10 = .ok (.iconst 1, 1) := by decide +kernel
theorem dX10_machineTrouble_11 : decode cX10_machineTrouble 11 = .ok (.ireturn, 1) := by decide +kernel
theorem dX10_machineTrouble_12 : decode cX10_machineTrouble 12 = .ok (.aload_n 0, 1) := by decide +kernel
theorem dX10_machineTrouble_13 : decode cX10_machineTrouble 13 = .ok (.getfield 35, 3) := by decide +kernel
theorem dX10_machineTrouble_16 : decode cX10_machineTrouble 16 = .ok (.getfield 127, 3) := by decide +kernel
theorem dX10_machineTrouble_19 : decode cX10_machineTrouble 19 = .ok (.ifCond .ne 7, 3) := by decide +kernel
theorem dX10_machineTrouble_22 : decode cX10_machineTrouble 22 = .ok (.iconst 0, 1) := by decide +kernel
theorem dX10_machineTrouble_23 : decode cX10_machineTrouble 23 = .ok (.goto 4, 3) := by decide +kernel
theorem dX10_machineTrouble_26 : decode cX10_machineTrouble 26 = .ok (.iconst 5, 1) := by decide +kernel
theorem dX10_machineTrouble_27 : decode cX10_machineTrouble 27 = .ok (.ireturn, 1) := by decide +kernel
theorem dX10_functionTrouble_0 : decode cX10_functionTrouble 0 = .ok (.iload_n 1, 1) := by decide +kernel
theorem dX10_functionTrouble_1 : decode cX10_functionTrouble 1 = .ok (.invokestatic 247, 3) := by decide +kernel
theorem dX10_functionTrouble_4 : decode cX10_functionTrouble 4 = .ok (.ifCond .eq 10, 3) := by decide +kernel
theorem dX10_functionTrouble_7 : decode cX10_functionTrouble 7 = .ok (.aload_n 0, 1) := by decide +kernel
theorem dX10_functionTrouble_8 : decode cX10_functionTrouble 8 = .ok (.invokevirtual 267, 3) := by decide +kernel
theorem dX10_functionTrouble_11 : decode cX10_functionTrouble 11 = .ok (.goto 4, 3) := by decide +kernel
theorem dX10_functionTrouble_14 : decode cX10_functionTrouble 14 = .ok (.iconst 1, 1) := by decide +kernel
theorem dX10_functionTrouble_15 : decode cX10_functionTrouble 15 = .ok (.ireturn, 1) := by decide +kernel
theorem dX10_fewestTrouble_0 : decode cX10_fewestTrouble 0 = .ok (.aload_n 0, 1) := by decide +kernel
theorem dX10_fewestTrouble_1 : decode cX10_fewestTrouble 1 = .ok (.iload_n 1, 1) := by decide +kernel
theorem dX10_fewestTrouble_2 : decode cX10_fewestTrouble 2 = .ok (.invokevirtual 172, 3) := by decide +kernel
theorem dX10_fewestTrouble_5 : decode cX10_fewestTrouble 5 = .ok (.istore_n 2, 1) := by decide +kernel
theorem dX10_fewestTrouble_6 : decode cX10_fewestTrouble 6 = .ok (.iload_n 2, 1) := by decide +kernel
theorem dX10_fewestTrouble_7 : decode cX10_fewestTrouble 7 = .ok (.ifCond .eq 5, 3) := by decide +kernel
theorem dX10_fewestTrouble_10 : decode cX10_fewestTrouble 10 = .ok (.iload_n 2, 1) := by decide +kernel
theorem dX10_fewestTrouble_11 : decode cX10_fewestTrouble 11 = .ok (.ireturn, 1) := by decide +kernel
theorem dX10_fewestTrouble_12 : decode cX10_fewestTrouble 12 = .ok (.aload_n 0, 1) := by decide +kernel
theorem dX10_fewestTrouble_13 : decode cX10_fewestTrouble 13 = .ok (.iload_n 1, 1) := by decide +kernel
theorem dX10_fewestTrouble_14 : decode cX10_fewestTrouble 14 = .ok (.invokevirtual 194, 3) := by decide +kernel
theorem dX10_fewestTrouble_17 : decode cX10_fewestTrouble 17 = .ok (.invokevirtual 284, 3) := by decide +kernel
theorem dX10_fewestTrouble_20 : decode cX10_fewestTrouble 20 = .ok (.ifCond .eq 7, 3) := by decide +kernel
theorem dX10_fewestTrouble_23 : decode cX10_fewestTrouble 23 = .ok (.iconst 0, 1) := by decide +kernel
theorem dX10_fewestTrouble_24 : decode cX10_fewestTrouble 24 = .ok (.goto 4, 3) := by decide +kernel
theorem dX10_fewestTrouble_27 : decode cX10_fewestTrouble 27 = .ok (.iconst 5, 1) := by decide +kernel
theorem dX10_fewestTrouble_28 : decode cX10_fewestTrouble 28 = .ok (.ireturn, 1) := by decide +kernel
theorem dX10_feedbackTrouble_0 : decode cX10_feedbackTrouble 0 = .ok (.aload_n 0, 1) := by decide +kernel
theorem dX10_feedbackTrouble_1 : decode cX10_feedbackTrouble 1 = .ok (.iload_n 1, 1) := by decide +kernel
theorem dX10_feedbackTrouble_2 : decode cX10_feedbackTrouble 2 = .ok (.invokevirtual 153, 3) := by decide +kernel
theorem dX10_feedbackTrouble_5 : decode cX10_feedbackTrouble 5 = .ok (.ifCond .ne 5, 3) := by decide +kernel
theorem dX10_feedbackTrouble_8 : decode cX10_feedbackTrouble 8 = .ok (.iconst 1, 1) := by decide +kernel
theorem dX10_feedbackTrouble_9 : decode cX10_feedbackTrouble 9 = .ok (.ireturn, 1) := by decide +kernel
theorem dX10_feedbackTrouble_10 : decode cX10_feedbackTrouble 10 = .ok (.aload_n 0, 1) := by decide +kernel
theorem dX10_feedbackTrouble_11 : decode cX10_feedbackTrouble 11 = .ok (.getfield 35, 3) := by decide +kernel
theorem dX10_feedbackTrouble_14 : decode cX10_feedbackTrouble 14 = .ok (.getfield 127, 3) := by decide +kernel
theorem dX10_feedbackTrouble_17 : decode cX10_feedbackTrouble 17 = .ok (.ifCond .eq 5, 3) := by decide +kernel
theorem dX10_feedbackTrouble_20 : decode cX10_feedbackTrouble 20 = .ok (.iconst 5, 1) := by decide +kernel
theorem dX10_feedbackTrouble_21 : decode cX10_feedbackTrouble 21 = .ok (.ireturn, 1) := by decide +kernel
theorem dX10_feedbackTrouble_22 : decode cX10_feedbackTrouble 22 = .ok (.aload_n 0, 1) := by decide +kernel
theorem dX10_feedbackTrouble_23 : decode cX10_feedbackTrouble 23 = .ok (.iconst 3, 1) := by decide +kernel
theorem dX10_feedbackTrouble_24 : decode cX10_feedbackTrouble 24 = .ok (.invokevirtual 194, 3) := by decide +kernel
theorem dX10_feedbackTrouble_27 : decode cX10_feedbackTrouble 27 = .ok (.invokevirtual 284, 3) := by decide +kernel
theorem dX10_feedbackTrouble_30 : decode cX10_feedbackTrouble 30 = .ok (.ifCond .eq 18, 3) := by decide +kernel
theorem dX10_feedbackTrouble_33 : decode cX10_feedbackTrouble 33 = .ok (.aload_n 0, 1) := by decide +kernel
theorem dX10_feedbackTrouble_34 : decode cX10_feedbackTrouble 34 = .ok (.iconst 4, 1) := by decide +kernel
theorem dX10_feedbackTrouble_35 : decode cX10_feedbackTrouble 35 = .ok (.invokevirtual 194, 3) := by decide +kernel
theorem dX10_feedbackTrouble_38 : decode cX10_feedbackTrouble 38 = .ok (.invokevirtual 284, 3) := by decide +kernel
theorem dX10_feedbackTrouble_41 : decode cX10_feedbackTrouble 41 = .ok (.ifCond .eq 7, 3) := by decide +kernel
theorem dX10_feedbackTrouble_44 : decode cX10_feedbackTrouble 44 = .ok (.iconst 0, 1) := by decide +kernel
theorem dX10_feedbackTrouble_45 : decode cX10_feedbackTrouble 45 = .ok (.goto 4, 3) := by decide +kernel
theorem dX10_feedbackTrouble_48 : decode cX10_feedbackTrouble 48 = .ok (.iconst 5, 1) := by decide +kernel
theorem dX10_feedbackTrouble_49 : decode cX10_feedbackTrouble 49 = .ok (.ireturn, 1) := by decide +kernel
theorem dX10_codingTrouble_0 : decode cX10_codingTrouble 0 = .ok (.aload_n 0, 1) := by decide +kernel
theorem dX10_codingTrouble_1 : decode cX10_codingTrouble 1 = .ok (.getfield 10, 3) := by decide +kernel
theorem dX10_codingTrouble_4 : decode cX10_codingTrouble 4 = .ok (.getfield 124, 3) := by decide +kernel
theorem dX10_codingTrouble_7 : decode cX10_codingTrouble 7 = .ok (.ifCond .ne 5, 3) := by decide +kernel
theorem dX10_codingTrouble_10 : decode cX10_codingTrouble 10 = .ok (.iconst 1, 1) := by decide +kernel
theorem dX10_codingTrouble_11 : decode cX10_codingTrouble 11 = .ok (.ireturn, 1) := by decide +kernel
theorem dX10_codingTrouble_12 : decode cX10_codingTrouble 12 = .ok (.aload_n 0, 1) := by decide +kernel
theorem dX10_codingTrouble_13 : decode cX10_codingTrouble 13 = .ok (.getfield 35, 3) := by decide +kernel
theorem dX10_codingTrouble_16 : decode cX10_codingTrouble 16 = .ok (.getfield 127, 3) := by decide +kernel
theorem dX10_codingTrouble_19 : decode cX10_codingTrouble 19 = .ok (.ifCond .le 16, 3) := by decide +kernel
theorem dX10_codingTrouble_22 : decode cX10_codingTrouble 22 = .ok (.aload_n 0, 1) := by decide +kernel
theorem dX10_codingTrouble_23 : decode cX10_codingTrouble 23 = .ok (.getfield 35, 3) := by decide +kernel
theorem dX10_codingTrouble_26 : decode cX10_codingTrouble 26 = .ok (.getfield 127, 3) := by decide +kernel
theorem dX10_codingTrouble_29 : decode cX10_codingTrouble 29 = .ok (.iconst 5, 1) := by decide +kernel
theorem dX10_codingTrouble_30 : decode cX10_codingTrouble 30 = .ok (.if_icmp .ge 5, 3) := by decide +kernel
theorem dX10_codingTrouble_33 : decode cX10_codingTrouble 33 = .ok (.iconst 5, 1) := by decide +kernel
theorem dX10_codingTrouble_34 : decode cX10_codingTrouble 34 = .ok (.ireturn, 1) := by decide +kernel
theorem dX10_codingTrouble_35 : decode cX10_codingTrouble 35 = .ok (.iload_n 1, 1) := by decide +kernel
theorem dX10_codingTrouble_36 : decode cX10_codingTrouble 36 = .ok (.iconst 1, 1) := by decide +kernel
theorem dX10_codingTrouble_37 : decode cX10_codingTrouble 37 = .ok (.if_icmp .lt 12, 3) := by decide +kernel
theorem dX10_codingTrouble_40 : decode cX10_codingTrouble 40 = .ok (.iload_n 1, 1) := by decide +kernel
theorem dX10_codingTrouble_41 : decode cX10_codingTrouble 41 = .ok (.iconst 4, 1) := by decide +kernel
theorem dX10_codingTrouble_42 : decode cX10_codingTrouble 42 = .ok (.if_icmp .gt 7, 3) := by decide +kernel
theorem dX10_codingTrouble_45 : decode cX10_codingTrouble 45 = .ok (.iconst 0, 1) := by decide +kernel
theorem dX10_codingTrouble_46 : decode cX10_codingTrouble 46 = .ok (.goto 4, 3) := by decide +kernel
theorem dX10_codingTrouble_49 : decode cX10_codingTrouble 49 = .ok (.iconst 2, 1) := by decide +kernel
theorem dX10_codingTrouble_50 : decode cX10_codingTrouble 50 = .ok (.ireturn, 1) := by decide +kernel
theorem dX10_sheetOf_0 : decode cX10_sheetOf 0 = .ok (.aload_n 0, 1) := by decide +kernel
theorem dX10_sheetOf_1 : decode cX10_sheetOf 1 = .ok (.getfield 48, 3) := by decide +kernel
theorem dX10_sheetOf_4 : decode cX10_sheetOf 4 = .ok (.iload_n 1, 1) := by decide +kernel
theorem dX10_sheetOf_5 : decode cX10_sheetOf 5 = .ok (.ifCond .lt 12, 3) := by decide +kernel
theorem dX10_sheetOf_8 : decode cX10_sheetOf 8 = .ok (.iload_n 1, 1) := by decide +kernel
theorem dX10_sheetOf_9 : decode cX10_sheetOf 9 = .ok (.iconst 5, 1) := by decide +kernel
theorem dX10_sheetOf_10 : decode cX10_sheetOf 10 = .ok (.if_icmp .ge 7, 3) := by decide +kernel
theorem dX10_sheetOf_13 : decode cX10_sheetOf 13 = .ok (.iload_n 1, 1) := by decide +kernel
theorem dX10_sheetOf_14 : decode cX10_sheetOf 14 = .ok (.goto 4, 3) := by decide +kernel
theorem dX10_sheetOf_17 : decode cX10_sheetOf 17 = .ok (.iconst 0, 1) := by decide +kernel
theorem dX10_sheetOf_18 : decode cX10_sheetOf 18 = .ok (.aaload, 1) := by decide +kernel
theorem dX10_sheetOf_19 : decode cX10_sheetOf 19 = .ok (.astore_n 2, 1) := by decide +kernel
theorem dX10_sheetOf_20 : decode cX10_sheetOf 20 = .ok (.aload_n 2, 1) := by decide +kernel
theorem dX10_sheetOf_21 : decode cX10_sheetOf 21 = .ok (.getfield 334, 3) := by decide +kernel
theorem dX10_sheetOf_24 : decode cX10_sheetOf 24 = .ok (.ifCond .ne 7, 3) := by decide +kernel
theorem dX10_sheetOf_27 : decode cX10_sheetOf 27 = .ok (.aload_n 2, 1) := by decide +kernel
theorem dX10_sheetOf_28 : decode cX10_sheetOf 28 = .ok (.invokevirtual 340, 3) := by decide +kernel
theorem dX10_sheetOf_31 : decode cX10_sheetOf 31 = .ok (.aload_n 2, 1) := by decide +kernel
theorem dX10_sheetOf_32 : decode cX10_sheetOf 32 = .ok (.areturn, 1) := by decide +kernel
theorem dX10_burstOf_0 : decode cX10_burstOf 0 = .ok (.aload_n 0, 1) := by decide +kernel
theorem dX10_burstOf_1 : decode cX10_burstOf 1 = .ok (.getfield 42, 3) := by decide +kernel
theorem dX10_burstOf_4 : decode cX10_burstOf 4 = .ok (.aload_n 0, 1) := by decide +kernel
theorem dX10_burstOf_5 : decode cX10_burstOf 5 = .ok (.getfield 35, 3) := by decide +kernel
theorem dX10_burstOf_8 : decode cX10_burstOf 8 = .ok (.getfield 343, 3) := by decide +kernel
theorem dX10_burstOf_11 : decode cX10_burstOf 11 = .ok (.iload_n 1, 1) := by decide +kernel
theorem dX10_burstOf_12 : decode cX10_burstOf 12 = .ok (.invokestatic 140, 3) := by decide +kernel
theorem dX10_burstOf_15 : decode cX10_burstOf 15 = .ok (.invokevirtual 210, 3) := by decide +kernel
theorem dX10_burstOf_18 : decode cX10_burstOf 18 = .ok (.lreturn, 1) := by decide +kernel
theorem dX10_harmBy_0 : decode cX10_harmBy 0 = .ok (.aload_n 0, 1) := by decide +kernel
theorem dX10_harmBy_1 : decode cX10_harmBy 1 = .ok (.iload_n 2, 1) := by decide +kernel
theorem dX10_harmBy_2 : decode cX10_harmBy 2 = .ok (.invokevirtual 257, 3) := by decide +kernel
theorem dX10_harmBy_5 : decode cX10_harmBy 5 = .ok (.lstore_n 3, 1) := by decide +kernel
theorem dX10_harmBy_6 : decode cX10_harmBy 6 = .ok (.lload_n 3, 1) := by decide +kernel
theorem dX10_harmBy_7 : decode cX10_harmBy 7 = .ok (.aload_n 0, 1) := by decide +kernel
theorem dX10_harmBy_8 : decode cX10_harmBy 8 = .ok (.getfield 42, 3) := by decide +kernel
theorem dX10_harmBy_11 : decode cX10_harmBy 11 = .ok (.aload_n 0, 1) := by decide +kernel
theorem dX10_harmBy_12 : decode cX10_harmBy 12 = .ok (.getfield 35, 3) := by decide +kernel
theorem dX10_harmBy_15 : decode cX10_harmBy 15 = .ok (.getfield 346, 3) := by decide +kernel
theorem dX10_harmBy_18 : decode cX10_harmBy 18 = .ok (.iload_n 2, 1) := by decide +kernel
theorem dX10_harmBy_19 : decode cX10_harmBy 19 = .ok (.invokestatic 140, 3) := by decide +kernel
theorem dX10_harmBy_22 : decode cX10_harmBy 22 = .ok (.invokevirtual 210, 3) := by decide +kernel
theorem dX10_harmBy_25 : decode cX10_harmBy 25 = .ok (.lor, 1) := by decide +kernel
theorem dX10_harmBy_26 : decode cX10_harmBy 26 = .ok (.lstore 5, 2) := by decide +kernel
theorem dX10_harmBy_28 : decode cX10_harmBy 28 = .ok (.aload_n 0, 1) := by decide +kernel
theorem dX10_harmBy_29 : decode cX10_harmBy 29 = .ok (.getfield 35, 3) := by decide +kernel
theorem dX10_harmBy_32 : decode cX10_harmBy 32 = .ok (.iload_n 2, 1) := by decide +kernel
theorem dX10_harmBy_33 : decode cX10_harmBy 33 = .ok (.invokevirtual 349, 3) := by decide +kernel
theorem dX10_harmBy_36 : decode cX10_harmBy 36 = .ok (.lstore 7, 2) := by decide +kernel
theorem dX10_harmBy_38 : decode cX10_harmBy 38 = .ok (.aload_n 0, 1) := by decide +kernel
theorem dX10_harmBy_39 : decode cX10_harmBy 39 = .ok (.getfield 35, 3) := by decide +kernel
theorem dX10_harmBy_42 : decode cX10_harmBy 42 = .ok (.iload_n 1, 1) := by decide +kernel
theorem dX10_harmBy_43 : decode cX10_harmBy 43 = .ok (.iload_n 2, 1) := by decide +kernel
theorem dX10_harmBy_44 : decode cX10_harmBy 44 = .ok (.invokevirtual 352, 3) := by decide +kernel
theorem dX10_harmBy_47 : decode cX10_harmBy 47 = .ok (.istore 9, 2) := by decide +kernel
theorem dX10_harmBy_49 : decode cX10_harmBy 49 = .ok (.iconst 0, 1) := by decide +kernel
theorem dX10_harmBy_50 : decode cX10_harmBy 50 = .ok (.istore 10, 2) := by decide +kernel
theorem dX10_harmBy_52 : decode cX10_harmBy 52 = .ok (.iconst 0, 1) := by decide +kernel
theorem dX10_harmBy_53 : decode cX10_harmBy 53 = .ok (.istore 11, 2) := by decide +kernel
theorem dX10_harmBy_55 : decode cX10_harmBy 55 = .ok (.iload 11, 2) := by decide +kernel
theorem dX10_harmBy_57 : decode cX10_harmBy 57 = .ok (.aload_n 0, 1) := by decide +kernel
theorem dX10_harmBy_58 : decode cX10_harmBy 58 = .ok (.getfield 10, 3) := by decide +kernel
theorem dX10_harmBy_61 : decode cX10_harmBy 61 = .ok (.getfield 163, 3) := by decide +kernel
theorem dX10_harmBy_64 : decode cX10_harmBy 64 = .ok (.if_icmp .ge 104, 3) := by decide +kernel
theorem dX10_harmBy_67 : decode cX10_harmBy 67 = .ok (.aload_n 0, 1) := by decide +kernel
theorem dX10_harmBy_68 : decode cX10_harmBy 68 = .ok (.getfield 10, 3) := by decide +kernel
theorem dX10_harmBy_71 : decode cX10_harmBy 71 = .ok (.getfield 166, 3) := by decide +kernel
theorem dX10_harmBy_74 : decode cX10_harmBy 74 = .ok (.iload 11, 2) := by decide +kernel
theorem dX10_harmBy_76 : decode cX10_harmBy 76 = .ok (.invokestatic 140, 3) := by decide +kernel
theorem dX10_harmBy_79 : decode cX10_harmBy 79 = .ok (.iload_n 1, 1) := by decide +kernel
theorem dX10_harmBy_80 : decode cX10_harmBy 80 = .ok (.if_icmp .ne 82, 3) := by decide +kernel
theorem dX10_harmBy_83 : decode cX10_harmBy 83 = .ok (.aload_n 0, 1) := by decide +kernel
theorem dX10_harmBy_84 : decode cX10_harmBy 84 = .ok (.getfield 42, 3) := by decide +kernel
theorem dX10_harmBy_87 : decode cX10_harmBy 87 = .ok (.aload_n 0, 1) := by decide +kernel
theorem dX10_harmBy_88 : decode cX10_harmBy 88 = .ok (.getfield 10, 3) := by decide +kernel
theorem dX10_harmBy_91 : decode cX10_harmBy 91 = .ok (.getfield 169, 3) := by decide +kernel
theorem dX10_harmBy_94 : decode cX10_harmBy 94 = .ok (.iload 11, 2) := by decide +kernel
theorem dX10_harmBy_96 : decode cX10_harmBy 96 = .ok (.invokestatic 140, 3) := by decide +kernel
theorem dX10_harmBy_99 : decode cX10_harmBy 99 = .ok (.invokevirtual 210, 3) := by decide +kernel
theorem dX10_harmBy_102 : decode cX10_harmBy 102 = .ok (.lstore 12, 2) := by decide +kernel
theorem dX10_harmBy_104 : decode cX10_harmBy 104 = .ok (.lload 12, 2) := by decide +kernel
theorem dX10_harmBy_106 : decode cX10_harmBy 106 = .ok (.lload 5, 2) := by decide +kernel
theorem dX10_harmBy_108 : decode cX10_harmBy 108 = .ok (.land, 1) := by decide +kernel
theorem dX10_harmBy_109 : decode cX10_harmBy 109 = .ok (.aload_n 0, 1) := by decide +kernel
theorem dX10_harmBy_110 : decode cX10_harmBy 110 = .ok (.getfield 35, 3) := by decide +kernel
theorem dX10_harmBy_113 : decode cX10_harmBy 113 = .ok (.getfield 175, 3) := by decide +kernel
theorem dX10_harmBy_116 : decode cX10_harmBy 116 = .ok (.iload_n 1, 1) := by decide +kernel
theorem dX10_harmBy_117 : decode cX10_harmBy 117 = .ok (.invokevirtual 179, 3) := by decide +kernel
theorem dX10_harmBy_120 : decode cX10_harmBy 120 = .ok (.land, 1) := by decide +kernel
theorem dX10_harmBy_121 : decode cX10_harmBy 121 = .ok (.lconst 0, 1) := by decide +kernel
theorem dX10_harmBy_122 : decode cX10_harmBy 122 = .ok (.lcmp, 1) := by decide +kernel
theorem dX10_harmBy_123 : decode cX10_harmBy 123 = .ok (.ifCond .eq 9, 3) := by decide +kernel
theorem dX10_harmBy_126 : decode cX10_harmBy 126 = .ok (.iload 10, 2) := by decide +kernel
theorem dX10_harmBy_128 : decode cX10_harmBy 128 = .ok (.iconst 1, 1) := by decide +kernel
theorem dX10_harmBy_129 : decode cX10_harmBy 129 = .ok (.ior, 1) := by decide +kernel
theorem dX10_harmBy_130 : decode cX10_harmBy 130 = .ok (.istore 10, 2) := by decide +kernel
theorem dX10_harmBy_132 : decode cX10_harmBy 132 = .ok (.iload 9, 2) := by decide +kernel
theorem dX10_harmBy_134 : decode cX10_harmBy 134 = .ok (.ifCond .eq 28, 3) := by decide +kernel
theorem dX10_harmBy_137 : decode cX10_harmBy 137 = .ok (.lload 12, 2) := by decide +kernel
theorem dX10_harmBy_139 : decode cX10_harmBy 139 = .ok (.lload_n 3, 1) := by decide +kernel
theorem dX10_harmBy_140 : decode cX10_harmBy 140 = .ok (.land, 1) := by decide +kernel
theorem dX10_harmBy_141 : decode cX10_harmBy 141 = .ok (.lconst 0, 1) := by decide +kernel
theorem dX10_harmBy_142 : decode cX10_harmBy 142 = .ok (.lcmp, 1) := by decide +kernel
theorem dX10_harmBy_143 : decode cX10_harmBy 143 = .ok (.ifCond .eq 19, 3) := by decide +kernel
theorem dX10_harmBy_146 : decode cX10_harmBy 146 = .ok (.lload 12, 2) := by decide +kernel
theorem dX10_harmBy_148 : decode cX10_harmBy 148 = .ok (.lload 7, 2) := by decide +kernel
theorem dX10_harmBy_150 : decode cX10_harmBy 150 = .ok (.land, 1) := by decide +kernel
theorem dX10_harmBy_151 : decode cX10_harmBy 151 = .ok (.lconst 0, 1) := by decide +kernel
theorem dX10_harmBy_152 : decode cX10_harmBy 152 = .ok (.lcmp, 1) := by decide +kernel
theorem dX10_harmBy_153 : decode cX10_harmBy 153 = .ok (.ifCond .ne 9, 3) := by decide +kernel
theorem dX10_harmBy_156 : decode cX10_harmBy 156 = .ok (.iload 10, 2) := by decide +kernel
theorem dX10_harmBy_158 : decode cX10_harmBy 158 = .ok (.iconst 4, 1) := by decide +kernel
theorem dX10_harmBy_159 : decode cX10_harmBy 159 = .ok (.ior, 1) := by decide +kernel
theorem dX10_harmBy_160 : decode cX10_harmBy 160 = .ok (.istore 10, 2) := by decide +kernel
theorem dX10_harmBy_162 : decode cX10_harmBy 162 = .ok (.iinc 11 1, 3) := by decide +kernel
theorem dX10_harmBy_165 : decode cX10_harmBy 165 = .ok (.goto (-110), 3) := by decide +kernel
theorem dX10_harmBy_168 : decode cX10_harmBy 168 = .ok (.aload_n 0, 1) := by decide +kernel
theorem dX10_harmBy_169 : decode cX10_harmBy 169 = .ok (.iload_n 1, 1) := by decide +kernel
theorem dX10_harmBy_170 : decode cX10_harmBy 170 = .ok (.iload_n 2, 1) := by decide +kernel
theorem dX10_harmBy_171 : decode cX10_harmBy 171 = .ok (.invokevirtual 356, 3) := by decide +kernel
theorem dX10_harmBy_174 : decode cX10_harmBy 174 = .ok (.ifCond .eq 8, 3) := by decide +kernel
theorem dX10_harmBy_177 : decode cX10_harmBy 177 = .ok (.iload 10, 2) := by decide +kernel
theorem dX10_harmBy_179 : decode cX10_harmBy 179 = .ok (.goto 7, 3) := by decide +kernel
theorem dX10_harmBy_182 : decode cX10_harmBy 182 = .ok (.iload 10, 2) := by decide +kernel
theorem dX10_harmBy_184 : decode cX10_harmBy 184 = .ok (.iconst 2, 1) := by decide +kernel
theorem dX10_harmBy_185 : decode cX10_harmBy 185 = .ok (.ior, 1) := by decide +kernel
theorem dX10_harmBy_186 : decode cX10_harmBy 186 = .ok (.ireturn, 1) := by decide +kernel
theorem dX10_holdsAll_0 : decode cX10_holdsAll 0 = .ok (.aload_n 0, 1) := by decide +kernel
theorem dX10_holdsAll_1 : decode cX10_holdsAll 1 = .ok (.getfield 35, 3) := by decide +kernel
theorem dX10_holdsAll_4 : decode cX10_holdsAll 4 = .ok (.iload_n 1, 1) := by decide +kernel
theorem dX10_holdsAll_5 : decode cX10_holdsAll 5 = .ok (.iload_n 2, 1) := by decide +kernel
theorem dX10_holdsAll_6 : decode cX10_holdsAll 6 = .ok (.invokevirtual 359, 3) := by decide +kernel
theorem dX10_holdsAll_9 : decode cX10_holdsAll 9 = .ok (.istore_n 3, 1) := by decide +kernel
theorem dX10_holdsAll_10 : decode cX10_holdsAll 10 = .ok (.iconst 0, 1) := by decide +kernel
theorem dX10_holdsAll_11 : decode cX10_holdsAll 11 = .ok (.istore 4, 2) := by decide +kernel
theorem dX10_holdsAll_13 : decode cX10_holdsAll 13 = .ok (.iload 4, 2) := by decide +kernel
theorem dX10_holdsAll_15 : decode cX10_holdsAll 15 = .ok (.iload_n 3, 1) := by decide +kernel
theorem dX10_holdsAll_16 : decode cX10_holdsAll 16 = .ok (.if_icmp .ge 120, 3) := by decide +kernel
theorem dX10_holdsAll_19 : decode cX10_holdsAll 19 = .ok (.aload_n 0, 1) := by decide +kernel
theorem dX10_holdsAll_20 : decode cX10_holdsAll 20 = .ok (.getfield 42, 3) := by decide +kernel
theorem dX10_holdsAll_23 : decode cX10_holdsAll 23 = .ok (.aload_n 0, 1) := by decide +kernel
theorem dX10_holdsAll_24 : decode cX10_holdsAll 24 = .ok (.getfield 35, 3) := by decide +kernel
theorem dX10_holdsAll_27 : decode cX10_holdsAll 27 = .ok (.getfield 362, 3) := by decide +kernel
theorem dX10_holdsAll_30 : decode cX10_holdsAll 30 = .ok (.iload 4, 2) := by decide +kernel
theorem dX10_holdsAll_32 : decode cX10_holdsAll 32 = .ok (.invokestatic 140, 3) := by decide +kernel
theorem dX10_holdsAll_35 : decode cX10_holdsAll 35 = .ok (.invokevirtual 210, 3) := by decide +kernel
theorem dX10_holdsAll_38 : decode cX10_holdsAll 38 = .ok (.lstore 5, 2) := by decide +kernel
theorem dX10_holdsAll_40 : decode cX10_holdsAll 40 = .ok (.iconst 0, 1) := by decide +kernel
theorem dX10_holdsAll_41 : decode cX10_holdsAll 41 = .ok (.istore 7, 2) := by decide +kernel
theorem dX10_holdsAll_43 : decode cX10_holdsAll 43 = .ok (.iconst 0, 1) := by decide +kernel
theorem dX10_holdsAll_44 : decode cX10_holdsAll 44 = .ok (.istore 8, 2) := by decide +kernel
theorem dX10_holdsAll_46 : decode cX10_holdsAll 46 = .ok (.iload 8, 2) := by decide +kernel
theorem dX10_holdsAll_48 : decode cX10_holdsAll 48 = .ok (.aload_n 0, 1) := by decide +kernel
theorem dX10_holdsAll_49 : decode cX10_holdsAll 49 = .ok (.getfield 10, 3) := by decide +kernel
theorem dX10_holdsAll_52 : decode cX10_holdsAll 52 = .ok (.getfield 163, 3) := by decide +kernel
theorem dX10_holdsAll_55 : decode cX10_holdsAll 55 = .ok (.if_icmp .ge 68, 3) := by decide +kernel
theorem dX10_holdsAll_58 : decode cX10_holdsAll 58 = .ok (.iload 7, 2) := by decide +kernel
theorem dX10_holdsAll_60 : decode cX10_holdsAll 60 = .ok (.ifCond .ne 63, 3) := by decide +kernel
theorem dX10_holdsAll_63 : decode cX10_holdsAll 63 = .ok (.aload_n 0, 1) := by decide +kernel
theorem dX10_holdsAll_64 : decode cX10_holdsAll 64 = .ok (.getfield 10, 3) := by decide +kernel
theorem dX10_holdsAll_67 : decode cX10_holdsAll 67 = .ok (.getfield 166, 3) := by decide +kernel
theorem dX10_holdsAll_70 : decode cX10_holdsAll 70 = .ok (.iload 8, 2) := by decide +kernel
theorem dX10_holdsAll_72 : decode cX10_holdsAll 72 = .ok (.invokestatic 140, 3) := by decide +kernel
theorem dX10_holdsAll_75 : decode cX10_holdsAll 75 = .ok (.iload_n 1, 1) := by decide +kernel
theorem dX10_holdsAll_76 : decode cX10_holdsAll 76 = .ok (.if_icmp .ne 38, 3) := by decide +kernel
theorem dX10_holdsAll_79 : decode cX10_holdsAll 79 = .ok (.lload 5, 2) := by decide +kernel
theorem dX10_holdsAll_81 : decode cX10_holdsAll 81 = .ok (.aload_n 0, 1) := by decide +kernel
theorem dX10_holdsAll_82 : decode cX10_holdsAll 82 = .ok (.getfield 42, 3) := by decide +kernel
theorem dX10_holdsAll_85 : decode cX10_holdsAll 85 = .ok (.aload_n 0, 1) := by decide +kernel
theorem dX10_holdsAll_86 : decode cX10_holdsAll 86 = .ok (.getfield 10, 3) := by decide +kernel
theorem dX10_holdsAll_89 : decode cX10_holdsAll 89 = .ok (.getfield 169, 3) := by decide +kernel
theorem dX10_holdsAll_92 : decode cX10_holdsAll 92 = .ok (.iload 8, 2) := by decide +kernel
theorem dX10_holdsAll_94 : decode cX10_holdsAll 94 = .ok (.invokestatic 140, 3) := by decide +kernel
theorem dX10_holdsAll_97 : decode cX10_holdsAll 97 = .ok (.invokevirtual 210, 3) := by decide +kernel
theorem dX10_holdsAll_100 : decode cX10_holdsAll 100 = .ok (.ldc2_w 365, 3) := by decide +kernel
theorem dX10_holdsAll_103 : decode cX10_holdsAll 103 = .ok (.lxor, 1) := by decide +kernel
theorem dX10_holdsAll_104 : decode cX10_holdsAll 104 = .ok (.land, 1) := by decide +kernel
theorem dX10_holdsAll_105 : decode cX10_holdsAll 105 = .ok (.lconst 0, 1) := by decide +kernel
theorem dX10_holdsAll_106 : decode cX10_holdsAll 106 = .ok (.lcmp, 1) := by decide +kernel
theorem dX10_holdsAll_107 : decode cX10_holdsAll 107 = .ok (.ifCond .ne 7, 3) := by decide +kernel
theorem dX10_holdsAll_110 : decode cX10_holdsAll 110 = .ok (.iconst 1, 1) := by decide +kernel
theorem dX10_holdsAll_111 : decode cX10_holdsAll 111 = .ok (.goto 4, 3) := by decide +kernel
theorem dX10_holdsAll_114 : decode cX10_holdsAll 114 = .ok (.iconst 0, 1) := by decide +kernel
theorem dX10_holdsAll_115 : decode cX10_holdsAll 115 = .ok (.istore 7, 2) := by decide +kernel
theorem dX10_holdsAll_117 : decode cX10_holdsAll 117 = .ok (.iinc 8 1, 3) := by decide +kernel
theorem dX10_holdsAll_120 : decode cX10_holdsAll 120 = .ok (.goto (-74), 3) := by decide +kernel
theorem dX10_holdsAll_123 : decode cX10_holdsAll 123 = .ok (.iload 7, 2) := by decide +kernel
theorem dX10_holdsAll_125 : decode cX10_holdsAll 125 = .ok (.ifCond .ne 5, 3) := by decide +kernel
theorem dX10_holdsAll_128 : decode cX10_holdsAll 128 = .ok (.iconst 0, 1) := by decide +kernel
theorem dX10_holdsAll_129 : decode cX10_holdsAll 129 = .ok (.ireturn, 1) := by decide +kernel
theorem dX10_holdsAll_130 : decode cX10_holdsAll 130 = .ok (.iinc 4 1, 3) := by decide +kernel
theorem dX10_holdsAll_133 : decode cX10_holdsAll 133 = .ok (.goto (-120), 3) := by decide +kernel
theorem dX10_holdsAll_136 : decode cX10_holdsAll 136 = .ok (.iconst 1, 1) := by decide +kernel
theorem dX10_holdsAll_137 : decode cX10_holdsAll 137 = .ok (.ireturn, 1) := by decide +kernel
theorem dX10_runWith_0 : decode cX10_runWith 0 = .ok (.iload 4, 2) := by decide +kernel
theorem dX10_runWith_2 : decode cX10_runWith 2 = .ok (.ifCond .ne 13, 3) := by decide +kernel
theorem dX10_runWith_5 : decode cX10_runWith 5 = .ok (.aload_n 0, 1) := by decide +kernel
theorem dX10_runWith_6 : decode cX10_runWith 6 = .ok (.iload_n 1, 1) := by decide +kernel
theorem dX10_runWith_7 : decode cX10_runWith 7 = .ok (.invokevirtual 194, 3) := by decide +kernel
theorem dX10_runWith_10 : decode cX10_runWith 10 = .ok (.lload_n 2, 1) := by decide +kernel
theorem dX10_runWith_11 : decode cX10_runWith 11 = .ok (.invokevirtual 367, 3) := by decide +kernel
theorem dX10_runWith_14 : decode cX10_runWith 14 = .ok (.ireturn, 1) := by decide +kernel
theorem dX10_runWith_15 : decode cX10_runWith 15 = .ok (.iconst 0, 1) := by decide +kernel
theorem dX10_runWith_16 : decode cX10_runWith 16 = .ok (.istore 5, 2) := by decide +kernel
theorem dX10_runWith_18 : decode cX10_runWith 18 = .ok (.iconst 0, 1) := by decide +kernel
theorem dX10_runWith_19 : decode cX10_runWith 19 = .ok (.istore 6, 2) := by decide +kernel
theorem dX10_runWith_21 : decode cX10_runWith 21 = .ok (.iload 6, 2) := by decide +kernel
theorem dX10_runWith_23 : decode cX10_runWith 23 = .ok (.aload_n 0, 1) := by decide +kernel
theorem dX10_runWith_24 : decode cX10_runWith 24 = .ok (.getfield 10, 3) := by decide +kernel
theorem dX10_runWith_27 : decode cX10_runWith 27 = .ok (.getfield 163, 3) := by decide +kernel
theorem dX10_runWith_30 : decode cX10_runWith 30 = .ok (.if_icmp .ge 55, 3) := by decide +kernel
theorem dX10_runWith_33 : decode cX10_runWith 33 = .ok (.aload_n 0, 1) := by decide +kernel
theorem dX10_runWith_34 : decode cX10_runWith 34 = .ok (.getfield 10, 3) := by decide +kernel
theorem dX10_runWith_37 : decode cX10_runWith 37 = .ok (.getfield 166, 3) := by decide +kernel
theorem dX10_runWith_40 : decode cX10_runWith 40 = .ok (.iload 6, 2) := by decide +kernel
theorem dX10_runWith_42 : decode cX10_runWith 42 = .ok (.invokestatic 140, 3) := by decide +kernel
theorem dX10_runWith_45 : decode cX10_runWith 45 = .ok (.iload_n 1, 1) := by decide +kernel
theorem dX10_runWith_46 : decode cX10_runWith 46 = .ok (.if_icmp .ne 33, 3) := by decide +kernel
theorem dX10_runWith_49 : decode cX10_runWith 49 = .ok (.iload 5, 2) := by decide +kernel
theorem dX10_runWith_51 : decode cX10_runWith 51 = .ok (.aload_n 0, 1) := by decide +kernel
theorem dX10_runWith_52 : decode cX10_runWith 52 = .ok (.getfield 42, 3) := by decide +kernel
theorem dX10_runWith_55 : decode cX10_runWith 55 = .ok (.aload_n 0, 1) := by decide +kernel
theorem dX10_runWith_56 : decode cX10_runWith 56 = .ok (.getfield 10, 3) := by decide +kernel
theorem dX10_runWith_59 : decode cX10_runWith 59 = .ok (.getfield 169, 3) := by decide +kernel
theorem dX10_runWith_62 : decode cX10_runWith 62 = .ok (.iload 6, 2) := by decide +kernel
theorem dX10_runWith_64 : decode cX10_runWith 64 = .ok (.invokestatic 140, 3) := by decide +kernel
theorem dX10_runWith_67 : decode cX10_runWith 67 = .ok (.invokevirtual 210, 3) := by decide +kernel
theorem dX10_runWith_70 : decode cX10_runWith 70 = .ok (.lload_n 2, 1) := by decide +kernel
theorem dX10_runWith_71 : decode cX10_runWith 71 = .ok (.invokestatic 369, 3) := by decide +kernel
theorem dX10_runWith_74 : decode cX10_runWith 74 = .ok (.invokestatic 373, 3) := by decide +kernel
theorem dX10_runWith_77 : decode cX10_runWith 77 = .ok (.istore 5, 2) := by decide +kernel
theorem dX10_runWith_79 : decode cX10_runWith 79 = .ok (.iinc 6 1, 3) := by decide +kernel
theorem dX10_runWith_82 : decode cX10_runWith 82 = .ok (.goto (-61), 3) := by decide +kernel
theorem dX10_runWith_85 : decode cX10_runWith 85 = .ok (.iload 5, 2) := by decide +kernel
theorem dX10_runWith_87 : decode cX10_runWith 87 = .ok (.ireturn, 1) := by decide +kernel
theorem dX10_settle_0 : decode cX10_settle 0 = .ok (.aload_n 0, 1) := by decide +kernel
theorem dX10_settle_1 : decode cX10_settle 1 = .ok (.getfield 35, 3) := by decide +kernel
theorem dX10_settle_4 : decode cX10_settle 4 = .ok (.getfield 147, 3) := by decide +kernel
theorem dX10_settle_7 : decode cX10_settle 7 = .ok (.aload_n 0, 1) := by decide +kernel
theorem dX10_settle_8 : decode cX10_settle 8 = .ok (.getfield 10, 3) := by decide +kernel
theorem dX10_settle_11 : decode cX10_settle 11 = .ok (.iload_n 1, 1) := by decide +kernel
theorem dX10_settle_12 : decode cX10_settle 12 = .ok (.iconst 1, 1) := by decide +kernel
theorem dX10_settle_13 : decode cX10_settle 13 = .ok (.invokevirtual 159, 3) := by decide +kernel
theorem dX10_settle_16 : decode cX10_settle 16 = .ok (.invokestatic 140, 3) := by decide +kernel
theorem dX10_settle_19 : decode cX10_settle 19 = .ok (.istore_n 3, 1) := by decide +kernel
theorem dX10_settle_20 : decode cX10_settle 20 = .ok (.aload_n 0, 1) := by decide +kernel
theorem dX10_settle_21 : decode cX10_settle 21 = .ok (.getfield 10, 3) := by decide +kernel
theorem dX10_settle_24 : decode cX10_settle 24 = .ok (.getfield 136, 3) := by decide +kernel
theorem dX10_settle_27 : decode cX10_settle 27 = .ok (.aload_n 0, 1) := by decide +kernel
theorem dX10_settle_28 : decode cX10_settle 28 = .ok (.getfield 10, 3) := by decide +kernel
theorem dX10_settle_31 : decode cX10_settle 31 = .ok (.iload_n 1, 1) := by decide +kernel
theorem dX10_settle_32 : decode cX10_settle 32 = .ok (.iconst 0, 1) := by decide +kernel
theorem dX10_settle_33 : decode cX10_settle 33 = .ok (.invokevirtual 159, 3) := by decide +kernel
theorem dX10_settle_36 : decode cX10_settle 36 = .ok (.invokestatic 140, 3) := by decide +kernel
theorem dX10_settle_39 : decode cX10_settle 39 = .ok (.istore 4, 2) := by decide +kernel
theorem dX10_settle_41 : decode cX10_settle 41 = .ok (.iconst 0, 1) := by decide +kernel
theorem dX10_settle_42 : decode cX10_settle 42 = .ok (.istore 5, 2) := by decide +kernel
theorem dX10_settle_44 : decode cX10_settle 44 = .ok (.iload 5, 2) := by decide +kernel
theorem dX10_settle_46 : decode cX10_settle 46 = .ok (.bipush 8, 2) := by decide +kernel
theorem dX10_settle_48 : decode cX10_settle 48 = .ok (.if_icmp .ge 65, 3) := by decide +kernel
theorem dX10_settle_51 : decode cX10_settle 51 = .ok (.iload_n 3, 1) := by decide +kernel
theorem dX10_settle_52 : decode cX10_settle 52 = .ok (.iload 4, 2) := by decide +kernel
theorem dX10_settle_54 : decode cX10_settle 54 = .ok (.iconst 4, 1) := by decide +kernel
theorem dX10_settle_55 : decode cX10_settle 55 = .ok (.ishl, 1) := by decide +kernel
theorem dX10_settle_56 : decode cX10_settle 56 = .ok (.ior, 1) := by decide +kernel
theorem dX10_settle_57 : decode cX10_settle 57 = .ok (.istore 6, 2) := by decide +kernel
theorem dX10_settle_59 : decode cX10_settle 59 = .ok (.aload_n 0, 1) := by decide +kernel
theorem dX10_settle_60 : decode cX10_settle 60 = .ok (.iconst 3, 1) := by decide +kernel
theorem dX10_settle_61 : decode cX10_settle 61 = .ok (.invokevirtual 194, 3) := by decide +kernel
theorem dX10_settle_64 : decode cX10_settle 64 = .ok (.iload 6, 2) := by decide +kernel
theorem dX10_settle_66 : decode cX10_settle 66 = .ok (.invokevirtual 287, 3) := by decide +kernel
theorem dX10_settle_69 : decode cX10_settle 69 = .ok (.aload_n 0, 1) := by decide +kernel
theorem dX10_settle_70 : decode cX10_settle 70 = .ok (.iconst 4, 1) := by decide +kernel
theorem dX10_settle_71 : decode cX10_settle 71 = .ok (.invokevirtual 194, 3) := by decide +kernel
theorem dX10_settle_74 : decode cX10_settle 74 = .ok (.iload 6, 2) := by decide +kernel
theorem dX10_settle_76 : decode cX10_settle 76 = .ok (.invokevirtual 287, 3) := by decide +kernel
theorem dX10_settle_79 : decode cX10_settle 79 = .ok (.iconst 1, 1) := by decide +kernel
theorem dX10_settle_80 : decode cX10_settle 80 = .ok (.ishl, 1) := by decide +kernel
theorem dX10_settle_81 : decode cX10_settle 81 = .ok (.ior, 1) := by decide +kernel
theorem dX10_settle_82 : decode cX10_settle 82 = .ok (.istore 7, 2) := by decide +kernel
theorem dX10_settle_84 : decode cX10_settle 84 = .ok (.iload 7, 2) := by decide +kernel
theorem dX10_settle_86 : decode cX10_settle 86 = .ok (.iload 4, 2) := by decide +kernel
theorem dX10_settle_88 : decode cX10_settle 88 = .ok (.if_icmp .ne 15, 3) := by decide +kernel
theorem dX10_settle_91 : decode cX10_settle 91 = .ok (.iload_n 2, 1) := by decide +kernel
theorem dX10_settle_92 : decode cX10_settle 92 = .ok (.ifCond .eq 8, 3) := by decide +kernel
theorem dX10_settle_95 : decode cX10_settle 95 = .ok (.iload 5, 2) := by decide +kernel
theorem dX10_settle_97 : decode cX10_settle 97 = .ok (.goto 5, 3) := by decide +kernel
theorem dX10_settle_100 : decode cX10_settle 100 = .ok (.iload 4, 2) := by decide +kernel
theorem dX10_settle_102 : decode cX10_settle 102 = .ok (.ireturn, 1) := by decide +kernel
theorem dX10_settle_103 : decode cX10_settle 103 = .ok (.iload 7, 2) := by decide +kernel
theorem dX10_settle_105 : decode cX10_settle 105 = .ok (.istore 4, 2) := by decide +kernel
theorem dX10_settle_107 : decode cX10_settle 107 = .ok (.iinc 5 1, 3) := by decide +kernel
theorem dX10_settle_110 : decode cX10_settle 110 = .ok (.goto (-66), 3) := by decide +kernel
theorem dX10_settle_113 : decode cX10_settle 113 = .ok (.iload_n 2, 1) := by decide +kernel
theorem dX10_settle_114 : decode cX10_settle 114 = .ok (.ifCond .eq 8, 3) := by decide +kernel
theorem dX10_settle_117 : decode cX10_settle 117 = .ok (.bipush (-2), 2) := by decide +kernel
theorem dX10_settle_119 : decode cX10_settle 119 = .ok (.goto 5, 3) := by decide +kernel
theorem dX10_settle_122 : decode cX10_settle 122 = .ok (.iload 4, 2) := by decide +kernel
theorem dX10_settle_124 : decode cX10_settle 124 = .ok (.ireturn, 1) := by decide +kernel
theorem dX10_product_0 : decode cX10_product 0 = .ok (.lload_n 0, 1) := by decide +kernel
theorem dX10_product_1 : decode cX10_product 1 = .ok (.lload_n 2, 1) := by decide +kernel
theorem dX10_product_2 : decode cX10_product 2 = .ok (.land, 1) := by decide +kernel
theorem dX10_product_3 : decode cX10_product 3 = .ok (.lconst 0, 1) := by decide +kernel
theorem dX10_product_4 : decode cX10_product 4 = .ok (.lcmp, 1) := by decide +kernel
theorem dX10_product_5 : decode cX10_product 5 = .ok (.ifCond .ne 5, 3) := by decide +kernel
theorem dX10_product_8 : decode cX10_product 8 = .ok (.iconst 0, 1) := by decide +kernel
theorem dX10_product_9 : decode cX10_product 9 = .ok (.ireturn, 1) := by decide +kernel
theorem dX10_product_10 : decode cX10_product 10 = .ok (.lload_n 2, 1) := by decide +kernel
theorem dX10_product_11 : decode cX10_product 11 = .ok (.lload_n 0, 1) := by decide +kernel
theorem dX10_product_12 : decode cX10_product 12 = .ok (.ldc2_w 365, 3) := by decide +kernel
theorem dX10_product_15 : decode cX10_product 15 = .ok (.lxor, 1) := by decide +kernel
theorem dX10_product_16 : decode cX10_product 16 = .ok (.land, 1) := by decide +kernel
theorem dX10_product_17 : decode cX10_product 17 = .ok (.lconst 0, 1) := by decide +kernel
theorem dX10_product_18 : decode cX10_product 18 = .ok (.lcmp, 1) := by decide +kernel
theorem dX10_product_19 : decode cX10_product 19 = .ok (.ifCond .ne 7, 3) := by decide +kernel
theorem dX10_product_22 : decode cX10_product 22 = .ok (.iconst 1, 1) := by decide +kernel
theorem dX10_product_23 : decode cX10_product 23 = .ok (.goto 4, 3) := by decide +kernel
theorem dX10_product_26 : decode cX10_product 26 = .ok (.iconst 2, 1) := by decide +kernel
theorem dX10_product_27 : decode cX10_product 27 = .ok (.ireturn, 1) := by decide +kernel
theorem dX10_stronger_0 : decode cX10_stronger 0 = .ok (.iload_n 0, 1) := by decide +kernel
theorem dX10_stronger_1 : decode cX10_stronger 1 = .ok (.iconst 1, 1) := by decide +kernel
theorem dX10_stronger_2 : decode cX10_stronger 2 = .ok (.if_icmp .eq 8, 3) := by decide +kernel
theorem dX10_stronger_5 : decode cX10_stronger 5 = .ok (.iload_n 1, 1) := by decide +kernel
theorem dX10_stronger_6 : decode cX10_stronger 6 = .ok (.iconst 1, 1) := by decide +kernel
theorem dX10_stronger_7 : decode cX10_stronger 7 = .ok (.if_icmp .ne 5, 3) := by decide +kernel
theorem dX10_stronger_10 : decode cX10_stronger 10 = .ok (.iconst 1, 1) := by decide +kernel
theorem dX10_stronger_11 : decode cX10_stronger 11 = .ok (.ireturn, 1) := by decide +kernel
theorem dX10_stronger_12 : decode cX10_stronger 12 = .ok (.iload_n 0, 1) := by decide +kernel
theorem dX10_stronger_13 : decode cX10_stronger 13 = .ok (.iconst 2, 1) := by decide +kernel
theorem dX10_stronger_14 : decode cX10_stronger 14 = .ok (.if_icmp .ne 7, 3) := by decide +kernel
theorem dX10_stronger_17 : decode cX10_stronger 17 = .ok (.iconst 2, 1) := by decide +kernel
theorem dX10_stronger_18 : decode cX10_stronger 18 = .ok (.goto 4, 3) := by decide +kernel
theorem dX10_stronger_21 : decode cX10_stronger 21 = .ok (.iload_n 1, 1) := by decide +kernel
theorem dX10_stronger_22 : decode cX10_stronger 22 = .ok (.ireturn, 1) := by decide +kernel
theorem dX10_pick_0 : decode cX10_pick 0 = .ok (.iload_n 1, 1) := by decide +kernel
theorem dX10_pick_1 : decode cX10_pick 1 = .ok (.ifCond .lt 15, 3) := by decide +kernel
theorem dX10_pick_4 : decode cX10_pick 4 = .ok (.iload_n 1, 1) := by decide +kernel
theorem dX10_pick_5 : decode cX10_pick 5 = .ok (.aload_n 0, 1) := by decide +kernel
theorem dX10_pick_6 : decode cX10_pick 6 = .ok (.arraylength, 1) := by decide +kernel
theorem dX10_pick_7 : decode cX10_pick 7 = .ok (.if_icmp .ge 9, 3) := by decide +kernel
theorem dX10_pick_10 : decode cX10_pick 10 = .ok (.aload_n 0, 1) := by decide +kernel
theorem dX10_pick_11 : decode cX10_pick 11 = .ok (.iload_n 1, 1) := by decide +kernel
theorem dX10_pick_12 : decode cX10_pick 12 = .ok (.iaload, 1) := by decide +kernel
theorem dX10_pick_13 : decode cX10_pick 13 = .ok (.goto 4, 3) := by decide +kernel
theorem dX10_pick_16 : decode cX10_pick 16 = .ok (.iconst 0, 1) := by decide +kernel
theorem dX10_pick_17 : decode cX10_pick 17 = .ok (.ireturn, 1) := by decide +kernel
theorem dX10_place_0 : decode cX10_place 0 = .ok (.iload_n 1, 1) := by decide +kernel
theorem dX10_place_1 : decode cX10_place 1 = .ok (.ifCond .lt 13, 3) := by decide +kernel
theorem dX10_place_4 : decode cX10_place 4 = .ok (.iload_n 1, 1) := by decide +kernel
theorem dX10_place_5 : decode cX10_place 5 = .ok (.aload_n 0, 1) := by decide +kernel
theorem dX10_place_6 : decode cX10_place 6 = .ok (.arraylength, 1) := by decide +kernel
theorem dX10_place_7 : decode cX10_place 7 = .ok (.if_icmp .ge 7, 3) := by decide +kernel
theorem dX10_place_10 : decode cX10_place 10 = .ok (.aload_n 0, 1) := by decide +kernel
theorem dX10_place_11 : decode cX10_place 11 = .ok (.iload_n 1, 1) := by decide +kernel
theorem dX10_place_12 : decode cX10_place 12 = .ok (.iload_n 2, 1) := by decide +kernel
theorem dX10_place_13 : decode cX10_place 13 = .ok (.iastore, 1) := by decide +kernel
theorem dX10_place_14 : decode cX10_place 14 = .ok (.return_, 1) := by decide +kernel
