theorem dX0_init_0 : decode cX0_init 0 = .ok (.aload_n 0, 1) := by decide +kernel
theorem dX0_init_1 : decode cX0_init 1 = .ok (.invokespecial 3, 3) := by decide +kernel
theorem dX0_init_4 : decode cX0_init 4 = .ok (.aload_n 0, 1) := by decide +kernel
theorem dX0_init_5 : decode cX0_init 5 = .ok (.iconst 4, 1) := by decide +kernel
theorem dX0_init_6 : decode cX0_init 6 = .ok (.anewarray 9, 3) := by decide +kernel
theorem dX0_init_9 : decode cX0_init 9 = .ok (.putfield 11, 3) := by decide +kernel
theorem dX0_init_12 : decode cX0_init 12 = .ok (.iconst 0, 1) := by decide +kernel
theorem dX0_init_13 : decode cX0_init 13 = .ok (.istore_n 1, 1) := by decide +kernel
theorem dX0_init_14 : decode cX0_init 14 = .ok (.iload_n 1, 1) := by decide +kernel
theorem dX0_init_15 : decode cX0_init 15 = .ok (.iconst 4, 1) := by decide +kernel
theorem dX0_init_16 : decode cX0_init 16 = .ok (.if_icmp .ge 22, 3) := by decide +kernel
theorem dX0_init_19 : decode cX0_init 19 = .ok (.aload_n 0, 1) := by decide +kernel
theorem dX0_init_20 : decode cX0_init 20 = .ok (.getfield 11, 3) := by decide +kernel
theorem dX0_init_23 : decode cX0_init 23 = .ok (.iload_n 1, 1) := by decide +kernel
theorem dX0_init_24 : decode cX0_init 24 = .ok (.new 9, 3) := by decide +kernel
theorem dX0_init_27 : decode cX0_init 27 = .ok (.dup, 1) := by decide +kernel
theorem dX0_init_28 : decode cX0_init 28 = .ok (.invokespecial 17, 3) := by decide +kernel
theorem dX0_init_31 : decode cX0_init 31 = .ok (.aastore, 1) := by decide +kernel
theorem dX0_init_32 : decode cX0_init 32 = .ok (.iinc 1 1, 3) := by decide +kernel
theorem dX0_init_35 : decode cX0_init 35 = .ok (.goto (-21), 3) := by decide +kernel
theorem dX0_init_38 : decode cX0_init 38 = .ok (.aload_n 0, 1) := by decide +kernel
theorem dX0_init_39 : decode cX0_init 39 = .ok (.new 18, 3) := by decide +kernel
theorem dX0_init_42 : decode cX0_init 42 = .ok (.dup, 1) := by decide +kernel
theorem dX0_init_43 : decode cX0_init 43 = .ok (.invokespecial 20, 3) := by decide +kernel
theorem dX0_init_46 : decode cX0_init 46 = .ok (.putfield 21, 3) := by decide +kernel
theorem dX0_init_49 : decode cX0_init 49 = .ok (.aload_n 0, 1) := by decide +kernel
theorem dX0_init_50 : decode cX0_init 50 = .ok (.new 18, 3) := by decide +kernel
theorem dX0_init_53 : decode cX0_init 53 = .ok (.dup, 1) := by decide +kernel
theorem dX0_init_54 : decode cX0_init 54 = .ok (.invokespecial 20, 3) := by decide +kernel
theorem dX0_init_57 : decode cX0_init 57 = .ok (.putfield 25, 3) := by decide +kernel
theorem dX0_init_60 : decode cX0_init 60 = .ok (.aload_n 0, 1) := by decide +kernel
theorem dX0_init_61 : decode cX0_init 61 = .ok (.new 18, 3) := by decide +kernel
theorem dX0_init_64 : decode cX0_init 64 = .ok (.dup, 1) := by decide +kernel
theorem dX0_init_65 : decode cX0_init 65 = .ok (.invokespecial 20, 3) := by decide +kernel
theorem dX0_init_68 : decode cX0_init 68 = .ok (.putfield 28, 3) := by decide +kernel
theorem dX0_init_71 : decode cX0_init 71 = .ok (.aload_n 0, 1) := by decide +kernel
theorem dX0_init_72 : decode cX0_init 72 = .ok (.bipush 50, 2) := by decide +kernel
theorem dX0_init_74 : decode cX0_init 74 = .ok (.putfield 31, 3) := by decide +kernel
theorem dX0_init_77 : decode cX0_init 77 = .ok (.aload_n 0, 1) := by decide +kernel
theorem dX0_init_78 : decode cX0_init 78 = .ok (.iconst 5, 1) := by decide +kernel
theorem dX0_init_79 : decode cX0_init 79 = .ok (.putfield 35, 3) := by decide +kernel
theorem dX0_init_82 : decode cX0_init 82 = .ok (.return_, 1) := by decide +kernel
theorem dX0_addStamp_0 : decode cX0_addStamp 0 = .ok (.aload_n 0, 1) := by decide +kernel
theorem dX0_addStamp_1 : decode cX0_addStamp 1 = .ok (.getfield 11, 3) := by decide +kernel
theorem dX0_addStamp_4 : decode cX0_addStamp 4 = .ok (.aload_n 0, 1) := by decide +kernel
theorem dX0_addStamp_5 : decode cX0_addStamp 5 = .ok (.getfield 38, 3) := by decide +kernel
theorem dX0_addStamp_8 : decode cX0_addStamp 8 = .ok (.aaload, 1) := by decide +kernel
theorem dX0_addStamp_9 : decode cX0_addStamp 9 = .ok (.astore_n 3, 1) := by decide +kernel
theorem dX0_addStamp_10 : decode cX0_addStamp 10 = .ok (.aload_n 3, 1) := by decide +kernel
theorem dX0_addStamp_11 : decode cX0_addStamp 11 = .ok (.iload_n 1, 1) := by decide +kernel
theorem dX0_addStamp_12 : decode cX0_addStamp 12 = .ok (.putfield 41, 3) := by decide +kernel
theorem dX0_addStamp_15 : decode cX0_addStamp 15 = .ok (.aload_n 3, 1) := by decide +kernel
theorem dX0_addStamp_16 : decode cX0_addStamp 16 = .ok (.iload_n 2, 1) := by decide +kernel
theorem dX0_addStamp_17 : decode cX0_addStamp 17 = .ok (.putfield 44, 3) := by decide +kernel
theorem dX0_addStamp_20 : decode cX0_addStamp 20 = .ok (.aload_n 0, 1) := by decide +kernel
theorem dX0_addStamp_21 : decode cX0_addStamp 21 = .ok (.dup, 1) := by decide +kernel
theorem dX0_addStamp_22 : decode cX0_addStamp 22 = .ok (.getfield 38, 3) := by decide +kernel
theorem dX0_addStamp_25 : decode cX0_addStamp 25 = .ok (.iconst 1, 1) := by decide +kernel
theorem dX0_addStamp_26 : decode cX0_addStamp 26 = .ok (.iadd, 1) := by decide +kernel
theorem dX0_addStamp_27 : decode cX0_addStamp 27 = .ok (.putfield 38, 3) := by decide +kernel
theorem dX0_addStamp_30 : decode cX0_addStamp 30 = .ok (.return_, 1) := by decide +kernel
theorem dX0_tellOfBox_0 : decode cX0_tellOfBox 0 = .ok (.iload_n 1, 1) := by decide +kernel
theorem dX0_tellOfBox_1 : decode cX0_tellOfBox 1 = .ok (.tableswitch 132 0 10 #[59, 64, 69, 74, 79, 87, 95, 103, 111, 119, 127], 59) := by decide +kernel
theorem dX0_tellOfBox_60 : decode cX0_tellOfBox 60 = .ok (.aload_n 0, 1) := by decide +kernel
theorem dX0_tellOfBox_61 : decode cX0_tellOfBox 61 = .ok (.getfield 38, 3) := by decide +kernel
theorem dX0_tellOfBox_64 : decode cX0_tellOfBox 64 = .ok (.ireturn, 1) := by decide +kernel
theorem dX0_tellOfBox_65 : decode cX0_tellOfBox 65 = .ok (.aload_n 0, 1) := by decide +kernel
theorem dX0_tellOfBox_66 : decode cX0_tellOfBox 66 = .ok (.getfield 31, 3) := by decide +kernel
theorem dX0_tellOfBox_69 : decode cX0_tellOfBox 69 = .ok (.ireturn, 1) := by decide +kernel
theorem dX0_tellOfBox_70 : decode cX0_tellOfBox 70 = .ok (.aload_n 0, 1) := by decide +kernel
theorem dX0_tellOfBox_71 : decode cX0_tellOfBox 71 = .ok (.getfield 47, 3) := by decide +kernel
theorem dX0_tellOfBox_74 : decode cX0_tellOfBox 74 = .ok (.ireturn, 1) := by decide +kernel
theorem dX0_tellOfBox_75 : decode cX0_tellOfBox 75 = .ok (.aload_n 0, 1) := by decide +kernel
theorem dX0_tellOfBox_76 : decode cX0_tellOfBox 76 = .ok (.getfield 35, 3) := by decide +kernel
theorem dX0_tellOfBox_79 : decode cX0_tellOfBox 79 = .ok (.ireturn, 1) := by decide +kernel
theorem dX0_tellOfBox_80 : decode cX0_tellOfBox 80 = .ok (.aload_n 0, 1) := by decide +kernel
theorem dX0_tellOfBox_81 : decode cX0_tellOfBox 81 = .ok (.getfield 21, 3) := by decide +kernel
theorem dX0_tellOfBox_84 : decode cX0_tellOfBox 84 = .ok (.getfield 50, 3) := by decide +kernel
theorem dX0_tellOfBox_87 : decode cX0_tellOfBox 87 = .ok (.ireturn, 1) := by decide +kernel
theorem dX0_tellOfBox_88 : decode cX0_tellOfBox 88 = .ok (.aload_n 0, 1) := by decide +kernel
theorem dX0_tellOfBox_89 : decode cX0_tellOfBox 89 = .ok (.getfield 25, 3) := by decide +kernel
theorem dX0_tellOfBox_92 : decode cX0_tellOfBox 92 = .ok (.getfield 50, 3) := by decide +kernel
theorem dX0_tellOfBox_95 : decode cX0_tellOfBox 95 = .ok (.ireturn, 1) := by decide +kernel
theorem dX0_tellOfBox_96 : decode cX0_tellOfBox 96 = .ok (.aload_n 0, 1) := by decide +kernel
theorem dX0_tellOfBox_97 : decode cX0_tellOfBox 97 = .ok (.getfield 28, 3) := by decide +kernel
theorem dX0_tellOfBox_100 : decode cX0_tellOfBox 100 = .ok (.getfield 50, 3) := by decide +kernel
theorem dX0_tellOfBox_103 : decode cX0_tellOfBox 103 = .ok (.ireturn, 1) := by decide +kernel
theorem dX0_tellOfBox_104 : decode cX0_tellOfBox 104 = .ok (.aload_n 0, 1) := by decide +kernel
theorem dX0_tellOfBox_105 : decode cX0_tellOfBox 105 = .ok (.getfield 21, 3) := by decide +kernel
theorem dX0_tellOfBox_108 : decode cX0_tellOfBox 108 = .ok (.getfield 53, 3) := by decide +kernel
theorem dX0_tellOfBox_111 : decode cX0_tellOfBox 111 = .ok (.ireturn, 1) := by decide +kernel
theorem dX0_tellOfBox_112 : decode cX0_tellOfBox 112 = .ok (.aload_n 0, 1) := by decide +kernel
theorem dX0_tellOfBox_113 : decode cX0_tellOfBox 113 = .ok (.getfield 25, 3) := by decide +kernel
theorem dX0_tellOfBox_116 : decode cX0_tellOfBox 116 = .ok (.getfield 53, 3) := by decide +kernel
theorem dX0_tellOfBox_119 : decode cX0_tellOfBox 119 = .ok (.ireturn, 1) := by decide +kernel
theorem dX0_tellOfBox_120 : decode cX0_tellOfBox 120 = .ok (.aload_n 0, 1) := by decide +kernel
theorem dX0_tellOfBox_121 : decode cX0_tellOfBox 121 = .ok (.getfield 28, 3) := by decide +kernel
theorem dX0_tellOfBox_124 : decode cX0_tellOfBox 124 = .ok (.getfield 53, 3) := by decide +kernel
theorem dX0_tellOfBox_127 : decode cX0_tellOfBox 127 = .ok (.ireturn, 1) := by decide +kernel
theorem dX0_tellOfBox_128 : decode cX0_tellOfBox 128 = .ok (.aload_n 0, 1) := by decide +kernel
theorem dX0_tellOfBox_129 : decode cX0_tellOfBox 129 = .ok (.invokevirtual 56, 3) := by decide +kernel
theorem dX0_tellOfBox_132 : decode cX0_tellOfBox 132 = .ok (.ireturn, 1) := by decide +kernel
theorem dX0_tellOfBox_133 : decode cX0_tellOfBox 133 = .ok (.aload_n 0, 1) := by decide +kernel
theorem dX0_tellOfBox_134 : decode cX0_tellOfBox 134 = .ok (.getfield 60, 3) := by decide +kernel
theorem dX0_tellOfBox_137 : decode cX0_tellOfBox 137 = .ok (.ireturn, 1) := by decide +kernel
theorem dX0_tinOfSizes_0 : decode cX0_tinOfSizes 0 = .ok (.aload_n 0, 1) := by decide +kernel
theorem dX0_tinOfSizes_1 : decode cX0_tinOfSizes 1 = .ok (.getfield 21, 3) := by decide +kernel
theorem dX0_tinOfSizes_4 : decode cX0_tinOfSizes 4 = .ok (.getfield 53, 3) := by decide +kernel
theorem dX0_tinOfSizes_7 : decode cX0_tinOfSizes 7 = .ok (.aload_n 0, 1) := by decide +kernel
theorem dX0_tinOfSizes_8 : decode cX0_tinOfSizes 8 = .ok (.getfield 25, 3) := by decide +kernel
theorem dX0_tinOfSizes_11 : decode cX0_tinOfSizes 11 = .ok (.getfield 53, 3) := by decide +kernel
theorem dX0_tinOfSizes_14 : decode cX0_tinOfSizes 14 = .ok (.iadd, 1) := by decide +kernel
theorem dX0_tinOfSizes_15 : decode cX0_tinOfSizes 15 = .ok (.aload_n 0, 1) := by decide +kernel
theorem dX0_tinOfSizes_16 : decode cX0_tinOfSizes 16 = .ok (.getfield 28, 3) := by decide +kernel
theorem dX0_tinOfSizes_19 : decode cX0_tinOfSizes 19 = .ok (.getfield 53, 3) := by decide +kernel
theorem dX0_tinOfSizes_22 : decode cX0_tinOfSizes 22 = .ok (.iadd, 1) := by decide +kernel
theorem dX0_tinOfSizes_23 : decode cX0_tinOfSizes 23 = .ok (.ireturn, 1) := by decide +kernel
theorem dX0_wearOfStamps_0 : decode cX0_wearOfStamps 0 = .ok (.iconst 0, 1) := by decide +kernel
theorem dX0_wearOfStamps_1 : decode cX0_wearOfStamps 1 = .ok (.istore_n 1, 1) := by decide +kernel
theorem dX0_wearOfStamps_2 : decode cX0_wearOfStamps 2 = .ok (.iconst 0, 1) := by decide +kernel
theorem dX0_wearOfStamps_3 : decode cX0_wearOfStamps 3 = .ok (.istore_n 2, 1) := by decide +kernel
theorem dX0_wearOfStamps_4 : decode cX0_wearOfStamps 4 = .ok (.iload_n 2, 1) := by decide +kernel
theorem dX0_wearOfStamps_5 : decode cX0_wearOfStamps 5 = .ok (.aload_n 0, 1) := by decide +kernel
theorem dX0_wearOfStamps_6 : decode cX0_wearOfStamps 6 = .ok (.getfield 38, 3) := by decide +kernel
theorem dX0_wearOfStamps_9 : decode cX0_wearOfStamps 9 = .ok (.if_icmp .ge 21, 3) := by decide +kernel
theorem dX0_wearOfStamps_12 : decode cX0_wearOfStamps 12 = .ok (.iload_n 1, 1) := by decide +kernel
theorem dX0_wearOfStamps_13 : decode cX0_wearOfStamps 13 = .ok (.aload_n 0, 1) := by decide +kernel
theorem dX0_wearOfStamps_14 : decode cX0_wearOfStamps 14 = .ok (.getfield 11, 3) := by decide +kernel
theorem dX0_wearOfStamps_17 : decode cX0_wearOfStamps 17 = .ok (.iload_n 2, 1) := by decide +kernel
theorem dX0_wearOfStamps_18 : decode cX0_wearOfStamps 18 = .ok (.aaload, 1) := by decide +kernel
theorem dX0_wearOfStamps_19 : decode cX0_wearOfStamps 19 = .ok (.getfield 63, 3) := by decide +kernel
theorem dX0_wearOfStamps_22 : decode cX0_wearOfStamps 22 = .ok (.iadd, 1) := by decide +kernel
theorem dX0_wearOfStamps_23 : decode cX0_wearOfStamps 23 = .ok (.istore_n 1, 1) := by decide +kernel
theorem dX0_wearOfStamps_24 : decode cX0_wearOfStamps 24 = .ok (.iinc 2 1, 3) := by decide +kernel
theorem dX0_wearOfStamps_27 : decode cX0_wearOfStamps 27 = .ok (.goto (-23), 3) := by decide +kernel
theorem dX0_wearOfStamps_30 : decode cX0_wearOfStamps 30 = .ok (.iload_n 1, 1) := by decide +kernel
theorem dX0_wearOfStamps_31 : decode cX0_wearOfStamps 31 = .ok (.ireturn, 1) := by decide +kernel
theorem dX0_loadOfStamps_0 : decode cX0_loadOfStamps 0 = .ok (.iconst 0, 1) := by decide +kernel
theorem dX0_loadOfStamps_1 : decode cX0_loadOfStamps 1 = .ok (.istore_n 1, 1) := by decide +kernel
theorem dX0_loadOfStamps_2 : decode cX0_loadOfStamps 2 = .ok (.iconst 0, 1) := by decide +kernel
theorem dX0_loadOfStamps_3 : decode cX0_loadOfStamps 3 = .ok (.istore_n 2, 1) := by decide +kernel
theorem dX0_loadOfStamps_4 : decode cX0_loadOfStamps 4 = .ok (.iload_n 2, 1) := by decide +kernel
theorem dX0_loadOfStamps_5 : decode cX0_loadOfStamps 5 = .ok (.aload_n 0, 1) := by decide +kernel
theorem dX0_loadOfStamps_6 : decode cX0_loadOfStamps 6 = .ok (.getfield 38, 3) := by decide +kernel
theorem dX0_loadOfStamps_9 : decode cX0_loadOfStamps 9 = .ok (.if_icmp .ge 21, 3) := by decide +kernel
theorem dX0_loadOfStamps_12 : decode cX0_loadOfStamps 12 = .ok (.iload_n 1, 1) := by decide +kernel
theorem dX0_loadOfStamps_13 : decode cX0_loadOfStamps 13 = .ok (.aload_n 0, 1) := by decide +kernel
theorem dX0_loadOfStamps_14 : decode cX0_loadOfStamps 14 = .ok (.getfield 11, 3) := by decide +kernel
theorem dX0_loadOfStamps_17 : decode cX0_loadOfStamps 17 = .ok (.iload_n 2, 1) := by decide +kernel
theorem dX0_loadOfStamps_18 : decode cX0_loadOfStamps 18 = .ok (.aaload, 1) := by decide +kernel
theorem dX0_loadOfStamps_19 : decode cX0_loadOfStamps 19 = .ok (.invokevirtual 66, 3) := by decide +kernel
theorem dX0_loadOfStamps_22 : decode cX0_loadOfStamps 22 = .ok (.iadd, 1) := by decide +kernel
theorem dX0_loadOfStamps_23 : decode cX0_loadOfStamps 23 = .ok (.istore_n 1, 1) := by decide +kernel
theorem dX0_loadOfStamps_24 : decode cX0_loadOfStamps 24 = .ok (.iinc 2 1, 3) := by decide +kernel
theorem dX0_loadOfStamps_27 : decode cX0_loadOfStamps 27 = .ok (.goto (-23), 3) := by decide +kernel
theorem dX0_loadOfStamps_30 : decode cX0_loadOfStamps 30 = .ok (.iload_n 1, 1) := by decide +kernel
theorem dX0_loadOfStamps_31 : decode cX0_loadOfStamps 31 = .ok (.ireturn, 1) := by decide +kernel
theorem dX0_forceOfStamps_0 : decode cX0_forceOfStamps 0 = .ok (.iconst 0, 1) := by decide +kernel
theorem dX0_forceOfStamps_1 : decode cX0_forceOfStamps 1 = .ok (.istore_n 2, 1) := by decide +kernel
theorem dX0_forceOfStamps_2 : decode cX0_forceOfStamps 2 = .ok (.iconst 0, 1) := by decide +kernel
theorem dX0_forceOfStamps_3 : decode cX0_forceOfStamps 3 = .ok (.istore_n 3, 1) := by decide +kernel
theorem dX0_forceOfStamps_4 : decode cX0_forceOfStamps 4 = .ok (.iload_n 3, 1) := by decide +kernel
theorem dX0_forceOfStamps_5 : decode cX0_forceOfStamps 5 = .ok (.aload_n 0, 1) := by decide +kernel
theorem dX0_forceOfStamps_6 : decode cX0_forceOfStamps 6 = .ok (.getfield 38, 3) := by decide +kernel
theorem dX0_forceOfStamps_9 : decode cX0_forceOfStamps 9 = .ok (.if_icmp .ge 22, 3) := by decide +kernel
theorem dX0_forceOfStamps_12 : decode cX0_forceOfStamps 12 = .ok (.iload_n 2, 1) := by decide +kernel
theorem dX0_forceOfStamps_13 : decode cX0_forceOfStamps 13 = .ok (.aload_n 0, 1) := by decide +kernel
theorem dX0_forceOfStamps_14 : decode cX0_forceOfStamps 14 = .ok (.getfield 11, 3) := by decide +kernel
theorem dX0_forceOfStamps_17 : decode cX0_forceOfStamps 17 = .ok (.iload_n 3, 1) := by decide +kernel
theorem dX0_forceOfStamps_18 : decode cX0_forceOfStamps 18 = .ok (.aaload, 1) := by decide +kernel
theorem dX0_forceOfStamps_19 : decode cX0_forceOfStamps 19 = .ok (.iload_n 1, 1) := by decide +kernel
theorem dX0_forceOfStamps_20 : decode cX0_forceOfStamps 20 = .ok (.invokevirtual 69, 3) := by decide +kernel
theorem dX0_forceOfStamps_23 : decode cX0_forceOfStamps 23 = .ok (.iadd, 1) := by decide +kernel
theorem dX0_forceOfStamps_24 : decode cX0_forceOfStamps 24 = .ok (.istore_n 2, 1) := by decide +kernel
theorem dX0_forceOfStamps_25 : decode cX0_forceOfStamps 25 = .ok (.iinc 3 1, 3) := by decide +kernel
theorem dX0_forceOfStamps_28 : decode cX0_forceOfStamps 28 = .ok (.goto (-24), 3) := by decide +kernel
theorem dX0_forceOfStamps_31 : decode cX0_forceOfStamps 31 = .ok (.iload_n 2, 1) := by decide +kernel
theorem dX0_forceOfStamps_32 : decode cX0_forceOfStamps 32 = .ok (.ireturn, 1) := by decide +kernel
theorem dX0_blow_0 : decode cX0_blow 0 = .ok (.aload_n 0, 1) := by decide +kernel
theorem dX0_blow_1 : decode cX0_blow 1 = .ok (.aload_n 0, 1) := by decide +kernel
theorem dX0_blow_2 : decode cX0_blow 2 = .ok (.iload_n 1, 1) := by decide +kernel
theorem dX0_blow_3 : decode cX0_blow 3 = .ok (.invokevirtual 73, 3) := by decide +kernel
theorem dX0_blow_6 : decode cX0_blow 6 = .ok (.putfield 60, 3) := by decide +kernel
theorem dX0_blow_9 : decode cX0_blow 9 = .ok (.iconst 1, 1) := by decide +kernel
theorem dX0_blow_10 : decode cX0_blow 10 = .ok (.aload_n 0, 1) := by decide +kernel
theorem dX0_blow_11 : decode cX0_blow 11 = .ok (.getfield 35, 3) := by decide +kernel
theorem dX0_blow_14 : decode cX0_blow 14 = .ok (.invokestatic 76, 3) := by decide +kernel
theorem dX0_blow_17 : decode cX0_blow 17 = .ok (.istore_n 2, 1) := by decide +kernel
theorem dX0_blow_18 : decode cX0_blow 18 = .ok (.aload_n 0, 1) := by decide +kernel
theorem dX0_blow_19 : decode cX0_blow 19 = .ok (.getfield 21, 3) := by decide +kernel
theorem dX0_blow_22 : decode cX0_blow 22 = .ok (.aload_n 0, 1) := by decide +kernel
theorem dX0_blow_23 : decode cX0_blow 23 = .ok (.getfield 25, 3) := by decide +kernel
theorem dX0_blow_26 : decode cX0_blow 26 = .ok (.aload_n 0, 1) := by decide +kernel
theorem dX0_blow_27 : decode cX0_blow 27 = .ok (.getfield 60, 3) := by decide +kernel
theorem dX0_blow_30 : decode cX0_blow 30 = .ok (.iload_n 2, 1) := by decide +kernel
theorem dX0_blow_31 : decode cX0_blow 31 = .ok (.idiv, 1) := by decide +kernel
theorem dX0_blow_32 : decode cX0_blow 32 = .ok (.invokevirtual 82, 3) := by decide +kernel
theorem dX0_blow_35 : decode cX0_blow 35 = .ok (.pop, 1) := by decide +kernel
theorem dX0_blow_36 : decode cX0_blow 36 = .ok (.aload_n 0, 1) := by decide +kernel
theorem dX0_blow_37 : decode cX0_blow 37 = .ok (.getfield 25, 3) := by decide +kernel
theorem dX0_blow_40 : decode cX0_blow 40 = .ok (.aload_n 0, 1) := by decide +kernel
theorem dX0_blow_41 : decode cX0_blow 41 = .ok (.getfield 28, 3) := by decide +kernel
theorem dX0_blow_44 : decode cX0_blow 44 = .ok (.aload_n 0, 1) := by decide +kernel
theorem dX0_blow_45 : decode cX0_blow 45 = .ok (.getfield 60, 3) := by decide +kernel
theorem dX0_blow_48 : decode cX0_blow 48 = .ok (.iconst 2, 1) := by decide +kernel
theorem dX0_blow_49 : decode cX0_blow 49 = .ok (.iload_n 2, 1) := by decide +kernel
theorem dX0_blow_50 : decode cX0_blow 50 = .ok (.imul, 1) := by decide +kernel
theorem dX0_blow_51 : decode cX0_blow 51 = .ok (.idiv, 1) := by decide +kernel
theorem dX0_blow_52 : decode cX0_blow 52 = .ok (.invokevirtual 82, 3) := by decide +kernel
theorem dX0_blow_55 : decode cX0_blow 55 = .ok (.pop, 1) := by decide +kernel
theorem dX0_blow_56 : decode cX0_blow 56 = .ok (.return_, 1) := by decide +kernel
theorem dX0_loseSlime_0 : decode cX0_loseSlime 0 = .ok (.aload_n 0, 1) := by decide +kernel
theorem dX0_loseSlime_1 : decode cX0_loseSlime 1 = .ok (.getfield 28, 3) := by decide +kernel
theorem dX0_loseSlime_4 : decode cX0_loseSlime 4 = .ok (.getfield 53, 3) := by decide +kernel
theorem dX0_loseSlime_7 : decode cX0_loseSlime 7 = .ok (.iconst 1, 1) := by decide +kernel
theorem dX0_loseSlime_8 : decode cX0_loseSlime 8 = .ok (.aload_n 0, 1) := by decide +kernel
theorem dX0_loseSlime_9 : decode cX0_loseSlime 9 = .ok (.getfield 28, 3) := by decide +kernel
theorem dX0_loseSlime_12 : decode cX0_loseSlime 12 = .ok (.getfield 53, 3) := by decide +kernel
theorem dX0_loseSlime_15 : decode cX0_loseSlime 15 = .ok (.bipush 10, 2) := by decide +kernel
theorem dX0_loseSlime_17 : decode cX0_loseSlime 17 = .ok (.idiv, 1) := by decide +kernel
theorem dX0_loseSlime_18 : decode cX0_loseSlime 18 = .ok (.invokestatic 76, 3) := by decide +kernel
theorem dX0_loseSlime_21 : decode cX0_loseSlime 21 = .ok (.invokestatic 86, 3) := by decide +kernel
theorem dX0_loseSlime_24 : decode cX0_loseSlime 24 = .ok (.istore_n 1, 1) := by decide +kernel
theorem dX0_loseSlime_25 : decode cX0_loseSlime 25 = .ok (.aload_n 0, 1) := by decide +kernel
theorem dX0_loseSlime_26 : decode cX0_loseSlime 26 = .ok (.getfield 28, 3) := by decide +kernel
theorem dX0_loseSlime_29 : decode cX0_loseSlime 29 = .ok (.dup, 1) := by decide +kernel
theorem dX0_loseSlime_30 : decode cX0_loseSlime 30 = .ok (.getfield 53, 3) := by decide +kernel
theorem dX0_loseSlime_33 : decode cX0_loseSlime 33 = .ok (.iload_n 1, 1) := by decide +kernel
theorem dX0_loseSlime_34 : decode cX0_loseSlime 34 = .ok (.isub, 1) := by decide +kernel
theorem dX0_loseSlime_35 : decode cX0_loseSlime 35 = .ok (.putfield 53, 3) := by decide +kernel
theorem dX0_loseSlime_38 : decode cX0_loseSlime 38 = .ok (.iload_n 1, 1) := by decide +kernel
theorem dX0_loseSlime_39 : decode cX0_loseSlime 39 = .ok (.ireturn, 1) := by decide +kernel
theorem dX0_grate_0 : decode cX0_grate 0 = .ok (.aload_n 0, 1) := by decide +kernel
theorem dX0_grate_1 : decode cX0_grate 1 = .ok (.getfield 28, 3) := by decide +kernel
theorem dX0_grate_4 : decode cX0_grate 4 = .ok (.aload_n 1, 1) := by decide +kernel
theorem dX0_grate_5 : decode cX0_grate 5 = .ok (.iload_n 2, 1) := by decide +kernel
theorem dX0_grate_6 : decode cX0_grate 6 = .ok (.iconst 4, 1) := by decide +kernel
theorem dX0_grate_7 : decode cX0_grate 7 = .ok (.idiv, 1) := by decide +kernel
theorem dX0_grate_8 : decode cX0_grate 8 = .ok (.sipush 6000, 3) := by decide +kernel
theorem dX0_grate_11 : decode cX0_grate 11 = .ok (.aload_n 1, 1) := by decide +kernel
theorem dX0_grate_12 : decode cX0_grate 12 = .ok (.invokevirtual 89, 3) := by decide +kernel
theorem dX0_grate_15 : decode cX0_grate 15 = .ok (.isub, 1) := by decide +kernel
theorem dX0_grate_16 : decode cX0_grate 16 = .ok (.invokestatic 86, 3) := by decide +kernel
theorem dX0_grate_19 : decode cX0_grate 19 = .ok (.invokevirtual 82, 3) := by decide +kernel
theorem dX0_grate_22 : decode cX0_grate 22 = .ok (.pop, 1) := by decide +kernel
theorem dX0_grate_23 : decode cX0_grate 23 = .ok (.return_, 1) := by decide +kernel
theorem dX0_wearStamps_0 : decode cX0_wearStamps 0 = .ok (.iconst 0, 1) := by decide +kernel
theorem dX0_wearStamps_1 : decode cX0_wearStamps 1 = .ok (.istore_n 2, 1) := by decide +kernel
theorem dX0_wearStamps_2 : decode cX0_wearStamps 2 = .ok (.iload_n 2, 1) := by decide +kernel
theorem dX0_wearStamps_3 : decode cX0_wearStamps 3 = .ok (.aload_n 0, 1) := by decide +kernel
theorem dX0_wearStamps_4 : decode cX0_wearStamps 4 = .ok (.getfield 38, 3) := by decide +kernel
theorem dX0_wearStamps_7 : decode cX0_wearStamps 7 = .ok (.if_icmp .ge 19, 3) := by decide +kernel
theorem dX0_wearStamps_10 : decode cX0_wearStamps 10 = .ok (.aload_n 0, 1) := by decide +kernel
theorem dX0_wearStamps_11 : decode cX0_wearStamps 11 = .ok (.getfield 11, 3) := by decide +kernel
theorem dX0_wearStamps_14 : decode cX0_wearStamps 14 = .ok (.iload_n 2, 1) := by decide +kernel
theorem dX0_wearStamps_15 : decode cX0_wearStamps 15 = .ok (.aaload, 1) := by decide +kernel
theorem dX0_wearStamps_16 : decode cX0_wearStamps 16 = .ok (.iload_n 1, 1) := by decide +kernel
theorem dX0_wearStamps_17 : decode cX0_wearStamps 17 = .ok (.invokevirtual 92, 3) := by decide +kernel
theorem dX0_wearStamps_20 : decode cX0_wearStamps 20 = .ok (.iinc 2 1, 3) := by decide +kernel
theorem dX0_wearStamps_23 : decode cX0_wearStamps 23 = .ok (.goto (-21), 3) := by decide +kernel
theorem dX0_wearStamps_26 : decode cX0_wearStamps 26 = .ok (.return_, 1) := by decide +kernel
theorem dX0_copyBox_0 : decode cX0_copyBox 0 = .ok (.aload_n 0, 1) := by decide +kernel
theorem dX0_copyBox_1 : decode cX0_copyBox 1 = .ok (.aload_n 1, 1) := by decide +kernel
theorem dX0_copyBox_2 : decode cX0_copyBox 2 = .ok (.getfield 38, 3) := by decide +kernel
theorem dX0_copyBox_5 : decode cX0_copyBox 5 = .ok (.putfield 38, 3) := by decide +kernel
theorem dX0_copyBox_8 : decode cX0_copyBox 8 = .ok (.iconst 0, 1) := by decide +kernel
theorem dX0_copyBox_9 : decode cX0_copyBox 9 = .ok (.istore_n 2, 1) := by decide +kernel
theorem dX0_copyBox_10 : decode cX0_copyBox 10 = .ok (.iload_n 2, 1) := by decide +kernel
theorem dX0_copyBox_11 : decode cX0_copyBox 11 = .ok (.aload_n 0, 1) := by decide +kernel
theorem dX0_copyBox_12 : decode cX0_copyBox 12 = .ok (.getfield 38, 3) := by decide +kernel
theorem dX0_copyBox_15 : decode cX0_copyBox 15 = .ok (.if_icmp .ge 24, 3) := by decide +kernel
theorem dX0_copyBox_18 : decode cX0_copyBox 18 = .ok (.aload_n 0, 1) := by decide +kernel
theorem dX0_copyBox_19 : decode cX0_copyBox 19 = .ok (.getfield 11, 3) := by decide +kernel
theorem dX0_copyBox_22 : decode cX0_copyBox 22 = .ok (.iload_n 2, 1) := by decide +kernel
theorem dX0_copyBox_23 : decode cX0_copyBox 23 = .ok (.aaload, 1) := by decide +kernel
theorem dX0_copyBox_24 : decode cX0_copyBox 24 = .ok (.aload_n 1, 1) := by decide +kernel
theorem dX0_copyBox_25 : decode cX0_copyBox 25 = .ok (.getfield 11, 3) := by decide +kernel
theorem dX0_copyBox_28 : decode cX0_copyBox 28 = .ok (.iload_n 2, 1) := by decide +kernel
theorem dX0_copyBox_29 : decode cX0_copyBox 29 = .ok (.aaload, 1) := by decide +kernel
theorem dX0_copyBox_30 : decode cX0_copyBox 30 = .ok (.invokevirtual 96, 3) := by decide +kernel
theorem dX0_copyBox_33 : decode cX0_copyBox 33 = .ok (.iinc 2 1, 3) := by decide +kernel
theorem dX0_copyBox_36 : decode cX0_copyBox 36 = .ok (.goto (-26), 3) := by decide +kernel
theorem dX0_copyBox_39 : decode cX0_copyBox 39 = .ok (.aload_n 0, 1) := by decide +kernel
theorem dX0_copyBox_40 : decode cX0_copyBox 40 = .ok (.getfield 21, 3) := by decide +kernel
theorem dX0_copyBox_43 : decode cX0_copyBox 43 = .ok (.aload_n 1, 1) := by decide +kernel
theorem dX0_copyBox_44 : decode cX0_copyBox 44 = .ok (.getfield 21, 3) := by decide +kernel
theorem dX0_copyBox_47 : decode cX0_copyBox 47 = .ok (.invokevirtual 100, 3) := by decide +kernel
theorem dX0_copyBox_50 : decode cX0_copyBox 50 = .ok (.aload_n 0, 1) := by decide +kernel
theorem dX0_copyBox_51 : decode cX0_copyBox 51 = .ok (.getfield 25, 3) := by decide +kernel
theorem dX0_copyBox_54 : decode cX0_copyBox 54 = .ok (.aload_n 1, 1) := by decide +kernel
theorem dX0_copyBox_55 : decode cX0_copyBox 55 = .ok (.getfield 25, 3) := by decide +kernel
theorem dX0_copyBox_58 : decode cX0_copyBox 58 = .ok (.invokevirtual 100, 3) := by decide +kernel
theorem dX0_copyBox_61 : decode cX0_copyBox 61 = .ok (.aload_n 0, 1) := by decide +kernel
theorem dX0_copyBox_62 : decode cX0_copyBox 62 = .ok (.getfield 28, 3) := by decide +kernel
theorem dX0_copyBox_65 : decode cX0_copyBox 65 = .ok (.aload_n 1, 1) := by decide +kernel
theorem dX0_copyBox_66 : decode cX0_copyBox 66 = .ok (.getfield 28, 3) := by decide +kernel
theorem dX0_copyBox_69 : decode cX0_copyBox 69 = .ok (.invokevirtual 100, 3) := by decide +kernel
theorem dX0_copyBox_72 : decode cX0_copyBox 72 = .ok (.aload_n 0, 1) := by decide +kernel
theorem dX0_copyBox_73 : decode cX0_copyBox 73 = .ok (.aload_n 1, 1) := by decide +kernel
theorem dX0_copyBox_74 : decode cX0_copyBox 74 = .ok (.getfield 31, 3) := by decide +kernel
theorem dX0_copyBox_77 : decode cX0_copyBox 77 = .ok (.putfield 31, 3) := by decide +kernel
theorem dX0_copyBox_80 : decode cX0_copyBox 80 = .ok (.aload_n 0, 1) := by decide +kernel
theorem dX0_copyBox_81 : decode cX0_copyBox 81 = .ok (.aload_n 1, 1) := by decide +kernel
theorem dX0_copyBox_82 : decode cX0_copyBox 82 = .ok (.getfield 47, 3) := by decide +kernel
theorem dX0_copyBox_85 : decode cX0_copyBox 85 = .ok (.putfield 47, 3) := by decide +kernel
theorem dX0_copyBox_88 : decode cX0_copyBox 88 = .ok (.aload_n 0, 1) := by decide +kernel
theorem dX0_copyBox_89 : decode cX0_copyBox 89 = .ok (.aload_n 1, 1) := by decide +kernel
theorem dX0_copyBox_90 : decode cX0_copyBox 90 = .ok (.getfield 35, 3) := by decide +kernel
theorem dX0_copyBox_93 : decode cX0_copyBox 93 = .ok (.putfield 35, 3) := by decide +kernel
theorem dX0_copyBox_96 : decode cX0_copyBox 96 = .ok (.aload_n 0, 1) := by decide +kernel
theorem dX0_copyBox_97 : decode cX0_copyBox 97 = .ok (.aload_n 1, 1) := by decide +kernel
theorem dX0_copyBox_98 : decode cX0_copyBox 98 = .ok (.getfield 60, 3) := by decide +kernel
theorem dX0_copyBox_101 : decode cX0_copyBox 101 = .ok (.putfield 60, 3) := by decide +kernel
theorem dX0_copyBox_104 : decode cX0_copyBox 104 = .ok (.return_, 1) := by decide +kernel
theorem dX1_init_0 : decode cX1_init 0 = .ok (.aload_n 0, 1) := by decide +kernel
theorem dX1_init_1 : decode cX1_init 1 = .ok (.invokespecial 3, 3) := by decide +kernel
theorem dX1_init_4 : decode cX1_init 4 = .ok (.aload_n 0, 1) := by decide +kernel
theorem dX1_init_5 : decode cX1_init 5 = .ok (.bipush 30, 2) := by decide +kernel
theorem dX1_init_7 : decode cX1_init 7 = .ok (.anewarray 9, 3) := by decide +kernel
theorem dX1_init_10 : decode cX1_init 10 = .ok (.putfield 11, 3) := by decide +kernel
theorem dX1_init_13 : decode cX1_init 13 = .ok (.iconst 0, 1) := by decide +kernel
theorem dX1_init_14 : decode cX1_init 14 = .ok (.istore_n 1, 1) := by decide +kernel
theorem dX1_init_15 : decode cX1_init 15 = .ok (.iload_n 1, 1) := by decide +kernel
theorem dX1_init_16 : decode cX1_init 16 = .ok (.bipush 30, 2) := by decide +kernel
theorem dX1_init_18 : decode cX1_init 18 = .ok (.if_icmp .ge 22, 3) := by decide +kernel
theorem dX1_init_21 : decode cX1_init 21 = .ok (.aload_n 0, 1) := by decide +kernel
theorem dX1_init_22 : decode cX1_init 22 = .ok (.getfield 11, 3) := by decide +kernel
theorem dX1_init_25 : decode cX1_init 25 = .ok (.iload_n 1, 1) := by decide +kernel
theorem dX1_init_26 : decode cX1_init 26 = .ok (.new 9, 3) := by decide +kernel
theorem dX1_init_29 : decode cX1_init 29 = .ok (.dup, 1) := by decide +kernel
theorem dX1_init_30 : decode cX1_init 30 = .ok (.invokespecial 17, 3) := by decide +kernel
theorem dX1_init_33 : decode cX1_init 33 = .ok (.aastore, 1) := by decide +kernel
theorem dX1_init_34 : decode cX1_init 34 = .ok (.iinc 1 1, 3) := by decide +kernel
theorem dX1_init_37 : decode cX1_init 37 = .ok (.goto (-22), 3) := by decide +kernel
theorem dX1_init_40 : decode cX1_init 40 = .ok (.return_, 1) := by decide +kernel
theorem dX1_lotAt_0 : decode cX1_lotAt 0 = .ok (.aload_n 0, 1) := by decide +kernel
theorem dX1_lotAt_1 : decode cX1_lotAt 1 = .ok (.getfield 11, 3) := by decide +kernel
theorem dX1_lotAt_4 : decode cX1_lotAt 4 = .ok (.aload_n 0, 1) := by decide +kernel
theorem dX1_lotAt_5 : decode cX1_lotAt 5 = .ok (.getfield 18, 3) := by decide +kernel
theorem dX1_lotAt_8 : decode cX1_lotAt 8 = .ok (.iload_n 1, 1) := by decide +kernel
theorem dX1_lotAt_9 : decode cX1_lotAt 9 = .ok (.iadd, 1) := by decide +kernel
theorem dX1_lotAt_10 : decode cX1_lotAt 10 = .ok (.bipush 30, 2) := by decide +kernel
theorem dX1_lotAt_12 : decode cX1_lotAt 12 = .ok (.invokestatic 22, 3) := by decide +kernel
theorem dX1_lotAt_15 : decode cX1_lotAt 15 = .ok (.aaload, 1) := by decide +kernel
theorem dX1_lotAt_16 : decode cX1_lotAt 16 = .ok (.areturn, 1) := by decide +kernel
theorem dX1_addLot_0 : decode cX1_addLot 0 = .ok (.aload_n 0, 1) := by decide +kernel
theorem dX1_addLot_1 : decode cX1_addLot 1 = .ok (.aload_n 0, 1) := by decide +kernel
theorem dX1_addLot_2 : decode cX1_addLot 2 = .ok (.getfield 28, 3) := by decide +kernel
theorem dX1_addLot_5 : decode cX1_addLot 5 = .ok (.invokevirtual 31, 3) := by decide +kernel
theorem dX1_addLot_8 : decode cX1_addLot 8 = .ok (.astore 4, 2) := by decide +kernel
theorem dX1_addLot_10 : decode cX1_addLot 10 = .ok (.aload 4, 2) := by decide +kernel
theorem dX1_addLot_12 : decode cX1_addLot 12 = .ok (.getfield 35, 3) := by decide +kernel
theorem dX1_addLot_15 : decode cX1_addLot 15 = .ok (.iload_n 1, 1) := by decide +kernel
theorem dX1_addLot_16 : decode cX1_addLot 16 = .ok (.iload_n 2, 1) := by decide +kernel
theorem dX1_addLot_17 : decode cX1_addLot 17 = .ok (.invokevirtual 39, 3) := by decide +kernel
theorem dX1_addLot_20 : decode cX1_addLot 20 = .ok (.aload 4, 2) := by decide +kernel
theorem dX1_addLot_22 : decode cX1_addLot 22 = .ok (.iload_n 3, 1) := by decide +kernel
theorem dX1_addLot_23 : decode cX1_addLot 23 = .ok (.putfield 45, 3) := by decide +kernel
theorem dX1_addLot_26 : decode cX1_addLot 26 = .ok (.aload_n 0, 1) := by decide +kernel
theorem dX1_addLot_27 : decode cX1_addLot 27 = .ok (.dup, 1) := by decide +kernel
theorem dX1_addLot_28 : decode cX1_addLot 28 = .ok (.getfield 28, 3) := by decide +kernel
theorem dX1_addLot_31 : decode cX1_addLot 31 = .ok (.iconst 1, 1) := by decide +kernel
theorem dX1_addLot_32 : decode cX1_addLot 32 = .ok (.iadd, 1) := by decide +kernel
theorem dX1_addLot_33 : decode cX1_addLot 33 = .ok (.putfield 28, 3) := by decide +kernel
theorem dX1_addLot_36 : decode cX1_addLot 36 = .ok (.return_, 1) := by decide +kernel
theorem dX1_dropFirst_0 : decode cX1_dropFirst 0 = .ok (.aload_n 0, 1) := by decide +kernel
theorem dX1_dropFirst_1 : decode cX1_dropFirst 1 = .ok (.aload_n 0, 1) := by decide +kernel
theorem dX1_dropFirst_2 : decode cX1_dropFirst 2 = .ok (.getfield 18, 3) := by decide +kernel
theorem dX1_dropFirst_5 : decode cX1_dropFirst 5 = .ok (.iconst 1, 1) := by decide +kernel
theorem dX1_dropFirst_6 : decode cX1_dropFirst 6 = .ok (.iadd, 1) := by decide +kernel
theorem dX1_dropFirst_7 : decode cX1_dropFirst 7 = .ok (.bipush 30, 2) := by decide +kernel
theorem dX1_dropFirst_9 : decode cX1_dropFirst 9 = .ok (.invokestatic 22, 3) := by decide +kernel
theorem dX1_dropFirst_12 : decode cX1_dropFirst 12 = .ok (.putfield 18, 3) := by decide +kernel
theorem dX1_dropFirst_15 : decode cX1_dropFirst 15 = .ok (.aload_n 0, 1) := by decide +kernel
theorem dX1_dropFirst_16 : decode cX1_dropFirst 16 = .ok (.dup, 1) := by decide +kernel
theorem dX1_dropFirst_17 : decode cX1_dropFirst 17 = .ok (.getfield 28, 3) := by decide +kernel
theorem dX1_dropFirst_20 : decode cX1_dropFirst 20 = .ok (.iconst 1, 1) := by decide +kernel
theorem dX1_dropFirst_21 : decode cX1_dropFirst 21 = .ok (.isub, 1) := by decide +kernel
theorem dX1_dropFirst_22 : decode cX1_dropFirst 22 = .ok (.putfield 28, 3) := by decide +kernel
theorem dX1_dropFirst_25 : decode cX1_dropFirst 25 = .ok (.return_, 1) := by decide +kernel
theorem dX1_oreOfLots_0 : decode cX1_oreOfLots 0 = .ok (.iconst 0, 1) := by decide +kernel
theorem dX1_oreOfLots_1 : decode cX1_oreOfLots 1 = .ok (.istore_n 1, 1) := by decide +kernel
theorem dX1_oreOfLots_2 : decode cX1_oreOfLots 2 = .ok (.iconst 0, 1) := by decide +kernel
theorem dX1_oreOfLots_3 : decode cX1_oreOfLots 3 = .ok (.istore_n 2, 1) := by decide +kernel
theorem dX1_oreOfLots_4 : decode cX1_oreOfLots 4 = .ok (.iload_n 2, 1) := by decide +kernel
theorem dX1_oreOfLots_5 : decode cX1_oreOfLots 5 = .ok (.aload_n 0, 1) := by decide +kernel
theorem dX1_oreOfLots_6 : decode cX1_oreOfLots 6 = .ok (.getfield 28, 3) := by decide +kernel
theorem dX1_oreOfLots_9 : decode cX1_oreOfLots 9 = .ok (.if_icmp .ge 23, 3) := by decide +kernel
theorem dX1_oreOfLots_12 : decode cX1_oreOfLots 12 = .ok (.iload_n 1, 1) := by decide +kernel
theorem dX1_oreOfLots_13 : decode cX1_oreOfLots 13 = .ok (.aload_n 0, 1) := by decide +kernel
theorem dX1_oreOfLots_14 : decode cX1_oreOfLots 14 = .ok (.iload_n 2, 1) := by decide +kernel
theorem dX1_oreOfLots_15 : decode cX1_oreOfLots 15 = .ok (.invokevirtual 31, 3) := by decide +kernel
theorem dX1_oreOfLots_18 : decode cX1_oreOfLots 18 = .ok (.getfield 35, 3) := by decide +kernel
theorem dX1_oreOfLots_21 : decode cX1_oreOfLots 21 = .ok (.invokevirtual 48, 3) := by decide +kernel
theorem dX1_oreOfLots_24 : decode cX1_oreOfLots 24 = .ok (.iadd, 1) := by decide +kernel
theorem dX1_oreOfLots_25 : decode cX1_oreOfLots 25 = .ok (.istore_n 1, 1) := by decide +kernel
theorem dX1_oreOfLots_26 : decode cX1_oreOfLots 26 = .ok (.iinc 2 1, 3) := by decide +kernel
theorem dX1_oreOfLots_29 : decode cX1_oreOfLots 29 = .ok (.goto (-25), 3) := by decide +kernel
theorem dX1_oreOfLots_32 : decode cX1_oreOfLots 32 = .ok (.iload_n 1, 1) := by decide +kernel
theorem dX1_oreOfLots_33 : decode cX1_oreOfLots 33 = .ok (.ireturn, 1) := by decide +kernel
theorem dX1_feedInto_0 : decode cX1_feedInto 0 = .ok (.iload_n 3, 1) := by decide +kernel
theorem dX1_feedInto_1 : decode cX1_feedInto 1 = .ok (.istore 4, 2) := by decide +kernel
theorem dX1_feedInto_3 : decode cX1_feedInto 3 = .ok (.iload_n 2, 1) := by decide +kernel
theorem dX1_feedInto_4 : decode cX1_feedInto 4 = .ok (.istore 5, 2) := by decide +kernel
theorem dX1_feedInto_6 : decode cX1_feedInto 6 = .ok (.iconst 0, 1) := by decide +kernel
theorem dX1_feedInto_7 : decode cX1_feedInto 7 = .ok (.istore 6, 2) := by decide +kernel
theorem dX1_feedInto_9 : decode cX1_feedInto 9 = .ok (.iload 6, 2) := by decide +kernel
theorem dX1_feedInto_11 : decode cX1_feedInto 11 = .ok (.bipush 30, 2) := by decide +kernel
theorem dX1_feedInto_13 : decode cX1_feedInto 13 = .ok (.if_icmp .ge 66, 3) := by decide +kernel
theorem dX1_feedInto_16 : decode cX1_feedInto 16 = .ok (.iload 5, 2) := by decide +kernel
theorem dX1_feedInto_18 : decode cX1_feedInto 18 = .ok (.ifCond .le 61, 3) := by decide +kernel
theorem dX1_feedInto_21 : decode cX1_feedInto 21 = .ok (.aload_n 0, 1) := by decide +kernel
theorem dX1_feedInto_22 : decode cX1_feedInto 22 = .ok (.getfield 28, 3) := by decide +kernel
theorem dX1_feedInto_25 : decode cX1_feedInto 25 = .ok (.ifCond .le 54, 3) := by decide +kernel
theorem dX1_feedInto_28 : decode cX1_feedInto 28 = .ok (.aload_n 0, 1) := by decide +kernel
theorem dX1_feedInto_29 : decode cX1_feedInto 29 = .ok (.iconst 0, 1) := by decide +kernel
theorem dX1_feedInto_30 : decode cX1_feedInto 30 = .ok (.invokevirtual 31, 3) := by decide +kernel
theorem dX1_feedInto_33 : decode cX1_feedInto 33 = .ok (.astore 7, 2) := by decide +kernel
theorem dX1_feedInto_35 : decode cX1_feedInto 35 = .ok (.iload 5, 2) := by decide +kernel
theorem dX1_feedInto_37 : decode cX1_feedInto 37 = .ok (.aload 7, 2) := by decide +kernel
theorem dX1_feedInto_39 : decode cX1_feedInto 39 = .ok (.getfield 35, 3) := by decide +kernel
theorem dX1_feedInto_42 : decode cX1_feedInto 42 = .ok (.aload_n 1, 1) := by decide +kernel
theorem dX1_feedInto_43 : decode cX1_feedInto 43 = .ok (.iload 5, 2) := by decide +kernel
theorem dX1_feedInto_45 : decode cX1_feedInto 45 = .ok (.invokevirtual 52, 3) := by decide +kernel
theorem dX1_feedInto_48 : decode cX1_feedInto 48 = .ok (.isub, 1) := by decide +kernel
theorem dX1_feedInto_49 : decode cX1_feedInto 49 = .ok (.istore 5, 2) := by decide +kernel
theorem dX1_feedInto_51 : decode cX1_feedInto 51 = .ok (.aload 7, 2) := by decide +kernel
theorem dX1_feedInto_53 : decode cX1_feedInto 53 = .ok (.getfield 45, 3) := by decide +kernel
theorem dX1_feedInto_56 : decode cX1_feedInto 56 = .ok (.istore 4, 2) := by decide +kernel
theorem dX1_feedInto_58 : decode cX1_feedInto 58 = .ok (.aload 7, 2) := by decide +kernel
theorem dX1_feedInto_60 : decode cX1_feedInto 60 = .ok (.getfield 35, 3) := by decide +kernel
theorem dX1_feedInto_63 : decode cX1_feedInto 63 = .ok (.invokevirtual 48, 3) := by decide +kernel
theorem dX1_feedInto_66 : decode cX1_feedInto 66 = .ok (.ifCond .ne 7, 3) := by decide +kernel
theorem dX1_feedInto_69 : decode cX1_feedInto 69 = .ok (.aload_n 0, 1) := by decide +kernel
theorem dX1_feedInto_70 : decode cX1_feedInto 70 = .ok (.invokevirtual 56, 3) := by decide +kernel
theorem dX1_feedInto_73 : decode cX1_feedInto 73 = .ok (.iinc 6 1, 3) := by decide +kernel
theorem dX1_feedInto_76 : decode cX1_feedInto 76 = .ok (.goto (-67), 3) := by decide +kernel
theorem dX1_feedInto_79 : decode cX1_feedInto 79 = .ok (.iload 4, 2) := by decide +kernel
theorem dX1_feedInto_81 : decode cX1_feedInto 81 = .ok (.ireturn, 1) := by decide +kernel
theorem dX1_copyHopper_0 : decode cX1_copyHopper 0 = .ok (.aload_n 0, 1) := by decide +kernel
theorem dX1_copyHopper_1 : decode cX1_copyHopper 1 = .ok (.aload_n 1, 1) := by decide +kernel
theorem dX1_copyHopper_2 : decode cX1_copyHopper 2 = .ok (.getfield 18, 3) := by decide +kernel
theorem dX1_copyHopper_5 : decode cX1_copyHopper 5 = .ok (.putfield 18, 3) := by decide +kernel
theorem dX1_copyHopper_8 : decode cX1_copyHopper 8 = .ok (.aload_n 0, 1) := by decide +kernel
theorem dX1_copyHopper_9 : decode cX1_copyHopper 9 = .ok (.aload_n 1, 1) := by decide +kernel
theorem dX1_copyHopper_10 : decode cX1_copyHopper 10 = .ok (.getfield 28, 3) := by decide +kernel
theorem dX1_copyHopper_13 : decode cX1_copyHopper 13 = .ok (.putfield 28, 3) := by decide +kernel
theorem dX1_copyHopper_16 : decode cX1_copyHopper 16 = .ok (.iconst 0, 1) := by decide +kernel
theorem dX1_copyHopper_17 : decode cX1_copyHopper 17 = .ok (.istore_n 2, 1) := by decide +kernel
theorem dX1_copyHopper_18 : decode cX1_copyHopper 18 = .ok (.iload_n 2, 1) := by decide +kernel
theorem dX1_copyHopper_19 : decode cX1_copyHopper 19 = .ok (.aload_n 0, 1) := by decide +kernel
theorem dX1_copyHopper_20 : decode cX1_copyHopper 20 = .ok (.getfield 28, 3) := by decide +kernel
theorem dX1_copyHopper_23 : decode cX1_copyHopper 23 = .ok (.if_icmp .ge 22, 3) := by decide +kernel
theorem dX1_copyHopper_26 : decode cX1_copyHopper 26 = .ok (.aload_n 0, 1) := by decide +kernel
theorem dX1_copyHopper_27 : decode cX1_copyHopper 27 = .ok (.iload_n 2, 1) := by decide +kernel
theorem dX1_copyHopper_28 : decode cX1_copyHopper 28 = .ok (.invokevirtual 31, 3) := by decide +kernel
theorem dX1_copyHopper_31 : decode cX1_copyHopper 31 = .ok (.aload_n 1, 1) := by decide +kernel
theorem dX1_copyHopper_32 : decode cX1_copyHopper 32 = .ok (.iload_n 2, 1) := by decide +kernel
theorem dX1_copyHopper_33 : decode cX1_copyHopper 33 = .ok (.invokevirtual 31, 3) := by decide +kernel
theorem dX1_copyHopper_36 : decode cX1_copyHopper 36 = .ok (.invokevirtual 59, 3) := by decide +kernel
theorem dX1_copyHopper_39 : decode cX1_copyHopper 39 = .ok (.iinc 2 1, 3) := by decide +kernel
theorem dX1_copyHopper_42 : decode cX1_copyHopper 42 = .ok (.goto (-24), 3) := by decide +kernel
theorem dX1_copyHopper_45 : decode cX1_copyHopper 45 = .ok (.return_, 1) := by decide +kernel
theorem dX2_init_0 : decode cX2_init 0 = .ok (.aload_n 0, 1) := by decide +kernel
theorem dX2_init_1 : decode cX2_init 1 = .ok (.invokespecial 1, 3) := by decide +kernel
theorem dX2_init_4 : decode cX2_init 4 = .ok (.aload_n 0, 1) := by decide +kernel
theorem dX2_init_5 : decode cX2_init 5 = .ok (.new 7, 3) := by decide +kernel
theorem dX2_init_8 : decode cX2_init 8 = .ok (.dup, 1) := by decide +kernel
theorem dX2_init_9 : decode cX2_init 9 = .ok (.invokespecial 9, 3) := by decide +kernel
theorem dX2_init_12 : decode cX2_init 12 = .ok (.putfield 10, 3) := by decide +kernel
theorem dX2_init_15 : decode cX2_init 15 = .ok (.return_, 1) := by decide +kernel
theorem dX2_tellOfLot_0 : decode cX2_tellOfLot 0 = .ok (.iload_n 1, 1) := by decide +kernel
theorem dX2_tellOfLot_1 : decode cX2_tellOfLot 1 = .ok (.iconst 2, 1) := by decide +kernel
theorem dX2_tellOfLot_2 : decode cX2_tellOfLot 2 = .ok (.if_icmp .ne 10, 3) := by decide +kernel
theorem dX2_tellOfLot_5 : decode cX2_tellOfLot 5 = .ok (.aload_n 0, 1) := by decide +kernel
theorem dX2_tellOfLot_6 : decode cX2_tellOfLot 6 = .ok (.getfield 16, 3) := by decide +kernel
theorem dX2_tellOfLot_9 : decode cX2_tellOfLot 9 = .ok (.goto 11, 3) := by decide +kernel
theorem dX2_tellOfLot_12 : decode cX2_tellOfLot 12 = .ok (.aload_n 0, 1) := by decide +kernel
theorem dX2_tellOfLot_13 : decode cX2_tellOfLot 13 = .ok (.getfield 10, 3) := by decide +kernel
theorem dX2_tellOfLot_16 : decode cX2_tellOfLot 16 = .ok (.iload_n 1, 1) := by decide +kernel
theorem dX2_tellOfLot_17 : decode cX2_tellOfLot 17 = .ok (.invokevirtual 20, 3) := by decide +kernel
theorem dX2_tellOfLot_20 : decode cX2_tellOfLot 20 = .ok (.ireturn, 1) := by decide +kernel
theorem dX2_copyLot_0 : decode cX2_copyLot 0 = .ok (.aload_n 0, 1) := by decide +kernel
theorem dX2_copyLot_1 : decode cX2_copyLot 1 = .ok (.getfield 10, 3) := by decide +kernel
theorem dX2_copyLot_4 : decode cX2_copyLot 4 = .ok (.aload_n 1, 1) := by decide +kernel
theorem dX2_copyLot_5 : decode cX2_copyLot 5 = .ok (.getfield 10, 3) := by decide +kernel
theorem dX2_copyLot_8 : decode cX2_copyLot 8 = .ok (.invokevirtual 24, 3) := by decide +kernel
theorem dX2_copyLot_11 : decode cX2_copyLot 11 = .ok (.aload_n 0, 1) := by decide +kernel
theorem dX2_copyLot_12 : decode cX2_copyLot 12 = .ok (.aload_n 1, 1) := by decide +kernel
theorem dX2_copyLot_13 : decode cX2_copyLot 13 = .ok (.getfield 16, 3) := by decide +kernel
theorem dX2_copyLot_16 : decode cX2_copyLot 16 = .ok (.putfield 16, 3) := by decide +kernel
theorem dX2_copyLot_19 : decode cX2_copyLot 19 = .ok (.return_, 1) := by decide +kernel
theorem dX3_init_0 : decode cX3_init 0 = .ok (.aload_n 0, 1) := by decide +kernel
theorem dX3_init_1 : decode cX3_init 1 = .ok (.invokespecial 1, 3) := by decide +kernel
theorem dX3_init_4 : decode cX3_init 4 = .ok (.return_, 1) := by decide +kernel
theorem dX3_whole_0 : decode cX3_whole 0 = .ok (.aload_n 0, 1) := by decide +kernel
theorem dX3_whole_1 : decode cX3_whole 1 = .ok (.getfield 7, 3) := by decide +kernel
theorem dX3_whole_4 : decode cX3_whole 4 = .ok (.aload_n 0, 1) := by decide +kernel
theorem dX3_whole_5 : decode cX3_whole 5 = .ok (.getfield 13, 3) := by decide +kernel
theorem dX3_whole_8 : decode cX3_whole 8 = .ok (.iadd, 1) := by decide +kernel
theorem dX3_whole_9 : decode cX3_whole 9 = .ok (.ireturn, 1) := by decide +kernel
theorem dX3_tellOfOre_0 : decode cX3_tellOfOre 0 = .ok (.iload_n 1, 1) := by decide +kernel
theorem dX3_tellOfOre_1 : decode cX3_tellOfOre 1 = .ok (.lookupswitch 37 #[(0, 27), (1, 32)], 27) := by decide +kernel
theorem dX3_tellOfOre_28 : decode cX3_tellOfOre 28 = .ok (.aload_n 0, 1) := by decide +kernel
theorem dX3_tellOfOre_29 : decode cX3_tellOfOre 29 = .ok (.getfield 7, 3) := by decide +kernel
theorem dX3_tellOfOre_32 : decode cX3_tellOfOre 32 = .ok (.ireturn, 1) := by decide +kernel
theorem dX3_tellOfOre_33 : decode cX3_tellOfOre 33 = .ok (.aload_n 0, 1) := by decide +kernel
theorem dX3_tellOfOre_34 : decode cX3_tellOfOre 34 = .ok (.getfield 13, 3) := by decide +kernel
theorem dX3_tellOfOre_37 : decode cX3_tellOfOre 37 = .ok (.ireturn, 1) := by decide +kernel
theorem dX3_tellOfOre_38 : decode cX3_tellOfOre 38 = .ok (.aload_n 0, 1) := by decide +kernel
theorem dX3_tellOfOre_39 : decode cX3_tellOfOre 39 = .ok (.getfield 7, 3) := by decide +kernel
theorem dX3_tellOfOre_42 : decode cX3_tellOfOre 42 = .ok (.aload_n 0, 1) := by decide +kernel
theorem dX3_tellOfOre_43 : decode cX3_tellOfOre 43 = .ok (.getfield 13, 3) := by decide +kernel
theorem dX3_tellOfOre_46 : decode cX3_tellOfOre 46 = .ok (.invokestatic 16, 3) := by decide +kernel
theorem dX3_tellOfOre_49 : decode cX3_tellOfOre 49 = .ok (.ireturn, 1) := by decide +kernel
theorem dX3_put_0 : decode cX3_put 0 = .ok (.aload_n 0, 1) := by decide +kernel
theorem dX3_put_1 : decode cX3_put 1 = .ok (.dup, 1) := by decide +kernel
theorem dX3_put_2 : decode cX3_put 2 = .ok (.getfield 7, 3) := by decide +kernel
theorem dX3_put_5 : decode cX3_put 5 = .ok (.iload_n 1, 1) := by decide +kernel
theorem dX3_put_6 : decode cX3_put 6 = .ok (.iadd, 1) := by decide +kernel
theorem dX3_put_7 : decode cX3_put 7 = .ok (.putfield 7, 3) := by decide +kernel
theorem dX3_put_10 : decode cX3_put 10 = .ok (.aload_n 0, 1) := by decide +kernel
theorem dX3_put_11 : decode cX3_put 11 = .ok (.dup, 1) := by decide +kernel
theorem dX3_put_12 : decode cX3_put 12 = .ok (.getfield 13, 3) := by decide +kernel
theorem dX3_put_15 : decode cX3_put 15 = .ok (.iload_n 2, 1) := by decide +kernel
theorem dX3_put_16 : decode cX3_put 16 = .ok (.iadd, 1) := by decide +kernel
theorem dX3_put_17 : decode cX3_put 17 = .ok (.putfield 13, 3) := by decide +kernel
theorem dX3_put_20 : decode cX3_put 20 = .ok (.return_, 1) := by decide +kernel
theorem dX3_become_0 : decode cX3_become 0 = .ok (.aload_n 0, 1) := by decide +kernel
theorem dX3_become_1 : decode cX3_become 1 = .ok (.iload_n 1, 1) := by decide +kernel
theorem dX3_become_2 : decode cX3_become 2 = .ok (.putfield 7, 3) := by decide +kernel
theorem dX3_become_5 : decode cX3_become 5 = .ok (.aload_n 0, 1) := by decide +kernel
theorem dX3_become_6 : decode cX3_become 6 = .ok (.iload_n 2, 1) := by decide +kernel
theorem dX3_become_7 : decode cX3_become 7 = .ok (.putfield 13, 3) := by decide +kernel
theorem dX3_become_10 : decode cX3_become 10 = .ok (.return_, 1) := by decide +kernel
theorem dX3_copyOre_0 : decode cX3_copyOre 0 = .ok (.aload_n 0, 1) := by decide +kernel
theorem dX3_copyOre_1 : decode cX3_copyOre 1 = .ok (.aload_n 1, 1) := by decide +kernel
theorem dX3_copyOre_2 : decode cX3_copyOre 2 = .ok (.getfield 7, 3) := by decide +kernel
theorem dX3_copyOre_5 : decode cX3_copyOre 5 = .ok (.aload_n 1, 1) := by decide +kernel
theorem dX3_copyOre_6 : decode cX3_copyOre 6 = .ok (.getfield 13, 3) := by decide +kernel
theorem dX3_copyOre_9 : decode cX3_copyOre 9 = .ok (.invokevirtual 22, 3) := by decide +kernel
theorem dX3_copyOre_12 : decode cX3_copyOre 12 = .ok (.return_, 1) := by decide +kernel
theorem dX3_moveTo_0 : decode cX3_moveTo 0 = .ok (.iload_n 2, 1) := by decide +kernel
theorem dX3_moveTo_1 : decode cX3_moveTo 1 = .ok (.aload_n 0, 1) := by decide +kernel
theorem dX3_moveTo_2 : decode cX3_moveTo 2 = .ok (.invokevirtual 26, 3) := by decide +kernel
theorem dX3_moveTo_5 : decode cX3_moveTo 5 = .ok (.invokestatic 30, 3) := by decide +kernel
theorem dX3_moveTo_8 : decode cX3_moveTo 8 = .ok (.istore_n 3, 1) := by decide +kernel
theorem dX3_moveTo_9 : decode cX3_moveTo 9 = .ok (.iload_n 3, 1) := by decide +kernel
theorem dX3_moveTo_10 : decode cX3_moveTo 10 = .ok (.iconst 1, 1) := by decide +kernel
theorem dX3_moveTo_11 : decode cX3_moveTo 11 = .ok (.if_icmp .ge 5, 3) := by decide +kernel
theorem dX3_moveTo_14 : decode cX3_moveTo 14 = .ok (.iconst 0, 1) := by decide +kernel
theorem dX3_moveTo_15 : decode cX3_moveTo 15 = .ok (.ireturn, 1) := by decide +kernel
theorem dX3_moveTo_16 : decode cX3_moveTo 16 = .ok (.aload_n 0, 1) := by decide +kernel
theorem dX3_moveTo_17 : decode cX3_moveTo 17 = .ok (.getfield 13, 3) := by decide +kernel
theorem dX3_moveTo_20 : decode cX3_moveTo 20 = .ok (.iload_n 3, 1) := by decide +kernel
theorem dX3_moveTo_21 : decode cX3_moveTo 21 = .ok (.aload_n 0, 1) := by decide +kernel
theorem dX3_moveTo_22 : decode cX3_moveTo 22 = .ok (.invokevirtual 26, 3) := by decide +kernel
theorem dX3_moveTo_25 : decode cX3_moveTo 25 = .ok (.invokestatic 35, 3) := by decide +kernel
theorem dX3_moveTo_28 : decode cX3_moveTo 28 = .ok (.istore 4, 2) := by decide +kernel
theorem dX3_moveTo_30 : decode cX3_moveTo 30 = .ok (.aload_n 1, 1) := by decide +kernel
theorem dX3_moveTo_31 : decode cX3_moveTo 31 = .ok (.iload_n 3, 1) := by decide +kernel
theorem dX3_moveTo_32 : decode cX3_moveTo 32 = .ok (.iload 4, 2) := by decide +kernel
theorem dX3_moveTo_34 : decode cX3_moveTo 34 = .ok (.isub, 1) := by decide +kernel
theorem dX3_moveTo_35 : decode cX3_moveTo 35 = .ok (.iload 4, 2) := by decide +kernel
theorem dX3_moveTo_37 : decode cX3_moveTo 37 = .ok (.invokevirtual 39, 3) := by decide +kernel
theorem dX3_moveTo_40 : decode cX3_moveTo 40 = .ok (.aload_n 0, 1) := by decide +kernel
theorem dX3_moveTo_41 : decode cX3_moveTo 41 = .ok (.iload 4, 2) := by decide +kernel
theorem dX3_moveTo_43 : decode cX3_moveTo 43 = .ok (.iload_n 3, 1) := by decide +kernel
theorem dX3_moveTo_44 : decode cX3_moveTo 44 = .ok (.isub, 1) := by decide +kernel
theorem dX3_moveTo_45 : decode cX3_moveTo 45 = .ok (.iload 4, 2) := by decide +kernel
theorem dX3_moveTo_47 : decode cX3_moveTo 47 = .ok (.ineg, 1) := by decide +kernel
theorem dX3_moveTo_48 : decode cX3_moveTo 48 = .ok (.invokevirtual 39, 3) := by decide +kernel
theorem dX3_moveTo_51 : decode cX3_moveTo 51 = .ok (.iload_n 3, 1) := by decide +kernel
theorem dX3_moveTo_52 : decode cX3_moveTo 52 = .ok (.ireturn, 1) := by decide +kernel
theorem dX4_init_0 : decode cX4_init 0 = .ok (.aload_n 0, 1) := by decide +kernel
theorem dX4_init_1 : decode cX4_init 1 = .ok (.invokespecial 3, 3) := by decide +kernel
theorem dX4_init_4 : decode cX4_init 4 = .ok (.return_, 1) := by decide +kernel
theorem dX4_loadOfStamp_0 : decode cX4_loadOfStamp 0 = .ok (.aload_n 0, 1) := by decide +kernel
theorem dX4_loadOfStamp_1 : decode cX4_loadOfStamp 1 = .ok (.getfield 9, 3) := by decide +kernel
theorem dX4_loadOfStamp_4 : decode cX4_loadOfStamp 4 = .ok (.aload_n 0, 1) := by decide +kernel
theorem dX4_loadOfStamp_5 : decode cX4_loadOfStamp 5 = .ok (.getfield 15, 3) := by decide +kernel
theorem dX4_loadOfStamp_8 : decode cX4_loadOfStamp 8 = .ok (.imul, 1) := by decide +kernel
theorem dX4_loadOfStamp_9 : decode cX4_loadOfStamp 9 = .ok (.iconst 4, 1) := by decide +kernel
theorem dX4_loadOfStamp_10 : decode cX4_loadOfStamp 10 = .ok (.idiv, 1) := by decide +kernel
theorem dX4_loadOfStamp_11 : decode cX4_loadOfStamp 11 = .ok (.ireturn, 1) := by decide +kernel
theorem dX4_forceOfStamp_0 : decode cX4_forceOfStamp 0 = .ok (.aload_n 0, 1) := by decide +kernel
theorem dX4_forceOfStamp_1 : decode cX4_forceOfStamp 1 = .ok (.getfield 9, 3) := by decide +kernel
theorem dX4_forceOfStamp_4 : decode cX4_forceOfStamp 4 = .ok (.aload_n 0, 1) := by decide +kernel
theorem dX4_forceOfStamp_5 : decode cX4_forceOfStamp 5 = .ok (.getfield 15, 3) := by decide +kernel
theorem dX4_forceOfStamp_8 : decode cX4_forceOfStamp 8 = .ok (.imul, 1) := by decide +kernel
theorem dX4_forceOfStamp_9 : decode cX4_forceOfStamp 9 = .ok (.iload_n 1, 1) := by decide +kernel
theorem dX4_forceOfStamp_10 : decode cX4_forceOfStamp 10 = .ok (.imul, 1) := by decide +kernel
theorem dX4_forceOfStamp_11 : decode cX4_forceOfStamp 11 = .ok (.bipush 100, 2) := by decide +kernel
theorem dX4_forceOfStamp_13 : decode cX4_forceOfStamp 13 = .ok (.aload_n 0, 1) := by decide +kernel
theorem dX4_forceOfStamp_14 : decode cX4_forceOfStamp 14 = .ok (.getfield 18, 3) := by decide +kernel
theorem dX4_forceOfStamp_17 : decode cX4_forceOfStamp 17 = .ok (.isub, 1) := by decide +kernel
theorem dX4_forceOfStamp_18 : decode cX4_forceOfStamp 18 = .ok (.imul, 1) := by decide +kernel
theorem dX4_forceOfStamp_19 : decode cX4_forceOfStamp 19 = .ok (.sipush 1000, 3) := by decide +kernel
theorem dX4_forceOfStamp_22 : decode cX4_forceOfStamp 22 = .ok (.idiv, 1) := by decide +kernel
theorem dX4_forceOfStamp_23 : decode cX4_forceOfStamp 23 = .ok (.ireturn, 1) := by decide +kernel
theorem dX4_wearBy_0 : decode cX4_wearBy 0 = .ok (.aload_n 0, 1) := by decide +kernel
theorem dX4_wearBy_1 : decode cX4_wearBy 1 = .ok (.bipush 90, 2) := by decide +kernel
theorem dX4_wearBy_3 : decode cX4_wearBy 3 = .ok (.aload_n 0, 1) := by decide +kernel
theorem dX4_wearBy_4 : decode cX4_wearBy 4 = .ok (.getfield 18, 3) := by decide +kernel
theorem dX4_wearBy_7 : decode cX4_wearBy 7 = .ok (.iload_n 1, 1) := by decide +kernel
theorem dX4_wearBy_8 : decode cX4_wearBy 8 = .ok (.sipush 200, 3) := by decide +kernel
theorem dX4_wearBy_11 : decode cX4_wearBy 11 = .ok (.idiv, 1) := by decide +kernel
theorem dX4_wearBy_12 : decode cX4_wearBy 12 = .ok (.iadd, 1) := by decide +kernel
theorem dX4_wearBy_13 : decode cX4_wearBy 13 = .ok (.invokestatic 21, 3) := by decide +kernel
theorem dX4_wearBy_16 : decode cX4_wearBy 16 = .ok (.putfield 18, 3) := by decide +kernel
theorem dX4_wearBy_19 : decode cX4_wearBy 19 = .ok (.return_, 1) := by decide +kernel
theorem dX4_copyStamp_0 : decode cX4_copyStamp 0 = .ok (.aload_n 0, 1) := by decide +kernel
theorem dX4_copyStamp_1 : decode cX4_copyStamp 1 = .ok (.aload_n 1, 1) := by decide +kernel
theorem dX4_copyStamp_2 : decode cX4_copyStamp 2 = .ok (.getfield 9, 3) := by decide +kernel
theorem dX4_copyStamp_5 : decode cX4_copyStamp 5 = .ok (.putfield 9, 3) := by decide +kernel
theorem dX4_copyStamp_8 : decode cX4_copyStamp 8 = .ok (.aload_n 0, 1) := by decide +kernel
theorem dX4_copyStamp_9 : decode cX4_copyStamp 9 = .ok (.aload_n 1, 1) := by decide +kernel
theorem dX4_copyStamp_10 : decode cX4_copyStamp 10 = .ok (.getfield 15, 3) := by decide +kernel
theorem dX4_copyStamp_13 : decode cX4_copyStamp 13 = .ok (.putfield 15, 3) := by decide +kernel
theorem dX4_copyStamp_16 : decode cX4_copyStamp 16 = .ok (.aload_n 0, 1) := by decide +kernel
theorem dX4_copyStamp_17 : decode cX4_copyStamp 17 = .ok (.aload_n 1, 1) := by decide +kernel
theorem dX4_copyStamp_18 : decode cX4_copyStamp 18 = .ok (.getfield 18, 3) := by decide +kernel
theorem dX4_copyStamp_21 : decode cX4_copyStamp 21 = .ok (.putfield 18, 3) := by decide +kernel
theorem dX4_copyStamp_24 : decode cX4_copyStamp 24 = .ok (.return_, 1) := by decide +kernel
theorem dX5_init_0 : decode cX5_init 0 = .ok (.aload_n 0, 1) := by decide +kernel
theorem dX5_init_1 : decode cX5_init 1 = .ok (.invokespecial 3, 3) := by decide +kernel
theorem dX5_init_4 : decode cX5_init 4 = .ok (.aload_n 0, 1) := by decide +kernel
theorem dX5_init_5 : decode cX5_init 5 = .ok (.bipush 24, 2) := by decide +kernel
theorem dX5_init_7 : decode cX5_init 7 = .ok (.newarray .int, 2) := by decide +kernel
theorem dX5_init_9 : decode cX5_init 9 = .ok (.putfield 9, 3) := by decide +kernel
theorem dX5_init_12 : decode cX5_init 12 = .ok (.iconst 0, 1) := by decide +kernel
theorem dX5_init_13 : decode cX5_init 13 = .ok (.istore_n 1, 1) := by decide +kernel
theorem dX5_init_14 : decode cX5_init 14 = .ok (.iload_n 1, 1) := by decide +kernel
theorem dX5_init_15 : decode cX5_init 15 = .ok (.bipush 24, 2) := by decide +kernel
theorem dX5_init_17 : decode cX5_init 17 = .ok (.if_icmp .ge 18, 3) := by decide +kernel
theorem dX5_init_20 : decode cX5_init 20 = .ok (.aload_n 0, 1) := by decide +kernel
theorem dX5_init_21 : decode cX5_init 21 = .ok (.getfield 9, 3) := by decide +kernel
theorem dX5_init_24 : decode cX5_init 24 = .ok (.iload_n 1, 1) := by decide +kernel
theorem dX5_init_25 : decode cX5_init 25 = .ok (.sipush 200, 3) := by decide +kernel
theorem dX5_init_28 : decode cX5_init 28 = .ok (.iastore, 1) := by decide +kernel
theorem dX5_init_29 : decode cX5_init 29 = .ok (.iinc 1 1, 3) := by decide +kernel
theorem dX5_init_32 : decode cX5_init 32 = .ok (.goto (-18), 3) := by decide +kernel
theorem dX5_init_35 : decode cX5_init 35 = .ok (.aload_n 0, 1) := by decide +kernel
theorem dX5_init_36 : decode cX5_init 36 = .ok (.iconst 4, 1) := by decide +kernel
theorem dX5_init_37 : decode cX5_init 37 = .ok (.anewarray 15, 3) := by decide +kernel
theorem dX5_init_40 : decode cX5_init 40 = .ok (.putfield 17, 3) := by decide +kernel
theorem dX5_init_43 : decode cX5_init 43 = .ok (.iconst 0, 1) := by decide +kernel
theorem dX5_init_44 : decode cX5_init 44 = .ok (.istore_n 1, 1) := by decide +kernel
theorem dX5_init_45 : decode cX5_init 45 = .ok (.iload_n 1, 1) := by decide +kernel
theorem dX5_init_46 : decode cX5_init 46 = .ok (.iconst 4, 1) := by decide +kernel
theorem dX5_init_47 : decode cX5_init 47 = .ok (.if_icmp .ge 22, 3) := by decide +kernel
theorem dX5_init_50 : decode cX5_init 50 = .ok (.aload_n 0, 1) := by decide +kernel
theorem dX5_init_51 : decode cX5_init 51 = .ok (.getfield 17, 3) := by decide +kernel
theorem dX5_init_54 : decode cX5_init 54 = .ok (.iload_n 1, 1) := by decide +kernel
theorem dX5_init_55 : decode cX5_init 55 = .ok (.new 15, 3) := by decide +kernel
theorem dX5_init_58 : decode cX5_init 58 = .ok (.dup, 1) := by decide +kernel
theorem dX5_init_59 : decode cX5_init 59 = .ok (.invokespecial 21, 3) := by decide +kernel
theorem dX5_init_62 : decode cX5_init 62 = .ok (.aastore, 1) := by decide +kernel
theorem dX5_init_63 : decode cX5_init 63 = .ok (.iinc 1 1, 3) := by decide +kernel
theorem dX5_init_66 : decode cX5_init 66 = .ok (.goto (-21), 3) := by decide +kernel
theorem dX5_init_69 : decode cX5_init 69 = .ok (.aload_n 0, 1) := by decide +kernel
theorem dX5_init_70 : decode cX5_init 70 = .ok (.new 22, 3) := by decide +kernel
theorem dX5_init_73 : decode cX5_init 73 = .ok (.dup, 1) := by decide +kernel
theorem dX5_init_74 : decode cX5_init 74 = .ok (.invokespecial 24, 3) := by decide +kernel
theorem dX5_init_77 : decode cX5_init 77 = .ok (.putfield 25, 3) := by decide +kernel
theorem dX5_init_80 : decode cX5_init 80 = .ok (.aload_n 0, 1) := by decide +kernel
theorem dX5_init_81 : decode cX5_init 81 = .ok (.iconst 3, 1) := by decide +kernel
theorem dX5_init_82 : decode cX5_init 82 = .ok (.anewarray 29, 3) := by decide +kernel
theorem dX5_init_85 : decode cX5_init 85 = .ok (.putfield 31, 3) := by decide +kernel
theorem dX5_init_88 : decode cX5_init 88 = .ok (.iconst 0, 1) := by decide +kernel
theorem dX5_init_89 : decode cX5_init 89 = .ok (.istore_n 1, 1) := by decide +kernel
theorem dX5_init_90 : decode cX5_init 90 = .ok (.iload_n 1, 1) := by decide +kernel
theorem dX5_init_91 : decode cX5_init 91 = .ok (.iconst 3, 1) := by decide +kernel
theorem dX5_init_92 : decode cX5_init 92 = .ok (.if_icmp .ge 22, 3) := by decide +kernel
theorem dX5_init_95 : decode cX5_init 95 = .ok (.aload_n 0, 1) := by decide +kernel
theorem dX5_init_96 : decode cX5_init 96 = .ok (.getfield 31, 3) := by decide +kernel
theorem dX5_init_99 : decode cX5_init 99 = .ok (.iload_n 1, 1) := by decide +kernel
theorem dX5_init_100 : decode cX5_init 100 = .ok (.new 29, 3) := by decide +kernel
theorem dX5_init_103 : decode cX5_init 103 = .ok (.dup, 1) := by decide +kernel
theorem dX5_init_104 : decode cX5_init 104 = .ok (.invokespecial 35, 3) := by decide +kernel
theorem dX5_init_107 : decode cX5_init 107 = .ok (.aastore, 1) := by decide +kernel
theorem dX5_init_108 : decode cX5_init 108 = .ok (.iinc 1 1, 3) := by decide +kernel
theorem dX5_init_111 : decode cX5_init 111 = .ok (.goto (-21), 3) := by decide +kernel
theorem dX5_init_114 : decode cX5_init 114 = .ok (.aload_n 0, 1) := by decide +kernel
theorem dX5_init_115 : decode cX5_init 115 = .ok (.new 29, 3) := by decide +kernel
theorem dX5_init_118 : decode cX5_init 118 = .ok (.dup, 1) := by decide +kernel
theorem dX5_init_119 : decode cX5_init 119 = .ok (.invokespecial 35, 3) := by decide +kernel
theorem dX5_init_122 : decode cX5_init 122 = .ok (.putfield 36, 3) := by decide +kernel
theorem dX5_init_125 : decode cX5_init 125 = .ok (.aload_n 0, 1) := by decide +kernel
theorem dX5_init_126 : decode cX5_init 126 = .ok (.new 29, 3) := by decide +kernel
theorem dX5_init_129 : decode cX5_init 129 = .ok (.dup, 1) := by decide +kernel
theorem dX5_init_130 : decode cX5_init 130 = .ok (.invokespecial 35, 3) := by decide +kernel
theorem dX5_init_133 : decode cX5_init 133 = .ok (.putfield 40, 3) := by decide +kernel
theorem dX5_init_136 : decode cX5_init 136 = .ok (.aload_n 0, 1) := by decide +kernel
theorem dX5_init_137 : decode cX5_init 137 = .ok (.sipush 10000, 3) := by decide +kernel
theorem dX5_init_140 : decode cX5_init 140 = .ok (.putfield 43, 3) := by decide +kernel
theorem dX5_init_143 : decode cX5_init 143 = .ok (.aload_n 0, 1) := by decide +kernel
theorem dX5_init_144 : decode cX5_init 144 = .ok (.iconst 5, 1) := by decide +kernel
theorem dX5_init_145 : decode cX5_init 145 = .ok (.putfield 47, 3) := by decide +kernel
theorem dX5_init_148 : decode cX5_init 148 = .ok (.return_, 1) := by decide +kernel
theorem dX5_tellOfWorks_0 : decode cX5_tellOfWorks 0 = .ok (.iload_n 1, 1) := by decide +kernel
theorem dX5_tellOfWorks_1 : decode cX5_tellOfWorks 1 = .ok (.tableswitch 150 0 12 #[67, 72, 77, 82, 87, 95, 103, 108, 116, 124, 129, 137, 145], 67) := by decide +kernel
theorem dX5_tellOfWorks_68 : decode cX5_tellOfWorks 68 = .ok (.aload_n 0, 1) := by decide +kernel
theorem dX5_tellOfWorks_69 : decode cX5_tellOfWorks 69 = .ok (.getfield 50, 3) := by decide +kernel
theorem dX5_tellOfWorks_72 : decode cX5_tellOfWorks 72 = .ok (.ireturn, 1) := by decide +kernel
theorem dX5_tellOfWorks_73 : decode cX5_tellOfWorks 73 = .ok (.aload_n 0, 1) := by decide +kernel
theorem dX5_tellOfWorks_74 : decode cX5_tellOfWorks 74 = .ok (.getfield 43, 3) := by decide +kernel
theorem dX5_tellOfWorks_77 : decode cX5_tellOfWorks 77 = .ok (.ireturn, 1) := by decide +kernel
theorem dX5_tellOfWorks_78 : decode cX5_tellOfWorks 78 = .ok (.aload_n 0, 1) := by decide +kernel
theorem dX5_tellOfWorks_79 : decode cX5_tellOfWorks 79 = .ok (.getfield 47, 3) := by decide +kernel
theorem dX5_tellOfWorks_82 : decode cX5_tellOfWorks 82 = .ok (.ireturn, 1) := by decide +kernel
theorem dX5_tellOfWorks_83 : decode cX5_tellOfWorks 83 = .ok (.aload_n 0, 1) := by decide +kernel
theorem dX5_tellOfWorks_84 : decode cX5_tellOfWorks 84 = .ok (.getfield 53, 3) := by decide +kernel
theorem dX5_tellOfWorks_87 : decode cX5_tellOfWorks 87 = .ok (.ireturn, 1) := by decide +kernel
theorem dX5_tellOfWorks_88 : decode cX5_tellOfWorks 88 = .ok (.aload_n 0, 1) := by decide +kernel
theorem dX5_tellOfWorks_89 : decode cX5_tellOfWorks 89 = .ok (.getfield 25, 3) := by decide +kernel
theorem dX5_tellOfWorks_92 : decode cX5_tellOfWorks 92 = .ok (.getfield 56, 3) := by decide +kernel
theorem dX5_tellOfWorks_95 : decode cX5_tellOfWorks 95 = .ok (.ireturn, 1) := by decide +kernel
theorem dX5_tellOfWorks_96 : decode cX5_tellOfWorks 96 = .ok (.aload_n 0, 1) := by decide +kernel
theorem dX5_tellOfWorks_97 : decode cX5_tellOfWorks 97 = .ok (.getfield 25, 3) := by decide +kernel
theorem dX5_tellOfWorks_100 : decode cX5_tellOfWorks 100 = .ok (.invokevirtual 59, 3) := by decide +kernel
theorem dX5_tellOfWorks_103 : decode cX5_tellOfWorks 103 = .ok (.ireturn, 1) := by decide +kernel
theorem dX5_tellOfWorks_104 : decode cX5_tellOfWorks 104 = .ok (.aload_n 0, 1) := by decide +kernel
theorem dX5_tellOfWorks_105 : decode cX5_tellOfWorks 105 = .ok (.invokevirtual 63, 3) := by decide +kernel
theorem dX5_tellOfWorks_108 : decode cX5_tellOfWorks 108 = .ok (.ireturn, 1) := by decide +kernel
theorem dX5_tellOfWorks_109 : decode cX5_tellOfWorks 109 = .ok (.aload_n 0, 1) := by decide +kernel
theorem dX5_tellOfWorks_110 : decode cX5_tellOfWorks 110 = .ok (.getfield 36, 3) := by decide +kernel
theorem dX5_tellOfWorks_113 : decode cX5_tellOfWorks 113 = .ok (.getfield 66, 3) := by decide +kernel
theorem dX5_tellOfWorks_116 : decode cX5_tellOfWorks 116 = .ok (.ireturn, 1) := by decide +kernel
theorem dX5_tellOfWorks_117 : decode cX5_tellOfWorks 117 = .ok (.aload_n 0, 1) := by decide +kernel
theorem dX5_tellOfWorks_118 : decode cX5_tellOfWorks 118 = .ok (.getfield 36, 3) := by decide +kernel
theorem dX5_tellOfWorks_121 : decode cX5_tellOfWorks 121 = .ok (.getfield 69, 3) := by decide +kernel
theorem dX5_tellOfWorks_124 : decode cX5_tellOfWorks 124 = .ok (.ireturn, 1) := by decide +kernel
theorem dX5_tellOfWorks_125 : decode cX5_tellOfWorks 125 = .ok (.aload_n 0, 1) := by decide +kernel
theorem dX5_tellOfWorks_126 : decode cX5_tellOfWorks 126 = .ok (.getfield 72, 3) := by decide +kernel
theorem dX5_tellOfWorks_129 : decode cX5_tellOfWorks 129 = .ok (.ireturn, 1) := by decide +kernel
theorem dX5_tellOfWorks_130 : decode cX5_tellOfWorks 130 = .ok (.aload_n 0, 1) := by decide +kernel
theorem dX5_tellOfWorks_131 : decode cX5_tellOfWorks 131 = .ok (.getfield 40, 3) := by decide +kernel
theorem dX5_tellOfWorks_134 : decode cX5_tellOfWorks 134 = .ok (.getfield 69, 3) := by decide +kernel
theorem dX5_tellOfWorks_137 : decode cX5_tellOfWorks 137 = .ok (.ireturn, 1) := by decide +kernel
theorem dX5_tellOfWorks_138 : decode cX5_tellOfWorks 138 = .ok (.aload_n 0, 1) := by decide +kernel
theorem dX5_tellOfWorks_139 : decode cX5_tellOfWorks 139 = .ok (.getfield 40, 3) := by decide +kernel
theorem dX5_tellOfWorks_142 : decode cX5_tellOfWorks 142 = .ok (.getfield 66, 3) := by decide +kernel
theorem dX5_tellOfWorks_145 : decode cX5_tellOfWorks 145 = .ok (.ireturn, 1) := by decide +kernel
theorem dX5_tellOfWorks_146 : decode cX5_tellOfWorks 146 = .ok (.aload_n 0, 1) := by decide +kernel
theorem dX5_tellOfWorks_147 : decode cX5_tellOfWorks 147 = .ok (.getfield 75, 3) := by decide +kernel
theorem dX5_tellOfWorks_150 : decode cX5_tellOfWorks 150 = .ok (.ireturn, 1) := by decide +kernel
theorem dX5_tellOfWorks_151 : decode cX5_tellOfWorks 151 = .ok (.aload_n 0, 1) := by decide +kernel
theorem dX5_tellOfWorks_152 : decode cX5_tellOfWorks 152 = .ok (.invokevirtual 78, 3) := by decide +kernel
theorem dX5_tellOfWorks_155 : decode cX5_tellOfWorks 155 = .ok (.ireturn, 1) := by decide +kernel
theorem dX5_loadOfWheel_0 : decode cX5_loadOfWheel 0 = .ok (.bipush 20, 2) := by decide +kernel
theorem dX5_loadOfWheel_2 : decode cX5_loadOfWheel 2 = .ok (.istore_n 1, 1) := by decide +kernel
theorem dX5_loadOfWheel_3 : decode cX5_loadOfWheel 3 = .ok (.iconst 0, 1) := by decide +kernel
theorem dX5_loadOfWheel_4 : decode cX5_loadOfWheel 4 = .ok (.istore_n 2, 1) := by decide +kernel
theorem dX5_loadOfWheel_5 : decode cX5_loadOfWheel 5 = .ok (.iload_n 2, 1) := by decide +kernel
theorem dX5_loadOfWheel_6 : decode cX5_loadOfWheel 6 = .ok (.aload_n 0, 1) := by decide +kernel
theorem dX5_loadOfWheel_7 : decode cX5_loadOfWheel 7 = .ok (.getfield 53, 3) := by decide +kernel
theorem dX5_loadOfWheel_10 : decode cX5_loadOfWheel 10 = .ok (.if_icmp .ge 21, 3) := by decide +kernel
theorem dX5_loadOfWheel_13 : decode cX5_loadOfWheel 13 = .ok (.iload_n 1, 1) := by decide +kernel
theorem dX5_loadOfWheel_14 : decode cX5_loadOfWheel 14 = .ok (.aload_n 0, 1) := by decide +kernel
theorem dX5_loadOfWheel_15 : decode cX5_loadOfWheel 15 = .ok (.getfield 17, 3) := by decide +kernel
theorem dX5_loadOfWheel_18 : decode cX5_loadOfWheel 18 = .ok (.iload_n 2, 1) := by decide +kernel
theorem dX5_loadOfWheel_19 : decode cX5_loadOfWheel 19 = .ok (.aaload, 1) := by decide +kernel
theorem dX5_loadOfWheel_20 : decode cX5_loadOfWheel 20 = .ok (.invokevirtual 81, 3) := by decide +kernel
theorem dX5_loadOfWheel_23 : decode cX5_loadOfWheel 23 = .ok (.iadd, 1) := by decide +kernel
theorem dX5_loadOfWheel_24 : decode cX5_loadOfWheel 24 = .ok (.istore_n 1, 1) := by decide +kernel
theorem dX5_loadOfWheel_25 : decode cX5_loadOfWheel 25 = .ok (.iinc 2 1, 3) := by decide +kernel
theorem dX5_loadOfWheel_28 : decode cX5_loadOfWheel 28 = .ok (.goto (-23), 3) := by decide +kernel
theorem dX5_loadOfWheel_31 : decode cX5_loadOfWheel 31 = .ok (.iload_n 1, 1) := by decide +kernel
theorem dX5_loadOfWheel_32 : decode cX5_loadOfWheel 32 = .ok (.ireturn, 1) := by decide +kernel
theorem dX5_tinOfBoxes_0 : decode cX5_tinOfBoxes 0 = .ok (.iconst 0, 1) := by decide +kernel
theorem dX5_tinOfBoxes_1 : decode cX5_tinOfBoxes 1 = .ok (.istore_n 1, 1) := by decide +kernel
theorem dX5_tinOfBoxes_2 : decode cX5_tinOfBoxes 2 = .ok (.iconst 0, 1) := by decide +kernel
theorem dX5_tinOfBoxes_3 : decode cX5_tinOfBoxes 3 = .ok (.istore_n 2, 1) := by decide +kernel
theorem dX5_tinOfBoxes_4 : decode cX5_tinOfBoxes 4 = .ok (.iload_n 2, 1) := by decide +kernel
theorem dX5_tinOfBoxes_5 : decode cX5_tinOfBoxes 5 = .ok (.aload_n 0, 1) := by decide +kernel
theorem dX5_tinOfBoxes_6 : decode cX5_tinOfBoxes 6 = .ok (.getfield 53, 3) := by decide +kernel
theorem dX5_tinOfBoxes_9 : decode cX5_tinOfBoxes 9 = .ok (.if_icmp .ge 21, 3) := by decide +kernel
theorem dX5_tinOfBoxes_12 : decode cX5_tinOfBoxes 12 = .ok (.iload_n 1, 1) := by decide +kernel
theorem dX5_tinOfBoxes_13 : decode cX5_tinOfBoxes 13 = .ok (.aload_n 0, 1) := by decide +kernel
theorem dX5_tinOfBoxes_14 : decode cX5_tinOfBoxes 14 = .ok (.getfield 17, 3) := by decide +kernel
theorem dX5_tinOfBoxes_17 : decode cX5_tinOfBoxes 17 = .ok (.iload_n 2, 1) := by decide +kernel
theorem dX5_tinOfBoxes_18 : decode cX5_tinOfBoxes 18 = .ok (.aaload, 1) := by decide +kernel
theorem dX5_tinOfBoxes_19 : decode cX5_tinOfBoxes 19 = .ok (.invokevirtual 84, 3) := by decide +kernel
theorem dX5_tinOfBoxes_22 : decode cX5_tinOfBoxes 22 = .ok (.iadd, 1) := by decide +kernel
theorem dX5_tinOfBoxes_23 : decode cX5_tinOfBoxes 23 = .ok (.istore_n 1, 1) := by decide +kernel
theorem dX5_tinOfBoxes_24 : decode cX5_tinOfBoxes 24 = .ok (.iinc 2 1, 3) := by decide +kernel
theorem dX5_tinOfBoxes_27 : decode cX5_tinOfBoxes 27 = .ok (.goto (-23), 3) := by decide +kernel
theorem dX5_tinOfBoxes_30 : decode cX5_tinOfBoxes 30 = .ok (.iload_n 1, 1) := by decide +kernel
theorem dX5_tinOfBoxes_31 : decode cX5_tinOfBoxes 31 = .ok (.ireturn, 1) := by decide +kernel
theorem dX5_tinOfBuddles_0 : decode cX5_tinOfBuddles 0 = .ok (.iconst 0, 1) := by decide +kernel
theorem dX5_tinOfBuddles_1 : decode cX5_tinOfBuddles 1 = .ok (.istore_n 1, 1) := by decide +kernel
theorem dX5_tinOfBuddles_2 : decode cX5_tinOfBuddles 2 = .ok (.iconst 0, 1) := by decide +kernel
theorem dX5_tinOfBuddles_3 : decode cX5_tinOfBuddles 3 = .ok (.istore_n 2, 1) := by decide +kernel
theorem dX5_tinOfBuddles_4 : decode cX5_tinOfBuddles 4 = .ok (.iload_n 2, 1) := by decide +kernel
theorem dX5_tinOfBuddles_5 : decode cX5_tinOfBuddles 5 = .ok (.iconst 3, 1) := by decide +kernel
theorem dX5_tinOfBuddles_6 : decode cX5_tinOfBuddles 6 = .ok (.if_icmp .ge 21, 3) := by decide +kernel
theorem dX5_tinOfBuddles_9 : decode cX5_tinOfBuddles 9 = .ok (.iload_n 1, 1) := by decide +kernel
theorem dX5_tinOfBuddles_10 : decode cX5_tinOfBuddles 10 = .ok (.aload_n 0, 1) := by decide +kernel
theorem dX5_tinOfBuddles_11 : decode cX5_tinOfBuddles 11 = .ok (.getfield 31, 3) := by decide +kernel
theorem dX5_tinOfBuddles_14 : decode cX5_tinOfBuddles 14 = .ok (.iload_n 2, 1) := by decide +kernel
theorem dX5_tinOfBuddles_15 : decode cX5_tinOfBuddles 15 = .ok (.aaload, 1) := by decide +kernel
theorem dX5_tinOfBuddles_16 : decode cX5_tinOfBuddles 16 = .ok (.getfield 69, 3) := by decide +kernel
theorem dX5_tinOfBuddles_19 : decode cX5_tinOfBuddles 19 = .ok (.iadd, 1) := by decide +kernel
theorem dX5_tinOfBuddles_20 : decode cX5_tinOfBuddles 20 = .ok (.istore_n 1, 1) := by decide +kernel
theorem dX5_tinOfBuddles_21 : decode cX5_tinOfBuddles 21 = .ok (.iinc 2 1, 3) := by decide +kernel
theorem dX5_tinOfBuddles_24 : decode cX5_tinOfBuddles 24 = .ok (.goto (-20), 3) := by decide +kernel
theorem dX5_tinOfBuddles_27 : decode cX5_tinOfBuddles 27 = .ok (.iload_n 1, 1) := by decide +kernel
theorem dX5_tinOfBuddles_28 : decode cX5_tinOfBuddles 28 = .ok (.ireturn, 1) := by decide +kernel
theorem dX5_passHours_0 : decode cX5_passHours 0 = .ok (.iconst 0, 1) := by decide +kernel
theorem dX5_passHours_1 : decode cX5_passHours 1 = .ok (.istore_n 2, 1) := by decide +kernel
theorem dX5_passHours_2 : decode cX5_passHours 2 = .ok (.iconst 0, 1) := by decide +kernel
theorem dX5_passHours_3 : decode cX5_passHours 3 = .ok (.istore_n 3, 1) := by decide +kernel
theorem dX5_passHours_4 : decode cX5_passHours 4 = .ok (.iload_n 3, 1) := by decide +kernel
theorem dX5_passHours_5 : decode cX5_passHours 5 = .ok (.iload_n 1, 1) := by decide +kernel
theorem dX5_passHours_6 : decode cX5_passHours 6 = .ok (.if_icmp .ge 16, 3) := by decide +kernel
theorem dX5_passHours_9 : decode cX5_passHours 9 = .ok (.iload_n 2, 1) := by decide +kernel
theorem dX5_passHours_10 : decode cX5_passHours 10 = .ok (.aload_n 0, 1) := by decide +kernel
theorem dX5_passHours_11 : decode cX5_passHours 11 = .ok (.invokevirtual 87, 3) := by decide +kernel
theorem dX5_passHours_14 : decode cX5_passHours 14 = .ok (.iadd, 1) := by decide +kernel
theorem dX5_passHours_15 : decode cX5_passHours 15 = .ok (.istore_n 2, 1) := by decide +kernel
theorem dX5_passHours_16 : decode cX5_passHours 16 = .ok (.iinc 3 1, 3) := by decide +kernel
theorem dX5_passHours_19 : decode cX5_passHours 19 = .ok (.goto (-15), 3) := by decide +kernel
theorem dX5_passHours_22 : decode cX5_passHours 22 = .ok (.iload_n 2, 1) := by decide +kernel
theorem dX5_passHours_23 : decode cX5_passHours 23 = .ok (.ireturn, 1) := by decide +kernel
theorem dX5_passHour_0 : decode cX5_passHour 0 = .ok (.aload_n 0, 1) := by decide +kernel
theorem dX5_passHour_1 : decode cX5_passHour 1 = .ok (.invokevirtual 90, 3) := by decide +kernel
theorem dX5_passHour_4 : decode cX5_passHour 4 = .ok (.istore_n 1, 1) := by decide +kernel
theorem dX5_passHour_5 : decode cX5_passHour 5 = .ok (.iload_n 1, 1) := by decide +kernel
theorem dX5_passHour_6 : decode cX5_passHour 6 = .ok (.bipush 10, 2) := by decide +kernel
theorem dX5_passHour_8 : decode cX5_passHour 8 = .ok (.imul, 1) := by decide +kernel
theorem dX5_passHour_9 : decode cX5_passHour 9 = .ok (.iconst 1, 1) := by decide +kernel
theorem dX5_passHour_10 : decode cX5_passHour 10 = .ok (.aload_n 0, 1) := by decide +kernel
theorem dX5_passHour_11 : decode cX5_passHour 11 = .ok (.invokevirtual 63, 3) := by decide +kernel
theorem dX5_passHour_14 : decode cX5_passHour 14 = .ok (.invokestatic 93, 3) := by decide +kernel
theorem dX5_passHour_17 : decode cX5_passHour 17 = .ok (.idiv, 1) := by decide +kernel
theorem dX5_passHour_18 : decode cX5_passHour 18 = .ok (.istore_n 2, 1) := by decide +kernel
theorem dX5_passHour_19 : decode cX5_passHour 19 = .ok (.iconst 0, 1) := by decide +kernel
theorem dX5_passHour_20 : decode cX5_passHour 20 = .ok (.istore_n 3, 1) := by decide +kernel
theorem dX5_passHour_21 : decode cX5_passHour 21 = .ok (.iload_n 3, 1) := by decide +kernel
theorem dX5_passHour_22 : decode cX5_passHour 22 = .ok (.aload_n 0, 1) := by decide +kernel
theorem dX5_passHour_23 : decode cX5_passHour 23 = .ok (.getfield 53, 3) := by decide +kernel
theorem dX5_passHour_26 : decode cX5_passHour 26 = .ok (.if_icmp .ge 21, 3) := by decide +kernel
theorem dX5_passHour_29 : decode cX5_passHour 29 = .ok (.aload_n 0, 1) := by decide +kernel
theorem dX5_passHour_30 : decode cX5_passHour 30 = .ok (.aload_n 0, 1) := by decide +kernel
theorem dX5_passHour_31 : decode cX5_passHour 31 = .ok (.getfield 17, 3) := by decide +kernel
theorem dX5_passHour_34 : decode cX5_passHour 34 = .ok (.iload_n 3, 1) := by decide +kernel
theorem dX5_passHour_35 : decode cX5_passHour 35 = .ok (.aaload, 1) := by decide +kernel
theorem dX5_passHour_36 : decode cX5_passHour 36 = .ok (.iload_n 1, 1) := by decide +kernel
theorem dX5_passHour_37 : decode cX5_passHour 37 = .ok (.iload_n 2, 1) := by decide +kernel
theorem dX5_passHour_38 : decode cX5_passHour 38 = .ok (.invokevirtual 99, 3) := by decide +kernel
theorem dX5_passHour_41 : decode cX5_passHour 41 = .ok (.iinc 3 1, 3) := by decide +kernel
theorem dX5_passHour_44 : decode cX5_passHour 44 = .ok (.goto (-23), 3) := by decide +kernel
theorem dX5_passHour_47 : decode cX5_passHour 47 = .ok (.aload_n 0, 1) := by decide +kernel
theorem dX5_passHour_48 : decode cX5_passHour 48 = .ok (.dup, 1) := by decide +kernel
theorem dX5_passHour_49 : decode cX5_passHour 49 = .ok (.getfield 50, 3) := by decide +kernel
theorem dX5_passHour_52 : decode cX5_passHour 52 = .ok (.iconst 1, 1) := by decide +kernel
theorem dX5_passHour_53 : decode cX5_passHour 53 = .ok (.iadd, 1) := by decide +kernel
theorem dX5_passHour_54 : decode cX5_passHour 54 = .ok (.putfield 50, 3) := by decide +kernel
theorem dX5_passHour_57 : decode cX5_passHour 57 = .ok (.iload_n 2, 1) := by decide +kernel
theorem dX5_passHour_58 : decode cX5_passHour 58 = .ok (.ireturn, 1) := by decide +kernel
theorem dX5_takeWater_0 : decode cX5_takeWater 0 = .ok (.sipush 20000, 3) := by decide +kernel
theorem dX5_takeWater_3 : decode cX5_takeWater 3 = .ok (.aload_n 0, 1) := by decide +kernel
theorem dX5_takeWater_4 : decode cX5_takeWater 4 = .ok (.getfield 43, 3) := by decide +kernel
theorem dX5_takeWater_7 : decode cX5_takeWater 7 = .ok (.aload_n 0, 1) := by decide +kernel
theorem dX5_takeWater_8 : decode cX5_takeWater 8 = .ok (.getfield 9, 3) := by decide +kernel
theorem dX5_takeWater_11 : decode cX5_takeWater 11 = .ok (.aload_n 0, 1) := by decide +kernel
theorem dX5_takeWater_12 : decode cX5_takeWater 12 = .ok (.getfield 50, 3) := by decide +kernel
theorem dX5_takeWater_15 : decode cX5_takeWater 15 = .ok (.bipush 24, 2) := by decide +kernel
theorem dX5_takeWater_17 : decode cX5_takeWater 17 = .ok (.invokestatic 103, 3) := by decide +kernel
theorem dX5_takeWater_20 : decode cX5_takeWater 20 = .ok (.iaload, 1) := by decide +kernel
theorem dX5_takeWater_21 : decode cX5_takeWater 21 = .ok (.iadd, 1) := by decide +kernel
theorem dX5_takeWater_22 : decode cX5_takeWater 22 = .ok (.invokestatic 106, 3) := by decide +kernel
theorem dX5_takeWater_25 : decode cX5_takeWater 25 = .ok (.istore_n 1, 1) := by decide +kernel
theorem dX5_takeWater_26 : decode cX5_takeWater 26 = .ok (.iload_n 1, 1) := by decide +kernel
theorem dX5_takeWater_27 : decode cX5_takeWater 27 = .ok (.aload_n 0, 1) := by decide +kernel
theorem dX5_takeWater_28 : decode cX5_takeWater 28 = .ok (.getfield 47, 3) := by decide +kernel
theorem dX5_takeWater_31 : decode cX5_takeWater 31 = .ok (.bipush 40, 2) := by decide +kernel
theorem dX5_takeWater_33 : decode cX5_takeWater 33 = .ok (.imul, 1) := by decide +kernel
theorem dX5_takeWater_34 : decode cX5_takeWater 34 = .ok (.invokestatic 106, 3) := by decide +kernel
theorem dX5_takeWater_37 : decode cX5_takeWater 37 = .ok (.istore_n 2, 1) := by decide +kernel
theorem dX5_takeWater_38 : decode cX5_takeWater 38 = .ok (.aload_n 0, 1) := by decide +kernel
theorem dX5_takeWater_39 : decode cX5_takeWater 39 = .ok (.iload_n 1, 1) := by decide +kernel
theorem dX5_takeWater_40 : decode cX5_takeWater 40 = .ok (.iload_n 2, 1) := by decide +kernel
theorem dX5_takeWater_41 : decode cX5_takeWater 41 = .ok (.isub, 1) := by decide +kernel
theorem dX5_takeWater_42 : decode cX5_takeWater 42 = .ok (.putfield 43, 3) := by decide +kernel
theorem dX5_takeWater_45 : decode cX5_takeWater 45 = .ok (.iload_n 2, 1) := by decide +kernel
theorem dX5_takeWater_46 : decode cX5_takeWater 46 = .ok (.ireturn, 1) := by decide +kernel
theorem dX5_workBox_0 : decode cX5_workBox 0 = .ok (.aload_n 1, 1) := by decide +kernel
theorem dX5_workBox_1 : decode cX5_workBox 1 = .ok (.aload_n 0, 1) := by decide +kernel
theorem dX5_workBox_2 : decode cX5_workBox 2 = .ok (.getfield 25, 3) := by decide +kernel
theorem dX5_workBox_5 : decode cX5_workBox 5 = .ok (.aload_n 1, 1) := by decide +kernel
theorem dX5_workBox_6 : decode cX5_workBox 6 = .ok (.getfield 109, 3) := by decide +kernel
theorem dX5_workBox_9 : decode cX5_workBox 9 = .ok (.aload_n 1, 1) := by decide +kernel
theorem dX5_workBox_10 : decode cX5_workBox 10 = .ok (.getfield 112, 3) := by decide +kernel
theorem dX5_workBox_13 : decode cX5_workBox 13 = .ok (.aload_n 1, 1) := by decide +kernel
theorem dX5_workBox_14 : decode cX5_workBox 14 = .ok (.getfield 115, 3) := by decide +kernel
theorem dX5_workBox_17 : decode cX5_workBox 17 = .ok (.invokevirtual 118, 3) := by decide +kernel
theorem dX5_workBox_20 : decode cX5_workBox 20 = .ok (.putfield 115, 3) := by decide +kernel
theorem dX5_workBox_23 : decode cX5_workBox 23 = .ok (.aload_n 1, 1) := by decide +kernel
theorem dX5_workBox_24 : decode cX5_workBox 24 = .ok (.iload_n 3, 1) := by decide +kernel
theorem dX5_workBox_25 : decode cX5_workBox 25 = .ok (.invokevirtual 122, 3) := by decide +kernel
theorem dX5_workBox_28 : decode cX5_workBox 28 = .ok (.aload_n 0, 1) := by decide +kernel
theorem dX5_workBox_29 : decode cX5_workBox 29 = .ok (.dup, 1) := by decide +kernel
theorem dX5_workBox_30 : decode cX5_workBox 30 = .ok (.getfield 72, 3) := by decide +kernel
theorem dX5_workBox_33 : decode cX5_workBox 33 = .ok (.aload_n 1, 1) := by decide +kernel
theorem dX5_workBox_34 : decode cX5_workBox 34 = .ok (.invokevirtual 126, 3) := by decide +kernel
theorem dX5_workBox_37 : decode cX5_workBox 37 = .ok (.iadd, 1) := by decide +kernel
theorem dX5_workBox_38 : decode cX5_workBox 38 = .ok (.putfield 72, 3) := by decide +kernel
theorem dX5_workBox_41 : decode cX5_workBox 41 = .ok (.aload_n 1, 1) := by decide +kernel
theorem dX5_workBox_42 : decode cX5_workBox 42 = .ok (.aload_n 0, 1) := by decide +kernel
theorem dX5_workBox_43 : decode cX5_workBox 43 = .ok (.getfield 31, 3) := by decide +kernel
theorem dX5_workBox_46 : decode cX5_workBox 46 = .ok (.aload_n 1, 1) := by decide +kernel
theorem dX5_workBox_47 : decode cX5_workBox 47 = .ok (.getfield 129, 3) := by decide +kernel
theorem dX5_workBox_50 : decode cX5_workBox 50 = .ok (.iconst 3, 1) := by decide +kernel
theorem dX5_workBox_51 : decode cX5_workBox 51 = .ok (.invokestatic 103, 3) := by decide +kernel
theorem dX5_workBox_54 : decode cX5_workBox 54 = .ok (.aaload, 1) := by decide +kernel
theorem dX5_workBox_55 : decode cX5_workBox 55 = .ok (.iload_n 2, 1) := by decide +kernel
theorem dX5_workBox_56 : decode cX5_workBox 56 = .ok (.invokevirtual 132, 3) := by decide +kernel
theorem dX5_workBox_59 : decode cX5_workBox 59 = .ok (.aload_n 1, 1) := by decide +kernel
theorem dX5_workBox_60 : decode cX5_workBox 60 = .ok (.iload_n 3, 1) := by decide +kernel
theorem dX5_workBox_61 : decode cX5_workBox 61 = .ok (.invokevirtual 136, 3) := by decide +kernel
theorem dX5_workBox_64 : decode cX5_workBox 64 = .ok (.return_, 1) := by decide +kernel
theorem dX5_partByWater_0 : decode cX5_partByWater 0 = .ok (.aload_n 1, 1) := by decide +kernel
theorem dX5_partByWater_1 : decode cX5_partByWater 1 = .ok (.getfield 66, 3) := by decide +kernel
theorem dX5_partByWater_4 : decode cX5_partByWater 4 = .ok (.iload_n 2, 1) := by decide +kernel
theorem dX5_partByWater_5 : decode cX5_partByWater 5 = .ok (.invokestatic 139, 3) := by decide +kernel
theorem dX5_partByWater_8 : decode cX5_partByWater 8 = .ok (.istore_n 3, 1) := by decide +kernel
theorem dX5_partByWater_9 : decode cX5_partByWater 9 = .ok (.aload_n 1, 1) := by decide +kernel
theorem dX5_partByWater_10 : decode cX5_partByWater 10 = .ok (.getfield 69, 3) := by decide +kernel
theorem dX5_partByWater_13 : decode cX5_partByWater 13 = .ok (.iload_n 2, 1) := by decide +kernel
theorem dX5_partByWater_14 : decode cX5_partByWater 14 = .ok (.invokestatic 142, 3) := by decide +kernel
theorem dX5_partByWater_17 : decode cX5_partByWater 17 = .ok (.istore 4, 2) := by decide +kernel
theorem dX5_partByWater_19 : decode cX5_partByWater 19 = .ok (.aload_n 1, 1) := by decide +kernel
theorem dX5_partByWater_20 : decode cX5_partByWater 20 = .ok (.getfield 66, 3) := by decide +kernel
theorem dX5_partByWater_23 : decode cX5_partByWater 23 = .ok (.iload_n 3, 1) := by decide +kernel
theorem dX5_partByWater_24 : decode cX5_partByWater 24 = .ok (.isub, 1) := by decide +kernel
theorem dX5_partByWater_25 : decode cX5_partByWater 25 = .ok (.istore 5, 2) := by decide +kernel
theorem dX5_partByWater_27 : decode cX5_partByWater 27 = .ok (.aload_n 1, 1) := by decide +kernel
theorem dX5_partByWater_28 : decode cX5_partByWater 28 = .ok (.getfield 69, 3) := by decide +kernel
theorem dX5_partByWater_31 : decode cX5_partByWater 31 = .ok (.iload 4, 2) := by decide +kernel
theorem dX5_partByWater_33 : decode cX5_partByWater 33 = .ok (.isub, 1) := by decide +kernel
theorem dX5_partByWater_34 : decode cX5_partByWater 34 = .ok (.istore 6, 2) := by decide +kernel
theorem dX5_partByWater_36 : decode cX5_partByWater 36 = .ok (.iload 5, 2) := by decide +kernel
theorem dX5_partByWater_38 : decode cX5_partByWater 38 = .ok (.iconst 2, 1) := by decide +kernel
theorem dX5_partByWater_39 : decode cX5_partByWater 39 = .ok (.idiv, 1) := by decide +kernel
theorem dX5_partByWater_40 : decode cX5_partByWater 40 = .ok (.istore 7, 2) := by decide +kernel
theorem dX5_partByWater_42 : decode cX5_partByWater 42 = .ok (.iload 6, 2) := by decide +kernel
theorem dX5_partByWater_44 : decode cX5_partByWater 44 = .ok (.iconst 2, 1) := by decide +kernel
theorem dX5_partByWater_45 : decode cX5_partByWater 45 = .ok (.idiv, 1) := by decide +kernel
theorem dX5_partByWater_46 : decode cX5_partByWater 46 = .ok (.istore 8, 2) := by decide +kernel
theorem dX5_partByWater_48 : decode cX5_partByWater 48 = .ok (.aload_n 0, 1) := by decide +kernel
theorem dX5_partByWater_49 : decode cX5_partByWater 49 = .ok (.getfield 36, 3) := by decide +kernel
theorem dX5_partByWater_52 : decode cX5_partByWater 52 = .ok (.iload_n 3, 1) := by decide +kernel
theorem dX5_partByWater_53 : decode cX5_partByWater 53 = .ok (.iload 4, 2) := by decide +kernel
theorem dX5_partByWater_55 : decode cX5_partByWater 55 = .ok (.invokevirtual 145, 3) := by decide +kernel
theorem dX5_partByWater_58 : decode cX5_partByWater 58 = .ok (.iload 7, 2) := by decide +kernel
theorem dX5_partByWater_60 : decode cX5_partByWater 60 = .ok (.iload 8, 2) := by decide +kernel
theorem dX5_partByWater_62 : decode cX5_partByWater 62 = .ok (.iadd, 1) := by decide +kernel
theorem dX5_partByWater_63 : decode cX5_partByWater 63 = .ok (.ifCond .le 15, 3) := by decide +kernel
theorem dX5_partByWater_66 : decode cX5_partByWater 66 = .ok (.aload_n 0, 1) := by decide +kernel
theorem dX5_partByWater_67 : decode cX5_partByWater 67 = .ok (.getfield 25, 3) := by decide +kernel
theorem dX5_partByWater_70 : decode cX5_partByWater 70 = .ok (.iload 7, 2) := by decide +kernel
theorem dX5_partByWater_72 : decode cX5_partByWater 72 = .ok (.iload 8, 2) := by decide +kernel
theorem dX5_partByWater_74 : decode cX5_partByWater 74 = .ok (.iconst 1, 1) := by decide +kernel
theorem dX5_partByWater_75 : decode cX5_partByWater 75 = .ok (.invokevirtual 149, 3) := by decide +kernel
theorem dX5_partByWater_78 : decode cX5_partByWater 78 = .ok (.aload_n 0, 1) := by decide +kernel
theorem dX5_partByWater_79 : decode cX5_partByWater 79 = .ok (.getfield 40, 3) := by decide +kernel
theorem dX5_partByWater_82 : decode cX5_partByWater 82 = .ok (.iload 5, 2) := by decide +kernel
theorem dX5_partByWater_84 : decode cX5_partByWater 84 = .ok (.iload 7, 2) := by decide +kernel
theorem dX5_partByWater_86 : decode cX5_partByWater 86 = .ok (.isub, 1) := by decide +kernel
theorem dX5_partByWater_87 : decode cX5_partByWater 87 = .ok (.iload 6, 2) := by decide +kernel
theorem dX5_partByWater_89 : decode cX5_partByWater 89 = .ok (.iload 8, 2) := by decide +kernel
theorem dX5_partByWater_91 : decode cX5_partByWater 91 = .ok (.isub, 1) := by decide +kernel
theorem dX5_partByWater_92 : decode cX5_partByWater 92 = .ok (.invokevirtual 145, 3) := by decide +kernel
theorem dX5_partByWater_95 : decode cX5_partByWater 95 = .ok (.aload_n 1, 1) := by decide +kernel
theorem dX5_partByWater_96 : decode cX5_partByWater 96 = .ok (.iconst 0, 1) := by decide +kernel
theorem dX5_partByWater_97 : decode cX5_partByWater 97 = .ok (.iconst 0, 1) := by decide +kernel
theorem dX5_partByWater_98 : decode cX5_partByWater 98 = .ok (.invokevirtual 153, 3) := by decide +kernel
theorem dX5_partByWater_101 : decode cX5_partByWater 101 = .ok (.iload 4, 2) := by decide +kernel
theorem dX5_partByWater_103 : decode cX5_partByWater 103 = .ok (.ireturn, 1) := by decide +kernel
theorem dX5_smeltFromStore_0 : decode cX5_smeltFromStore 0 = .ok (.aload_n 0, 1) := by decide +kernel
theorem dX5_smeltFromStore_1 : decode cX5_smeltFromStore 1 = .ok (.getfield 36, 3) := by decide +kernel
theorem dX5_smeltFromStore_4 : decode cX5_smeltFromStore 4 = .ok (.getfield 69, 3) := by decide +kernel
theorem dX5_smeltFromStore_7 : decode cX5_smeltFromStore 7 = .ok (.iload_n 1, 1) := by decide +kernel
theorem dX5_smeltFromStore_8 : decode cX5_smeltFromStore 8 = .ok (.aload_n 0, 1) := by decide +kernel
theorem dX5_smeltFromStore_9 : decode cX5_smeltFromStore 9 = .ok (.getfield 36, 3) := by decide +kernel
theorem dX5_smeltFromStore_12 : decode cX5_smeltFromStore 12 = .ok (.invokevirtual 156, 3) := by decide +kernel
theorem dX5_smeltFromStore_15 : decode cX5_smeltFromStore 15 = .ok (.invokestatic 159, 3) := by decide +kernel
theorem dX5_smeltFromStore_18 : decode cX5_smeltFromStore 18 = .ok (.istore_n 2, 1) := by decide +kernel
theorem dX5_smeltFromStore_19 : decode cX5_smeltFromStore 19 = .ok (.iload_n 1, 1) := by decide +kernel
theorem dX5_smeltFromStore_20 : decode cX5_smeltFromStore 20 = .ok (.iload_n 2, 1) := by decide +kernel
theorem dX5_smeltFromStore_21 : decode cX5_smeltFromStore 21 = .ok (.isub, 1) := by decide +kernel
theorem dX5_smeltFromStore_22 : decode cX5_smeltFromStore 22 = .ok (.istore_n 3, 1) := by decide +kernel
theorem dX5_smeltFromStore_23 : decode cX5_smeltFromStore 23 = .ok (.aload_n 0, 1) := by decide +kernel
theorem dX5_smeltFromStore_24 : decode cX5_smeltFromStore 24 = .ok (.getfield 36, 3) := by decide +kernel
theorem dX5_smeltFromStore_27 : decode cX5_smeltFromStore 27 = .ok (.iload_n 3, 1) := by decide +kernel
theorem dX5_smeltFromStore_28 : decode cX5_smeltFromStore 28 = .ok (.ineg, 1) := by decide +kernel
theorem dX5_smeltFromStore_29 : decode cX5_smeltFromStore 29 = .ok (.iload_n 2, 1) := by decide +kernel
theorem dX5_smeltFromStore_30 : decode cX5_smeltFromStore 30 = .ok (.ineg, 1) := by decide +kernel
theorem dX5_smeltFromStore_31 : decode cX5_smeltFromStore 31 = .ok (.invokevirtual 145, 3) := by decide +kernel
theorem dX5_smeltFromStore_34 : decode cX5_smeltFromStore 34 = .ok (.iload_n 3, 1) := by decide +kernel
theorem dX5_smeltFromStore_35 : decode cX5_smeltFromStore 35 = .ok (.iload_n 2, 1) := by decide +kernel
theorem dX5_smeltFromStore_36 : decode cX5_smeltFromStore 36 = .ok (.invokestatic 163, 3) := by decide +kernel
theorem dX5_smeltFromStore_39 : decode cX5_smeltFromStore 39 = .ok (.sipush 400, 3) := by decide +kernel
theorem dX5_smeltFromStore_42 : decode cX5_smeltFromStore 42 = .ok (.if_icmp .ge 5, 3) := by decide +kernel
theorem dX5_smeltFromStore_45 : decode cX5_smeltFromStore 45 = .ok (.iconst 0, 1) := by decide +kernel
theorem dX5_smeltFromStore_46 : decode cX5_smeltFromStore 46 = .ok (.ireturn, 1) := by decide +kernel
theorem dX5_smeltFromStore_47 : decode cX5_smeltFromStore 47 = .ok (.iload_n 2, 1) := by decide +kernel
theorem dX5_smeltFromStore_48 : decode cX5_smeltFromStore 48 = .ok (.bipush 9, 2) := by decide +kernel
theorem dX5_smeltFromStore_50 : decode cX5_smeltFromStore 50 = .ok (.imul, 1) := by decide +kernel
theorem dX5_smeltFromStore_51 : decode cX5_smeltFromStore 51 = .ok (.bipush 10, 2) := by decide +kernel
theorem dX5_smeltFromStore_53 : decode cX5_smeltFromStore 53 = .ok (.idiv, 1) := by decide +kernel
theorem dX5_smeltFromStore_54 : decode cX5_smeltFromStore 54 = .ok (.istore 4, 2) := by decide +kernel
theorem dX5_smeltFromStore_56 : decode cX5_smeltFromStore 56 = .ok (.aload_n 0, 1) := by decide +kernel
theorem dX5_smeltFromStore_57 : decode cX5_smeltFromStore 57 = .ok (.dup, 1) := by decide +kernel
theorem dX5_smeltFromStore_58 : decode cX5_smeltFromStore 58 = .ok (.getfield 75, 3) := by decide +kernel
theorem dX5_smeltFromStore_61 : decode cX5_smeltFromStore 61 = .ok (.iload 4, 2) := by decide +kernel
theorem dX5_smeltFromStore_63 : decode cX5_smeltFromStore 63 = .ok (.iadd, 1) := by decide +kernel
theorem dX5_smeltFromStore_64 : decode cX5_smeltFromStore 64 = .ok (.putfield 75, 3) := by decide +kernel
theorem dX5_smeltFromStore_67 : decode cX5_smeltFromStore 67 = .ok (.iload 4, 2) := by decide +kernel
theorem dX5_smeltFromStore_69 : decode cX5_smeltFromStore 69 = .ok (.ireturn, 1) := by decide +kernel
theorem dX5_copyWorks_0 : decode cX5_copyWorks 0 = .ok (.aload_n 1, 1) := by decide +kernel
theorem dX5_copyWorks_1 : decode cX5_copyWorks 1 = .ok (.getfield 9, 3) := by decide +kernel
theorem dX5_copyWorks_4 : decode cX5_copyWorks 4 = .ok (.iconst 0, 1) := by decide +kernel
theorem dX5_copyWorks_5 : decode cX5_copyWorks 5 = .ok (.aload_n 0, 1) := by decide +kernel
theorem dX5_copyWorks_6 : decode cX5_copyWorks 6 = .ok (.getfield 9, 3) := by decide +kernel
theorem dX5_copyWorks_9 : decode cX5_copyWorks 9 = .ok (.iconst 0, 1) := by decide +kernel
theorem dX5_copyWorks_10 : decode cX5_copyWorks 10 = .ok (.bipush 24, 2) := by decide +kernel
theorem dX5_copyWorks_12 : decode cX5_copyWorks 12 = .ok (.invokestatic 166, 3) := by decide +kernel
theorem dX5_copyWorks_15 : decode cX5_copyWorks 15 = .ok (.aload_n 0, 1) := by decide +kernel
theorem dX5_copyWorks_16 : decode cX5_copyWorks 16 = .ok (.aload_n 1, 1) := by decide +kernel
theorem dX5_copyWorks_17 : decode cX5_copyWorks 17 = .ok (.getfield 53, 3) := by decide +kernel
theorem dX5_copyWorks_20 : decode cX5_copyWorks 20 = .ok (.putfield 53, 3) := by decide +kernel
theorem dX5_copyWorks_23 : decode cX5_copyWorks 23 = .ok (.iconst 0, 1) := by decide +kernel
theorem dX5_copyWorks_24 : decode cX5_copyWorks 24 = .ok (.istore_n 2, 1) := by decide +kernel
theorem dX5_copyWorks_25 : decode cX5_copyWorks 25 = .ok (.iload_n 2, 1) := by decide +kernel
theorem dX5_copyWorks_26 : decode cX5_copyWorks 26 = .ok (.aload_n 0, 1) := by decide +kernel
theorem dX5_copyWorks_27 : decode cX5_copyWorks 27 = .ok (.getfield 53, 3) := by decide +kernel
theorem dX5_copyWorks_30 : decode cX5_copyWorks 30 = .ok (.if_icmp .ge 24, 3) := by decide +kernel
theorem dX5_copyWorks_33 : decode cX5_copyWorks 33 = .ok (.aload_n 0, 1) := by decide +kernel
theorem dX5_copyWorks_34 : decode cX5_copyWorks 34 = .ok (.getfield 17, 3) := by decide +kernel
theorem dX5_copyWorks_37 : decode cX5_copyWorks 37 = .ok (.iload_n 2, 1) := by decide +kernel
theorem dX5_copyWorks_38 : decode cX5_copyWorks 38 = .ok (.aaload, 1) := by decide +kernel
theorem dX5_copyWorks_39 : decode cX5_copyWorks 39 = .ok (.aload_n 1, 1) := by decide +kernel
theorem dX5_copyWorks_40 : decode cX5_copyWorks 40 = .ok (.getfield 17, 3) := by decide +kernel
theorem dX5_copyWorks_43 : decode cX5_copyWorks 43 = .ok (.iload_n 2, 1) := by decide +kernel
theorem dX5_copyWorks_44 : decode cX5_copyWorks 44 = .ok (.aaload, 1) := by decide +kernel
theorem dX5_copyWorks_45 : decode cX5_copyWorks 45 = .ok (.invokevirtual 172, 3) := by decide +kernel
theorem dX5_copyWorks_48 : decode cX5_copyWorks 48 = .ok (.iinc 2 1, 3) := by decide +kernel
theorem dX5_copyWorks_51 : decode cX5_copyWorks 51 = .ok (.goto (-26), 3) := by decide +kernel
theorem dX5_copyWorks_54 : decode cX5_copyWorks 54 = .ok (.aload_n 0, 1) := by decide +kernel
theorem dX5_copyWorks_55 : decode cX5_copyWorks 55 = .ok (.getfield 25, 3) := by decide +kernel
theorem dX5_copyWorks_58 : decode cX5_copyWorks 58 = .ok (.aload_n 1, 1) := by decide +kernel
theorem dX5_copyWorks_59 : decode cX5_copyWorks 59 = .ok (.getfield 25, 3) := by decide +kernel
theorem dX5_copyWorks_62 : decode cX5_copyWorks 62 = .ok (.invokevirtual 176, 3) := by decide +kernel
theorem dX5_copyWorks_65 : decode cX5_copyWorks 65 = .ok (.iconst 0, 1) := by decide +kernel
theorem dX5_copyWorks_66 : decode cX5_copyWorks 66 = .ok (.istore_n 2, 1) := by decide +kernel
theorem dX5_copyWorks_67 : decode cX5_copyWorks 67 = .ok (.iload_n 2, 1) := by decide +kernel
theorem dX5_copyWorks_68 : decode cX5_copyWorks 68 = .ok (.iconst 3, 1) := by decide +kernel
theorem dX5_copyWorks_69 : decode cX5_copyWorks 69 = .ok (.if_icmp .ge 24, 3) := by decide +kernel
theorem dX5_copyWorks_72 : decode cX5_copyWorks 72 = .ok (.aload_n 0, 1) := by decide +kernel
theorem dX5_copyWorks_73 : decode cX5_copyWorks 73 = .ok (.getfield 31, 3) := by decide +kernel
theorem dX5_copyWorks_76 : decode cX5_copyWorks 76 = .ok (.iload_n 2, 1) := by decide +kernel
theorem dX5_copyWorks_77 : decode cX5_copyWorks 77 = .ok (.aaload, 1) := by decide +kernel
theorem dX5_copyWorks_78 : decode cX5_copyWorks 78 = .ok (.aload_n 1, 1) := by decide +kernel
theorem dX5_copyWorks_79 : decode cX5_copyWorks 79 = .ok (.getfield 31, 3) := by decide +kernel
theorem dX5_copyWorks_82 : decode cX5_copyWorks 82 = .ok (.iload_n 2, 1) := by decide +kernel
theorem dX5_copyWorks_83 : decode cX5_copyWorks 83 = .ok (.aaload, 1) := by decide +kernel
theorem dX5_copyWorks_84 : decode cX5_copyWorks 84 = .ok (.invokevirtual 180, 3) := by decide +kernel
theorem dX5_copyWorks_87 : decode cX5_copyWorks 87 = .ok (.iinc 2 1, 3) := by decide +kernel
theorem dX5_copyWorks_90 : decode cX5_copyWorks 90 = .ok (.goto (-23), 3) := by decide +kernel
theorem dX5_copyWorks_93 : decode cX5_copyWorks 93 = .ok (.aload_n 0, 1) := by decide +kernel
theorem dX5_copyWorks_94 : decode cX5_copyWorks 94 = .ok (.aload_n 1, 1) := by decide +kernel
theorem dX5_copyWorks_95 : decode cX5_copyWorks 95 = .ok (.getfield 50, 3) := by decide +kernel
theorem dX5_copyWorks_98 : decode cX5_copyWorks 98 = .ok (.putfield 50, 3) := by decide +kernel
theorem dX5_copyWorks_101 : decode cX5_copyWorks 101 = .ok (.aload_n 0, 1) := by decide +kernel
theorem dX5_copyWorks_102 : decode cX5_copyWorks 102 = .ok (.aload_n 1, 1) := by decide +kernel
theorem dX5_copyWorks_103 : decode cX5_copyWorks 103 = .ok (.getfield 43, 3) := by decide +kernel
theorem dX5_copyWorks_106 : decode cX5_copyWorks 106 = .ok (.putfield 43, 3) := by decide +kernel
theorem dX5_copyWorks_109 : decode cX5_copyWorks 109 = .ok (.aload_n 0, 1) := by decide +kernel
theorem dX5_copyWorks_110 : decode cX5_copyWorks 110 = .ok (.aload_n 1, 1) := by decide +kernel
theorem dX5_copyWorks_111 : decode cX5_copyWorks 111 = .ok (.getfield 47, 3) := by decide +kernel
theorem dX5_copyWorks_114 : decode cX5_copyWorks 114 = .ok (.putfield 47, 3) := by decide +kernel
theorem dX5_copyWorks_117 : decode cX5_copyWorks 117 = .ok (.aload_n 0, 1) := by decide +kernel
theorem dX5_copyWorks_118 : decode cX5_copyWorks 118 = .ok (.aload_n 1, 1) := by decide +kernel
theorem dX5_copyWorks_119 : decode cX5_copyWorks 119 = .ok (.getfield 72, 3) := by decide +kernel
theorem dX5_copyWorks_122 : decode cX5_copyWorks 122 = .ok (.putfield 72, 3) := by decide +kernel
theorem dX5_copyWorks_125 : decode cX5_copyWorks 125 = .ok (.return_, 1) := by decide +kernel
theorem dX6_init_0 : decode cX6_init 0 = .ok (.aload_n 0, 1) := by decide +kernel
theorem dX6_init_1 : decode cX6_init 1 = .ok (.invokespecial 1, 3) := by decide +kernel
theorem dX6_init_4 : decode cX6_init 4 = .ok (.aload_n 0, 1) := by decide +kernel
theorem dX6_init_5 : decode cX6_init 5 = .ok (.new 7, 3) := by decide +kernel
theorem dX6_init_8 : decode cX6_init 8 = .ok (.dup, 1) := by decide +kernel
theorem dX6_init_9 : decode cX6_init 9 = .ok (.invokespecial 9, 3) := by decide +kernel
theorem dX6_init_12 : decode cX6_init 12 = .ok (.putfield 10, 3) := by decide +kernel
theorem dX6_init_15 : decode cX6_init 15 = .ok (.aload_n 0, 1) := by decide +kernel
theorem dX6_init_16 : decode cX6_init 16 = .ok (.new 7, 3) := by decide +kernel
theorem dX6_init_19 : decode cX6_init 19 = .ok (.dup, 1) := by decide +kernel
theorem dX6_init_20 : decode cX6_init 20 = .ok (.invokespecial 9, 3) := by decide +kernel
theorem dX6_init_23 : decode cX6_init 23 = .ok (.putfield 16, 3) := by decide +kernel
theorem dX6_init_26 : decode cX6_init 26 = .ok (.return_, 1) := by decide +kernel
theorem dX6_setInflow_0 : decode cX6_setInflow 0 = .ok (.iload_n 1, 1) := by decide +kernel
theorem dX6_setInflow_1 : decode cX6_setInflow 1 = .ok (.ifCond .lt 9, 3) := by decide +kernel
theorem dX6_setInflow_4 : decode cX6_setInflow 4 = .ok (.iload_n 1, 1) := by decide +kernel
theorem dX6_setInflow_5 : decode cX6_setInflow 5 = .ok (.bipush 24, 2) := by decide +kernel
theorem dX6_setInflow_7 : decode cX6_setInflow 7 = .ok (.if_icmp .lt 13, 3) := by decide +kernel
theorem dX6_setInflow_10 : decode cX6_setInflow 10 = .ok (.new 19, 3) := by decide +kernel
theorem dX6_setInflow_13 : decode cX6_setInflow 13 = .ok (.dup, 1) := by decide +kernel
theorem dX6_setInflow_14 : decode cX6_setInflow 14 = .ok (.ldc 21, 2) := by decide +kernel
theorem dX6_setInflow_16 : decode cX6_setInflow 16 = .ok (.invokespecial 23, 3) := by decide +kernel
theorem dX6_setInflow_19 : decode cX6_setInflow 19 = .ok (.athrow, 1) := by decide +kernel
theorem dX6_setInflow_20 : decode cX6_setInflow 20 = .ok (.iload_n 2, 1) := by decide +kernel
theorem dX6_setInflow_21 : decode cX6_setInflow 21 = .ok (.ifCond .lt 10, 3) := by decide +kernel
theorem dX6_setInflow_24 : decode cX6_setInflow 24 = .ok (.iload_n 2, 1) := by decide +kernel
theorem dX6_setInflow_25 : decode cX6_setInflow 25 = .ok (.sipush 900, 3) := by decide +kernel
theorem dX6_setInflow_28 : decode cX6_setInflow 28 = .ok (.if_icmp .le 13, 3) := by decide +kernel
theorem dX6_setInflow_31 : decode cX6_setInflow 31 = .ok (.new 26, 3) := by decide +kernel
theorem dX6_setInflow_34 : decode cX6_setInflow 34 = .ok (.dup, 1) := by decide +kernel
theorem dX6_setInflow_35 : decode cX6_setInflow 35 = .ok (.ldc 28, 2) := by decide +kernel
theorem dX6_setInflow_37 : decode cX6_setInflow 37 = .ok (.invokespecial 30, 3) := by decide +kernel
theorem dX6_setInflow_40 : decode cX6_setInflow 40 = .ok (.athrow, 1) := by decide +kernel
theorem dX6_setInflow_41 : decode cX6_setInflow 41 = .ok (.aload_n 0, 1) := by decide +kernel
theorem dX6_setInflow_42 : decode cX6_setInflow 42 = .ok (.getfield 10, 3) := by decide +kernel
theorem dX6_setInflow_45 : decode cX6_setInflow 45 = .ok (.getfield 31, 3) := by decide +kernel
theorem dX6_setInflow_48 : decode cX6_setInflow 48 = .ok (.iload_n 1, 1) := by decide +kernel
theorem dX6_setInflow_49 : decode cX6_setInflow 49 = .ok (.iaload, 1) := by decide +kernel
theorem dX6_setInflow_50 : decode cX6_setInflow 50 = .ok (.istore_n 3, 1) := by decide +kernel
theorem dX6_setInflow_51 : decode cX6_setInflow 51 = .ok (.aload_n 0, 1) := by decide +kernel
theorem dX6_setInflow_52 : decode cX6_setInflow 52 = .ok (.getfield 10, 3) := by decide +kernel
theorem dX6_setInflow_55 : decode cX6_setInflow 55 = .ok (.getfield 31, 3) := by decide +kernel
theorem dX6_setInflow_58 : decode cX6_setInflow 58 = .ok (.iload_n 1, 1) := by decide +kernel
theorem dX6_setInflow_59 : decode cX6_setInflow 59 = .ok (.iload_n 2, 1) := by decide +kernel
theorem dX6_setInflow_60 : decode cX6_setInflow 60 = .ok (.iastore, 1) := by decide +kernel
theorem dX6_setInflow_61 : decode cX6_setInflow 61 = .ok (.iload_n 3, 1) := by decide +kernel
theorem dX6_setInflow_62 : decode cX6_setInflow 62 = .ok (.ireturn, 1) := by decide +kernel
theorem dX6_setSluice_0 : decode cX6_setSluice 0 = .ok (.iload_n 1, 1) := by decide +kernel
theorem dX6_setSluice_1 : decode cX6_setSluice 1 = .ok (.ifCond .lt 9, 3) := by decide +kernel
theorem dX6_setSluice_4 : decode cX6_setSluice 4 = .ok (.iload_n 1, 1) := by decide +kernel
theorem dX6_setSluice_5 : decode cX6_setSluice 5 = .ok (.bipush 20, 2) := by decide +kernel
theorem dX6_setSluice_7 : decode cX6_setSluice 7 = .ok (.if_icmp .le 13, 3) := by decide +kernel
theorem dX6_setSluice_10 : decode cX6_setSluice 10 = .ok (.new 26, 3) := by decide +kernel
theorem dX6_setSluice_13 : decode cX6_setSluice 13 = .ok (.dup, 1) := by decide +kernel
theorem dX6_setSluice_14 : decode cX6_setSluice 14 = .ok (.ldc 35, 2) := by decide +kernel
theorem dX6_setSluice_16 : decode cX6_setSluice 16 = .ok (.invokespecial 30, 3) := by decide +kernel
theorem dX6_setSluice_19 : decode cX6_setSluice 19 = .ok (.athrow, 1) := by decide +kernel
theorem dX6_setSluice_20 : decode cX6_setSluice 20 = .ok (.aload_n 0, 1) := by decide +kernel
theorem dX6_setSluice_21 : decode cX6_setSluice 21 = .ok (.getfield 10, 3) := by decide +kernel
theorem dX6_setSluice_24 : decode cX6_setSluice 24 = .ok (.getfield 37, 3) := by decide +kernel
theorem dX6_setSluice_27 : decode cX6_setSluice 27 = .ok (.istore_n 2, 1) := by decide +kernel
theorem dX6_setSluice_28 : decode cX6_setSluice 28 = .ok (.aload_n 0, 1) := by decide +kernel
theorem dX6_setSluice_29 : decode cX6_setSluice 29 = .ok (.getfield 10, 3) := by decide +kernel
theorem dX6_setSluice_32 : decode cX6_setSluice 32 = .ok (.iload_n 1, 1) := by decide +kernel
theorem dX6_setSluice_33 : decode cX6_setSluice 33 = .ok (.putfield 37, 3) := by decide +kernel
theorem dX6_setSluice_36 : decode cX6_setSluice 36 = .ok (.iload_n 2, 1) := by decide +kernel
theorem dX6_setSluice_37 : decode cX6_setSluice 37 = .ok (.ireturn, 1) := by decide +kernel
theorem dX6_addBox_0 : decode cX6_addBox 0 = .ok (.aload_n 0, 1) := by decide +kernel
theorem dX6_addBox_1 : decode cX6_addBox 1 = .ok (.getfield 10, 3) := by decide +kernel
theorem dX6_addBox_4 : decode cX6_addBox 4 = .ok (.getfield 41, 3) := by decide +kernel
theorem dX6_addBox_7 : decode cX6_addBox 7 = .ok (.iconst 4, 1) := by decide +kernel
theorem dX6_addBox_8 : decode cX6_addBox 8 = .ok (.if_icmp .lt 13, 3) := by decide +kernel
theorem dX6_addBox_11 : decode cX6_addBox 11 = .ok (.new 44, 3) := by decide +kernel
theorem dX6_addBox_14 : decode cX6_addBox 14 = .ok (.dup, 1) := by decide +kernel
theorem dX6_addBox_15 : decode cX6_addBox 15 = .ok (.ldc 46, 2) := by decide +kernel
theorem dX6_addBox_17 : decode cX6_addBox 17 = .ok (.invokespecial 48, 3) := by decide +kernel
theorem dX6_addBox_20 : decode cX6_addBox 20 = .ok (.athrow, 1) := by decide +kernel
theorem dX6_addBox_21 : decode cX6_addBox 21 = .ok (.aload_n 0, 1) := by decide +kernel
theorem dX6_addBox_22 : decode cX6_addBox 22 = .ok (.getfield 10, 3) := by decide +kernel
theorem dX6_addBox_25 : decode cX6_addBox 25 = .ok (.dup, 1) := by decide +kernel
theorem dX6_addBox_26 : decode cX6_addBox 26 = .ok (.getfield 41, 3) := by decide +kernel
theorem dX6_addBox_29 : decode cX6_addBox 29 = .ok (.iconst 1, 1) := by decide +kernel
theorem dX6_addBox_30 : decode cX6_addBox 30 = .ok (.iadd, 1) := by decide +kernel
theorem dX6_addBox_31 : decode cX6_addBox 31 = .ok (.putfield 41, 3) := by decide +kernel
theorem dX6_addBox_34 : decode cX6_addBox 34 = .ok (.aload_n 0, 1) := by decide +kernel
theorem dX6_addBox_35 : decode cX6_addBox 35 = .ok (.getfield 10, 3) := by decide +kernel
theorem dX6_addBox_38 : decode cX6_addBox 38 = .ok (.getfield 41, 3) := by decide +kernel
theorem dX6_addBox_41 : decode cX6_addBox 41 = .ok (.iconst 1, 1) := by decide +kernel
theorem dX6_addBox_42 : decode cX6_addBox 42 = .ok (.isub, 1) := by decide +kernel
theorem dX6_addBox_43 : decode cX6_addBox 43 = .ok (.ireturn, 1) := by decide +kernel
theorem dX6_hang_0 : decode cX6_hang 0 = .ok (.aload_n 0, 1) := by decide +kernel
theorem dX6_hang_1 : decode cX6_hang 1 = .ok (.iload_n 1, 1) := by decide +kernel
theorem dX6_hang_2 : decode cX6_hang 2 = .ok (.invokevirtual 49, 3) := by decide +kernel
theorem dX6_hang_5 : decode cX6_hang 5 = .ok (.astore 4, 2) := by decide +kernel
theorem dX6_hang_7 : decode cX6_hang 7 = .ok (.iload_n 2, 1) := by decide +kernel
theorem dX6_hang_8 : decode cX6_hang 8 = .ok (.bipush 10, 2) := by decide +kernel
theorem dX6_hang_10 : decode cX6_hang 10 = .ok (.if_icmp .lt 9, 3) := by decide +kernel
theorem dX6_hang_13 : decode cX6_hang 13 = .ok (.iload_n 2, 1) := by decide +kernel
theorem dX6_hang_14 : decode cX6_hang 14 = .ok (.bipush 60, 2) := by decide +kernel
theorem dX6_hang_16 : decode cX6_hang 16 = .ok (.if_icmp .le 13, 3) := by decide +kernel
theorem dX6_hang_19 : decode cX6_hang 19 = .ok (.new 26, 3) := by decide +kernel
theorem dX6_hang_22 : decode cX6_hang 22 = .ok (.dup, 1) := by decide +kernel
theorem dX6_hang_23 : decode cX6_hang 23 = .ok (.ldc 53, 2) := by decide +kernel
theorem dX6_hang_25 : decode cX6_hang 25 = .ok (.invokespecial 30, 3) := by decide +kernel
theorem dX6_hang_28 : decode cX6_hang 28 = .ok (.athrow, 1) := by decide +kernel
theorem dX6_hang_29 : decode cX6_hang 29 = .ok (.iload_n 3, 1) := by decide +kernel
theorem dX6_hang_30 : decode cX6_hang 30 = .ok (.iconst 1, 1) := by decide +kernel
theorem dX6_hang_31 : decode cX6_hang 31 = .ok (.if_icmp .lt 8, 3) := by decide +kernel
theorem dX6_hang_34 : decode cX6_hang 34 = .ok (.iload_n 3, 1) := by decide +kernel
theorem dX6_hang_35 : decode cX6_hang 35 = .ok (.iconst 4, 1) := by decide +kernel
theorem dX6_hang_36 : decode cX6_hang 36 = .ok (.if_icmp .le 13, 3) := by decide +kernel
theorem dX6_hang_39 : decode cX6_hang 39 = .ok (.new 26, 3) := by decide +kernel
theorem dX6_hang_42 : decode cX6_hang 42 = .ok (.dup, 1) := by decide +kernel
theorem dX6_hang_43 : decode cX6_hang 43 = .ok (.ldc 55, 2) := by decide +kernel
theorem dX6_hang_45 : decode cX6_hang 45 = .ok (.invokespecial 30, 3) := by decide +kernel
theorem dX6_hang_48 : decode cX6_hang 48 = .ok (.athrow, 1) := by decide +kernel
theorem dX6_hang_49 : decode cX6_hang 49 = .ok (.aload 4, 2) := by decide +kernel
theorem dX6_hang_51 : decode cX6_hang 51 = .ok (.getfield 57, 3) := by decide +kernel
theorem dX6_hang_54 : decode cX6_hang 54 = .ok (.iconst 4, 1) := by decide +kernel
theorem dX6_hang_55 : decode cX6_hang 55 = .ok (.if_icmp .lt 13, 3) := by decide +kernel
theorem dX6_hang_58 : decode cX6_hang 58 = .ok (.new 44, 3) := by decide +kernel
theorem dX6_hang_61 : decode cX6_hang 61 = .ok (.dup, 1) := by decide +kernel
theorem dX6_hang_62 : decode cX6_hang 62 = .ok (.ldc 62, 2) := by decide +kernel
theorem dX6_hang_64 : decode cX6_hang 64 = .ok (.invokespecial 48, 3) := by decide +kernel
theorem dX6_hang_67 : decode cX6_hang 67 = .ok (.athrow, 1) := by decide +kernel
theorem dX6_hang_68 : decode cX6_hang 68 = .ok (.aload 4, 2) := by decide +kernel
theorem dX6_hang_70 : decode cX6_hang 70 = .ok (.iload_n 2, 1) := by decide +kernel
theorem dX6_hang_71 : decode cX6_hang 71 = .ok (.iload_n 3, 1) := by decide +kernel
theorem dX6_hang_72 : decode cX6_hang 72 = .ok (.invokevirtual 64, 3) := by decide +kernel
theorem dX6_hang_75 : decode cX6_hang 75 = .ok (.aload 4, 2) := by decide +kernel
theorem dX6_hang_77 : decode cX6_hang 77 = .ok (.getfield 57, 3) := by decide +kernel
theorem dX6_hang_80 : decode cX6_hang 80 = .ok (.ireturn, 1) := by decide +kernel
theorem dX6_shoe_0 : decode cX6_shoe 0 = .ok (.aload_n 0, 1) := by decide +kernel
theorem dX6_shoe_1 : decode cX6_shoe 1 = .ok (.iload_n 1, 1) := by decide +kernel
theorem dX6_shoe_2 : decode cX6_shoe 2 = .ok (.invokevirtual 49, 3) := by decide +kernel
theorem dX6_shoe_5 : decode cX6_shoe 5 = .ok (.astore_n 3, 1) := by decide +kernel
theorem dX6_shoe_6 : decode cX6_shoe 6 = .ok (.iload_n 2, 1) := by decide +kernel
theorem dX6_shoe_7 : decode cX6_shoe 7 = .ok (.ifCond .lt 11, 3) := by decide +kernel
theorem dX6_shoe_10 : decode cX6_shoe 10 = .ok (.iload_n 2, 1) := by decide +kernel
theorem dX6_shoe_11 : decode cX6_shoe 11 = .ok (.aload_n 3, 1) := by decide +kernel
theorem dX6_shoe_12 : decode cX6_shoe 12 = .ok (.getfield 57, 3) := by decide +kernel
theorem dX6_shoe_15 : decode cX6_shoe 15 = .ok (.if_icmp .lt 13, 3) := by decide +kernel
theorem dX6_shoe_18 : decode cX6_shoe 18 = .ok (.new 19, 3) := by decide +kernel
theorem dX6_shoe_21 : decode cX6_shoe 21 = .ok (.dup, 1) := by decide +kernel
theorem dX6_shoe_22 : decode cX6_shoe 22 = .ok (.ldc 68, 2) := by decide +kernel
theorem dX6_shoe_24 : decode cX6_shoe 24 = .ok (.invokespecial 23, 3) := by decide +kernel
theorem dX6_shoe_27 : decode cX6_shoe 27 = .ok (.athrow, 1) := by decide +kernel
theorem dX6_shoe_28 : decode cX6_shoe 28 = .ok (.aload_n 3, 1) := by decide +kernel
theorem dX6_shoe_29 : decode cX6_shoe 29 = .ok (.getfield 70, 3) := by decide +kernel
theorem dX6_shoe_32 : decode cX6_shoe 32 = .ok (.iload_n 2, 1) := by decide +kernel
theorem dX6_shoe_33 : decode cX6_shoe 33 = .ok (.aaload, 1) := by decide +kernel
theorem dX6_shoe_34 : decode cX6_shoe 34 = .ok (.getfield 74, 3) := by decide +kernel
theorem dX6_shoe_37 : decode cX6_shoe 37 = .ok (.istore 4, 2) := by decide +kernel
theorem dX6_shoe_39 : decode cX6_shoe 39 = .ok (.aload_n 3, 1) := by decide +kernel
theorem dX6_shoe_40 : decode cX6_shoe 40 = .ok (.getfield 70, 3) := by decide +kernel
theorem dX6_shoe_43 : decode cX6_shoe 43 = .ok (.iload_n 2, 1) := by decide +kernel
theorem dX6_shoe_44 : decode cX6_shoe 44 = .ok (.aaload, 1) := by decide +kernel
theorem dX6_shoe_45 : decode cX6_shoe 45 = .ok (.iconst 0, 1) := by decide +kernel
theorem dX6_shoe_46 : decode cX6_shoe 46 = .ok (.putfield 74, 3) := by decide +kernel
theorem dX6_shoe_49 : decode cX6_shoe 49 = .ok (.iload 4, 2) := by decide +kernel
theorem dX6_shoe_51 : decode cX6_shoe 51 = .ok (.ireturn, 1) := by decide +kernel
theorem dX6_setBox_0 : decode cX6_setBox 0 = .ok (.aload_n 0, 1) := by decide +kernel
theorem dX6_setBox_1 : decode cX6_setBox 1 = .ok (.iload_n 1, 1) := by decide +kernel
theorem dX6_setBox_2 : decode cX6_setBox 2 = .ok (.invokevirtual 49, 3) := by decide +kernel
theorem dX6_setBox_5 : decode cX6_setBox 5 = .ok (.astore 4, 2) := by decide +kernel
theorem dX6_setBox_7 : decode cX6_setBox 7 = .ok (.iload_n 2, 1) := by decide +kernel
theorem dX6_setBox_8 : decode cX6_setBox 8 = .ok (.ifCond .lt 10, 3) := by decide +kernel
theorem dX6_setBox_11 : decode cX6_setBox 11 = .ok (.iload_n 2, 1) := by decide +kernel
theorem dX6_setBox_12 : decode cX6_setBox 12 = .ok (.sipush 300, 3) := by decide +kernel
theorem dX6_setBox_15 : decode cX6_setBox 15 = .ok (.if_icmp .le 13, 3) := by decide +kernel
theorem dX6_setBox_18 : decode cX6_setBox 18 = .ok (.new 26, 3) := by decide +kernel
theorem dX6_setBox_21 : decode cX6_setBox 21 = .ok (.dup, 1) := by decide +kernel
theorem dX6_setBox_22 : decode cX6_setBox 22 = .ok (.ldc 79, 2) := by decide +kernel
theorem dX6_setBox_24 : decode cX6_setBox 24 = .ok (.invokespecial 30, 3) := by decide +kernel
theorem dX6_setBox_27 : decode cX6_setBox 27 = .ok (.athrow, 1) := by decide +kernel
theorem dX6_setBox_28 : decode cX6_setBox 28 = .ok (.iload_n 3, 1) := by decide +kernel
theorem dX6_setBox_29 : decode cX6_setBox 29 = .ok (.ifCond .lt 8, 3) := by decide +kernel
theorem dX6_setBox_32 : decode cX6_setBox 32 = .ok (.iload_n 3, 1) := by decide +kernel
theorem dX6_setBox_33 : decode cX6_setBox 33 = .ok (.iconst 3, 1) := by decide +kernel
theorem dX6_setBox_34 : decode cX6_setBox 34 = .ok (.if_icmp .lt 13, 3) := by decide +kernel
theorem dX6_setBox_37 : decode cX6_setBox 37 = .ok (.new 26, 3) := by decide +kernel
theorem dX6_setBox_40 : decode cX6_setBox 40 = .ok (.dup, 1) := by decide +kernel
theorem dX6_setBox_41 : decode cX6_setBox 41 = .ok (.ldc 81, 2) := by decide +kernel
theorem dX6_setBox_43 : decode cX6_setBox 43 = .ok (.invokespecial 30, 3) := by decide +kernel
theorem dX6_setBox_46 : decode cX6_setBox 46 = .ok (.athrow, 1) := by decide +kernel
theorem dX6_setBox_47 : decode cX6_setBox 47 = .ok (.aload 4, 2) := by decide +kernel
theorem dX6_setBox_49 : decode cX6_setBox 49 = .ok (.getfield 83, 3) := by decide +kernel
theorem dX6_setBox_52 : decode cX6_setBox 52 = .ok (.istore 5, 2) := by decide +kernel
theorem dX6_setBox_54 : decode cX6_setBox 54 = .ok (.aload 4, 2) := by decide +kernel
theorem dX6_setBox_56 : decode cX6_setBox 56 = .ok (.iload_n 2, 1) := by decide +kernel
theorem dX6_setBox_57 : decode cX6_setBox 57 = .ok (.putfield 83, 3) := by decide +kernel
theorem dX6_setBox_60 : decode cX6_setBox 60 = .ok (.aload 4, 2) := by decide +kernel
theorem dX6_setBox_62 : decode cX6_setBox 62 = .ok (.iload_n 3, 1) := by decide +kernel
theorem dX6_setBox_63 : decode cX6_setBox 63 = .ok (.putfield 86, 3) := by decide +kernel
theorem dX6_setBox_66 : decode cX6_setBox 66 = .ok (.iload 5, 2) := by decide +kernel
theorem dX6_setBox_68 : decode cX6_setBox 68 = .ok (.ireturn, 1) := by decide +kernel
theorem dX6_box_0 : decode cX6_box 0 = .ok (.aload_n 0, 1) := by decide +kernel
theorem dX6_box_1 : decode cX6_box 1 = .ok (.iload_n 1, 1) := by decide +kernel
theorem dX6_box_2 : decode cX6_box 2 = .ok (.invokevirtual 49, 3) := by decide +kernel
theorem dX6_box_5 : decode cX6_box 5 = .ok (.astore_n 3, 1) := by decide +kernel
theorem dX6_box_6 : decode cX6_box 6 = .ok (.iload_n 2, 1) := by decide +kernel
theorem dX6_box_7 : decode cX6_box 7 = .ok (.ifCond .lt 9, 3) := by decide +kernel
theorem dX6_box_10 : decode cX6_box 10 = .ok (.iload_n 2, 1) := by decide +kernel
theorem dX6_box_11 : decode cX6_box 11 = .ok (.bipush 12, 2) := by decide +kernel
theorem dX6_box_13 : decode cX6_box 13 = .ok (.if_icmp .lt 13, 3) := by decide +kernel
theorem dX6_box_16 : decode cX6_box 16 = .ok (.new 19, 3) := by decide +kernel
theorem dX6_box_19 : decode cX6_box 19 = .ok (.dup, 1) := by decide +kernel
theorem dX6_box_20 : decode cX6_box 20 = .ok (.ldc 89, 2) := by decide +kernel
theorem dX6_box_22 : decode cX6_box 22 = .ok (.invokespecial 23, 3) := by decide +kernel
theorem dX6_box_25 : decode cX6_box 25 = .ok (.athrow, 1) := by decide +kernel
theorem dX6_box_26 : decode cX6_box 26 = .ok (.aload_n 3, 1) := by decide +kernel
theorem dX6_box_27 : decode cX6_box 27 = .ok (.iload_n 2, 1) := by decide +kernel
theorem dX6_box_28 : decode cX6_box 28 = .ok (.invokevirtual 91, 3) := by decide +kernel
theorem dX6_box_31 : decode cX6_box 31 = .ok (.ireturn, 1) := by decide +kernel
theorem dX6_bring_0 : decode cX6_bring 0 = .ok (.iload_n 1, 1) := by decide +kernel
theorem dX6_bring_1 : decode cX6_bring 1 = .ok (.iconst 1, 1) := by decide +kernel
theorem dX6_bring_2 : decode cX6_bring 2 = .ok (.if_icmp .lt 10, 3) := by decide +kernel
theorem dX6_bring_5 : decode cX6_bring 5 = .ok (.iload_n 1, 1) := by decide +kernel
theorem dX6_bring_6 : decode cX6_bring 6 = .ok (.sipush 5000, 3) := by decide +kernel
theorem dX6_bring_9 : decode cX6_bring 9 = .ok (.if_icmp .le 13, 3) := by decide +kernel
theorem dX6_bring_12 : decode cX6_bring 12 = .ok (.new 26, 3) := by decide +kernel
theorem dX6_bring_15 : decode cX6_bring 15 = .ok (.dup, 1) := by decide +kernel
theorem dX6_bring_16 : decode cX6_bring 16 = .ok (.ldc 95, 2) := by decide +kernel
theorem dX6_bring_18 : decode cX6_bring 18 = .ok (.invokespecial 30, 3) := by decide +kernel
theorem dX6_bring_21 : decode cX6_bring 21 = .ok (.athrow, 1) := by decide +kernel
theorem dX6_bring_22 : decode cX6_bring 22 = .ok (.iload_n 2, 1) := by decide +kernel
theorem dX6_bring_23 : decode cX6_bring 23 = .ok (.ifCond .lt 10, 3) := by decide +kernel
theorem dX6_bring_26 : decode cX6_bring 26 = .ok (.iload_n 2, 1) := by decide +kernel
theorem dX6_bring_27 : decode cX6_bring 27 = .ok (.sipush 1000, 3) := by decide +kernel
theorem dX6_bring_30 : decode cX6_bring 30 = .ok (.if_icmp .le 13, 3) := by decide +kernel
theorem dX6_bring_33 : decode cX6_bring 33 = .ok (.new 26, 3) := by decide +kernel
theorem dX6_bring_36 : decode cX6_bring 36 = .ok (.dup, 1) := by decide +kernel
theorem dX6_bring_37 : decode cX6_bring 37 = .ok (.ldc 97, 2) := by decide +kernel
theorem dX6_bring_39 : decode cX6_bring 39 = .ok (.invokespecial 30, 3) := by decide +kernel
theorem dX6_bring_42 : decode cX6_bring 42 = .ok (.athrow, 1) := by decide +kernel
theorem dX6_bring_43 : decode cX6_bring 43 = .ok (.iload_n 3, 1) := by decide +kernel
theorem dX6_bring_44 : decode cX6_bring 44 = .ok (.iconst 1, 1) := by decide +kernel
theorem dX6_bring_45 : decode cX6_bring 45 = .ok (.if_icmp .lt 9, 3) := by decide +kernel
theorem dX6_bring_48 : decode cX6_bring 48 = .ok (.iload_n 3, 1) := by decide +kernel
theorem dX6_bring_49 : decode cX6_bring 49 = .ok (.bipush 9, 2) := by decide +kernel
theorem dX6_bring_51 : decode cX6_bring 51 = .ok (.if_icmp .le 13, 3) := by decide +kernel
theorem dX6_bring_54 : decode cX6_bring 54 = .ok (.new 26, 3) := by decide +kernel
theorem dX6_bring_57 : decode cX6_bring 57 = .ok (.dup, 1) := by decide +kernel
theorem dX6_bring_58 : decode cX6_bring 58 = .ok (.ldc 99, 2) := by decide +kernel
theorem dX6_bring_60 : decode cX6_bring 60 = .ok (.invokespecial 30, 3) := by decide +kernel
theorem dX6_bring_63 : decode cX6_bring 63 = .ok (.athrow, 1) := by decide +kernel
theorem dX6_bring_64 : decode cX6_bring 64 = .ok (.aload_n 0, 1) := by decide +kernel
theorem dX6_bring_65 : decode cX6_bring 65 = .ok (.invokevirtual 101, 3) := by decide +kernel
theorem dX6_bring_68 : decode cX6_bring 68 = .ok (.iload_n 1, 1) := by decide +kernel
theorem dX6_bring_69 : decode cX6_bring 69 = .ok (.iload_n 2, 1) := by decide +kernel
theorem dX6_bring_70 : decode cX6_bring 70 = .ok (.imul, 1) := by decide +kernel
theorem dX6_bring_71 : decode cX6_bring 71 = .ok (.sipush 1000, 3) := by decide +kernel
theorem dX6_bring_74 : decode cX6_bring 74 = .ok (.idiv, 1) := by decide +kernel
theorem dX6_bring_75 : decode cX6_bring 75 = .ok (.istore 4, 2) := by decide +kernel
theorem dX6_bring_77 : decode cX6_bring 77 = .ok (.aload_n 0, 1) := by decide +kernel
theorem dX6_bring_78 : decode cX6_bring 78 = .ok (.getfield 10, 3) := by decide +kernel
theorem dX6_bring_81 : decode cX6_bring 81 = .ok (.getfield 104, 3) := by decide +kernel
theorem dX6_bring_84 : decode cX6_bring 84 = .ok (.iload_n 1, 1) := by decide +kernel
theorem dX6_bring_85 : decode cX6_bring 85 = .ok (.iload 4, 2) := by decide +kernel
theorem dX6_bring_87 : decode cX6_bring 87 = .ok (.isub, 1) := by decide +kernel
theorem dX6_bring_88 : decode cX6_bring 88 = .ok (.iload 4, 2) := by decide +kernel
theorem dX6_bring_90 : decode cX6_bring 90 = .ok (.iload_n 3, 1) := by decide +kernel
theorem dX6_bring_91 : decode cX6_bring 91 = .ok (.invokevirtual 108, 3) := by decide +kernel
theorem dX6_bring_94 : decode cX6_bring 94 = .ok (.aload_n 0, 1) := by decide +kernel
theorem dX6_bring_95 : decode cX6_bring 95 = .ok (.getfield 10, 3) := by decide +kernel
theorem dX6_bring_98 : decode cX6_bring 98 = .ok (.getfield 104, 3) := by decide +kernel
theorem dX6_bring_101 : decode cX6_bring 101 = .ok (.getfield 114, 3) := by decide +kernel
theorem dX6_bring_104 : decode cX6_bring 104 = .ok (.ireturn, 1) := by decide +kernel
theorem dX6_lot_0 : decode cX6_lot 0 = .ok (.iload_n 1, 1) := by decide +kernel
theorem dX6_lot_1 : decode cX6_lot 1 = .ok (.ifCond .lt 17, 3) := by decide +kernel
theorem dX6_lot_4 : decode cX6_lot 4 = .ok (.iload_n 1, 1) := by decide +kernel
theorem dX6_lot_5 : decode cX6_lot 5 = .ok (.aload_n 0, 1) := by decide +kernel
theorem dX6_lot_6 : decode cX6_lot 6 = .ok (.getfield 10, 3) := by decide +kernel
theorem dX6_lot_9 : decode cX6_lot 9 = .ok (.getfield 104, 3) := by decide +kernel
theorem dX6_lot_12 : decode cX6_lot 12 = .ok (.getfield 114, 3) := by decide +kernel
theorem dX6_lot_15 : decode cX6_lot 15 = .ok (.if_icmp .lt 13, 3) := by decide +kernel
theorem dX6_lot_18 : decode cX6_lot 18 = .ok (.new 19, 3) := by decide +kernel
theorem dX6_lot_21 : decode cX6_lot 21 = .ok (.dup, 1) := by decide +kernel
theorem dX6_lot_22 : decode cX6_lot 22 = .ok (.ldc 117, 2) := by decide +kernel
theorem dX6_lot_24 : decode cX6_lot 24 = .ok (.invokespecial 23, 3) := by decide +kernel
theorem dX6_lot_27 : decode cX6_lot 27 = .ok (.athrow, 1) := by decide +kernel
theorem dX6_lot_28 : decode cX6_lot 28 = .ok (.iload_n 2, 1) := by decide +kernel
theorem dX6_lot_29 : decode cX6_lot 29 = .ok (.ifCond .lt 8, 3) := by decide +kernel
theorem dX6_lot_32 : decode cX6_lot 32 = .ok (.iload_n 2, 1) := by decide +kernel
theorem dX6_lot_33 : decode cX6_lot 33 = .ok (.iconst 3, 1) := by decide +kernel
theorem dX6_lot_34 : decode cX6_lot 34 = .ok (.if_icmp .lt 13, 3) := by decide +kernel
theorem dX6_lot_37 : decode cX6_lot 37 = .ok (.new 19, 3) := by decide +kernel
theorem dX6_lot_40 : decode cX6_lot 40 = .ok (.dup, 1) := by decide +kernel
theorem dX6_lot_41 : decode cX6_lot 41 = .ok (.ldc 119, 2) := by decide +kernel
theorem dX6_lot_43 : decode cX6_lot 43 = .ok (.invokespecial 23, 3) := by decide +kernel
theorem dX6_lot_46 : decode cX6_lot 46 = .ok (.athrow, 1) := by decide +kernel
theorem dX6_lot_47 : decode cX6_lot 47 = .ok (.aload_n 0, 1) := by decide +kernel
theorem dX6_lot_48 : decode cX6_lot 48 = .ok (.getfield 10, 3) := by decide +kernel
theorem dX6_lot_51 : decode cX6_lot 51 = .ok (.getfield 104, 3) := by decide +kernel
theorem dX6_lot_54 : decode cX6_lot 54 = .ok (.iload_n 1, 1) := by decide +kernel
theorem dX6_lot_55 : decode cX6_lot 55 = .ok (.invokevirtual 121, 3) := by decide +kernel
theorem dX6_lot_58 : decode cX6_lot 58 = .ok (.iload_n 2, 1) := by decide +kernel
theorem dX6_lot_59 : decode cX6_lot 59 = .ok (.invokevirtual 125, 3) := by decide +kernel
theorem dX6_lot_62 : decode cX6_lot 62 = .ok (.ireturn, 1) := by decide +kernel
theorem dX6_run_0 : decode cX6_run 0 = .ok (.iload_n 1, 1) := by decide +kernel
theorem dX6_run_1 : decode cX6_run 1 = .ok (.bipush 100, 2) := by decide +kernel
theorem dX6_run_3 : decode cX6_run 3 = .ok (.invokestatic 130, 3) := by decide +kernel
theorem dX6_run_6 : decode cX6_run 6 = .ok (.aload_n 0, 1) := by decide +kernel
theorem dX6_run_7 : decode cX6_run 7 = .ok (.iload_n 1, 1) := by decide +kernel
theorem dX6_run_8 : decode cX6_run 8 = .ok (.invokevirtual 133, 3) := by decide +kernel
theorem dX6_run_11 : decode cX6_run 11 = .ok (.aload_n 0, 1) := by decide +kernel
theorem dX6_run_12 : decode cX6_run 12 = .ok (.getfield 10, 3) := by decide +kernel
theorem dX6_run_15 : decode cX6_run 15 = .ok (.iload_n 1, 1) := by decide +kernel
theorem dX6_run_16 : decode cX6_run 16 = .ok (.invokevirtual 137, 3) := by decide +kernel
theorem dX6_run_19 : decode cX6_run 19 = .ok (.ireturn, 1) := by decide +kernel
theorem dX6_count_0 : decode cX6_count 0 = .ok (.iload_n 1, 1) := by decide +kernel
theorem dX6_count_1 : decode cX6_count 1 = .ok (.ifCond .lt 9, 3) := by decide +kernel
theorem dX6_count_4 : decode cX6_count 4 = .ok (.iload_n 1, 1) := by decide +kernel
theorem dX6_count_5 : decode cX6_count 5 = .ok (.bipush 14, 2) := by decide +kernel
theorem dX6_count_7 : decode cX6_count 7 = .ok (.if_icmp .lt 13, 3) := by decide +kernel
theorem dX6_count_10 : decode cX6_count 10 = .ok (.new 19, 3) := by decide +kernel
theorem dX6_count_13 : decode cX6_count 13 = .ok (.dup, 1) := by decide +kernel
theorem dX6_count_14 : decode cX6_count 14 = .ok (.ldc 140, 2) := by decide +kernel
theorem dX6_count_16 : decode cX6_count 16 = .ok (.invokespecial 23, 3) := by decide +kernel
theorem dX6_count_19 : decode cX6_count 19 = .ok (.athrow, 1) := by decide +kernel
theorem dX6_count_20 : decode cX6_count 20 = .ok (.aload_n 0, 1) := by decide +kernel
theorem dX6_count_21 : decode cX6_count 21 = .ok (.getfield 10, 3) := by decide +kernel
theorem dX6_count_24 : decode cX6_count 24 = .ok (.iload_n 1, 1) := by decide +kernel
theorem dX6_count_25 : decode cX6_count 25 = .ok (.invokevirtual 142, 3) := by decide +kernel
theorem dX6_count_28 : decode cX6_count 28 = .ok (.ireturn, 1) := by decide +kernel
theorem dX6_buddle_0 : decode cX6_buddle 0 = .ok (.aload_n 0, 1) := by decide +kernel
theorem dX6_buddle_1 : decode cX6_buddle 1 = .ok (.iload_n 1, 1) := by decide +kernel
theorem dX6_buddle_2 : decode cX6_buddle 2 = .ok (.invokevirtual 145, 3) := by decide +kernel
theorem dX6_buddle_5 : decode cX6_buddle 5 = .ok (.astore_n 3, 1) := by decide +kernel
theorem dX6_buddle_6 : decode cX6_buddle 6 = .ok (.iload_n 2, 1) := by decide +kernel
theorem dX6_buddle_7 : decode cX6_buddle 7 = .ok (.ifCond .lt 8, 3) := by decide +kernel
theorem dX6_buddle_10 : decode cX6_buddle 10 = .ok (.iload_n 2, 1) := by decide +kernel
theorem dX6_buddle_11 : decode cX6_buddle 11 = .ok (.iconst 3, 1) := by decide +kernel
theorem dX6_buddle_12 : decode cX6_buddle 12 = .ok (.if_icmp .lt 13, 3) := by decide +kernel
theorem dX6_buddle_15 : decode cX6_buddle 15 = .ok (.new 19, 3) := by decide +kernel
theorem dX6_buddle_18 : decode cX6_buddle 18 = .ok (.dup, 1) := by decide +kernel
theorem dX6_buddle_19 : decode cX6_buddle 19 = .ok (.ldc 149, 2) := by decide +kernel
theorem dX6_buddle_21 : decode cX6_buddle 21 = .ok (.invokespecial 23, 3) := by decide +kernel
theorem dX6_buddle_24 : decode cX6_buddle 24 = .ok (.athrow, 1) := by decide +kernel
theorem dX6_buddle_25 : decode cX6_buddle 25 = .ok (.aload_n 3, 1) := by decide +kernel
theorem dX6_buddle_26 : decode cX6_buddle 26 = .ok (.iload_n 2, 1) := by decide +kernel
theorem dX6_buddle_27 : decode cX6_buddle 27 = .ok (.invokevirtual 151, 3) := by decide +kernel
theorem dX6_buddle_30 : decode cX6_buddle 30 = .ok (.ireturn, 1) := by decide +kernel
theorem dX6_wash_0 : decode cX6_wash 0 = .ok (.aload_n 0, 1) := by decide +kernel
theorem dX6_wash_1 : decode cX6_wash 1 = .ok (.iload_n 1, 1) := by decide +kernel
theorem dX6_wash_2 : decode cX6_wash 2 = .ok (.invokevirtual 145, 3) := by decide +kernel
theorem dX6_wash_5 : decode cX6_wash 5 = .ok (.astore_n 3, 1) := by decide +kernel
theorem dX6_wash_6 : decode cX6_wash 6 = .ok (.iload_n 2, 1) := by decide +kernel
theorem dX6_wash_7 : decode cX6_wash 7 = .ok (.bipush 10, 2) := by decide +kernel
theorem dX6_wash_9 : decode cX6_wash 9 = .ok (.if_icmp .lt 9, 3) := by decide +kernel
theorem dX6_wash_12 : decode cX6_wash 12 = .ok (.iload_n 2, 1) := by decide +kernel
theorem dX6_wash_13 : decode cX6_wash 13 = .ok (.bipush 90, 2) := by decide +kernel
theorem dX6_wash_15 : decode cX6_wash 15 = .ok (.if_icmp .le 13, 3) := by decide +kernel
theorem dX6_wash_18 : decode cX6_wash 18 = .ok (.new 26, 3) := by decide +kernel
theorem dX6_wash_21 : decode cX6_wash 21 = .ok (.dup, 1) := by decide +kernel
theorem dX6_wash_22 : decode cX6_wash 22 = .ok (.ldc 156, 2) := by decide +kernel
theorem dX6_wash_24 : decode cX6_wash 24 = .ok (.invokespecial 30, 3) := by decide +kernel
theorem dX6_wash_27 : decode cX6_wash 27 = .ok (.athrow, 1) := by decide +kernel
theorem dX6_wash_28 : decode cX6_wash 28 = .ok (.aload_n 3, 1) := by decide +kernel
theorem dX6_wash_29 : decode cX6_wash 29 = .ok (.invokevirtual 158, 3) := by decide +kernel
theorem dX6_wash_32 : decode cX6_wash 32 = .ok (.ifCond .ne 13, 3) := by decide +kernel
theorem dX6_wash_35 : decode cX6_wash 35 = .ok (.new 44, 3) := by decide +kernel
theorem dX6_wash_38 : decode cX6_wash 38 = .ok (.dup, 1) := by decide +kernel
theorem dX6_wash_39 : decode cX6_wash 39 = .ok (.ldc 162, 2) := by decide +kernel
theorem dX6_wash_41 : decode cX6_wash 41 = .ok (.invokespecial 48, 3) := by decide +kernel
theorem dX6_wash_44 : decode cX6_wash 44 = .ok (.athrow, 1) := by decide +kernel
theorem dX6_wash_45 : decode cX6_wash 45 = .ok (.aload_n 0, 1) := by decide +kernel
theorem dX6_wash_46 : decode cX6_wash 46 = .ok (.invokevirtual 101, 3) := by decide +kernel
theorem dX6_wash_49 : decode cX6_wash 49 = .ok (.aload_n 0, 1) := by decide +kernel
theorem dX6_wash_50 : decode cX6_wash 50 = .ok (.getfield 10, 3) := by decide +kernel
theorem dX6_wash_53 : decode cX6_wash 53 = .ok (.aload_n 3, 1) := by decide +kernel
theorem dX6_wash_54 : decode cX6_wash 54 = .ok (.iload_n 2, 1) := by decide +kernel
theorem dX6_wash_55 : decode cX6_wash 55 = .ok (.invokevirtual 164, 3) := by decide +kernel
theorem dX6_wash_58 : decode cX6_wash 58 = .ok (.ireturn, 1) := by decide +kernel
theorem dX6_again_0 : decode cX6_again 0 = .ok (.aload_n 0, 1) := by decide +kernel
theorem dX6_again_1 : decode cX6_again 1 = .ok (.iload_n 1, 1) := by decide +kernel
theorem dX6_again_2 : decode cX6_again 2 = .ok (.invokevirtual 145, 3) := by decide +kernel
theorem dX6_again_5 : decode cX6_again 5 = .ok (.astore_n 2, 1) := by decide +kernel
theorem dX6_again_6 : decode cX6_again 6 = .ok (.aload_n 0, 1) := by decide +kernel
theorem dX6_again_7 : decode cX6_again 7 = .ok (.getfield 10, 3) := by decide +kernel
theorem dX6_again_10 : decode cX6_again 10 = .ok (.getfield 168, 3) := by decide +kernel
theorem dX6_again_13 : decode cX6_again 13 = .ok (.aload_n 2, 1) := by decide +kernel
theorem dX6_again_14 : decode cX6_again 14 = .ok (.sipush 6000, 3) := by decide +kernel
theorem dX6_again_17 : decode cX6_again 17 = .ok (.aload_n 2, 1) := by decide +kernel
theorem dX6_again_18 : decode cX6_again 18 = .ok (.invokevirtual 158, 3) := by decide +kernel
theorem dX6_again_21 : decode cX6_again 21 = .ok (.isub, 1) := by decide +kernel
theorem dX6_again_22 : decode cX6_again 22 = .ok (.invokevirtual 172, 3) := by decide +kernel
theorem dX6_again_25 : decode cX6_again 25 = .ok (.ireturn, 1) := by decide +kernel
theorem dX6_smelt_0 : decode cX6_smelt 0 = .ok (.iload_n 1, 1) := by decide +kernel
theorem dX6_smelt_1 : decode cX6_smelt 1 = .ok (.iconst 1, 1) := by decide +kernel
theorem dX6_smelt_2 : decode cX6_smelt 2 = .ok (.if_icmp .ge 13, 3) := by decide +kernel
theorem dX6_smelt_5 : decode cX6_smelt 5 = .ok (.new 26, 3) := by decide +kernel
theorem dX6_smelt_8 : decode cX6_smelt 8 = .ok (.dup, 1) := by decide +kernel
theorem dX6_smelt_9 : decode cX6_smelt 9 = .ok (.ldc 175, 2) := by decide +kernel
theorem dX6_smelt_11 : decode cX6_smelt 11 = .ok (.invokespecial 30, 3) := by decide +kernel
theorem dX6_smelt_14 : decode cX6_smelt 14 = .ok (.athrow, 1) := by decide +kernel
theorem dX6_smelt_15 : decode cX6_smelt 15 = .ok (.iload_n 1, 1) := by decide +kernel
theorem dX6_smelt_16 : decode cX6_smelt 16 = .ok (.aload_n 0, 1) := by decide +kernel
theorem dX6_smelt_17 : decode cX6_smelt 17 = .ok (.getfield 10, 3) := by decide +kernel
theorem dX6_smelt_20 : decode cX6_smelt 20 = .ok (.getfield 168, 3) := by decide +kernel
theorem dX6_smelt_23 : decode cX6_smelt 23 = .ok (.invokevirtual 158, 3) := by decide +kernel
theorem dX6_smelt_26 : decode cX6_smelt 26 = .ok (.if_icmp .le 13, 3) := by decide +kernel
theorem dX6_smelt_29 : decode cX6_smelt 29 = .ok (.new 44, 3) := by decide +kernel
theorem dX6_smelt_32 : decode cX6_smelt 32 = .ok (.dup, 1) := by decide +kernel
theorem dX6_smelt_33 : decode cX6_smelt 33 = .ok (.ldc 177, 2) := by decide +kernel
theorem dX6_smelt_35 : decode cX6_smelt 35 = .ok (.invokespecial 48, 3) := by decide +kernel
theorem dX6_smelt_38 : decode cX6_smelt 38 = .ok (.athrow, 1) := by decide +kernel
theorem dX6_smelt_39 : decode cX6_smelt 39 = .ok (.aload_n 0, 1) := by decide +kernel
theorem dX6_smelt_40 : decode cX6_smelt 40 = .ok (.getfield 10, 3) := by decide +kernel
theorem dX6_smelt_43 : decode cX6_smelt 43 = .ok (.iload_n 1, 1) := by decide +kernel
theorem dX6_smelt_44 : decode cX6_smelt 44 = .ok (.invokevirtual 179, 3) := by decide +kernel
theorem dX6_smelt_47 : decode cX6_smelt 47 = .ok (.ireturn, 1) := by decide +kernel
theorem dX6_foresee_0 : decode cX6_foresee 0 = .ok (.iload_n 1, 1) := by decide +kernel
theorem dX6_foresee_1 : decode cX6_foresee 1 = .ok (.bipush 100, 2) := by decide +kernel
theorem dX6_foresee_3 : decode cX6_foresee 3 = .ok (.invokestatic 130, 3) := by decide +kernel
theorem dX6_foresee_6 : decode cX6_foresee 6 = .ok (.iload_n 2, 1) := by decide +kernel
theorem dX6_foresee_7 : decode cX6_foresee 7 = .ok (.ifCond .lt 8, 3) := by decide +kernel
theorem dX6_foresee_10 : decode cX6_foresee 10 = .ok (.iload_n 2, 1) := by decide +kernel
theorem dX6_foresee_11 : decode cX6_foresee 11 = .ok (.iconst 5, 1) := by decide +kernel
theorem dX6_foresee_12 : decode cX6_foresee 12 = .ok (.if_icmp .lt 13, 3) := by decide +kernel
theorem dX6_foresee_15 : decode cX6_foresee 15 = .ok (.new 19, 3) := by decide +kernel
theorem dX6_foresee_18 : decode cX6_foresee 18 = .ok (.dup, 1) := by decide +kernel
theorem dX6_foresee_19 : decode cX6_foresee 19 = .ok (.ldc 182, 2) := by decide +kernel
theorem dX6_foresee_21 : decode cX6_foresee 21 = .ok (.invokespecial 23, 3) := by decide +kernel
theorem dX6_foresee_24 : decode cX6_foresee 24 = .ok (.athrow, 1) := by decide +kernel
theorem dX6_foresee_25 : decode cX6_foresee 25 = .ok (.aload_n 0, 1) := by decide +kernel
theorem dX6_foresee_26 : decode cX6_foresee 26 = .ok (.iload_n 1, 1) := by decide +kernel
theorem dX6_foresee_27 : decode cX6_foresee 27 = .ok (.invokevirtual 133, 3) := by decide +kernel
theorem dX6_foresee_30 : decode cX6_foresee 30 = .ok (.aload_n 0, 1) := by decide +kernel
theorem dX6_foresee_31 : decode cX6_foresee 31 = .ok (.getfield 16, 3) := by decide +kernel
theorem dX6_foresee_34 : decode cX6_foresee 34 = .ok (.aload_n 0, 1) := by decide +kernel
theorem dX6_foresee_35 : decode cX6_foresee 35 = .ok (.getfield 10, 3) := by decide +kernel
theorem dX6_foresee_38 : decode cX6_foresee 38 = .ok (.invokevirtual 184, 3) := by decide +kernel
theorem dX6_foresee_41 : decode cX6_foresee 41 = .ok (.aload_n 0, 1) := by decide +kernel
theorem dX6_foresee_42 : decode cX6_foresee 42 = .ok (.getfield 16, 3) := by decide +kernel
theorem dX6_foresee_45 : decode cX6_foresee 45 = .ok (.iload_n 1, 1) := by decide +kernel
theorem dX6_foresee_46 : decode cX6_foresee 46 = .ok (.invokevirtual 137, 3) := by decide +kernel
theorem dX6_foresee_49 : decode cX6_foresee 49 = .ok (.istore_n 3, 1) := by decide +kernel
theorem dX6_foresee_50 : decode cX6_foresee 50 = .ok (.iload_n 2, 1) := by decide +kernel
theorem dX6_foresee_51 : decode cX6_foresee 51 = .ok (.tableswitch 63 0 3 #[29, 31, 39, 47], 29) := by decide +kernel
theorem dX6_foresee_80 : decode cX6_foresee 80 = .ok (.iload_n 3, 1) := by decide +kernel
theorem dX6_foresee_81 : decode cX6_foresee 81 = .ok (.ireturn, 1) := by decide +kernel
theorem dX6_foresee_82 : decode cX6_foresee 82 = .ok (.aload_n 0, 1) := by decide +kernel
theorem dX6_foresee_83 : decode cX6_foresee 83 = .ok (.getfield 16, 3) := by decide +kernel
theorem dX6_foresee_86 : decode cX6_foresee 86 = .ok (.getfield 188, 3) := by decide +kernel
theorem dX6_foresee_89 : decode cX6_foresee 89 = .ok (.ireturn, 1) := by decide +kernel
theorem dX6_foresee_90 : decode cX6_foresee 90 = .ok (.aload_n 0, 1) := by decide +kernel
theorem dX6_foresee_91 : decode cX6_foresee 91 = .ok (.getfield 16, 3) := by decide +kernel
theorem dX6_foresee_94 : decode cX6_foresee 94 = .ok (.invokevirtual 191, 3) := by decide +kernel
theorem dX6_foresee_97 : decode cX6_foresee 97 = .ok (.ireturn, 1) := by decide +kernel
theorem dX6_foresee_98 : decode cX6_foresee 98 = .ok (.aload_n 0, 1) := by decide +kernel
theorem dX6_foresee_99 : decode cX6_foresee 99 = .ok (.getfield 16, 3) := by decide +kernel
theorem dX6_foresee_102 : decode cX6_foresee 102 = .ok (.getfield 194, 3) := by decide +kernel
theorem dX6_foresee_105 : decode cX6_foresee 105 = .ok (.aload_n 0, 1) := by decide +kernel
theorem dX6_foresee_106 : decode cX6_foresee 106 = .ok (.getfield 10, 3) := by decide +kernel
theorem dX6_foresee_109 : decode cX6_foresee 109 = .ok (.getfield 194, 3) := by decide +kernel
theorem dX6_foresee_112 : decode cX6_foresee 112 = .ok (.isub, 1) := by decide +kernel
theorem dX6_foresee_113 : decode cX6_foresee 113 = .ok (.ireturn, 1) := by decide +kernel
theorem dX6_foresee_114 : decode cX6_foresee 114 = .ok (.aload_n 0, 1) := by decide +kernel
theorem dX6_foresee_115 : decode cX6_foresee 115 = .ok (.getfield 16, 3) := by decide +kernel
theorem dX6_foresee_118 : decode cX6_foresee 118 = .ok (.getfield 104, 3) := by decide +kernel
theorem dX6_foresee_121 : decode cX6_foresee 121 = .ok (.invokevirtual 197, 3) := by decide +kernel
theorem dX6_foresee_124 : decode cX6_foresee 124 = .ok (.ireturn, 1) := by decide +kernel
theorem dX6_advise_0 : decode cX6_advise 0 = .ok (.iload_n 1, 1) := by decide +kernel
theorem dX6_advise_1 : decode cX6_advise 1 = .ok (.bipush 48, 2) := by decide +kernel
theorem dX6_advise_3 : decode cX6_advise 3 = .ok (.invokestatic 130, 3) := by decide +kernel
theorem dX6_advise_6 : decode cX6_advise 6 = .ok (.aload_n 0, 1) := by decide +kernel
theorem dX6_advise_7 : decode cX6_advise 7 = .ok (.iload_n 1, 1) := by decide +kernel
theorem dX6_advise_8 : decode cX6_advise 8 = .ok (.invokevirtual 133, 3) := by decide +kernel
theorem dX6_advise_11 : decode cX6_advise 11 = .ok (.iconst 0, 1) := by decide +kernel
theorem dX6_advise_12 : decode cX6_advise 12 = .ok (.istore_n 2, 1) := by decide +kernel
theorem dX6_advise_13 : decode cX6_advise 13 = .ok (.iconst (-1), 1) := by decide +kernel
theorem dX6_advise_14 : decode cX6_advise 14 = .ok (.istore_n 3, 1) := by decide +kernel
theorem dX6_advise_15 : decode cX6_advise 15 = .ok (.iconst 0, 1) := by decide +kernel
theorem dX6_advise_16 : decode cX6_advise 16 = .ok (.istore 4, 2) := by decide +kernel
theorem dX6_advise_18 : decode cX6_advise 18 = .ok (.iload 4, 2) := by decide +kernel
theorem dX6_advise_20 : decode cX6_advise 20 = .ok (.bipush 20, 2) := by decide +kernel
theorem dX6_advise_22 : decode cX6_advise 22 = .ok (.if_icmp .gt 59, 3) := by decide +kernel
theorem dX6_advise_25 : decode cX6_advise 25 = .ok (.aload_n 0, 1) := by decide +kernel
theorem dX6_advise_26 : decode cX6_advise 26 = .ok (.getfield 16, 3) := by decide +kernel
theorem dX6_advise_29 : decode cX6_advise 29 = .ok (.aload_n 0, 1) := by decide +kernel
theorem dX6_advise_30 : decode cX6_advise 30 = .ok (.getfield 10, 3) := by decide +kernel
theorem dX6_advise_33 : decode cX6_advise 33 = .ok (.invokevirtual 184, 3) := by decide +kernel
theorem dX6_advise_36 : decode cX6_advise 36 = .ok (.aload_n 0, 1) := by decide +kernel
theorem dX6_advise_37 : decode cX6_advise 37 = .ok (.getfield 16, 3) := by decide +kernel
theorem dX6_advise_40 : decode cX6_advise 40 = .ok (.iload 4, 2) := by decide +kernel
theorem dX6_advise_42 : decode cX6_advise 42 = .ok (.putfield 37, 3) := by decide +kernel
theorem dX6_advise_45 : decode cX6_advise 45 = .ok (.aload_n 0, 1) := by decide +kernel
theorem dX6_advise_46 : decode cX6_advise 46 = .ok (.getfield 16, 3) := by decide +kernel
theorem dX6_advise_49 : decode cX6_advise 49 = .ok (.iload_n 1, 1) := by decide +kernel
theorem dX6_advise_50 : decode cX6_advise 50 = .ok (.invokevirtual 137, 3) := by decide +kernel
theorem dX6_advise_53 : decode cX6_advise 53 = .ok (.pop, 1) := by decide +kernel
theorem dX6_advise_54 : decode cX6_advise 54 = .ok (.aload_n 0, 1) := by decide +kernel
theorem dX6_advise_55 : decode cX6_advise 55 = .ok (.getfield 16, 3) := by decide +kernel
theorem dX6_advise_58 : decode cX6_advise 58 = .ok (.invokevirtual 191, 3) := by decide +kernel
theorem dX6_advise_61 : decode cX6_advise 61 = .ok (.istore 5, 2) := by decide +kernel
theorem dX6_advise_63 : decode cX6_advise 63 = .ok (.iload 5, 2) := by decide +kernel
theorem dX6_advise_65 : decode cX6_advise 65 = .ok (.iload_n 3, 1) := by decide +kernel
theorem dX6_advise_66 : decode cX6_advise 66 = .ok (.if_icmp .le 9, 3) := by decide +kernel
theorem dX6_advise_69 : decode cX6_advise 69 = .ok (.iload 4, 2) := by decide +kernel
theorem dX6_advise_71 : decode cX6_advise 71 = .ok (.istore_n 2, 1) := by decide +kernel
theorem dX6_advise_72 : decode cX6_advise 72 = .ok (.iload 5, 2) := by decide +kernel
theorem dX6_advise_74 : decode cX6_advise 74 = .ok (.istore_n 3, 1) := by decide +kernel
theorem dX6_advise_75 : decode cX6_advise 75 = .ok (.iinc 4 1, 3) := by decide +kernel
theorem dX6_advise_78 : decode cX6_advise 78 = .ok (.goto (-60), 3) := by decide +kernel
theorem dX6_advise_81 : decode cX6_advise 81 = .ok (.iload_n 2, 1) := by decide +kernel
theorem dX6_advise_82 : decode cX6_advise 82 = .ok (.ireturn, 1) := by decide +kernel
theorem dX6_bestWater_0 : decode cX6_bestWater 0 = .ok (.aload_n 0, 1) := by decide +kernel
theorem dX6_bestWater_1 : decode cX6_bestWater 1 = .ok (.iload_n 1, 1) := by decide +kernel
theorem dX6_bestWater_2 : decode cX6_bestWater 2 = .ok (.invokevirtual 145, 3) := by decide +kernel
theorem dX6_bestWater_5 : decode cX6_bestWater 5 = .ok (.astore_n 3, 1) := by decide +kernel
theorem dX6_bestWater_6 : decode cX6_bestWater 6 = .ok (.iload_n 2, 1) := by decide +kernel
theorem dX6_bestWater_7 : decode cX6_bestWater 7 = .ok (.ifCond .ge 13, 3) := by decide +kernel
theorem dX6_bestWater_10 : decode cX6_bestWater 10 = .ok (.new 26, 3) := by decide +kernel
theorem dX6_bestWater_13 : decode cX6_bestWater 13 = .ok (.dup, 1) := by decide +kernel
theorem dX6_bestWater_14 : decode cX6_bestWater 14 = .ok (.ldc 200, 2) := by decide +kernel
theorem dX6_bestWater_16 : decode cX6_bestWater 16 = .ok (.invokespecial 30, 3) := by decide +kernel
theorem dX6_bestWater_19 : decode cX6_bestWater 19 = .ok (.athrow, 1) := by decide +kernel
theorem dX6_bestWater_20 : decode cX6_bestWater 20 = .ok (.aload_n 3, 1) := by decide +kernel
theorem dX6_bestWater_21 : decode cX6_bestWater 21 = .ok (.invokevirtual 158, 3) := by decide +kernel
theorem dX6_bestWater_24 : decode cX6_bestWater 24 = .ok (.ifCond .ne 5, 3) := by decide +kernel
theorem dX6_bestWater_27 : decode cX6_bestWater 27 = .ok (.iconst (-1), 1) := by decide +kernel
theorem dX6_bestWater_28 : decode cX6_bestWater 28 = .ok (.ireturn, 1) := by decide +kernel
theorem dX6_bestWater_29 : decode cX6_bestWater 29 = .ok (.iconst (-1), 1) := by decide +kernel
theorem dX6_bestWater_30 : decode cX6_bestWater 30 = .ok (.istore 4, 2) := by decide +kernel
theorem dX6_bestWater_32 : decode cX6_bestWater 32 = .ok (.iconst (-1), 1) := by decide +kernel
theorem dX6_bestWater_33 : decode cX6_bestWater 33 = .ok (.istore 5, 2) := by decide +kernel
theorem dX6_bestWater_35 : decode cX6_bestWater 35 = .ok (.bipush 10, 2) := by decide +kernel
theorem dX6_bestWater_37 : decode cX6_bestWater 37 = .ok (.istore 6, 2) := by decide +kernel
theorem dX6_bestWater_39 : decode cX6_bestWater 39 = .ok (.iload 6, 2) := by decide +kernel
theorem dX6_bestWater_41 : decode cX6_bestWater 41 = .ok (.bipush 90, 2) := by decide +kernel
theorem dX6_bestWater_43 : decode cX6_bestWater 43 = .ok (.if_icmp .gt 57, 3) := by decide +kernel
theorem dX6_bestWater_46 : decode cX6_bestWater 46 = .ok (.aload_n 3, 1) := by decide +kernel
theorem dX6_bestWater_47 : decode cX6_bestWater 47 = .ok (.getfield 202, 3) := by decide +kernel
theorem dX6_bestWater_50 : decode cX6_bestWater 50 = .ok (.iload 6, 2) := by decide +kernel
theorem dX6_bestWater_52 : decode cX6_bestWater 52 = .ok (.invokestatic 205, 3) := by decide +kernel
theorem dX6_bestWater_55 : decode cX6_bestWater 55 = .ok (.istore 7, 2) := by decide +kernel
theorem dX6_bestWater_57 : decode cX6_bestWater 57 = .ok (.aload_n 3, 1) := by decide +kernel
theorem dX6_bestWater_58 : decode cX6_bestWater 58 = .ok (.getfield 209, 3) := by decide +kernel
theorem dX6_bestWater_61 : decode cX6_bestWater 61 = .ok (.iload 6, 2) := by decide +kernel
theorem dX6_bestWater_63 : decode cX6_bestWater 63 = .ok (.invokestatic 212, 3) := by decide +kernel
theorem dX6_bestWater_66 : decode cX6_bestWater 66 = .ok (.iload 7, 2) := by decide +kernel
theorem dX6_bestWater_68 : decode cX6_bestWater 68 = .ok (.invokestatic 215, 3) := by decide +kernel
theorem dX6_bestWater_71 : decode cX6_bestWater 71 = .ok (.istore 8, 2) := by decide +kernel
theorem dX6_bestWater_73 : decode cX6_bestWater 73 = .ok (.iload 7, 2) := by decide +kernel
theorem dX6_bestWater_75 : decode cX6_bestWater 75 = .ok (.iload_n 2, 1) := by decide +kernel
theorem dX6_bestWater_76 : decode cX6_bestWater 76 = .ok (.if_icmp .lt 18, 3) := by decide +kernel
theorem dX6_bestWater_79 : decode cX6_bestWater 79 = .ok (.iload 8, 2) := by decide +kernel
theorem dX6_bestWater_81 : decode cX6_bestWater 81 = .ok (.iload 5, 2) := by decide +kernel
theorem dX6_bestWater_83 : decode cX6_bestWater 83 = .ok (.if_icmp .le 11, 3) := by decide +kernel
theorem dX6_bestWater_86 : decode cX6_bestWater 86 = .ok (.iload 6, 2) := by decide +kernel
theorem dX6_bestWater_88 : decode cX6_bestWater 88 = .ok (.istore 4, 2) := by decide +kernel
theorem dX6_bestWater_90 : decode cX6_bestWater 90 = .ok (.iload 8, 2) := by decide +kernel
theorem dX6_bestWater_92 : decode cX6_bestWater 92 = .ok (.istore 5, 2) := by decide +kernel
theorem dX6_bestWater_94 : decode cX6_bestWater 94 = .ok (.iinc 6 1, 3) := by decide +kernel
theorem dX6_bestWater_97 : decode cX6_bestWater 97 = .ok (.goto (-58), 3) := by decide +kernel
theorem dX6_bestWater_100 : decode cX6_bestWater 100 = .ok (.iload 4, 2) := by decide +kernel
theorem dX6_bestWater_102 : decode cX6_bestWater 102 = .ok (.ireturn, 1) := by decide +kernel
theorem dX6_share_0 : decode cX6_share 0 = .ok (.aload_n 0, 1) := by decide +kernel
theorem dX6_share_1 : decode cX6_share 1 = .ok (.getfield 10, 3) := by decide +kernel
theorem dX6_share_4 : decode cX6_share 4 = .ok (.getfield 218, 3) := by decide +kernel
theorem dX6_share_7 : decode cX6_share 7 = .ok (.i2l, 1) := by decide +kernel
theorem dX6_share_8 : decode cX6_share 8 = .ok (.aload_n 0, 1) := by decide +kernel
theorem dX6_share_9 : decode cX6_share 9 = .ok (.getfield 10, 3) := by decide +kernel
theorem dX6_share_12 : decode cX6_share 12 = .ok (.getfield 194, 3) := by decide +kernel
theorem dX6_share_15 : decode cX6_share 15 = .ok (.i2l, 1) := by decide +kernel
theorem dX6_share_16 : decode cX6_share 16 = .ok (.ladd, 1) := by decide +kernel
theorem dX6_share_17 : decode cX6_share 17 = .ok (.aload_n 0, 1) := by decide +kernel
theorem dX6_share_18 : decode cX6_share 18 = .ok (.getfield 10, 3) := by decide +kernel
theorem dX6_share_21 : decode cX6_share 21 = .ok (.getfield 221, 3) := by decide +kernel
theorem dX6_share_24 : decode cX6_share 24 = .ok (.getfield 202, 3) := by decide +kernel
theorem dX6_share_27 : decode cX6_share 27 = .ok (.i2l, 1) := by decide +kernel
theorem dX6_share_28 : decode cX6_share 28 = .ok (.ladd, 1) := by decide +kernel
theorem dX6_share_29 : decode cX6_share 29 = .ok (.lstore_n 1, 1) := by decide +kernel
theorem dX6_share_30 : decode cX6_share 30 = .ok (.lload_n 1, 1) := by decide +kernel
theorem dX6_share_31 : decode cX6_share 31 = .ok (.lconst 0, 1) := by decide +kernel
theorem dX6_share_32 : decode cX6_share 32 = .ok (.lcmp, 1) := by decide +kernel
theorem dX6_share_33 : decode cX6_share 33 = .ok (.ifCond .ne 5, 3) := by decide +kernel
theorem dX6_share_36 : decode cX6_share 36 = .ok (.dconst 0, 1) := by decide +kernel
theorem dX6_share_37 : decode cX6_share 37 = .ok (.dreturn, 1) := by decide +kernel
theorem dX6_share_38 : decode cX6_share 38 = .ok (.aload_n 0, 1) := by decide +kernel
theorem dX6_share_39 : decode cX6_share 39 = .ok (.getfield 10, 3) := by decide +kernel
theorem dX6_share_42 : decode cX6_share 42 = .ok (.getfield 218, 3) := by decide +kernel
theorem dX6_share_45 : decode cX6_share 45 = .ok (.i2d, 1) := by decide +kernel
theorem dX6_share_46 : decode cX6_share 46 = .ok (.lload_n 1, 1) := by decide +kernel
theorem dX6_share_47 : decode cX6_share 47 = .ok (.l2d, 1) := by decide +kernel
theorem dX6_share_48 : decode cX6_share 48 = .ok (.ddiv, 1) := by decide +kernel
theorem dX6_share_49 : decode cX6_share 49 = .ok (.dreturn, 1) := by decide +kernel
theorem dX6_digest_0 : decode cX6_digest 0 = .ok (.ldc2_w 224, 3) := by decide +kernel
theorem dX6_digest_3 : decode cX6_digest 3 = .ok (.lstore_n 1, 1) := by decide +kernel
theorem dX6_digest_4 : decode cX6_digest 4 = .ok (.iconst 0, 1) := by decide +kernel
theorem dX6_digest_5 : decode cX6_digest 5 = .ok (.istore_n 3, 1) := by decide +kernel
theorem dX6_digest_6 : decode cX6_digest 6 = .ok (.iload_n 3, 1) := by decide +kernel
theorem dX6_digest_7 : decode cX6_digest 7 = .ok (.bipush 14, 2) := by decide +kernel
theorem dX6_digest_9 : decode cX6_digest 9 = .ok (.if_icmp .ge 23, 3) := by decide +kernel
theorem dX6_digest_12 : decode cX6_digest 12 = .ok (.lload_n 1, 1) := by decide +kernel
theorem dX6_digest_13 : decode cX6_digest 13 = .ok (.aload_n 0, 1) := by decide +kernel
theorem dX6_digest_14 : decode cX6_digest 14 = .ok (.getfield 10, 3) := by decide +kernel
theorem dX6_digest_17 : decode cX6_digest 17 = .ok (.iload_n 3, 1) := by decide +kernel
theorem dX6_digest_18 : decode cX6_digest 18 = .ok (.invokevirtual 142, 3) := by decide +kernel
theorem dX6_digest_21 : decode cX6_digest 21 = .ok (.i2l, 1) := by decide +kernel
theorem dX6_digest_22 : decode cX6_digest 22 = .ok (.invokestatic 226, 3) := by decide +kernel
theorem dX6_digest_25 : decode cX6_digest 25 = .ok (.lstore_n 1, 1) := by decide +kernel
theorem dX6_digest_26 : decode cX6_digest 26 = .ok (.iinc 3 1, 3) := by decide +kernel
theorem dX6_digest_29 : decode cX6_digest 29 = .ok (.goto (-23), 3) := by decide +kernel
theorem dX6_digest_32 : decode cX6_digest 32 = .ok (.iconst 0, 1) := by decide +kernel
theorem dX6_digest_33 : decode cX6_digest 33 = .ok (.istore_n 3, 1) := by decide +kernel
theorem dX6_digest_34 : decode cX6_digest 34 = .ok (.iload_n 3, 1) := by decide +kernel
theorem dX6_digest_35 : decode cX6_digest 35 = .ok (.bipush 24, 2) := by decide +kernel
theorem dX6_digest_37 : decode cX6_digest 37 = .ok (.if_icmp .ge 24, 3) := by decide +kernel
theorem dX6_digest_40 : decode cX6_digest 40 = .ok (.lload_n 1, 1) := by decide +kernel
theorem dX6_digest_41 : decode cX6_digest 41 = .ok (.aload_n 0, 1) := by decide +kernel
theorem dX6_digest_42 : decode cX6_digest 42 = .ok (.getfield 10, 3) := by decide +kernel
theorem dX6_digest_45 : decode cX6_digest 45 = .ok (.getfield 31, 3) := by decide +kernel
theorem dX6_digest_48 : decode cX6_digest 48 = .ok (.iload_n 3, 1) := by decide +kernel
theorem dX6_digest_49 : decode cX6_digest 49 = .ok (.iaload, 1) := by decide +kernel
theorem dX6_digest_50 : decode cX6_digest 50 = .ok (.i2l, 1) := by decide +kernel
theorem dX6_digest_51 : decode cX6_digest 51 = .ok (.invokestatic 226, 3) := by decide +kernel
theorem dX6_digest_54 : decode cX6_digest 54 = .ok (.lstore_n 1, 1) := by decide +kernel
theorem dX6_digest_55 : decode cX6_digest 55 = .ok (.iinc 3 1, 3) := by decide +kernel
theorem dX6_digest_58 : decode cX6_digest 58 = .ok (.goto (-24), 3) := by decide +kernel
theorem dX6_digest_61 : decode cX6_digest 61 = .ok (.iconst 0, 1) := by decide +kernel
theorem dX6_digest_62 : decode cX6_digest 62 = .ok (.istore_n 3, 1) := by decide +kernel
theorem dX6_digest_63 : decode cX6_digest 63 = .ok (.iload_n 3, 1) := by decide +kernel
theorem dX6_digest_64 : decode cX6_digest 64 = .ok (.aload_n 0, 1) := by decide +kernel
theorem dX6_digest_65 : decode cX6_digest 65 = .ok (.getfield 10, 3) := by decide +kernel
theorem dX6_digest_68 : decode cX6_digest 68 = .ok (.getfield 41, 3) := by decide +kernel
theorem dX6_digest_71 : decode cX6_digest 71 = .ok (.if_icmp .ge 23, 3) := by decide +kernel
theorem dX6_digest_74 : decode cX6_digest 74 = .ok (.lload_n 1, 1) := by decide +kernel
theorem dX6_digest_75 : decode cX6_digest 75 = .ok (.aload_n 0, 1) := by decide +kernel
theorem dX6_digest_76 : decode cX6_digest 76 = .ok (.getfield 10, 3) := by decide +kernel
theorem dX6_digest_79 : decode cX6_digest 79 = .ok (.getfield 230, 3) := by decide +kernel
theorem dX6_digest_82 : decode cX6_digest 82 = .ok (.iload_n 3, 1) := by decide +kernel
theorem dX6_digest_83 : decode cX6_digest 83 = .ok (.aaload, 1) := by decide +kernel
theorem dX6_digest_84 : decode cX6_digest 84 = .ok (.invokestatic 234, 3) := by decide +kernel
theorem dX6_digest_87 : decode cX6_digest 87 = .ok (.lstore_n 1, 1) := by decide +kernel
theorem dX6_digest_88 : decode cX6_digest 88 = .ok (.iinc 3 1, 3) := by decide +kernel
theorem dX6_digest_91 : decode cX6_digest 91 = .ok (.goto (-28), 3) := by decide +kernel
theorem dX6_digest_94 : decode cX6_digest 94 = .ok (.iconst 0, 1) := by decide +kernel
theorem dX6_digest_95 : decode cX6_digest 95 = .ok (.istore_n 3, 1) := by decide +kernel
theorem dX6_digest_96 : decode cX6_digest 96 = .ok (.iload_n 3, 1) := by decide +kernel
theorem dX6_digest_97 : decode cX6_digest 97 = .ok (.aload_n 0, 1) := by decide +kernel
theorem dX6_digest_98 : decode cX6_digest 98 = .ok (.getfield 10, 3) := by decide +kernel
theorem dX6_digest_101 : decode cX6_digest 101 = .ok (.getfield 104, 3) := by decide +kernel
theorem dX6_digest_104 : decode cX6_digest 104 = .ok (.getfield 114, 3) := by decide +kernel
theorem dX6_digest_107 : decode cX6_digest 107 = .ok (.if_icmp .ge 25, 3) := by decide +kernel
theorem dX6_digest_110 : decode cX6_digest 110 = .ok (.lload_n 1, 1) := by decide +kernel
theorem dX6_digest_111 : decode cX6_digest 111 = .ok (.aload_n 0, 1) := by decide +kernel
theorem dX6_digest_112 : decode cX6_digest 112 = .ok (.getfield 10, 3) := by decide +kernel
theorem dX6_digest_115 : decode cX6_digest 115 = .ok (.getfield 104, 3) := by decide +kernel
theorem dX6_digest_118 : decode cX6_digest 118 = .ok (.iload_n 3, 1) := by decide +kernel
theorem dX6_digest_119 : decode cX6_digest 119 = .ok (.invokevirtual 121, 3) := by decide +kernel
theorem dX6_digest_122 : decode cX6_digest 122 = .ok (.invokestatic 238, 3) := by decide +kernel
theorem dX6_digest_125 : decode cX6_digest 125 = .ok (.lstore_n 1, 1) := by decide +kernel
theorem dX6_digest_126 : decode cX6_digest 126 = .ok (.iinc 3 1, 3) := by decide +kernel
theorem dX6_digest_129 : decode cX6_digest 129 = .ok (.goto (-33), 3) := by decide +kernel
theorem dX6_digest_132 : decode cX6_digest 132 = .ok (.iconst 0, 1) := by decide +kernel
theorem dX6_digest_133 : decode cX6_digest 133 = .ok (.istore_n 3, 1) := by decide +kernel
theorem dX6_digest_134 : decode cX6_digest 134 = .ok (.iload_n 3, 1) := by decide +kernel
theorem dX6_digest_135 : decode cX6_digest 135 = .ok (.iconst 3, 1) := by decide +kernel
theorem dX6_digest_136 : decode cX6_digest 136 = .ok (.if_icmp .ge 23, 3) := by decide +kernel
theorem dX6_digest_139 : decode cX6_digest 139 = .ok (.lload_n 1, 1) := by decide +kernel
theorem dX6_digest_140 : decode cX6_digest 140 = .ok (.aload_n 0, 1) := by decide +kernel
theorem dX6_digest_141 : decode cX6_digest 141 = .ok (.getfield 10, 3) := by decide +kernel
theorem dX6_digest_144 : decode cX6_digest 144 = .ok (.getfield 242, 3) := by decide +kernel
theorem dX6_digest_147 : decode cX6_digest 147 = .ok (.iload_n 3, 1) := by decide +kernel
theorem dX6_digest_148 : decode cX6_digest 148 = .ok (.aaload, 1) := by decide +kernel
theorem dX6_digest_149 : decode cX6_digest 149 = .ok (.invokestatic 246, 3) := by decide +kernel
theorem dX6_digest_152 : decode cX6_digest 152 = .ok (.lstore_n 1, 1) := by decide +kernel
theorem dX6_digest_153 : decode cX6_digest 153 = .ok (.iinc 3 1, 3) := by decide +kernel
theorem dX6_digest_156 : decode cX6_digest 156 = .ok (.goto (-22), 3) := by decide +kernel
theorem dX6_digest_159 : decode cX6_digest 159 = .ok (.lload_n 1, 1) := by decide +kernel
theorem dX6_digest_160 : decode cX6_digest 160 = .ok (.lreturn, 1) := by decide +kernel
theorem dX6_boxNumbered_0 : decode cX6_boxNumbered 0 = .ok (.iload_n 1, 1) := by decide +kernel
theorem dX6_boxNumbered_1 : decode cX6_boxNumbered 1 = .ok (.ifCond .lt 14, 3) := by decide +kernel
theorem dX6_boxNumbered_4 : decode cX6_boxNumbered 4 = .ok (.iload_n 1, 1) := by decide +kernel
theorem dX6_boxNumbered_5 : decode cX6_boxNumbered 5 = .ok (.aload_n 0, 1) := by decide +kernel
theorem dX6_boxNumbered_6 : decode cX6_boxNumbered 6 = .ok (.getfield 10, 3) := by decide +kernel
theorem dX6_boxNumbered_9 : decode cX6_boxNumbered 9 = .ok (.getfield 41, 3) := by decide +kernel
theorem dX6_boxNumbered_12 : decode cX6_boxNumbered 12 = .ok (.if_icmp .lt 13, 3) := by decide +kernel
theorem dX6_boxNumbered_15 : decode cX6_boxNumbered 15 = .ok (.new 19, 3) := by decide +kernel
theorem dX6_boxNumbered_18 : decode cX6_boxNumbered 18 = .ok (.dup, 1) := by decide +kernel
theorem dX6_boxNumbered_19 : decode cX6_boxNumbered 19 = .ok (.ldc 250, 2) := by decide +kernel
theorem dX6_boxNumbered_21 : decode cX6_boxNumbered 21 = .ok (.invokespecial 23, 3) := by decide +kernel
theorem dX6_boxNumbered_24 : decode cX6_boxNumbered 24 = .ok (.athrow, 1) := by decide +kernel
theorem dX6_boxNumbered_25 : decode cX6_boxNumbered 25 = .ok (.aload_n 0, 1) := by decide +kernel
theorem dX6_boxNumbered_26 : decode cX6_boxNumbered 26 = .ok (.getfield 10, 3) := by decide +kernel
theorem dX6_boxNumbered_29 : decode cX6_boxNumbered 29 = .ok (.getfield 230, 3) := by decide +kernel
theorem dX6_boxNumbered_32 : decode cX6_boxNumbered 32 = .ok (.iload_n 1, 1) := by decide +kernel
theorem dX6_boxNumbered_33 : decode cX6_boxNumbered 33 = .ok (.aaload, 1) := by decide +kernel
theorem dX6_boxNumbered_34 : decode cX6_boxNumbered 34 = .ok (.areturn, 1) := by decide +kernel
theorem dX6_buddleNumbered_0 : decode cX6_buddleNumbered 0 = .ok (.iload_n 1, 1) := by decide +kernel
theorem dX6_buddleNumbered_1 : decode cX6_buddleNumbered 1 = .ok (.ifCond .lt 8, 3) := by decide +kernel
theorem dX6_buddleNumbered_4 : decode cX6_buddleNumbered 4 = .ok (.iload_n 1, 1) := by decide +kernel
theorem dX6_buddleNumbered_5 : decode cX6_buddleNumbered 5 = .ok (.iconst 3, 1) := by decide +kernel
theorem dX6_buddleNumbered_6 : decode cX6_buddleNumbered 6 = .ok (.if_icmp .lt 13, 3) := by decide +kernel
theorem dX6_buddleNumbered_9 : decode cX6_buddleNumbered 9 = .ok (.new 19, 3) := by decide +kernel
theorem dX6_buddleNumbered_12 : decode cX6_buddleNumbered 12 = .ok (.dup, 1) := by decide +kernel
theorem dX6_buddleNumbered_13 : decode cX6_buddleNumbered 13 = .ok (.ldc 81, 2) := by decide +kernel
theorem dX6_buddleNumbered_15 : decode cX6_buddleNumbered 15 = .ok (.invokespecial 23, 3) := by decide +kernel
theorem dX6_buddleNumbered_18 : decode cX6_buddleNumbered 18 = .ok (.athrow, 1) := by decide +kernel
theorem dX6_buddleNumbered_19 : decode cX6_buddleNumbered 19 = .ok (.aload_n 0, 1) := by decide +kernel
theorem dX6_buddleNumbered_20 : decode cX6_buddleNumbered 20 = .ok (.getfield 10, 3) := by decide +kernel
theorem dX6_buddleNumbered_23 : decode cX6_buddleNumbered 23 = .ok (.getfield 242, 3) := by decide +kernel
theorem dX6_buddleNumbered_26 : decode cX6_buddleNumbered 26 = .ok (.iload_n 1, 1) := by decide +kernel
theorem dX6_buddleNumbered_27 : decode cX6_buddleNumbered 27 = .ok (.aaload, 1) := by decide +kernel
theorem dX6_buddleNumbered_28 : decode cX6_buddleNumbered 28 = .ok (.areturn, 1) := by decide +kernel
theorem dX6_refuseFullHopper_0 : decode cX6_refuseFullHopper 0 = .ok (.aload_n 0, 1) := by decide +kernel
theorem dX6_refuseFullHopper_1 : decode cX6_refuseFullHopper 1 = .ok (.getfield 10, 3) := by decide +kernel
theorem dX6_refuseFullHopper_4 : decode cX6_refuseFullHopper 4 = .ok (.getfield 104, 3) := by decide +kernel
theorem dX6_refuseFullHopper_7 : decode cX6_refuseFullHopper 7 = .ok (.getfield 114, 3) := by decide +kernel
theorem dX6_refuseFullHopper_10 : decode cX6_refuseFullHopper 10 = .ok (.bipush 30, 2) := by decide +kernel
theorem dX6_refuseFullHopper_12 : decode cX6_refuseFullHopper 12 = .ok (.if_icmp .lt 13, 3) := by decide +kernel
theorem dX6_refuseFullHopper_15 : decode cX6_refuseFullHopper 15 = .ok (.new 44, 3) := by decide +kernel
theorem dX6_refuseFullHopper_18 : decode cX6_refuseFullHopper 18 = .ok (.dup, 1) := by decide +kernel
theorem dX6_refuseFullHopper_19 : decode cX6_refuseFullHopper 19 = .ok (.ldc 252, 2) := by decide +kernel
theorem dX6_refuseFullHopper_21 : decode cX6_refuseFullHopper 21 = .ok (.invokespecial 48, 3) := by decide +kernel
theorem dX6_refuseFullHopper_24 : decode cX6_refuseFullHopper 24 = .ok (.athrow, 1) := by decide +kernel
theorem dX6_refuseFullHopper_25 : decode cX6_refuseFullHopper 25 = .ok (.return_, 1) := by decide +kernel
theorem dX6_refuseHours_0 : decode cX6_refuseHours 0 = .ok (.iload_n 0, 1) := by decide +kernel
theorem dX6_refuseHours_1 : decode cX6_refuseHours 1 = .ok (.iconst 1, 1) := by decide +kernel
theorem dX6_refuseHours_2 : decode cX6_refuseHours 2 = .ok (.if_icmp .lt 8, 3) := by decide +kernel
theorem dX6_refuseHours_5 : decode cX6_refuseHours 5 = .ok (.iload_n 0, 1) := by decide +kernel
theorem dX6_refuseHours_6 : decode cX6_refuseHours 6 = .ok (.iload_n 1, 1) := by decide +kernel
theorem dX6_refuseHours_7 : decode cX6_refuseHours 7 = .ok (.if_icmp .le 13, 3) := by decide +kernel
theorem dX6_refuseHours_10 : decode cX6_refuseHours 10 = .ok (.new 26, 3) := by decide +kernel
theorem dX6_refuseHours_13 : decode cX6_refuseHours 13 = .ok (.dup, 1) := by decide +kernel
theorem dX6_refuseHours_14 : decode cX6_refuseHours 14 = .ok (.ldc 254, 2) := by decide +kernel
theorem dX6_refuseHours_16 : decode cX6_refuseHours 16 = .ok (.invokespecial 30, 3) := by decide +kernel
theorem dX6_refuseHours_19 : decode cX6_refuseHours 19 = .ok (.athrow, 1) := by decide +kernel
theorem dX6_refuseHours_20 : decode cX6_refuseHours 20 = .ok (.return_, 1) := by decide +kernel
theorem dX6_refuseLateHour_0 : decode cX6_refuseLateHour 0 = .ok (.iload_n 1, 1) := by decide +kernel
theorem dX6_refuseLateHour_1 : decode cX6_refuseLateHour 1 = .ok (.sipush 5000, 3) := by decide +kernel
theorem dX6_refuseLateHour_4 : decode cX6_refuseLateHour 4 = .ok (.aload_n 0, 1) := by decide +kernel
theorem dX6_refuseLateHour_5 : decode cX6_refuseLateHour 5 = .ok (.getfield 10, 3) := by decide +kernel
theorem dX6_refuseLateHour_8 : decode cX6_refuseLateHour 8 = .ok (.getfield 256, 3) := by decide +kernel
theorem dX6_refuseLateHour_11 : decode cX6_refuseLateHour 11 = .ok (.isub, 1) := by decide +kernel
theorem dX6_refuseLateHour_12 : decode cX6_refuseLateHour 12 = .ok (.if_icmp .le 14, 3) := by decide +kernel
theorem dX6_refuseLateHour_15 : decode cX6_refuseLateHour 15 = .ok (.new 44, 3) := by decide +kernel
theorem dX6_refuseLateHour_18 : decode cX6_refuseLateHour 18 = .ok (.dup, 1) := by decide +kernel
theorem dX6_refuseLateHour_19 : decode cX6_refuseLateHour 19 = .ok (.ldc_w 259, 3) := by decide +kernel
theorem dX6_refuseLateHour_22 : decode cX6_refuseLateHour 22 = .ok (.invokespecial 48, 3) := by decide +kernel
theorem dX6_refuseLateHour_25 : decode cX6_refuseLateHour 25 = .ok (.athrow, 1) := by decide +kernel
theorem dX6_refuseLateHour_26 : decode cX6_refuseLateHour 26 = .ok (.return_, 1) := by decide +kernel
theorem dX6_join_0 : decode cX6_join 0 = .ok (.lload_n 0, 1) := by decide +kernel
theorem dX6_join_1 : decode cX6_join 1 = .ok (.ldc2_w 261, 3) := by decide +kernel
theorem dX6_join_4 : decode cX6_join 4 = .ok (.lmul, 1) := by decide +kernel
theorem dX6_join_5 : decode cX6_join 5 = .ok (.lload_n 2, 1) := by decide +kernel
theorem dX6_join_6 : decode cX6_join 6 = .ok (.ladd, 1) := by decide +kernel
theorem dX6_join_7 : decode cX6_join 7 = .ok (.lreturn, 1) := by decide +kernel
theorem dX6_joinBox_0 : decode cX6_joinBox 0 = .ok (.lload_n 0, 1) := by decide +kernel
theorem dX6_joinBox_1 : decode cX6_joinBox 1 = .ok (.lstore_n 3, 1) := by decide +kernel
theorem dX6_joinBox_2 : decode cX6_joinBox 2 = .ok (.iconst 0, 1) := by decide +kernel
theorem dX6_joinBox_3 : decode cX6_joinBox 3 = .ok (.istore 5, 2) := by decide +kernel
theorem dX6_joinBox_5 : decode cX6_joinBox 5 = .ok (.iload 5, 2) := by decide +kernel
theorem dX6_joinBox_7 : decode cX6_joinBox 7 = .ok (.bipush 12, 2) := by decide +kernel
theorem dX6_joinBox_9 : decode cX6_joinBox 9 = .ok (.if_icmp .ge 21, 3) := by decide +kernel
theorem dX6_joinBox_12 : decode cX6_joinBox 12 = .ok (.lload_n 3, 1) := by decide +kernel
theorem dX6_joinBox_13 : decode cX6_joinBox 13 = .ok (.aload_n 2, 1) := by decide +kernel
theorem dX6_joinBox_14 : decode cX6_joinBox 14 = .ok (.iload 5, 2) := by decide +kernel
theorem dX6_joinBox_16 : decode cX6_joinBox 16 = .ok (.invokevirtual 91, 3) := by decide +kernel
theorem dX6_joinBox_19 : decode cX6_joinBox 19 = .ok (.i2l, 1) := by decide +kernel
theorem dX6_joinBox_20 : decode cX6_joinBox 20 = .ok (.invokestatic 226, 3) := by decide +kernel
theorem dX6_joinBox_23 : decode cX6_joinBox 23 = .ok (.lstore_n 3, 1) := by decide +kernel
theorem dX6_joinBox_24 : decode cX6_joinBox 24 = .ok (.iinc 5 1, 3) := by decide +kernel
theorem dX6_joinBox_27 : decode cX6_joinBox 27 = .ok (.goto (-22), 3) := by decide +kernel
theorem dX6_joinBox_30 : decode cX6_joinBox 30 = .ok (.iconst 0, 1) := by decide +kernel
theorem dX6_joinBox_31 : decode cX6_joinBox 31 = .ok (.istore 5, 2) := by decide +kernel
theorem dX6_joinBox_33 : decode cX6_joinBox 33 = .ok (.iload 5, 2) := by decide +kernel
theorem dX6_joinBox_35 : decode cX6_joinBox 35 = .ok (.aload_n 2, 1) := by decide +kernel
theorem dX6_joinBox_36 : decode cX6_joinBox 36 = .ok (.getfield 57, 3) := by decide +kernel
theorem dX6_joinBox_39 : decode cX6_joinBox 39 = .ok (.if_icmp .ge 57, 3) := by decide +kernel
theorem dX6_joinBox_42 : decode cX6_joinBox 42 = .ok (.lload_n 3, 1) := by decide +kernel
theorem dX6_joinBox_43 : decode cX6_joinBox 43 = .ok (.aload_n 2, 1) := by decide +kernel
theorem dX6_joinBox_44 : decode cX6_joinBox 44 = .ok (.getfield 70, 3) := by decide +kernel
theorem dX6_joinBox_47 : decode cX6_joinBox 47 = .ok (.iload 5, 2) := by decide +kernel
theorem dX6_joinBox_49 : decode cX6_joinBox 49 = .ok (.aaload, 1) := by decide +kernel
theorem dX6_joinBox_50 : decode cX6_joinBox 50 = .ok (.getfield 263, 3) := by decide +kernel
theorem dX6_joinBox_53 : decode cX6_joinBox 53 = .ok (.i2l, 1) := by decide +kernel
theorem dX6_joinBox_54 : decode cX6_joinBox 54 = .ok (.invokestatic 226, 3) := by decide +kernel
theorem dX6_joinBox_57 : decode cX6_joinBox 57 = .ok (.lstore_n 3, 1) := by decide +kernel
theorem dX6_joinBox_58 : decode cX6_joinBox 58 = .ok (.lload_n 3, 1) := by decide +kernel
theorem dX6_joinBox_59 : decode cX6_joinBox 59 = .ok (.aload_n 2, 1) := by decide +kernel
theorem dX6_joinBox_60 : decode cX6_joinBox 60 = .ok (.getfield 70, 3) := by decide +kernel
theorem dX6_joinBox_63 : decode cX6_joinBox 63 = .ok (.iload 5, 2) := by decide +kernel
theorem dX6_joinBox_65 : decode cX6_joinBox 65 = .ok (.aaload, 1) := by decide +kernel
theorem dX6_joinBox_66 : decode cX6_joinBox 66 = .ok (.getfield 266, 3) := by decide +kernel
theorem dX6_joinBox_69 : decode cX6_joinBox 69 = .ok (.i2l, 1) := by decide +kernel
theorem dX6_joinBox_70 : decode cX6_joinBox 70 = .ok (.invokestatic 226, 3) := by decide +kernel
theorem dX6_joinBox_73 : decode cX6_joinBox 73 = .ok (.lstore_n 3, 1) := by decide +kernel
theorem dX6_joinBox_74 : decode cX6_joinBox 74 = .ok (.lload_n 3, 1) := by decide +kernel
theorem dX6_joinBox_75 : decode cX6_joinBox 75 = .ok (.aload_n 2, 1) := by decide +kernel
theorem dX6_joinBox_76 : decode cX6_joinBox 76 = .ok (.getfield 70, 3) := by decide +kernel
theorem dX6_joinBox_79 : decode cX6_joinBox 79 = .ok (.iload 5, 2) := by decide +kernel
theorem dX6_joinBox_81 : decode cX6_joinBox 81 = .ok (.aaload, 1) := by decide +kernel
theorem dX6_joinBox_82 : decode cX6_joinBox 82 = .ok (.getfield 74, 3) := by decide +kernel
theorem dX6_joinBox_85 : decode cX6_joinBox 85 = .ok (.i2l, 1) := by decide +kernel
theorem dX6_joinBox_86 : decode cX6_joinBox 86 = .ok (.invokestatic 226, 3) := by decide +kernel
theorem dX6_joinBox_89 : decode cX6_joinBox 89 = .ok (.lstore_n 3, 1) := by decide +kernel
theorem dX6_joinBox_90 : decode cX6_joinBox 90 = .ok (.iinc 5 1, 3) := by decide +kernel
theorem dX6_joinBox_93 : decode cX6_joinBox 93 = .ok (.goto (-60), 3) := by decide +kernel
theorem dX6_joinBox_96 : decode cX6_joinBox 96 = .ok (.lload_n 3, 1) := by decide +kernel
theorem dX6_joinBox_97 : decode cX6_joinBox 97 = .ok (.lreturn, 1) := by decide +kernel
theorem dX6_joinLot_0 : decode cX6_joinLot 0 = .ok (.lload_n 0, 1) := by decide +kernel
theorem dX6_joinLot_1 : decode cX6_joinLot 1 = .ok (.lstore_n 3, 1) := by decide +kernel
theorem dX6_joinLot_2 : decode cX6_joinLot 2 = .ok (.iconst 0, 1) := by decide +kernel
theorem dX6_joinLot_3 : decode cX6_joinLot 3 = .ok (.istore 5, 2) := by decide +kernel
theorem dX6_joinLot_5 : decode cX6_joinLot 5 = .ok (.iload 5, 2) := by decide +kernel
theorem dX6_joinLot_7 : decode cX6_joinLot 7 = .ok (.iconst 3, 1) := by decide +kernel
theorem dX6_joinLot_8 : decode cX6_joinLot 8 = .ok (.if_icmp .ge 21, 3) := by decide +kernel
theorem dX6_joinLot_11 : decode cX6_joinLot 11 = .ok (.lload_n 3, 1) := by decide +kernel
theorem dX6_joinLot_12 : decode cX6_joinLot 12 = .ok (.aload_n 2, 1) := by decide +kernel
theorem dX6_joinLot_13 : decode cX6_joinLot 13 = .ok (.iload 5, 2) := by decide +kernel
theorem dX6_joinLot_15 : decode cX6_joinLot 15 = .ok (.invokevirtual 125, 3) := by decide +kernel
theorem dX6_joinLot_18 : decode cX6_joinLot 18 = .ok (.i2l, 1) := by decide +kernel
theorem dX6_joinLot_19 : decode cX6_joinLot 19 = .ok (.invokestatic 226, 3) := by decide +kernel
theorem dX6_joinLot_22 : decode cX6_joinLot 22 = .ok (.lstore_n 3, 1) := by decide +kernel
theorem dX6_joinLot_23 : decode cX6_joinLot 23 = .ok (.iinc 5 1, 3) := by decide +kernel
theorem dX6_joinLot_26 : decode cX6_joinLot 26 = .ok (.goto (-21), 3) := by decide +kernel
theorem dX6_joinLot_29 : decode cX6_joinLot 29 = .ok (.lload_n 3, 1) := by decide +kernel
theorem dX6_joinLot_30 : decode cX6_joinLot 30 = .ok (.lreturn, 1) := by decide +kernel
theorem dX6_joinBuddle_0 : decode cX6_joinBuddle 0 = .ok (.lload_n 0, 1) := by decide +kernel
theorem dX6_joinBuddle_1 : decode cX6_joinBuddle 1 = .ok (.lstore_n 3, 1) := by decide +kernel
theorem dX6_joinBuddle_2 : decode cX6_joinBuddle 2 = .ok (.iconst 0, 1) := by decide +kernel
theorem dX6_joinBuddle_3 : decode cX6_joinBuddle 3 = .ok (.istore 5, 2) := by decide +kernel
theorem dX6_joinBuddle_5 : decode cX6_joinBuddle 5 = .ok (.iload 5, 2) := by decide +kernel
theorem dX6_joinBuddle_7 : decode cX6_joinBuddle 7 = .ok (.iconst 3, 1) := by decide +kernel
theorem dX6_joinBuddle_8 : decode cX6_joinBuddle 8 = .ok (.if_icmp .ge 21, 3) := by decide +kernel
theorem dX6_joinBuddle_11 : decode cX6_joinBuddle 11 = .ok (.lload_n 3, 1) := by decide +kernel
theorem dX6_joinBuddle_12 : decode cX6_joinBuddle 12 = .ok (.aload_n 2, 1) := by decide +kernel
theorem dX6_joinBuddle_13 : decode cX6_joinBuddle 13 = .ok (.iload 5, 2) := by decide +kernel
theorem dX6_joinBuddle_15 : decode cX6_joinBuddle 15 = .ok (.invokevirtual 151, 3) := by decide +kernel
theorem dX6_joinBuddle_18 : decode cX6_joinBuddle 18 = .ok (.i2l, 1) := by decide +kernel
theorem dX6_joinBuddle_19 : decode cX6_joinBuddle 19 = .ok (.invokestatic 226, 3) := by decide +kernel
theorem dX6_joinBuddle_22 : decode cX6_joinBuddle 22 = .ok (.lstore_n 3, 1) := by decide +kernel
theorem dX6_joinBuddle_23 : decode cX6_joinBuddle 23 = .ok (.iinc 5 1, 3) := by decide +kernel
theorem dX6_joinBuddle_26 : decode cX6_joinBuddle 26 = .ok (.goto (-21), 3) := by decide +kernel
theorem dX6_joinBuddle_29 : decode cX6_joinBuddle 29 = .ok (.lload_n 3, 1) := by decide +kernel
theorem dX6_joinBuddle_30 : decode cX6_joinBuddle 30 = .ok (.lreturn, 1) := by decide +kernel
theorem dX6_gradeOf_0 : decode cX6_gradeOf 0 = .ok (.iload_n 1, 1) := by decide +kernel
theorem dX6_gradeOf_1 : decode cX6_gradeOf 1 = .ok (.sipush 1000, 3) := by decide +kernel
theorem dX6_gradeOf_4 : decode cX6_gradeOf 4 = .ok (.iload_n 0, 1) := by decide +kernel
theorem dX6_gradeOf_5 : decode cX6_gradeOf 5 = .ok (.iload_n 1, 1) := by decide +kernel
theorem dX6_gradeOf_6 : decode cX6_gradeOf 6 = .ok (.iadd, 1) := by decide +kernel
theorem dX6_gradeOf_7 : decode cX6_gradeOf 7 = .ok (.invokestatic 269, 3) := by decide +kernel
theorem dX6_gradeOf_10 : decode cX6_gradeOf 10 = .ok (.ireturn, 1) := by decide +kernel
theorem dX6_tinOfHead_0 : decode cX6_tinOfHead 0 = .ok (.iload_n 0, 1) := by decide +kernel
theorem dX6_tinOfHead_1 : decode cX6_tinOfHead 1 = .ok (.bipush 100, 2) := by decide +kernel
theorem dX6_tinOfHead_3 : decode cX6_tinOfHead 3 = .ok (.iload_n 1, 1) := by decide +kernel
theorem dX6_tinOfHead_4 : decode cX6_tinOfHead 4 = .ok (.iconst 3, 1) := by decide +kernel
theorem dX6_tinOfHead_5 : decode cX6_tinOfHead 5 = .ok (.idiv, 1) := by decide +kernel
theorem dX6_tinOfHead_6 : decode cX6_tinOfHead 6 = .ok (.isub, 1) := by decide +kernel
theorem dX6_tinOfHead_7 : decode cX6_tinOfHead 7 = .ok (.imul, 1) := by decide +kernel
theorem dX6_tinOfHead_8 : decode cX6_tinOfHead 8 = .ok (.bipush 100, 2) := by decide +kernel
theorem dX6_tinOfHead_10 : decode cX6_tinOfHead 10 = .ok (.idiv, 1) := by decide +kernel
theorem dX6_tinOfHead_11 : decode cX6_tinOfHead 11 = .ok (.ireturn, 1) := by decide +kernel
theorem dX6_rockOfHead_0 : decode cX6_rockOfHead 0 = .ok (.iload_n 0, 1) := by decide +kernel
theorem dX6_rockOfHead_1 : decode cX6_rockOfHead 1 = .ok (.bipush 100, 2) := by decide +kernel
theorem dX6_rockOfHead_3 : decode cX6_rockOfHead 3 = .ok (.iload_n 1, 1) := by decide +kernel
theorem dX6_rockOfHead_4 : decode cX6_rockOfHead 4 = .ok (.isub, 1) := by decide +kernel
theorem dX6_rockOfHead_5 : decode cX6_rockOfHead 5 = .ok (.iconst 4, 1) := by decide +kernel
theorem dX6_rockOfHead_6 : decode cX6_rockOfHead 6 = .ok (.idiv, 1) := by decide +kernel
theorem dX6_rockOfHead_7 : decode cX6_rockOfHead 7 = .ok (.imul, 1) := by decide +kernel
theorem dX6_rockOfHead_8 : decode cX6_rockOfHead 8 = .ok (.bipush 100, 2) := by decide +kernel
theorem dX6_rockOfHead_10 : decode cX6_rockOfHead 10 = .ok (.idiv, 1) := by decide +kernel
theorem dX6_rockOfHead_11 : decode cX6_rockOfHead 11 = .ok (.ireturn, 1) := by decide +kernel
theorem dX6_partOf_0 : decode cX6_partOf 0 = .ok (.iload_n 2, 1) := by decide +kernel
theorem dX6_partOf_1 : decode cX6_partOf 1 = .ok (.iconst 1, 1) := by decide +kernel
theorem dX6_partOf_2 : decode cX6_partOf 2 = .ok (.if_icmp .ge 7, 3) := by decide +kernel
theorem dX6_partOf_5 : decode cX6_partOf 5 = .ok (.iconst 0, 1) := by decide +kernel
theorem dX6_partOf_6 : decode cX6_partOf 6 = .ok (.goto 12, 3) := by decide +kernel
theorem dX6_partOf_9 : decode cX6_partOf 9 = .ok (.iload_n 0, 1) := by decide +kernel
theorem dX6_partOf_10 : decode cX6_partOf 10 = .ok (.i2l, 1) := by decide +kernel
theorem dX6_partOf_11 : decode cX6_partOf 11 = .ok (.iload_n 1, 1) := by decide +kernel
theorem dX6_partOf_12 : decode cX6_partOf 12 = .ok (.i2l, 1) := by decide +kernel
theorem dX6_partOf_13 : decode cX6_partOf 13 = .ok (.lmul, 1) := by decide +kernel
theorem dX6_partOf_14 : decode cX6_partOf 14 = .ok (.iload_n 2, 1) := by decide +kernel
theorem dX6_partOf_15 : decode cX6_partOf 15 = .ok (.i2l, 1) := by decide +kernel
theorem dX6_partOf_16 : decode cX6_partOf 16 = .ok (.ldiv, 1) := by decide +kernel
theorem dX6_partOf_17 : decode cX6_partOf 17 = .ok (.l2i, 1) := by decide +kernel
theorem dX6_partOf_18 : decode cX6_partOf 18 = .ok (.ireturn, 1) := by decide +kernel
theorem dX7_init_0 : decode cX7_init 0 = .ok (.aload_n 0, 1) := by decide +kernel
theorem dX7_init_1 : decode cX7_init 1 = .ok (.invokespecial 3, 3) := by decide +kernel
theorem dX7_init_4 : decode cX7_init 4 = .ok (.aload_n 0, 1) := by decide +kernel
theorem dX7_init_5 : decode cX7_init 5 = .ok (.sipush 10000, 3) := by decide +kernel
theorem dX7_init_8 : decode cX7_init 8 = .ok (.putfield 9, 3) := by decide +kernel
theorem dX7_init_11 : decode cX7_init 11 = .ok (.aload_n 0, 1) := by decide +kernel
theorem dX7_init_12 : decode cX7_init 12 = .ok (.iconst 5, 1) := by decide +kernel
theorem dX7_init_13 : decode cX7_init 13 = .ok (.putfield 15, 3) := by decide +kernel
theorem dX7_init_16 : decode cX7_init 16 = .ok (.aload_n 0, 1) := by decide +kernel
theorem dX7_init_17 : decode cX7_init 17 = .ok (.bipush 24, 2) := by decide +kernel
theorem dX7_init_19 : decode cX7_init 19 = .ok (.newarray .int, 2) := by decide +kernel
theorem dX7_init_21 : decode cX7_init 21 = .ok (.putfield 18, 3) := by decide +kernel
theorem dX7_init_24 : decode cX7_init 24 = .ok (.aload_n 0, 1) := by decide +kernel
theorem dX7_init_25 : decode cX7_init 25 = .ok (.iconst 4, 1) := by decide +kernel
theorem dX7_init_26 : decode cX7_init 26 = .ok (.newarray .int, 2) := by decide +kernel
theorem dX7_init_28 : decode cX7_init 28 = .ok (.putfield 22, 3) := by decide +kernel
theorem dX7_init_31 : decode cX7_init 31 = .ok (.aload_n 0, 1) := by decide +kernel
theorem dX7_init_32 : decode cX7_init 32 = .ok (.bipush 16, 2) := by decide +kernel
theorem dX7_init_34 : decode cX7_init 34 = .ok (.newarray .int, 2) := by decide +kernel
theorem dX7_init_36 : decode cX7_init 36 = .ok (.putfield 25, 3) := by decide +kernel
theorem dX7_init_39 : decode cX7_init 39 = .ok (.aload_n 0, 1) := by decide +kernel
theorem dX7_init_40 : decode cX7_init 40 = .ok (.bipush 16, 2) := by decide +kernel
theorem dX7_init_42 : decode cX7_init 42 = .ok (.newarray .int, 2) := by decide +kernel
theorem dX7_init_44 : decode cX7_init 44 = .ok (.putfield 28, 3) := by decide +kernel
theorem dX7_init_47 : decode cX7_init 47 = .ok (.aload_n 0, 1) := by decide +kernel
theorem dX7_init_48 : decode cX7_init 48 = .ok (.bipush 16, 2) := by decide +kernel
theorem dX7_init_50 : decode cX7_init 50 = .ok (.newarray .int, 2) := by decide +kernel
theorem dX7_init_52 : decode cX7_init 52 = .ok (.putfield 31, 3) := by decide +kernel
theorem dX7_init_55 : decode cX7_init 55 = .ok (.aload_n 0, 1) := by decide +kernel
theorem dX7_init_56 : decode cX7_init 56 = .ok (.iconst 4, 1) := by decide +kernel
theorem dX7_init_57 : decode cX7_init 57 = .ok (.newarray .int, 2) := by decide +kernel
theorem dX7_init_59 : decode cX7_init 59 = .ok (.putfield 34, 3) := by decide +kernel
theorem dX7_init_62 : decode cX7_init 62 = .ok (.aload_n 0, 1) := by decide +kernel
theorem dX7_init_63 : decode cX7_init 63 = .ok (.iconst 4, 1) := by decide +kernel
theorem dX7_init_64 : decode cX7_init 64 = .ok (.newarray .int, 2) := by decide +kernel
theorem dX7_init_66 : decode cX7_init 66 = .ok (.putfield 37, 3) := by decide +kernel
theorem dX7_init_69 : decode cX7_init 69 = .ok (.aload_n 0, 1) := by decide +kernel
theorem dX7_init_70 : decode cX7_init 70 = .ok (.iconst 4, 1) := by decide +kernel
theorem dX7_init_71 : decode cX7_init 71 = .ok (.newarray .int, 2) := by decide +kernel
theorem dX7_init_73 : decode cX7_init 73 = .ok (.putfield 40, 3) := by decide +kernel
theorem dX7_init_76 : decode cX7_init 76 = .ok (.aload_n 0, 1) := by decide +kernel
theorem dX7_init_77 : decode cX7_init 77 = .ok (.iconst 4, 1) := by decide +kernel
theorem dX7_init_78 : decode cX7_init 78 = .ok (.newarray .int, 2) := by decide +kernel
theorem dX7_init_80 : decode cX7_init 80 = .ok (.putfield 43, 3) := by decide +kernel
theorem dX7_init_83 : decode cX7_init 83 = .ok (.aload_n 0, 1) := by decide +kernel
theorem dX7_init_84 : decode cX7_init 84 = .ok (.bipush 24, 2) := by decide +kernel
theorem dX7_init_86 : decode cX7_init 86 = .ok (.newarray .int, 2) := by decide +kernel
theorem dX7_init_88 : decode cX7_init 88 = .ok (.putfield 46, 3) := by decide +kernel
theorem dX7_init_91 : decode cX7_init 91 = .ok (.aload_n 0, 1) := by decide +kernel
theorem dX7_init_92 : decode cX7_init 92 = .ok (.bipush 90, 2) := by decide +kernel
theorem dX7_init_94 : decode cX7_init 94 = .ok (.newarray .int, 2) := by decide +kernel
theorem dX7_init_96 : decode cX7_init 96 = .ok (.putfield 49, 3) := by decide +kernel
theorem dX7_init_99 : decode cX7_init 99 = .ok (.aload_n 0, 1) := by decide +kernel
theorem dX7_init_100 : decode cX7_init 100 = .ok (.bipush 6, 2) := by decide +kernel
theorem dX7_init_102 : decode cX7_init 102 = .ok (.newarray .int, 2) := by decide +kernel
theorem dX7_init_104 : decode cX7_init 104 = .ok (.putfield 52, 3) := by decide +kernel
theorem dX7_init_107 : decode cX7_init 107 = .ok (.iconst 0, 1) := by decide +kernel
theorem dX7_init_108 : decode cX7_init 108 = .ok (.istore_n 1, 1) := by decide +kernel
theorem dX7_init_109 : decode cX7_init 109 = .ok (.iload_n 1, 1) := by decide +kernel
theorem dX7_init_110 : decode cX7_init 110 = .ok (.bipush 24, 2) := by decide +kernel
theorem dX7_init_112 : decode cX7_init 112 = .ok (.if_icmp .ge 18, 3) := by decide +kernel
theorem dX7_init_115 : decode cX7_init 115 = .ok (.aload_n 0, 1) := by decide +kernel
theorem dX7_init_116 : decode cX7_init 116 = .ok (.getfield 18, 3) := by decide +kernel
theorem dX7_init_119 : decode cX7_init 119 = .ok (.iload_n 1, 1) := by decide +kernel
theorem dX7_init_120 : decode cX7_init 120 = .ok (.sipush 200, 3) := by decide +kernel
theorem dX7_init_123 : decode cX7_init 123 = .ok (.iastore, 1) := by decide +kernel
theorem dX7_init_124 : decode cX7_init 124 = .ok (.iinc 1 1, 3) := by decide +kernel
theorem dX7_init_127 : decode cX7_init 127 = .ok (.goto (-18), 3) := by decide +kernel
theorem dX7_init_130 : decode cX7_init 130 = .ok (.return_, 1) := by decide +kernel
theorem dX7_copy_0 : decode cX7_copy 0 = .ok (.aload_n 0, 1) := by decide +kernel
theorem dX7_copy_1 : decode cX7_copy 1 = .ok (.iconst 0, 1) := by decide +kernel
theorem dX7_copy_2 : decode cX7_copy 2 = .ok (.aload_n 1, 1) := by decide +kernel
theorem dX7_copy_3 : decode cX7_copy 3 = .ok (.iconst 0, 1) := by decide +kernel
theorem dX7_copy_4 : decode cX7_copy 4 = .ok (.aload_n 0, 1) := by decide +kernel
theorem dX7_copy_5 : decode cX7_copy 5 = .ok (.arraylength, 1) := by decide +kernel
theorem dX7_copy_6 : decode cX7_copy 6 = .ok (.invokestatic 55, 3) := by decide +kernel
theorem dX7_copy_9 : decode cX7_copy 9 = .ok (.return_, 1) := by decide +kernel
theorem dX7_become_0 : decode cX7_become 0 = .ok (.aload_n 0, 1) := by decide +kernel
theorem dX7_become_1 : decode cX7_become 1 = .ok (.aload_n 1, 1) := by decide +kernel
theorem dX7_become_2 : decode cX7_become 2 = .ok (.getfield 61, 3) := by decide +kernel
theorem dX7_become_5 : decode cX7_become 5 = .ok (.putfield 61, 3) := by decide +kernel
theorem dX7_become_8 : decode cX7_become 8 = .ok (.aload_n 0, 1) := by decide +kernel
theorem dX7_become_9 : decode cX7_become 9 = .ok (.aload_n 1, 1) := by decide +kernel
theorem dX7_become_10 : decode cX7_become 10 = .ok (.getfield 9, 3) := by decide +kernel
theorem dX7_become_13 : decode cX7_become 13 = .ok (.putfield 9, 3) := by decide +kernel
theorem dX7_become_16 : decode cX7_become 16 = .ok (.aload_n 0, 1) := by decide +kernel
theorem dX7_become_17 : decode cX7_become 17 = .ok (.aload_n 1, 1) := by decide +kernel
theorem dX7_become_18 : decode cX7_become 18 = .ok (.getfield 15, 3) := by decide +kernel
theorem dX7_become_21 : decode cX7_become 21 = .ok (.putfield 15, 3) := by decide +kernel
theorem dX7_become_24 : decode cX7_become 24 = .ok (.aload_n 0, 1) := by decide +kernel
theorem dX7_become_25 : decode cX7_become 25 = .ok (.aload_n 1, 1) := by decide +kernel
theorem dX7_become_26 : decode cX7_become 26 = .ok (.getfield 64, 3) := by decide +kernel
theorem dX7_become_29 : decode cX7_become 29 = .ok (.putfield 64, 3) := by decide +kernel
theorem dX7_become_32 : decode cX7_become 32 = .ok (.aload_n 0, 1) := by decide +kernel
theorem dX7_become_33 : decode cX7_become 33 = .ok (.aload_n 1, 1) := by decide +kernel
theorem dX7_become_34 : decode cX7_become 34 = .ok (.getfield 67, 3) := by decide +kernel
theorem dX7_become_37 : decode cX7_become 37 = .ok (.putfield 67, 3) := by decide +kernel
theorem dX7_become_40 : decode cX7_become 40 = .ok (.aload_n 0, 1) := by decide +kernel
theorem dX7_become_41 : decode cX7_become 41 = .ok (.aload_n 1, 1) := by decide +kernel
theorem dX7_become_42 : decode cX7_become 42 = .ok (.getfield 70, 3) := by decide +kernel
theorem dX7_become_45 : decode cX7_become 45 = .ok (.putfield 70, 3) := by decide +kernel
theorem dX7_become_48 : decode cX7_become 48 = .ok (.aload_n 1, 1) := by decide +kernel
theorem dX7_become_49 : decode cX7_become 49 = .ok (.getfield 18, 3) := by decide +kernel
theorem dX7_become_52 : decode cX7_become 52 = .ok (.aload_n 0, 1) := by decide +kernel
theorem dX7_become_53 : decode cX7_become 53 = .ok (.getfield 18, 3) := by decide +kernel
theorem dX7_become_56 : decode cX7_become 56 = .ok (.invokestatic 73, 3) := by decide +kernel
theorem dX7_become_59 : decode cX7_become 59 = .ok (.aload_n 1, 1) := by decide +kernel
theorem dX7_become_60 : decode cX7_become 60 = .ok (.getfield 22, 3) := by decide +kernel
theorem dX7_become_63 : decode cX7_become 63 = .ok (.aload_n 0, 1) := by decide +kernel
theorem dX7_become_64 : decode cX7_become 64 = .ok (.getfield 22, 3) := by decide +kernel
theorem dX7_become_67 : decode cX7_become 67 = .ok (.invokestatic 73, 3) := by decide +kernel
theorem dX7_become_70 : decode cX7_become 70 = .ok (.aload_n 1, 1) := by decide +kernel
theorem dX7_become_71 : decode cX7_become 71 = .ok (.getfield 25, 3) := by decide +kernel
theorem dX7_become_74 : decode cX7_become 74 = .ok (.aload_n 0, 1) := by decide +kernel
theorem dX7_become_75 : decode cX7_become 75 = .ok (.getfield 25, 3) := by decide +kernel
theorem dX7_become_78 : decode cX7_become 78 = .ok (.invokestatic 73, 3) := by decide +kernel
theorem dX7_become_81 : decode cX7_become 81 = .ok (.aload_n 1, 1) := by decide +kernel
theorem dX7_become_82 : decode cX7_become 82 = .ok (.getfield 28, 3) := by decide +kernel
theorem dX7_become_85 : decode cX7_become 85 = .ok (.aload_n 0, 1) := by decide +kernel
theorem dX7_become_86 : decode cX7_become 86 = .ok (.getfield 28, 3) := by decide +kernel
theorem dX7_become_89 : decode cX7_become 89 = .ok (.invokestatic 73, 3) := by decide +kernel
theorem dX7_become_92 : decode cX7_become 92 = .ok (.aload_n 1, 1) := by decide +kernel
theorem dX7_become_93 : decode cX7_become 93 = .ok (.getfield 31, 3) := by decide +kernel
theorem dX7_become_96 : decode cX7_become 96 = .ok (.aload_n 0, 1) := by decide +kernel
theorem dX7_become_97 : decode cX7_become 97 = .ok (.getfield 31, 3) := by decide +kernel
theorem dX7_become_100 : decode cX7_become 100 = .ok (.invokestatic 73, 3) := by decide +kernel
theorem dX7_become_103 : decode cX7_become 103 = .ok (.aload_n 1, 1) := by decide +kernel
theorem dX7_become_104 : decode cX7_become 104 = .ok (.getfield 34, 3) := by decide +kernel
theorem dX7_become_107 : decode cX7_become 107 = .ok (.aload_n 0, 1) := by decide +kernel
theorem dX7_become_108 : decode cX7_become 108 = .ok (.getfield 34, 3) := by decide +kernel
theorem dX7_become_111 : decode cX7_become 111 = .ok (.invokestatic 73, 3) := by decide +kernel
theorem dX7_become_114 : decode cX7_become 114 = .ok (.aload_n 1, 1) := by decide +kernel
theorem dX7_become_115 : decode cX7_become 115 = .ok (.getfield 37, 3) := by decide +kernel
theorem dX7_become_118 : decode cX7_become 118 = .ok (.aload_n 0, 1) := by decide +kernel
theorem dX7_become_119 : decode cX7_become 119 = .ok (.getfield 37, 3) := by decide +kernel
theorem dX7_become_122 : decode cX7_become 122 = .ok (.invokestatic 73, 3) := by decide +kernel
theorem dX7_become_125 : decode cX7_become 125 = .ok (.aload_n 1, 1) := by decide +kernel
theorem dX7_become_126 : decode cX7_become 126 = .ok (.getfield 40, 3) := by decide +kernel
theorem dX7_become_129 : decode cX7_become 129 = .ok (.aload_n 0, 1) := by decide +kernel
theorem dX7_become_130 : decode cX7_become 130 = .ok (.getfield 40, 3) := by decide +kernel
theorem dX7_become_133 : decode cX7_become 133 = .ok (.invokestatic 73, 3) := by decide +kernel
theorem dX7_become_136 : decode cX7_become 136 = .ok (.aload_n 1, 1) := by decide +kernel
theorem dX7_become_137 : decode cX7_become 137 = .ok (.getfield 43, 3) := by decide +kernel
theorem dX7_become_140 : decode cX7_become 140 = .ok (.aload_n 0, 1) := by decide +kernel
theorem dX7_become_141 : decode cX7_become 141 = .ok (.getfield 43, 3) := by decide +kernel
theorem dX7_become_144 : decode cX7_become 144 = .ok (.invokestatic 73, 3) := by decide +kernel
theorem dX7_become_147 : decode cX7_become 147 = .ok (.aload_n 1, 1) := by decide +kernel
theorem dX7_become_148 : decode cX7_become 148 = .ok (.getfield 46, 3) := by decide +kernel
theorem dX7_become_151 : decode cX7_become 151 = .ok (.aload_n 0, 1) := by decide +kernel
theorem dX7_become_152 : decode cX7_become 152 = .ok (.getfield 46, 3) := by decide +kernel
theorem dX7_become_155 : decode cX7_become 155 = .ok (.invokestatic 73, 3) := by decide +kernel
theorem dX7_become_158 : decode cX7_become 158 = .ok (.aload_n 1, 1) := by decide +kernel
theorem dX7_become_159 : decode cX7_become 159 = .ok (.getfield 49, 3) := by decide +kernel
theorem dX7_become_162 : decode cX7_become 162 = .ok (.aload_n 0, 1) := by decide +kernel
theorem dX7_become_163 : decode cX7_become 163 = .ok (.getfield 49, 3) := by decide +kernel
theorem dX7_become_166 : decode cX7_become 166 = .ok (.invokestatic 73, 3) := by decide +kernel
theorem dX7_become_169 : decode cX7_become 169 = .ok (.aload_n 1, 1) := by decide +kernel
theorem dX7_become_170 : decode cX7_become 170 = .ok (.getfield 52, 3) := by decide +kernel
theorem dX7_become_173 : decode cX7_become 173 = .ok (.aload_n 0, 1) := by decide +kernel
theorem dX7_become_174 : decode cX7_become 174 = .ok (.getfield 52, 3) := by decide +kernel
theorem dX7_become_177 : decode cX7_become 177 = .ok (.invokestatic 73, 3) := by decide +kernel
theorem dX7_become_180 : decode cX7_become 180 = .ok (.return_, 1) := by decide +kernel
theorem dX7_load_0 : decode cX7_load 0 = .ok (.bipush 20, 2) := by decide +kernel
theorem dX7_load_2 : decode cX7_load 2 = .ok (.istore_n 1, 1) := by decide +kernel
theorem dX7_load_3 : decode cX7_load 3 = .ok (.iconst 0, 1) := by decide +kernel
theorem dX7_load_4 : decode cX7_load 4 = .ok (.istore_n 2, 1) := by decide +kernel
theorem dX7_load_5 : decode cX7_load 5 = .ok (.iload_n 2, 1) := by decide +kernel
theorem dX7_load_6 : decode cX7_load 6 = .ok (.aload_n 0, 1) := by decide +kernel
theorem dX7_load_7 : decode cX7_load 7 = .ok (.getfield 64, 3) := by decide +kernel
theorem dX7_load_10 : decode cX7_load 10 = .ok (.if_icmp .ge 53, 3) := by decide +kernel
theorem dX7_load_13 : decode cX7_load 13 = .ok (.iconst 0, 1) := by decide +kernel
theorem dX7_load_14 : decode cX7_load 14 = .ok (.istore_n 3, 1) := by decide +kernel
theorem dX7_load_15 : decode cX7_load 15 = .ok (.iload_n 3, 1) := by decide +kernel
theorem dX7_load_16 : decode cX7_load 16 = .ok (.aload_n 0, 1) := by decide +kernel
theorem dX7_load_17 : decode cX7_load 17 = .ok (.getfield 22, 3) := by decide +kernel
theorem dX7_load_20 : decode cX7_load 20 = .ok (.iload_n 2, 1) := by decide +kernel
theorem dX7_load_21 : decode cX7_load 21 = .ok (.iaload, 1) := by decide +kernel
theorem dX7_load_22 : decode cX7_load 22 = .ok (.if_icmp .ge 35, 3) := by decide +kernel
theorem dX7_load_25 : decode cX7_load 25 = .ok (.iload_n 1, 1) := by decide +kernel
theorem dX7_load_26 : decode cX7_load 26 = .ok (.aload_n 0, 1) := by decide +kernel
theorem dX7_load_27 : decode cX7_load 27 = .ok (.getfield 25, 3) := by decide +kernel
theorem dX7_load_30 : decode cX7_load 30 = .ok (.iconst 4, 1) := by decide +kernel
theorem dX7_load_31 : decode cX7_load 31 = .ok (.iload_n 2, 1) := by decide +kernel
theorem dX7_load_32 : decode cX7_load 32 = .ok (.imul, 1) := by decide +kernel
theorem dX7_load_33 : decode cX7_load 33 = .ok (.iload_n 3, 1) := by decide +kernel
theorem dX7_load_34 : decode cX7_load 34 = .ok (.iadd, 1) := by decide +kernel
theorem dX7_load_35 : decode cX7_load 35 = .ok (.iaload, 1) := by decide +kernel
theorem dX7_load_36 : decode cX7_load 36 = .ok (.aload_n 0, 1) := by decide +kernel
theorem dX7_load_37 : decode cX7_load 37 = .ok (.getfield 28, 3) := by decide +kernel
theorem dX7_load_40 : decode cX7_load 40 = .ok (.iconst 4, 1) := by decide +kernel
theorem dX7_load_41 : decode cX7_load 41 = .ok (.iload_n 2, 1) := by decide +kernel
theorem dX7_load_42 : decode cX7_load 42 = .ok (.imul, 1) := by decide +kernel
theorem dX7_load_43 : decode cX7_load 43 = .ok (.iload_n 3, 1) := by decide +kernel
theorem dX7_load_44 : decode cX7_load 44 = .ok (.iadd, 1) := by decide +kernel
theorem dX7_load_45 : decode cX7_load 45 = .ok (.iaload, 1) := by decide +kernel
theorem dX7_load_46 : decode cX7_load 46 = .ok (.imul, 1) := by decide +kernel
theorem dX7_load_47 : decode cX7_load 47 = .ok (.iconst 4, 1) := by decide +kernel
theorem dX7_load_48 : decode cX7_load 48 = .ok (.idiv, 1) := by decide +kernel
theorem dX7_load_49 : decode cX7_load 49 = .ok (.iadd, 1) := by decide +kernel
theorem dX7_load_50 : decode cX7_load 50 = .ok (.istore_n 1, 1) := by decide +kernel
theorem dX7_load_51 : decode cX7_load 51 = .ok (.iinc 3 1, 3) := by decide +kernel
theorem dX7_load_54 : decode cX7_load 54 = .ok (.goto (-39), 3) := by decide +kernel
theorem dX7_load_57 : decode cX7_load 57 = .ok (.iinc 2 1, 3) := by decide +kernel
theorem dX7_load_60 : decode cX7_load 60 = .ok (.goto (-55), 3) := by decide +kernel
theorem dX7_load_63 : decode cX7_load 63 = .ok (.iload_n 1, 1) := by decide +kernel
theorem dX7_load_64 : decode cX7_load 64 = .ok (.ireturn, 1) := by decide +kernel
theorem dX7_tinOf_0 : decode cX7_tinOf 0 = .ok (.aload_n 0, 1) := by decide +kernel
theorem dX7_tinOf_1 : decode cX7_tinOf 1 = .ok (.iload_n 1, 1) := by decide +kernel
theorem dX7_tinOf_2 : decode cX7_tinOf 2 = .ok (.iaload, 1) := by decide +kernel
theorem dX7_tinOf_3 : decode cX7_tinOf 3 = .ok (.i2l, 1) := by decide +kernel
theorem dX7_tinOf_4 : decode cX7_tinOf 4 = .ok (.aload_n 0, 1) := by decide +kernel
theorem dX7_tinOf_5 : decode cX7_tinOf 5 = .ok (.iload_n 1, 1) := by decide +kernel
theorem dX7_tinOf_6 : decode cX7_tinOf 6 = .ok (.iconst 1, 1) := by decide +kernel
theorem dX7_tinOf_7 : decode cX7_tinOf 7 = .ok (.iadd, 1) := by decide +kernel
theorem dX7_tinOf_8 : decode cX7_tinOf 8 = .ok (.iaload, 1) := by decide +kernel
theorem dX7_tinOf_9 : decode cX7_tinOf 9 = .ok (.i2l, 1) := by decide +kernel
theorem dX7_tinOf_10 : decode cX7_tinOf 10 = .ok (.ladd, 1) := by decide +kernel
theorem dX7_tinOf_11 : decode cX7_tinOf 11 = .ok (.lstore_n 3, 1) := by decide +kernel
theorem dX7_tinOf_12 : decode cX7_tinOf 12 = .ok (.lload_n 3, 1) := by decide +kernel
theorem dX7_tinOf_13 : decode cX7_tinOf 13 = .ok (.lconst 0, 1) := by decide +kernel
theorem dX7_tinOf_14 : decode cX7_tinOf 14 = .ok (.lcmp, 1) := by decide +kernel
theorem dX7_tinOf_15 : decode cX7_tinOf 15 = .ok (.ifCond .ne 7, 3) := by decide +kernel
theorem dX7_tinOf_18 : decode cX7_tinOf 18 = .ok (.iconst 0, 1) := by decide +kernel
theorem dX7_tinOf_19 : decode cX7_tinOf 19 = .ok (.goto 15, 3) := by decide +kernel
theorem dX7_tinOf_22 : decode cX7_tinOf 22 = .ok (.aload_n 0, 1) := by decide +kernel
theorem dX7_tinOf_23 : decode cX7_tinOf 23 = .ok (.iload_n 1, 1) := by decide +kernel
theorem dX7_tinOf_24 : decode cX7_tinOf 24 = .ok (.iconst 1, 1) := by decide +kernel
theorem dX7_tinOf_25 : decode cX7_tinOf 25 = .ok (.iadd, 1) := by decide +kernel
theorem dX7_tinOf_26 : decode cX7_tinOf 26 = .ok (.iaload, 1) := by decide +kernel
theorem dX7_tinOf_27 : decode cX7_tinOf 27 = .ok (.i2l, 1) := by decide +kernel
theorem dX7_tinOf_28 : decode cX7_tinOf 28 = .ok (.iload_n 2, 1) := by decide +kernel
theorem dX7_tinOf_29 : decode cX7_tinOf 29 = .ok (.i2l, 1) := by decide +kernel
theorem dX7_tinOf_30 : decode cX7_tinOf 30 = .ok (.lmul, 1) := by decide +kernel
theorem dX7_tinOf_31 : decode cX7_tinOf 31 = .ok (.lload_n 3, 1) := by decide +kernel
theorem dX7_tinOf_32 : decode cX7_tinOf 32 = .ok (.ldiv, 1) := by decide +kernel
theorem dX7_tinOf_33 : decode cX7_tinOf 33 = .ok (.l2i, 1) := by decide +kernel
theorem dX7_tinOf_34 : decode cX7_tinOf 34 = .ok (.ireturn, 1) := by decide +kernel
theorem dX7_move_0 : decode cX7_move 0 = .ok (.aload_n 0, 1) := by decide +kernel
theorem dX7_move_1 : decode cX7_move 1 = .ok (.iload_n 1, 1) := by decide +kernel
theorem dX7_move_2 : decode cX7_move 2 = .ok (.iload 4, 2) := by decide +kernel
theorem dX7_move_4 : decode cX7_move 4 = .ok (.invokestatic 77, 3) := by decide +kernel
theorem dX7_move_7 : decode cX7_move 7 = .ok (.istore 5, 2) := by decide +kernel
theorem dX7_move_9 : decode cX7_move 9 = .ok (.aload_n 0, 1) := by decide +kernel
theorem dX7_move_10 : decode cX7_move 10 = .ok (.iload_n 1, 1) := by decide +kernel
theorem dX7_move_11 : decode cX7_move 11 = .ok (.dup2, 1) := by decide +kernel
theorem dX7_move_12 : decode cX7_move 12 = .ok (.iaload, 1) := by decide +kernel
theorem dX7_move_13 : decode cX7_move 13 = .ok (.iload 4, 2) := by decide +kernel
theorem dX7_move_15 : decode cX7_move 15 = .ok (.iload 5, 2) := by decide +kernel
theorem dX7_move_17 : decode cX7_move 17 = .ok (.isub, 1) := by decide +kernel
theorem dX7_move_18 : decode cX7_move 18 = .ok (.isub, 1) := by decide +kernel
theorem dX7_move_19 : decode cX7_move 19 = .ok (.iastore, 1) := by decide +kernel
theorem dX7_move_20 : decode cX7_move 20 = .ok (.aload_n 0, 1) := by decide +kernel
theorem dX7_move_21 : decode cX7_move 21 = .ok (.iload_n 1, 1) := by decide +kernel
theorem dX7_move_22 : decode cX7_move 22 = .ok (.iconst 1, 1) := by decide +kernel
theorem dX7_move_23 : decode cX7_move 23 = .ok (.iadd, 1) := by decide +kernel
theorem dX7_move_24 : decode cX7_move 24 = .ok (.dup2, 1) := by decide +kernel
theorem dX7_move_25 : decode cX7_move 25 = .ok (.iaload, 1) := by decide +kernel
theorem dX7_move_26 : decode cX7_move 26 = .ok (.iload 5, 2) := by decide +kernel
theorem dX7_move_28 : decode cX7_move 28 = .ok (.isub, 1) := by decide +kernel
theorem dX7_move_29 : decode cX7_move 29 = .ok (.iastore, 1) := by decide +kernel
theorem dX7_move_30 : decode cX7_move 30 = .ok (.aload_n 2, 1) := by decide +kernel
theorem dX7_move_31 : decode cX7_move 31 = .ok (.iload_n 3, 1) := by decide +kernel
theorem dX7_move_32 : decode cX7_move 32 = .ok (.dup2, 1) := by decide +kernel
theorem dX7_move_33 : decode cX7_move 33 = .ok (.iaload, 1) := by decide +kernel
theorem dX7_move_34 : decode cX7_move 34 = .ok (.iload 4, 2) := by decide +kernel
theorem dX7_move_36 : decode cX7_move 36 = .ok (.iload 5, 2) := by decide +kernel
theorem dX7_move_38 : decode cX7_move 38 = .ok (.isub, 1) := by decide +kernel
theorem dX7_move_39 : decode cX7_move 39 = .ok (.iadd, 1) := by decide +kernel
theorem dX7_move_40 : decode cX7_move 40 = .ok (.iastore, 1) := by decide +kernel
theorem dX7_move_41 : decode cX7_move 41 = .ok (.aload_n 2, 1) := by decide +kernel
theorem dX7_move_42 : decode cX7_move 42 = .ok (.iload_n 3, 1) := by decide +kernel
theorem dX7_move_43 : decode cX7_move 43 = .ok (.iconst 1, 1) := by decide +kernel
theorem dX7_move_44 : decode cX7_move 44 = .ok (.iadd, 1) := by decide +kernel
theorem dX7_move_45 : decode cX7_move 45 = .ok (.dup2, 1) := by decide +kernel
theorem dX7_move_46 : decode cX7_move 46 = .ok (.iaload, 1) := by decide +kernel
theorem dX7_move_47 : decode cX7_move 47 = .ok (.iload 5, 2) := by decide +kernel
theorem dX7_move_49 : decode cX7_move 49 = .ok (.iadd, 1) := by decide +kernel
theorem dX7_move_50 : decode cX7_move 50 = .ok (.iastore, 1) := by decide +kernel
theorem dX7_move_51 : decode cX7_move 51 = .ok (.return_, 1) := by decide +kernel
theorem dX7_dropLot_0 : decode cX7_dropLot 0 = .ok (.aload_n 0, 1) := by decide +kernel
theorem dX7_dropLot_1 : decode cX7_dropLot 1 = .ok (.dup, 1) := by decide +kernel
theorem dX7_dropLot_2 : decode cX7_dropLot 2 = .ok (.getfield 67, 3) := by decide +kernel
theorem dX7_dropLot_5 : decode cX7_dropLot 5 = .ok (.iconst 1, 1) := by decide +kernel
theorem dX7_dropLot_6 : decode cX7_dropLot 6 = .ok (.isub, 1) := by decide +kernel
theorem dX7_dropLot_7 : decode cX7_dropLot 7 = .ok (.putfield 67, 3) := by decide +kernel
theorem dX7_dropLot_10 : decode cX7_dropLot 10 = .ok (.iconst 0, 1) := by decide +kernel
theorem dX7_dropLot_11 : decode cX7_dropLot 11 = .ok (.istore_n 1, 1) := by decide +kernel
theorem dX7_dropLot_12 : decode cX7_dropLot 12 = .ok (.iload_n 1, 1) := by decide +kernel
theorem dX7_dropLot_13 : decode cX7_dropLot 13 = .ok (.iconst 3, 1) := by decide +kernel
theorem dX7_dropLot_14 : decode cX7_dropLot 14 = .ok (.aload_n 0, 1) := by decide +kernel
theorem dX7_dropLot_15 : decode cX7_dropLot 15 = .ok (.getfield 67, 3) := by decide +kernel
theorem dX7_dropLot_18 : decode cX7_dropLot 18 = .ok (.imul, 1) := by decide +kernel
theorem dX7_dropLot_19 : decode cX7_dropLot 19 = .ok (.if_icmp .ge 23, 3) := by decide +kernel
theorem dX7_dropLot_22 : decode cX7_dropLot 22 = .ok (.aload_n 0, 1) := by decide +kernel
theorem dX7_dropLot_23 : decode cX7_dropLot 23 = .ok (.getfield 49, 3) := by decide +kernel
theorem dX7_dropLot_26 : decode cX7_dropLot 26 = .ok (.iload_n 1, 1) := by decide +kernel
theorem dX7_dropLot_27 : decode cX7_dropLot 27 = .ok (.aload_n 0, 1) := by decide +kernel
theorem dX7_dropLot_28 : decode cX7_dropLot 28 = .ok (.getfield 49, 3) := by decide +kernel
theorem dX7_dropLot_31 : decode cX7_dropLot 31 = .ok (.iload_n 1, 1) := by decide +kernel
theorem dX7_dropLot_32 : decode cX7_dropLot 32 = .ok (.iconst 3, 1) := by decide +kernel
theorem dX7_dropLot_33 : decode cX7_dropLot 33 = .ok (.iadd, 1) := by decide +kernel
theorem dX7_dropLot_34 : decode cX7_dropLot 34 = .ok (.iaload, 1) := by decide +kernel
theorem dX7_dropLot_35 : decode cX7_dropLot 35 = .ok (.iastore, 1) := by decide +kernel
theorem dX7_dropLot_36 : decode cX7_dropLot 36 = .ok (.iinc 1 1, 3) := by decide +kernel
theorem dX7_dropLot_39 : decode cX7_dropLot 39 = .ok (.goto (-27), 3) := by decide +kernel
theorem dX7_dropLot_42 : decode cX7_dropLot 42 = .ok (.return_, 1) := by decide +kernel
theorem dX7_addLot_0 : decode cX7_addLot 0 = .ok (.aload_n 0, 1) := by decide +kernel
theorem dX7_addLot_1 : decode cX7_addLot 1 = .ok (.getfield 49, 3) := by decide +kernel
theorem dX7_addLot_4 : decode cX7_addLot 4 = .ok (.iconst 3, 1) := by decide +kernel
theorem dX7_addLot_5 : decode cX7_addLot 5 = .ok (.aload_n 0, 1) := by decide +kernel
theorem dX7_addLot_6 : decode cX7_addLot 6 = .ok (.getfield 67, 3) := by decide +kernel
theorem dX7_addLot_9 : decode cX7_addLot 9 = .ok (.imul, 1) := by decide +kernel
theorem dX7_addLot_10 : decode cX7_addLot 10 = .ok (.iload_n 1, 1) := by decide +kernel
theorem dX7_addLot_11 : decode cX7_addLot 11 = .ok (.iastore, 1) := by decide +kernel
theorem dX7_addLot_12 : decode cX7_addLot 12 = .ok (.aload_n 0, 1) := by decide +kernel
theorem dX7_addLot_13 : decode cX7_addLot 13 = .ok (.getfield 49, 3) := by decide +kernel
theorem dX7_addLot_16 : decode cX7_addLot 16 = .ok (.iconst 3, 1) := by decide +kernel
theorem dX7_addLot_17 : decode cX7_addLot 17 = .ok (.aload_n 0, 1) := by decide +kernel
theorem dX7_addLot_18 : decode cX7_addLot 18 = .ok (.getfield 67, 3) := by decide +kernel
theorem dX7_addLot_21 : decode cX7_addLot 21 = .ok (.imul, 1) := by decide +kernel
theorem dX7_addLot_22 : decode cX7_addLot 22 = .ok (.iconst 1, 1) := by decide +kernel
theorem dX7_addLot_23 : decode cX7_addLot 23 = .ok (.iadd, 1) := by decide +kernel
theorem dX7_addLot_24 : decode cX7_addLot 24 = .ok (.iload_n 2, 1) := by decide +kernel
theorem dX7_addLot_25 : decode cX7_addLot 25 = .ok (.iastore, 1) := by decide +kernel
theorem dX7_addLot_26 : decode cX7_addLot 26 = .ok (.aload_n 0, 1) := by decide +kernel
theorem dX7_addLot_27 : decode cX7_addLot 27 = .ok (.getfield 49, 3) := by decide +kernel
theorem dX7_addLot_30 : decode cX7_addLot 30 = .ok (.iconst 3, 1) := by decide +kernel
theorem dX7_addLot_31 : decode cX7_addLot 31 = .ok (.aload_n 0, 1) := by decide +kernel
theorem dX7_addLot_32 : decode cX7_addLot 32 = .ok (.getfield 67, 3) := by decide +kernel
theorem dX7_addLot_35 : decode cX7_addLot 35 = .ok (.imul, 1) := by decide +kernel
theorem dX7_addLot_36 : decode cX7_addLot 36 = .ok (.iconst 2, 1) := by decide +kernel
theorem dX7_addLot_37 : decode cX7_addLot 37 = .ok (.iadd, 1) := by decide +kernel
theorem dX7_addLot_38 : decode cX7_addLot 38 = .ok (.iload_n 3, 1) := by decide +kernel
theorem dX7_addLot_39 : decode cX7_addLot 39 = .ok (.iastore, 1) := by decide +kernel
theorem dX7_addLot_40 : decode cX7_addLot 40 = .ok (.aload_n 0, 1) := by decide +kernel
theorem dX7_addLot_41 : decode cX7_addLot 41 = .ok (.dup, 1) := by decide +kernel
theorem dX7_addLot_42 : decode cX7_addLot 42 = .ok (.getfield 67, 3) := by decide +kernel
theorem dX7_addLot_45 : decode cX7_addLot 45 = .ok (.iconst 1, 1) := by decide +kernel
theorem dX7_addLot_46 : decode cX7_addLot 46 = .ok (.iadd, 1) := by decide +kernel
theorem dX7_addLot_47 : decode cX7_addLot 47 = .ok (.putfield 67, 3) := by decide +kernel
theorem dX7_addLot_50 : decode cX7_addLot 50 = .ok (.return_, 1) := by decide +kernel
theorem dX7_oreOf_0 : decode cX7_oreOf 0 = .ok (.aload_n 0, 1) := by decide +kernel
theorem dX7_oreOf_1 : decode cX7_oreOf 1 = .ok (.getfield 46, 3) := by decide +kernel
theorem dX7_oreOf_4 : decode cX7_oreOf 4 = .ok (.iconst 2, 1) := by decide +kernel
theorem dX7_oreOf_5 : decode cX7_oreOf 5 = .ok (.iconst 3, 1) := by decide +kernel
theorem dX7_oreOf_6 : decode cX7_oreOf 6 = .ok (.iload_n 1, 1) := by decide +kernel
theorem dX7_oreOf_7 : decode cX7_oreOf 7 = .ok (.imul, 1) := by decide +kernel
theorem dX7_oreOf_8 : decode cX7_oreOf 8 = .ok (.iload_n 2, 1) := by decide +kernel
theorem dX7_oreOf_9 : decode cX7_oreOf 9 = .ok (.iadd, 1) := by decide +kernel
theorem dX7_oreOf_10 : decode cX7_oreOf 10 = .ok (.imul, 1) := by decide +kernel
theorem dX7_oreOf_11 : decode cX7_oreOf 11 = .ok (.iaload, 1) := by decide +kernel
theorem dX7_oreOf_12 : decode cX7_oreOf 12 = .ok (.aload_n 0, 1) := by decide +kernel
theorem dX7_oreOf_13 : decode cX7_oreOf 13 = .ok (.getfield 46, 3) := by decide +kernel
theorem dX7_oreOf_16 : decode cX7_oreOf 16 = .ok (.iconst 2, 1) := by decide +kernel
theorem dX7_oreOf_17 : decode cX7_oreOf 17 = .ok (.iconst 3, 1) := by decide +kernel
theorem dX7_oreOf_18 : decode cX7_oreOf 18 = .ok (.iload_n 1, 1) := by decide +kernel
theorem dX7_oreOf_19 : decode cX7_oreOf 19 = .ok (.imul, 1) := by decide +kernel
theorem dX7_oreOf_20 : decode cX7_oreOf 20 = .ok (.iload_n 2, 1) := by decide +kernel
theorem dX7_oreOf_21 : decode cX7_oreOf 21 = .ok (.iadd, 1) := by decide +kernel
theorem dX7_oreOf_22 : decode cX7_oreOf 22 = .ok (.imul, 1) := by decide +kernel
theorem dX7_oreOf_23 : decode cX7_oreOf 23 = .ok (.iconst 1, 1) := by decide +kernel
theorem dX7_oreOf_24 : decode cX7_oreOf 24 = .ok (.iadd, 1) := by decide +kernel
theorem dX7_oreOf_25 : decode cX7_oreOf 25 = .ok (.iaload, 1) := by decide +kernel
theorem dX7_oreOf_26 : decode cX7_oreOf 26 = .ok (.iadd, 1) := by decide +kernel
theorem dX7_oreOf_27 : decode cX7_oreOf 27 = .ok (.ireturn, 1) := by decide +kernel
theorem dX7_inBuddle_0 : decode cX7_inBuddle 0 = .ok (.aload_n 0, 1) := by decide +kernel
theorem dX7_inBuddle_1 : decode cX7_inBuddle 1 = .ok (.getfield 52, 3) := by decide +kernel
theorem dX7_inBuddle_4 : decode cX7_inBuddle 4 = .ok (.iconst 2, 1) := by decide +kernel
theorem dX7_inBuddle_5 : decode cX7_inBuddle 5 = .ok (.iload_n 1, 1) := by decide +kernel
theorem dX7_inBuddle_6 : decode cX7_inBuddle 6 = .ok (.imul, 1) := by decide +kernel
theorem dX7_inBuddle_7 : decode cX7_inBuddle 7 = .ok (.iaload, 1) := by decide +kernel
theorem dX7_inBuddle_8 : decode cX7_inBuddle 8 = .ok (.aload_n 0, 1) := by decide +kernel
theorem dX7_inBuddle_9 : decode cX7_inBuddle 9 = .ok (.getfield 52, 3) := by decide +kernel
theorem dX7_inBuddle_12 : decode cX7_inBuddle 12 = .ok (.iconst 2, 1) := by decide +kernel
theorem dX7_inBuddle_13 : decode cX7_inBuddle 13 = .ok (.iload_n 1, 1) := by decide +kernel
theorem dX7_inBuddle_14 : decode cX7_inBuddle 14 = .ok (.imul, 1) := by decide +kernel
theorem dX7_inBuddle_15 : decode cX7_inBuddle 15 = .ok (.iconst 1, 1) := by decide +kernel
theorem dX7_inBuddle_16 : decode cX7_inBuddle 16 = .ok (.iadd, 1) := by decide +kernel
theorem dX7_inBuddle_17 : decode cX7_inBuddle 17 = .ok (.iaload, 1) := by decide +kernel
theorem dX7_inBuddle_18 : decode cX7_inBuddle 18 = .ok (.iadd, 1) := by decide +kernel
theorem dX7_inBuddle_19 : decode cX7_inBuddle 19 = .ok (.ireturn, 1) := by decide +kernel
theorem dX7_pass_0 : decode cX7_pass 0 = .ok (.aload_n 0, 1) := by decide +kernel
theorem dX7_pass_1 : decode cX7_pass 1 = .ok (.sipush 20000, 3) := by decide +kernel
theorem dX7_pass_4 : decode cX7_pass 4 = .ok (.aload_n 0, 1) := by decide +kernel
theorem dX7_pass_5 : decode cX7_pass 5 = .ok (.getfield 9, 3) := by decide +kernel
theorem dX7_pass_8 : decode cX7_pass 8 = .ok (.aload_n 0, 1) := by decide +kernel
theorem dX7_pass_9 : decode cX7_pass 9 = .ok (.getfield 18, 3) := by decide +kernel
theorem dX7_pass_12 : decode cX7_pass 12 = .ok (.aload_n 0, 1) := by decide +kernel
theorem dX7_pass_13 : decode cX7_pass 13 = .ok (.getfield 61, 3) := by decide +kernel
theorem dX7_pass_16 : decode cX7_pass 16 = .ok (.bipush 24, 2) := by decide +kernel
theorem dX7_pass_18 : decode cX7_pass 18 = .ok (.irem, 1) := by decide +kernel
theorem dX7_pass_19 : decode cX7_pass 19 = .ok (.iaload, 1) := by decide +kernel
theorem dX7_pass_20 : decode cX7_pass 20 = .ok (.iadd, 1) := by decide +kernel
theorem dX7_pass_21 : decode cX7_pass 21 = .ok (.invokestatic 81, 3) := by decide +kernel
theorem dX7_pass_24 : decode cX7_pass 24 = .ok (.putfield 9, 3) := by decide +kernel
theorem dX7_pass_27 : decode cX7_pass 27 = .ok (.bipush 40, 2) := by decide +kernel
theorem dX7_pass_29 : decode cX7_pass 29 = .ok (.aload_n 0, 1) := by decide +kernel
theorem dX7_pass_30 : decode cX7_pass 30 = .ok (.getfield 15, 3) := by decide +kernel
theorem dX7_pass_33 : decode cX7_pass 33 = .ok (.imul, 1) := by decide +kernel
theorem dX7_pass_34 : decode cX7_pass 34 = .ok (.aload_n 0, 1) := by decide +kernel
theorem dX7_pass_35 : decode cX7_pass 35 = .ok (.getfield 9, 3) := by decide +kernel
theorem dX7_pass_38 : decode cX7_pass 38 = .ok (.invokestatic 81, 3) := by decide +kernel
theorem dX7_pass_41 : decode cX7_pass 41 = .ok (.istore_n 1, 1) := by decide +kernel
theorem dX7_pass_42 : decode cX7_pass 42 = .ok (.aload_n 0, 1) := by decide +kernel
theorem dX7_pass_43 : decode cX7_pass 43 = .ok (.dup, 1) := by decide +kernel
theorem dX7_pass_44 : decode cX7_pass 44 = .ok (.getfield 9, 3) := by decide +kernel
theorem dX7_pass_47 : decode cX7_pass 47 = .ok (.iload_n 1, 1) := by decide +kernel
theorem dX7_pass_48 : decode cX7_pass 48 = .ok (.isub, 1) := by decide +kernel
theorem dX7_pass_49 : decode cX7_pass 49 = .ok (.putfield 9, 3) := by decide +kernel
theorem dX7_pass_52 : decode cX7_pass 52 = .ok (.bipush 10, 2) := by decide +kernel
theorem dX7_pass_54 : decode cX7_pass 54 = .ok (.iload_n 1, 1) := by decide +kernel
theorem dX7_pass_55 : decode cX7_pass 55 = .ok (.imul, 1) := by decide +kernel
theorem dX7_pass_56 : decode cX7_pass 56 = .ok (.aload_n 0, 1) := by decide +kernel
theorem dX7_pass_57 : decode cX7_pass 57 = .ok (.invokevirtual 87, 3) := by decide +kernel
theorem dX7_pass_60 : decode cX7_pass 60 = .ok (.idiv, 1) := by decide +kernel
theorem dX7_pass_61 : decode cX7_pass 61 = .ok (.istore_n 2, 1) := by decide +kernel
theorem dX7_pass_62 : decode cX7_pass 62 = .ok (.iconst 0, 1) := by decide +kernel
theorem dX7_pass_63 : decode cX7_pass 63 = .ok (.istore_n 3, 1) := by decide +kernel
theorem dX7_pass_64 : decode cX7_pass 64 = .ok (.iload_n 3, 1) := by decide +kernel
theorem dX7_pass_65 : decode cX7_pass 65 = .ok (.aload_n 0, 1) := by decide +kernel
theorem dX7_pass_66 : decode cX7_pass 66 = .ok (.getfield 64, 3) := by decide +kernel
theorem dX7_pass_69 : decode cX7_pass 69 = .ok (.if_icmp .ge 193, 3) := by decide +kernel
theorem dX7_pass_72 : decode cX7_pass 72 = .ok (.aload_n 0, 1) := by decide +kernel
theorem dX7_pass_73 : decode cX7_pass 73 = .ok (.iload_n 3, 1) := by decide +kernel
theorem dX7_pass_74 : decode cX7_pass 74 = .ok (.invokevirtual 91, 3) := by decide +kernel
theorem dX7_pass_77 : decode cX7_pass 77 = .ok (.aload_n 0, 1) := by decide +kernel
theorem dX7_pass_78 : decode cX7_pass 78 = .ok (.iload_n 3, 1) := by decide +kernel
theorem dX7_pass_79 : decode cX7_pass 79 = .ok (.iload_n 2, 1) := by decide +kernel
theorem dX7_pass_80 : decode cX7_pass 80 = .ok (.invokevirtual 95, 3) := by decide +kernel
theorem dX7_pass_83 : decode cX7_pass 83 = .ok (.iconst 2, 1) := by decide +kernel
theorem dX7_pass_84 : decode cX7_pass 84 = .ok (.iconst 3, 1) := by decide +kernel
theorem dX7_pass_85 : decode cX7_pass 85 = .ok (.iload_n 3, 1) := by decide +kernel
theorem dX7_pass_86 : decode cX7_pass 86 = .ok (.imul, 1) := by decide +kernel
theorem dX7_pass_87 : decode cX7_pass 87 = .ok (.iconst 2, 1) := by decide +kernel
theorem dX7_pass_88 : decode cX7_pass 88 = .ok (.iadd, 1) := by decide +kernel
theorem dX7_pass_89 : decode cX7_pass 89 = .ok (.imul, 1) := by decide +kernel
theorem dX7_pass_90 : decode cX7_pass 90 = .ok (.istore 4, 2) := by decide +kernel
theorem dX7_pass_92 : decode cX7_pass 92 = .ok (.aload_n 0, 1) := by decide +kernel
theorem dX7_pass_93 : decode cX7_pass 93 = .ok (.getfield 46, 3) := by decide +kernel
theorem dX7_pass_96 : decode cX7_pass 96 = .ok (.iload 4, 2) := by decide +kernel
theorem dX7_pass_98 : decode cX7_pass 98 = .ok (.iconst 1, 1) := by decide +kernel
theorem dX7_pass_99 : decode cX7_pass 99 = .ok (.iadd, 1) := by decide +kernel
theorem dX7_pass_100 : decode cX7_pass 100 = .ok (.iaload, 1) := by decide +kernel
theorem dX7_pass_101 : decode cX7_pass 101 = .ok (.ifCond .ne 7, 3) := by decide +kernel
theorem dX7_pass_104 : decode cX7_pass 104 = .ok (.iconst 0, 1) := by decide +kernel
theorem dX7_pass_105 : decode cX7_pass 105 = .ok (.goto 19, 3) := by decide +kernel
theorem dX7_pass_108 : decode cX7_pass 108 = .ok (.iconst 1, 1) := by decide +kernel
theorem dX7_pass_109 : decode cX7_pass 109 = .ok (.aload_n 0, 1) := by decide +kernel
theorem dX7_pass_110 : decode cX7_pass 110 = .ok (.getfield 46, 3) := by decide +kernel
theorem dX7_pass_113 : decode cX7_pass 113 = .ok (.iload 4, 2) := by decide +kernel
theorem dX7_pass_115 : decode cX7_pass 115 = .ok (.iconst 1, 1) := by decide +kernel
theorem dX7_pass_116 : decode cX7_pass 116 = .ok (.iadd, 1) := by decide +kernel
theorem dX7_pass_117 : decode cX7_pass 117 = .ok (.iaload, 1) := by decide +kernel
theorem dX7_pass_118 : decode cX7_pass 118 = .ok (.bipush 10, 2) := by decide +kernel
theorem dX7_pass_120 : decode cX7_pass 120 = .ok (.idiv, 1) := by decide +kernel
theorem dX7_pass_121 : decode cX7_pass 121 = .ok (.invokestatic 99, 3) := by decide +kernel
theorem dX7_pass_124 : decode cX7_pass 124 = .ok (.istore 5, 2) := by decide +kernel
theorem dX7_pass_126 : decode cX7_pass 126 = .ok (.aload_n 0, 1) := by decide +kernel
theorem dX7_pass_127 : decode cX7_pass 127 = .ok (.getfield 46, 3) := by decide +kernel
theorem dX7_pass_130 : decode cX7_pass 130 = .ok (.iload 4, 2) := by decide +kernel
theorem dX7_pass_132 : decode cX7_pass 132 = .ok (.iconst 1, 1) := by decide +kernel
theorem dX7_pass_133 : decode cX7_pass 133 = .ok (.iadd, 1) := by decide +kernel
theorem dX7_pass_134 : decode cX7_pass 134 = .ok (.dup2, 1) := by decide +kernel
theorem dX7_pass_135 : decode cX7_pass 135 = .ok (.iaload, 1) := by decide +kernel
theorem dX7_pass_136 : decode cX7_pass 136 = .ok (.iload 5, 2) := by decide +kernel
theorem dX7_pass_138 : decode cX7_pass 138 = .ok (.isub, 1) := by decide +kernel
theorem dX7_pass_139 : decode cX7_pass 139 = .ok (.iastore, 1) := by decide +kernel
theorem dX7_pass_140 : decode cX7_pass 140 = .ok (.aload_n 0, 1) := by decide +kernel
theorem dX7_pass_141 : decode cX7_pass 141 = .ok (.dup, 1) := by decide +kernel
theorem dX7_pass_142 : decode cX7_pass 142 = .ok (.getfield 70, 3) := by decide +kernel
theorem dX7_pass_145 : decode cX7_pass 145 = .ok (.iload 5, 2) := by decide +kernel
theorem dX7_pass_147 : decode cX7_pass 147 = .ok (.iadd, 1) := by decide +kernel
theorem dX7_pass_148 : decode cX7_pass 148 = .ok (.putfield 70, 3) := by decide +kernel
theorem dX7_pass_151 : decode cX7_pass 151 = .ok (.aload_n 0, 1) := by decide +kernel
theorem dX7_pass_152 : decode cX7_pass 152 = .ok (.iload_n 3, 1) := by decide +kernel
theorem dX7_pass_153 : decode cX7_pass 153 = .ok (.iconst 2, 1) := by decide +kernel
theorem dX7_pass_154 : decode cX7_pass 154 = .ok (.invokevirtual 102, 3) := by decide +kernel
theorem dX7_pass_157 : decode cX7_pass 157 = .ok (.iload_n 1, 1) := by decide +kernel
theorem dX7_pass_158 : decode cX7_pass 158 = .ok (.iconst 4, 1) := by decide +kernel
theorem dX7_pass_159 : decode cX7_pass 159 = .ok (.idiv, 1) := by decide +kernel
theorem dX7_pass_160 : decode cX7_pass 160 = .ok (.sipush 6000, 3) := by decide +kernel
theorem dX7_pass_163 : decode cX7_pass 163 = .ok (.aload_n 0, 1) := by decide +kernel
theorem dX7_pass_164 : decode cX7_pass 164 = .ok (.aload_n 0, 1) := by decide +kernel
theorem dX7_pass_165 : decode cX7_pass 165 = .ok (.getfield 37, 3) := by decide +kernel
theorem dX7_pass_168 : decode cX7_pass 168 = .ok (.iload_n 3, 1) := by decide +kernel
theorem dX7_pass_169 : decode cX7_pass 169 = .ok (.iaload, 1) := by decide +kernel
theorem dX7_pass_170 : decode cX7_pass 170 = .ok (.invokevirtual 105, 3) := by decide +kernel
theorem dX7_pass_173 : decode cX7_pass 173 = .ok (.isub, 1) := by decide +kernel
theorem dX7_pass_174 : decode cX7_pass 174 = .ok (.invokestatic 81, 3) := by decide +kernel
theorem dX7_pass_177 : decode cX7_pass 177 = .ok (.invokestatic 81, 3) := by decide +kernel
theorem dX7_pass_180 : decode cX7_pass 180 = .ok (.istore 6, 2) := by decide +kernel
theorem dX7_pass_182 : decode cX7_pass 182 = .ok (.aload_n 0, 1) := by decide +kernel
theorem dX7_pass_183 : decode cX7_pass 183 = .ok (.getfield 46, 3) := by decide +kernel
theorem dX7_pass_186 : decode cX7_pass 186 = .ok (.iload 4, 2) := by decide +kernel
theorem dX7_pass_188 : decode cX7_pass 188 = .ok (.aload_n 0, 1) := by decide +kernel
theorem dX7_pass_189 : decode cX7_pass 189 = .ok (.getfield 52, 3) := by decide +kernel
theorem dX7_pass_192 : decode cX7_pass 192 = .ok (.iconst 2, 1) := by decide +kernel
theorem dX7_pass_193 : decode cX7_pass 193 = .ok (.aload_n 0, 1) := by decide +kernel
theorem dX7_pass_194 : decode cX7_pass 194 = .ok (.getfield 37, 3) := by decide +kernel
theorem dX7_pass_197 : decode cX7_pass 197 = .ok (.iload_n 3, 1) := by decide +kernel
theorem dX7_pass_198 : decode cX7_pass 198 = .ok (.iaload, 1) := by decide +kernel
theorem dX7_pass_199 : decode cX7_pass 199 = .ok (.imul, 1) := by decide +kernel
theorem dX7_pass_200 : decode cX7_pass 200 = .ok (.iload 6, 2) := by decide +kernel
theorem dX7_pass_202 : decode cX7_pass 202 = .ok (.invokestatic 109, 3) := by decide +kernel
theorem dX7_pass_205 : decode cX7_pass 205 = .ok (.iconst 4, 1) := by decide +kernel
theorem dX7_pass_206 : decode cX7_pass 206 = .ok (.iload_n 3, 1) := by decide +kernel
theorem dX7_pass_207 : decode cX7_pass 207 = .ok (.imul, 1) := by decide +kernel
theorem dX7_pass_208 : decode cX7_pass 208 = .ok (.istore 7, 2) := by decide +kernel
theorem dX7_pass_210 : decode cX7_pass 210 = .ok (.iload 7, 2) := by decide +kernel
theorem dX7_pass_212 : decode cX7_pass 212 = .ok (.iconst 4, 1) := by decide +kernel
theorem dX7_pass_213 : decode cX7_pass 213 = .ok (.iload_n 3, 1) := by decide +kernel
theorem dX7_pass_214 : decode cX7_pass 214 = .ok (.imul, 1) := by decide +kernel
theorem dX7_pass_215 : decode cX7_pass 215 = .ok (.aload_n 0, 1) := by decide +kernel
theorem dX7_pass_216 : decode cX7_pass 216 = .ok (.getfield 22, 3) := by decide +kernel
theorem dX7_pass_219 : decode cX7_pass 219 = .ok (.iload_n 3, 1) := by decide +kernel
theorem dX7_pass_220 : decode cX7_pass 220 = .ok (.iaload, 1) := by decide +kernel
theorem dX7_pass_221 : decode cX7_pass 221 = .ok (.iadd, 1) := by decide +kernel
theorem dX7_pass_222 : decode cX7_pass 222 = .ok (.if_icmp .ge 34, 3) := by decide +kernel
theorem dX7_pass_225 : decode cX7_pass 225 = .ok (.aload_n 0, 1) := by decide +kernel
theorem dX7_pass_226 : decode cX7_pass 226 = .ok (.getfield 31, 3) := by decide +kernel
theorem dX7_pass_229 : decode cX7_pass 229 = .ok (.iload 7, 2) := by decide +kernel
theorem dX7_pass_231 : decode cX7_pass 231 = .ok (.bipush 90, 2) := by decide +kernel
theorem dX7_pass_233 : decode cX7_pass 233 = .ok (.aload_n 0, 1) := by decide +kernel
theorem dX7_pass_234 : decode cX7_pass 234 = .ok (.getfield 31, 3) := by decide +kernel
theorem dX7_pass_237 : decode cX7_pass 237 = .ok (.iload 7, 2) := by decide +kernel
theorem dX7_pass_239 : decode cX7_pass 239 = .ok (.iaload, 1) := by decide +kernel
theorem dX7_pass_240 : decode cX7_pass 240 = .ok (.iload_n 2, 1) := by decide +kernel
theorem dX7_pass_241 : decode cX7_pass 241 = .ok (.sipush 200, 3) := by decide +kernel
theorem dX7_pass_244 : decode cX7_pass 244 = .ok (.idiv, 1) := by decide +kernel
theorem dX7_pass_245 : decode cX7_pass 245 = .ok (.iadd, 1) := by decide +kernel
theorem dX7_pass_246 : decode cX7_pass 246 = .ok (.invokestatic 81, 3) := by decide +kernel
theorem dX7_pass_249 : decode cX7_pass 249 = .ok (.iastore, 1) := by decide +kernel
theorem dX7_pass_250 : decode cX7_pass 250 = .ok (.iinc 7 1, 3) := by decide +kernel
theorem dX7_pass_253 : decode cX7_pass 253 = .ok (.goto (-43), 3) := by decide +kernel
theorem dX7_pass_256 : decode cX7_pass 256 = .ok (.iinc 3 1, 3) := by decide +kernel
theorem dX7_pass_259 : decode cX7_pass 259 = .ok (.goto (-195), 3) := by decide +kernel
theorem dX7_pass_262 : decode cX7_pass 262 = .ok (.aload_n 0, 1) := by decide +kernel
theorem dX7_pass_263 : decode cX7_pass 263 = .ok (.dup, 1) := by decide +kernel
theorem dX7_pass_264 : decode cX7_pass 264 = .ok (.getfield 61, 3) := by decide +kernel
theorem dX7_pass_267 : decode cX7_pass 267 = .ok (.iconst 1, 1) := by decide +kernel
theorem dX7_pass_268 : decode cX7_pass 268 = .ok (.iadd, 1) := by decide +kernel
theorem dX7_pass_269 : decode cX7_pass 269 = .ok (.putfield 61, 3) := by decide +kernel
theorem dX7_pass_272 : decode cX7_pass 272 = .ok (.iload_n 2, 1) := by decide +kernel
theorem dX7_pass_273 : decode cX7_pass 273 = .ok (.ireturn, 1) := by decide +kernel
theorem dX7_eat_0 : decode cX7_eat 0 = .ok (.aload_n 0, 1) := by decide +kernel
theorem dX7_eat_1 : decode cX7_eat 1 = .ok (.getfield 34, 3) := by decide +kernel
theorem dX7_eat_4 : decode cX7_eat 4 = .ok (.iload_n 1, 1) := by decide +kernel
theorem dX7_eat_5 : decode cX7_eat 5 = .ok (.iaload, 1) := by decide +kernel
theorem dX7_eat_6 : decode cX7_eat 6 = .ok (.istore_n 2, 1) := by decide +kernel
theorem dX7_eat_7 : decode cX7_eat 7 = .ok (.iload_n 2, 1) := by decide +kernel
theorem dX7_eat_8 : decode cX7_eat 8 = .ok (.ifCond .le 84, 3) := by decide +kernel
theorem dX7_eat_11 : decode cX7_eat 11 = .ok (.aload_n 0, 1) := by decide +kernel
theorem dX7_eat_12 : decode cX7_eat 12 = .ok (.getfield 67, 3) := by decide +kernel
theorem dX7_eat_15 : decode cX7_eat 15 = .ok (.ifCond .le 77, 3) := by decide +kernel
theorem dX7_eat_18 : decode cX7_eat 18 = .ok (.iload_n 2, 1) := by decide +kernel
theorem dX7_eat_19 : decode cX7_eat 19 = .ok (.aload_n 0, 1) := by decide +kernel
theorem dX7_eat_20 : decode cX7_eat 20 = .ok (.getfield 49, 3) := by decide +kernel
theorem dX7_eat_23 : decode cX7_eat 23 = .ok (.iconst 0, 1) := by decide +kernel
theorem dX7_eat_24 : decode cX7_eat 24 = .ok (.iaload, 1) := by decide +kernel
theorem dX7_eat_25 : decode cX7_eat 25 = .ok (.aload_n 0, 1) := by decide +kernel
theorem dX7_eat_26 : decode cX7_eat 26 = .ok (.getfield 49, 3) := by decide +kernel
theorem dX7_eat_29 : decode cX7_eat 29 = .ok (.iconst 1, 1) := by decide +kernel
theorem dX7_eat_30 : decode cX7_eat 30 = .ok (.iaload, 1) := by decide +kernel
theorem dX7_eat_31 : decode cX7_eat 31 = .ok (.iadd, 1) := by decide +kernel
theorem dX7_eat_32 : decode cX7_eat 32 = .ok (.invokestatic 81, 3) := by decide +kernel
theorem dX7_eat_35 : decode cX7_eat 35 = .ok (.istore_n 3, 1) := by decide +kernel
theorem dX7_eat_36 : decode cX7_eat 36 = .ok (.aload_n 0, 1) := by decide +kernel
theorem dX7_eat_37 : decode cX7_eat 37 = .ok (.getfield 40, 3) := by decide +kernel
theorem dX7_eat_40 : decode cX7_eat 40 = .ok (.iload_n 1, 1) := by decide +kernel
theorem dX7_eat_41 : decode cX7_eat 41 = .ok (.aload_n 0, 1) := by decide +kernel
theorem dX7_eat_42 : decode cX7_eat 42 = .ok (.getfield 49, 3) := by decide +kernel
theorem dX7_eat_45 : decode cX7_eat 45 = .ok (.iconst 2, 1) := by decide +kernel
theorem dX7_eat_46 : decode cX7_eat 46 = .ok (.iaload, 1) := by decide +kernel
theorem dX7_eat_47 : decode cX7_eat 47 = .ok (.iastore, 1) := by decide +kernel
theorem dX7_eat_48 : decode cX7_eat 48 = .ok (.aload_n 0, 1) := by decide +kernel
theorem dX7_eat_49 : decode cX7_eat 49 = .ok (.getfield 49, 3) := by decide +kernel
theorem dX7_eat_52 : decode cX7_eat 52 = .ok (.iconst 0, 1) := by decide +kernel
theorem dX7_eat_53 : decode cX7_eat 53 = .ok (.aload_n 0, 1) := by decide +kernel
theorem dX7_eat_54 : decode cX7_eat 54 = .ok (.getfield 46, 3) := by decide +kernel
theorem dX7_eat_57 : decode cX7_eat 57 = .ok (.bipush 6, 2) := by decide +kernel
theorem dX7_eat_59 : decode cX7_eat 59 = .ok (.iload_n 1, 1) := by decide +kernel
theorem dX7_eat_60 : decode cX7_eat 60 = .ok (.imul, 1) := by decide +kernel
theorem dX7_eat_61 : decode cX7_eat 61 = .ok (.iload_n 3, 1) := by decide +kernel
theorem dX7_eat_62 : decode cX7_eat 62 = .ok (.invokestatic 109, 3) := by decide +kernel
theorem dX7_eat_65 : decode cX7_eat 65 = .ok (.iload_n 2, 1) := by decide +kernel
theorem dX7_eat_66 : decode cX7_eat 66 = .ok (.iload_n 3, 1) := by decide +kernel
theorem dX7_eat_67 : decode cX7_eat 67 = .ok (.isub, 1) := by decide +kernel
theorem dX7_eat_68 : decode cX7_eat 68 = .ok (.istore_n 2, 1) := by decide +kernel
theorem dX7_eat_69 : decode cX7_eat 69 = .ok (.aload_n 0, 1) := by decide +kernel
theorem dX7_eat_70 : decode cX7_eat 70 = .ok (.getfield 49, 3) := by decide +kernel
theorem dX7_eat_73 : decode cX7_eat 73 = .ok (.iconst 0, 1) := by decide +kernel
theorem dX7_eat_74 : decode cX7_eat 74 = .ok (.iaload, 1) := by decide +kernel
theorem dX7_eat_75 : decode cX7_eat 75 = .ok (.aload_n 0, 1) := by decide +kernel
theorem dX7_eat_76 : decode cX7_eat 76 = .ok (.getfield 49, 3) := by decide +kernel
theorem dX7_eat_79 : decode cX7_eat 79 = .ok (.iconst 1, 1) := by decide +kernel
theorem dX7_eat_80 : decode cX7_eat 80 = .ok (.iaload, 1) := by decide +kernel
theorem dX7_eat_81 : decode cX7_eat 81 = .ok (.iadd, 1) := by decide +kernel
theorem dX7_eat_82 : decode cX7_eat 82 = .ok (.ifCond .ne 7, 3) := by decide +kernel
theorem dX7_eat_85 : decode cX7_eat 85 = .ok (.aload_n 0, 1) := by decide +kernel
theorem dX7_eat_86 : decode cX7_eat 86 = .ok (.invokevirtual 113, 3) := by decide +kernel
theorem dX7_eat_89 : decode cX7_eat 89 = .ok (.goto (-82), 3) := by decide +kernel
theorem dX7_eat_92 : decode cX7_eat 92 = .ok (.return_, 1) := by decide +kernel
theorem dX7_blow_0 : decode cX7_blow 0 = .ok (.aload_n 0, 1) := by decide +kernel
theorem dX7_blow_1 : decode cX7_blow 1 = .ok (.getfield 43, 3) := by decide +kernel
theorem dX7_blow_4 : decode cX7_blow 4 = .ok (.iload_n 1, 1) := by decide +kernel
theorem dX7_blow_5 : decode cX7_blow 5 = .ok (.iconst 0, 1) := by decide +kernel
theorem dX7_blow_6 : decode cX7_blow 6 = .ok (.iastore, 1) := by decide +kernel
theorem dX7_blow_7 : decode cX7_blow 7 = .ok (.iconst 4, 1) := by decide +kernel
theorem dX7_blow_8 : decode cX7_blow 8 = .ok (.iload_n 1, 1) := by decide +kernel
theorem dX7_blow_9 : decode cX7_blow 9 = .ok (.imul, 1) := by decide +kernel
theorem dX7_blow_10 : decode cX7_blow 10 = .ok (.istore_n 3, 1) := by decide +kernel
theorem dX7_blow_11 : decode cX7_blow 11 = .ok (.iload_n 3, 1) := by decide +kernel
theorem dX7_blow_12 : decode cX7_blow 12 = .ok (.iconst 4, 1) := by decide +kernel
theorem dX7_blow_13 : decode cX7_blow 13 = .ok (.iload_n 1, 1) := by decide +kernel
theorem dX7_blow_14 : decode cX7_blow 14 = .ok (.imul, 1) := by decide +kernel
theorem dX7_blow_15 : decode cX7_blow 15 = .ok (.aload_n 0, 1) := by decide +kernel
theorem dX7_blow_16 : decode cX7_blow 16 = .ok (.getfield 22, 3) := by decide +kernel
theorem dX7_blow_19 : decode cX7_blow 19 = .ok (.iload_n 1, 1) := by decide +kernel
theorem dX7_blow_20 : decode cX7_blow 20 = .ok (.iaload, 1) := by decide +kernel
theorem dX7_blow_21 : decode cX7_blow 21 = .ok (.iadd, 1) := by decide +kernel
theorem dX7_blow_22 : decode cX7_blow 22 = .ok (.if_icmp .ge 47, 3) := by decide +kernel
theorem dX7_blow_25 : decode cX7_blow 25 = .ok (.aload_n 0, 1) := by decide +kernel
theorem dX7_blow_26 : decode cX7_blow 26 = .ok (.getfield 43, 3) := by decide +kernel
theorem dX7_blow_29 : decode cX7_blow 29 = .ok (.iload_n 1, 1) := by decide +kernel
theorem dX7_blow_30 : decode cX7_blow 30 = .ok (.dup2, 1) := by decide +kernel
theorem dX7_blow_31 : decode cX7_blow 31 = .ok (.iaload, 1) := by decide +kernel
theorem dX7_blow_32 : decode cX7_blow 32 = .ok (.aload_n 0, 1) := by decide +kernel
theorem dX7_blow_33 : decode cX7_blow 33 = .ok (.getfield 25, 3) := by decide +kernel
theorem dX7_blow_36 : decode cX7_blow 36 = .ok (.iload_n 3, 1) := by decide +kernel
theorem dX7_blow_37 : decode cX7_blow 37 = .ok (.iaload, 1) := by decide +kernel
theorem dX7_blow_38 : decode cX7_blow 38 = .ok (.aload_n 0, 1) := by decide +kernel
theorem dX7_blow_39 : decode cX7_blow 39 = .ok (.getfield 28, 3) := by decide +kernel
theorem dX7_blow_42 : decode cX7_blow 42 = .ok (.iload_n 3, 1) := by decide +kernel
theorem dX7_blow_43 : decode cX7_blow 43 = .ok (.iaload, 1) := by decide +kernel
theorem dX7_blow_44 : decode cX7_blow 44 = .ok (.imul, 1) := by decide +kernel
theorem dX7_blow_45 : decode cX7_blow 45 = .ok (.iload_n 2, 1) := by decide +kernel
theorem dX7_blow_46 : decode cX7_blow 46 = .ok (.imul, 1) := by decide +kernel
theorem dX7_blow_47 : decode cX7_blow 47 = .ok (.bipush 100, 2) := by decide +kernel
theorem dX7_blow_49 : decode cX7_blow 49 = .ok (.aload_n 0, 1) := by decide +kernel
theorem dX7_blow_50 : decode cX7_blow 50 = .ok (.getfield 31, 3) := by decide +kernel
theorem dX7_blow_53 : decode cX7_blow 53 = .ok (.iload_n 3, 1) := by decide +kernel
theorem dX7_blow_54 : decode cX7_blow 54 = .ok (.iaload, 1) := by decide +kernel
theorem dX7_blow_55 : decode cX7_blow 55 = .ok (.isub, 1) := by decide +kernel
theorem dX7_blow_56 : decode cX7_blow 56 = .ok (.imul, 1) := by decide +kernel
theorem dX7_blow_57 : decode cX7_blow 57 = .ok (.sipush 1000, 3) := by decide +kernel
theorem dX7_blow_60 : decode cX7_blow 60 = .ok (.idiv, 1) := by decide +kernel
theorem dX7_blow_61 : decode cX7_blow 61 = .ok (.iadd, 1) := by decide +kernel
theorem dX7_blow_62 : decode cX7_blow 62 = .ok (.iastore, 1) := by decide +kernel
theorem dX7_blow_63 : decode cX7_blow 63 = .ok (.iinc 3 1, 3) := by decide +kernel
theorem dX7_blow_66 : decode cX7_blow 66 = .ok (.goto (-55), 3) := by decide +kernel
theorem dX7_blow_69 : decode cX7_blow 69 = .ok (.bipush 6, 2) := by decide +kernel
theorem dX7_blow_71 : decode cX7_blow 71 = .ok (.iload_n 1, 1) := by decide +kernel
theorem dX7_blow_72 : decode cX7_blow 72 = .ok (.imul, 1) := by decide +kernel
theorem dX7_blow_73 : decode cX7_blow 73 = .ok (.istore_n 3, 1) := by decide +kernel
theorem dX7_blow_74 : decode cX7_blow 74 = .ok (.aload_n 0, 1) := by decide +kernel
theorem dX7_blow_75 : decode cX7_blow 75 = .ok (.getfield 46, 3) := by decide +kernel
theorem dX7_blow_78 : decode cX7_blow 78 = .ok (.iload_n 3, 1) := by decide +kernel
theorem dX7_blow_79 : decode cX7_blow 79 = .ok (.aload_n 0, 1) := by decide +kernel
theorem dX7_blow_80 : decode cX7_blow 80 = .ok (.getfield 46, 3) := by decide +kernel
theorem dX7_blow_83 : decode cX7_blow 83 = .ok (.iload_n 3, 1) := by decide +kernel
theorem dX7_blow_84 : decode cX7_blow 84 = .ok (.iconst 2, 1) := by decide +kernel
theorem dX7_blow_85 : decode cX7_blow 85 = .ok (.iadd, 1) := by decide +kernel
theorem dX7_blow_86 : decode cX7_blow 86 = .ok (.aload_n 0, 1) := by decide +kernel
theorem dX7_blow_87 : decode cX7_blow 87 = .ok (.iload_n 1, 1) := by decide +kernel
theorem dX7_blow_88 : decode cX7_blow 88 = .ok (.iconst 0, 1) := by decide +kernel
theorem dX7_blow_89 : decode cX7_blow 89 = .ok (.invokevirtual 102, 3) := by decide +kernel
theorem dX7_blow_92 : decode cX7_blow 92 = .ok (.aload_n 0, 1) := by decide +kernel
theorem dX7_blow_93 : decode cX7_blow 93 = .ok (.getfield 43, 3) := by decide +kernel
theorem dX7_blow_96 : decode cX7_blow 96 = .ok (.iload_n 1, 1) := by decide +kernel
theorem dX7_blow_97 : decode cX7_blow 97 = .ok (.iaload, 1) := by decide +kernel
theorem dX7_blow_98 : decode cX7_blow 98 = .ok (.aload_n 0, 1) := by decide +kernel
theorem dX7_blow_99 : decode cX7_blow 99 = .ok (.getfield 40, 3) := by decide +kernel
theorem dX7_blow_102 : decode cX7_blow 102 = .ok (.iload_n 1, 1) := by decide +kernel
theorem dX7_blow_103 : decode cX7_blow 103 = .ok (.iaload, 1) := by decide +kernel
theorem dX7_blow_104 : decode cX7_blow 104 = .ok (.idiv, 1) := by decide +kernel
theorem dX7_blow_105 : decode cX7_blow 105 = .ok (.invokestatic 81, 3) := by decide +kernel
theorem dX7_blow_108 : decode cX7_blow 108 = .ok (.invokestatic 109, 3) := by decide +kernel
theorem dX7_blow_111 : decode cX7_blow 111 = .ok (.aload_n 0, 1) := by decide +kernel
theorem dX7_blow_112 : decode cX7_blow 112 = .ok (.getfield 46, 3) := by decide +kernel
theorem dX7_blow_115 : decode cX7_blow 115 = .ok (.iload_n 3, 1) := by decide +kernel
theorem dX7_blow_116 : decode cX7_blow 116 = .ok (.iconst 2, 1) := by decide +kernel
theorem dX7_blow_117 : decode cX7_blow 117 = .ok (.iadd, 1) := by decide +kernel
theorem dX7_blow_118 : decode cX7_blow 118 = .ok (.aload_n 0, 1) := by decide +kernel
theorem dX7_blow_119 : decode cX7_blow 119 = .ok (.getfield 46, 3) := by decide +kernel
theorem dX7_blow_122 : decode cX7_blow 122 = .ok (.iload_n 3, 1) := by decide +kernel
theorem dX7_blow_123 : decode cX7_blow 123 = .ok (.iconst 4, 1) := by decide +kernel
theorem dX7_blow_124 : decode cX7_blow 124 = .ok (.iadd, 1) := by decide +kernel
theorem dX7_blow_125 : decode cX7_blow 125 = .ok (.aload_n 0, 1) := by decide +kernel
theorem dX7_blow_126 : decode cX7_blow 126 = .ok (.iload_n 1, 1) := by decide +kernel
theorem dX7_blow_127 : decode cX7_blow 127 = .ok (.iconst 1, 1) := by decide +kernel
theorem dX7_blow_128 : decode cX7_blow 128 = .ok (.invokevirtual 102, 3) := by decide +kernel
theorem dX7_blow_131 : decode cX7_blow 131 = .ok (.aload_n 0, 1) := by decide +kernel
theorem dX7_blow_132 : decode cX7_blow 132 = .ok (.getfield 43, 3) := by decide +kernel
theorem dX7_blow_135 : decode cX7_blow 135 = .ok (.iload_n 1, 1) := by decide +kernel
theorem dX7_blow_136 : decode cX7_blow 136 = .ok (.iaload, 1) := by decide +kernel
theorem dX7_blow_137 : decode cX7_blow 137 = .ok (.iconst 2, 1) := by decide +kernel
theorem dX7_blow_138 : decode cX7_blow 138 = .ok (.aload_n 0, 1) := by decide +kernel
theorem dX7_blow_139 : decode cX7_blow 139 = .ok (.getfield 40, 3) := by decide +kernel
theorem dX7_blow_142 : decode cX7_blow 142 = .ok (.iload_n 1, 1) := by decide +kernel
theorem dX7_blow_143 : decode cX7_blow 143 = .ok (.iaload, 1) := by decide +kernel
theorem dX7_blow_144 : decode cX7_blow 144 = .ok (.imul, 1) := by decide +kernel
theorem dX7_blow_145 : decode cX7_blow 145 = .ok (.idiv, 1) := by decide +kernel
theorem dX7_blow_146 : decode cX7_blow 146 = .ok (.invokestatic 81, 3) := by decide +kernel
theorem dX7_blow_149 : decode cX7_blow 149 = .ok (.invokestatic 109, 3) := by decide +kernel
theorem dX7_blow_152 : decode cX7_blow 152 = .ok (.return_, 1) := by decide +kernel
theorem dX7_tinInBuddles_0 : decode cX7_tinInBuddles 0 = .ok (.aload_n 0, 1) := by decide +kernel
theorem dX7_tinInBuddles_1 : decode cX7_tinInBuddles 1 = .ok (.getfield 52, 3) := by decide +kernel
theorem dX7_tinInBuddles_4 : decode cX7_tinInBuddles 4 = .ok (.iconst 1, 1) := by decide +kernel
theorem dX7_tinInBuddles_5 : decode cX7_tinInBuddles 5 = .ok (.iaload, 1) := by decide +kernel
theorem dX7_tinInBuddles_6 : decode cX7_tinInBuddles 6 = .ok (.aload_n 0, 1) := by decide +kernel
theorem dX7_tinInBuddles_7 : decode cX7_tinInBuddles 7 = .ok (.getfield 52, 3) := by decide +kernel
theorem dX7_tinInBuddles_10 : decode cX7_tinInBuddles 10 = .ok (.iconst 3, 1) := by decide +kernel
theorem dX7_tinInBuddles_11 : decode cX7_tinInBuddles 11 = .ok (.iaload, 1) := by decide +kernel
theorem dX7_tinInBuddles_12 : decode cX7_tinInBuddles 12 = .ok (.iadd, 1) := by decide +kernel
theorem dX7_tinInBuddles_13 : decode cX7_tinInBuddles 13 = .ok (.aload_n 0, 1) := by decide +kernel
theorem dX7_tinInBuddles_14 : decode cX7_tinInBuddles 14 = .ok (.getfield 52, 3) := by decide +kernel
theorem dX7_tinInBuddles_17 : decode cX7_tinInBuddles 17 = .ok (.iconst 5, 1) := by decide +kernel
theorem dX7_tinInBuddles_18 : decode cX7_tinInBuddles 18 = .ok (.iaload, 1) := by decide +kernel
theorem dX7_tinInBuddles_19 : decode cX7_tinInBuddles 19 = .ok (.iadd, 1) := by decide +kernel
theorem dX7_tinInBuddles_20 : decode cX7_tinInBuddles 20 = .ok (.ireturn, 1) := by decide +kernel
theorem dX7_inHopper_0 : decode cX7_inHopper 0 = .ok (.iconst 0, 1) := by decide +kernel
theorem dX7_inHopper_1 : decode cX7_inHopper 1 = .ok (.istore_n 1, 1) := by decide +kernel
theorem dX7_inHopper_2 : decode cX7_inHopper 2 = .ok (.iconst 0, 1) := by decide +kernel
theorem dX7_inHopper_3 : decode cX7_inHopper 3 = .ok (.istore_n 2, 1) := by decide +kernel
theorem dX7_inHopper_4 : decode cX7_inHopper 4 = .ok (.iload_n 2, 1) := by decide +kernel
theorem dX7_inHopper_5 : decode cX7_inHopper 5 = .ok (.aload_n 0, 1) := by decide +kernel
theorem dX7_inHopper_6 : decode cX7_inHopper 6 = .ok (.getfield 67, 3) := by decide +kernel
theorem dX7_inHopper_9 : decode cX7_inHopper 9 = .ok (.if_icmp .ge 31, 3) := by decide +kernel
theorem dX7_inHopper_12 : decode cX7_inHopper 12 = .ok (.iload_n 1, 1) := by decide +kernel
theorem dX7_inHopper_13 : decode cX7_inHopper 13 = .ok (.aload_n 0, 1) := by decide +kernel
theorem dX7_inHopper_14 : decode cX7_inHopper 14 = .ok (.getfield 49, 3) := by decide +kernel
theorem dX7_inHopper_17 : decode cX7_inHopper 17 = .ok (.iconst 3, 1) := by decide +kernel
theorem dX7_inHopper_18 : decode cX7_inHopper 18 = .ok (.iload_n 2, 1) := by decide +kernel
theorem dX7_inHopper_19 : decode cX7_inHopper 19 = .ok (.imul, 1) := by decide +kernel
theorem dX7_inHopper_20 : decode cX7_inHopper 20 = .ok (.iaload, 1) := by decide +kernel
theorem dX7_inHopper_21 : decode cX7_inHopper 21 = .ok (.aload_n 0, 1) := by decide +kernel
theorem dX7_inHopper_22 : decode cX7_inHopper 22 = .ok (.getfield 49, 3) := by decide +kernel
theorem dX7_inHopper_25 : decode cX7_inHopper 25 = .ok (.iconst 3, 1) := by decide +kernel
theorem dX7_inHopper_26 : decode cX7_inHopper 26 = .ok (.iload_n 2, 1) := by decide +kernel
theorem dX7_inHopper_27 : decode cX7_inHopper 27 = .ok (.imul, 1) := by decide +kernel
theorem dX7_inHopper_28 : decode cX7_inHopper 28 = .ok (.iconst 1, 1) := by decide +kernel
theorem dX7_inHopper_29 : decode cX7_inHopper 29 = .ok (.iadd, 1) := by decide +kernel
theorem dX7_inHopper_30 : decode cX7_inHopper 30 = .ok (.iaload, 1) := by decide +kernel
theorem dX7_inHopper_31 : decode cX7_inHopper 31 = .ok (.iadd, 1) := by decide +kernel
theorem dX7_inHopper_32 : decode cX7_inHopper 32 = .ok (.iadd, 1) := by decide +kernel
theorem dX7_inHopper_33 : decode cX7_inHopper 33 = .ok (.istore_n 1, 1) := by decide +kernel
theorem dX7_inHopper_34 : decode cX7_inHopper 34 = .ok (.iinc 2 1, 3) := by decide +kernel
theorem dX7_inHopper_37 : decode cX7_inHopper 37 = .ok (.goto (-33), 3) := by decide +kernel
theorem dX7_inHopper_40 : decode cX7_inHopper 40 = .ok (.iload_n 1, 1) := by decide +kernel
theorem dX7_inHopper_41 : decode cX7_inHopper 41 = .ok (.ireturn, 1) := by decide +kernel
theorem dX8_init_0 : decode cX8_init 0 = .ok (.aload_n 0, 1) := by decide +kernel
theorem dX8_init_1 : decode cX8_init 1 = .ok (.invokespecial 1, 3) := by decide +kernel
theorem dX8_init_4 : decode cX8_init 4 = .ok (.aload_n 0, 1) := by decide +kernel
theorem dX8_init_5 : decode cX8_init 5 = .ok (.new 7, 3) := by decide +kernel
theorem dX8_init_8 : decode cX8_init 8 = .ok (.dup, 1) := by decide +kernel
theorem dX8_init_9 : decode cX8_init 9 = .ok (.invokespecial 9, 3) := by decide +kernel
theorem dX8_init_12 : decode cX8_init 12 = .ok (.putfield 10, 3) := by decide +kernel
theorem dX8_init_15 : decode cX8_init 15 = .ok (.aload_n 0, 1) := by decide +kernel
theorem dX8_init_16 : decode cX8_init 16 = .ok (.new 7, 3) := by decide +kernel
theorem dX8_init_19 : decode cX8_init 19 = .ok (.dup, 1) := by decide +kernel
theorem dX8_init_20 : decode cX8_init 20 = .ok (.invokespecial 9, 3) := by decide +kernel
theorem dX8_init_23 : decode cX8_init 23 = .ok (.putfield 16, 3) := by decide +kernel
theorem dX8_init_26 : decode cX8_init 26 = .ok (.aload_n 0, 1) := by decide +kernel
theorem dX8_init_27 : decode cX8_init 27 = .ok (.iconst 2, 1) := by decide +kernel
theorem dX8_init_28 : decode cX8_init 28 = .ok (.newarray .int, 2) := by decide +kernel
theorem dX8_init_30 : decode cX8_init 30 = .ok (.putfield 19, 3) := by decide +kernel
theorem dX8_init_33 : decode cX8_init 33 = .ok (.return_, 1) := by decide +kernel
theorem dX8_thrown_0 : decode cX8_thrown 0 = .ok (.aload_n 0, 1) := by decide +kernel
theorem dX8_thrown_1 : decode cX8_thrown 1 = .ok (.getfield 23, 3) := by decide +kernel
theorem dX8_thrown_4 : decode cX8_thrown 4 = .ok (.ireturn, 1) := by decide +kernel
theorem dX8_no_0 : decode cX8_no 0 = .ok (.aload_n 0, 1) := by decide +kernel
theorem dX8_no_1 : decode cX8_no 1 = .ok (.iload_n 1, 1) := by decide +kernel
theorem dX8_no_2 : decode cX8_no 2 = .ok (.putfield 23, 3) := by decide +kernel
theorem dX8_no_5 : decode cX8_no 5 = .ok (.iconst 0, 1) := by decide +kernel
theorem dX8_no_6 : decode cX8_no 6 = .ok (.ireturn, 1) := by decide +kernel
theorem dX8_isIn_0 : decode cX8_isIn 0 = .ok (.iload_n 0, 1) := by decide +kernel
theorem dX8_isIn_1 : decode cX8_isIn 1 = .ok (.iload_n 1, 1) := by decide +kernel
theorem dX8_isIn_2 : decode cX8_isIn 2 = .ok (.if_icmp .lt 12, 3) := by decide +kernel
theorem dX8_isIn_5 : decode cX8_isIn 5 = .ok (.iload_n 0, 1) := by decide +kernel
theorem dX8_isIn_6 : decode cX8_isIn 6 = .ok (.iload_n 2, 1) := by decide +kernel
theorem dX8_isIn_7 : decode cX8_isIn 7 = .ok (.if_icmp .gt 7, 3) := by decide +kernel
theorem dX8_isIn_10 : decode cX8_isIn 10 = .ok (.iconst 1, 1) := by decide +kernel
theorem dX8_isIn_11 : decode cX8_isIn 11 = .ok (.goto 4, 3) := by decide +kernel
theorem dX8_isIn_14 : decode cX8_isIn 14 = .ok (.iconst 0, 1) := by decide +kernel
theorem dX8_isIn_15 : decode cX8_isIn 15 = .ok (.ireturn, 1) := by decide +kernel
theorem dX8_setInflow_0 : decode cX8_setInflow 0 = .ok (.aload_n 0, 1) := by decide +kernel
theorem dX8_setInflow_1 : decode cX8_setInflow 1 = .ok (.iconst 0, 1) := by decide +kernel
theorem dX8_setInflow_2 : decode cX8_setInflow 2 = .ok (.putfield 23, 3) := by decide +kernel
theorem dX8_setInflow_5 : decode cX8_setInflow 5 = .ok (.iload_n 1, 1) := by decide +kernel
theorem dX8_setInflow_6 : decode cX8_setInflow 6 = .ok (.iconst 0, 1) := by decide +kernel
theorem dX8_setInflow_7 : decode cX8_setInflow 7 = .ok (.bipush 23, 2) := by decide +kernel
theorem dX8_setInflow_9 : decode cX8_setInflow 9 = .ok (.invokestatic 27, 3) := by decide +kernel
theorem dX8_setInflow_12 : decode cX8_setInflow 12 = .ok (.ifCond .ne 9, 3) := by decide +kernel
theorem dX8_setInflow_15 : decode cX8_setInflow 15 = .ok (.aload_n 0, 1) := by decide +kernel
theorem dX8_setInflow_16 : decode cX8_setInflow 16 = .ok (.iconst 1, 1) := by decide +kernel
theorem dX8_setInflow_17 : decode cX8_setInflow 17 = .ok (.invokevirtual 31, 3) := by decide +kernel
theorem dX8_setInflow_20 : decode cX8_setInflow 20 = .ok (.ireturn, 1) := by decide +kernel
theorem dX8_setInflow_21 : decode cX8_setInflow 21 = .ok (.iload_n 2, 1) := by decide +kernel
theorem dX8_setInflow_22 : decode cX8_setInflow 22 = .ok (.iconst 0, 1) := by decide +kernel
theorem dX8_setInflow_23 : decode cX8_setInflow 23 = .ok (.sipush 900, 3) := by decide +kernel
theorem dX8_setInflow_26 : decode cX8_setInflow 26 = .ok (.invokestatic 27, 3) := by decide +kernel
theorem dX8_setInflow_29 : decode cX8_setInflow 29 = .ok (.ifCond .ne 9, 3) := by decide +kernel
theorem dX8_setInflow_32 : decode cX8_setInflow 32 = .ok (.aload_n 0, 1) := by decide +kernel
theorem dX8_setInflow_33 : decode cX8_setInflow 33 = .ok (.iconst 2, 1) := by decide +kernel
theorem dX8_setInflow_34 : decode cX8_setInflow 34 = .ok (.invokevirtual 31, 3) := by decide +kernel
theorem dX8_setInflow_37 : decode cX8_setInflow 37 = .ok (.ireturn, 1) := by decide +kernel
theorem dX8_setInflow_38 : decode cX8_setInflow 38 = .ok (.aload_n 0, 1) := by decide +kernel
theorem dX8_setInflow_39 : decode cX8_setInflow 39 = .ok (.getfield 10, 3) := by decide +kernel
theorem dX8_setInflow_42 : decode cX8_setInflow 42 = .ok (.getfield 35, 3) := by decide +kernel
theorem dX8_setInflow_45 : decode cX8_setInflow 45 = .ok (.iload_n 1, 1) := by decide +kernel
theorem dX8_setInflow_46 : decode cX8_setInflow 46 = .ok (.iaload, 1) := by decide +kernel
theorem dX8_setInflow_47 : decode cX8_setInflow 47 = .ok (.istore_n 3, 1) := by decide +kernel
theorem dX8_setInflow_48 : decode cX8_setInflow 48 = .ok (.aload_n 0, 1) := by decide +kernel
theorem dX8_setInflow_49 : decode cX8_setInflow 49 = .ok (.getfield 10, 3) := by decide +kernel
theorem dX8_setInflow_52 : decode cX8_setInflow 52 = .ok (.getfield 35, 3) := by decide +kernel
theorem dX8_setInflow_55 : decode cX8_setInflow 55 = .ok (.iload_n 1, 1) := by decide +kernel
theorem dX8_setInflow_56 : decode cX8_setInflow 56 = .ok (.iload_n 2, 1) := by decide +kernel
theorem dX8_setInflow_57 : decode cX8_setInflow 57 = .ok (.iastore, 1) := by decide +kernel
theorem dX8_setInflow_58 : decode cX8_setInflow 58 = .ok (.iload_n 3, 1) := by decide +kernel
theorem dX8_setInflow_59 : decode cX8_setInflow 59 = .ok (.ireturn, 1) := by decide +kernel
theorem dX8_setSluice_0 : decode cX8_setSluice 0 = .ok (.aload_n 0, 1) := by decide +kernel
theorem dX8_setSluice_1 : decode cX8_setSluice 1 = .ok (.iconst 0, 1) := by decide +kernel
theorem dX8_setSluice_2 : decode cX8_setSluice 2 = .ok (.putfield 23, 3) := by decide +kernel
theorem dX8_setSluice_5 : decode cX8_setSluice 5 = .ok (.iload_n 1, 1) := by decide +kernel
theorem dX8_setSluice_6 : decode cX8_setSluice 6 = .ok (.iconst 0, 1) := by decide +kernel
theorem dX8_setSluice_7 : decode cX8_setSluice 7 = .ok (.bipush 20, 2) := by decide +kernel
theorem dX8_setSluice_9 : decode cX8_setSluice 9 = .ok (.invokestatic 27, 3) := by decide +kernel
theorem dX8_setSluice_12 : decode cX8_setSluice 12 = .ok (.ifCond .ne 9, 3) := by decide +kernel
theorem dX8_setSluice_15 : decode cX8_setSluice 15 = .ok (.aload_n 0, 1) := by decide +kernel
theorem dX8_setSluice_16 : decode cX8_setSluice 16 = .ok (.iconst 1, 1) := by decide +kernel
theorem dX8_setSluice_17 : decode cX8_setSluice 17 = .ok (.invokevirtual 31, 3) := by decide +kernel
theorem dX8_setSluice_20 : decode cX8_setSluice 20 = .ok (.ireturn, 1) := by decide +kernel
theorem dX8_setSluice_21 : decode cX8_setSluice 21 = .ok (.aload_n 0, 1) := by decide +kernel
theorem dX8_setSluice_22 : decode cX8_setSluice 22 = .ok (.getfield 10, 3) := by decide +kernel
theorem dX8_setSluice_25 : decode cX8_setSluice 25 = .ok (.getfield 38, 3) := by decide +kernel
theorem dX8_setSluice_28 : decode cX8_setSluice 28 = .ok (.istore_n 2, 1) := by decide +kernel
theorem dX8_setSluice_29 : decode cX8_setSluice 29 = .ok (.aload_n 0, 1) := by decide +kernel
theorem dX8_setSluice_30 : decode cX8_setSluice 30 = .ok (.getfield 10, 3) := by decide +kernel
theorem dX8_setSluice_33 : decode cX8_setSluice 33 = .ok (.iload_n 1, 1) := by decide +kernel
theorem dX8_setSluice_34 : decode cX8_setSluice 34 = .ok (.putfield 38, 3) := by decide +kernel
theorem dX8_setSluice_37 : decode cX8_setSluice 37 = .ok (.iload_n 2, 1) := by decide +kernel
theorem dX8_setSluice_38 : decode cX8_setSluice 38 = .ok (.ireturn, 1) := by decide +kernel
theorem dX8_isBox_0 : decode cX8_isBox 0 = .ok (.iload_n 1, 1) := by decide +kernel
theorem dX8_isBox_1 : decode cX8_isBox 1 = .ok (.iconst 0, 1) := by decide +kernel
theorem dX8_isBox_2 : decode cX8_isBox 2 = .ok (.aload_n 0, 1) := by decide +kernel
theorem dX8_isBox_3 : decode cX8_isBox 3 = .ok (.getfield 10, 3) := by decide +kernel
theorem dX8_isBox_6 : decode cX8_isBox 6 = .ok (.getfield 41, 3) := by decide +kernel
theorem dX8_isBox_9 : decode cX8_isBox 9 = .ok (.iconst 1, 1) := by decide +kernel
theorem dX8_isBox_10 : decode cX8_isBox 10 = .ok (.isub, 1) := by decide +kernel
theorem dX8_isBox_11 : decode cX8_isBox 11 = .ok (.invokestatic 27, 3) := by decide +kernel
theorem dX8_isBox_14 : decode cX8_isBox 14 = .ok (.ireturn, 1) := by decide +kernel
theorem dX8_addBox_0 : decode cX8_addBox 0 = .ok (.aload_n 0, 1) := by decide +kernel
theorem dX8_addBox_1 : decode cX8_addBox 1 = .ok (.iconst 0, 1) := by decide +kernel
theorem dX8_addBox_2 : decode cX8_addBox 2 = .ok (.putfield 23, 3) := by decide +kernel
theorem dX8_addBox_5 : decode cX8_addBox 5 = .ok (.aload_n 0, 1) := by decide +kernel
theorem dX8_addBox_6 : decode cX8_addBox 6 = .ok (.getfield 10, 3) := by decide +kernel
theorem dX8_addBox_9 : decode cX8_addBox 9 = .ok (.getfield 41, 3) := by decide +kernel
theorem dX8_addBox_12 : decode cX8_addBox 12 = .ok (.iconst 4, 1) := by decide +kernel
theorem dX8_addBox_13 : decode cX8_addBox 13 = .ok (.if_icmp .ne 9, 3) := by decide +kernel
theorem dX8_addBox_16 : decode cX8_addBox 16 = .ok (.aload_n 0, 1) := by decide +kernel
theorem dX8_addBox_17 : decode cX8_addBox 17 = .ok (.iconst 1, 1) := by decide +kernel
theorem dX8_addBox_18 : decode cX8_addBox 18 = .ok (.invokevirtual 31, 3) := by decide +kernel
theorem dX8_addBox_21 : decode cX8_addBox 21 = .ok (.ireturn, 1) := by decide +kernel
theorem dX8_addBox_22 : decode cX8_addBox 22 = .ok (.aload_n 0, 1) := by decide +kernel
theorem dX8_addBox_23 : decode cX8_addBox 23 = .ok (.getfield 10, 3) := by decide +kernel
theorem dX8_addBox_26 : decode cX8_addBox 26 = .ok (.getfield 44, 3) := by decide +kernel
theorem dX8_addBox_29 : decode cX8_addBox 29 = .ok (.aload_n 0, 1) := by decide +kernel
theorem dX8_addBox_30 : decode cX8_addBox 30 = .ok (.getfield 10, 3) := by decide +kernel
theorem dX8_addBox_33 : decode cX8_addBox 33 = .ok (.getfield 41, 3) := by decide +kernel
theorem dX8_addBox_36 : decode cX8_addBox 36 = .ok (.bipush 50, 2) := by decide +kernel
theorem dX8_addBox_38 : decode cX8_addBox 38 = .ok (.iastore, 1) := by decide +kernel
theorem dX8_addBox_39 : decode cX8_addBox 39 = .ok (.aload_n 0, 1) := by decide +kernel
theorem dX8_addBox_40 : decode cX8_addBox 40 = .ok (.getfield 10, 3) := by decide +kernel
theorem dX8_addBox_43 : decode cX8_addBox 43 = .ok (.getfield 47, 3) := by decide +kernel
theorem dX8_addBox_46 : decode cX8_addBox 46 = .ok (.aload_n 0, 1) := by decide +kernel
theorem dX8_addBox_47 : decode cX8_addBox 47 = .ok (.getfield 10, 3) := by decide +kernel
theorem dX8_addBox_50 : decode cX8_addBox 50 = .ok (.getfield 41, 3) := by decide +kernel
theorem dX8_addBox_53 : decode cX8_addBox 53 = .ok (.iconst 5, 1) := by decide +kernel
theorem dX8_addBox_54 : decode cX8_addBox 54 = .ok (.iastore, 1) := by decide +kernel
theorem dX8_addBox_55 : decode cX8_addBox 55 = .ok (.aload_n 0, 1) := by decide +kernel
theorem dX8_addBox_56 : decode cX8_addBox 56 = .ok (.getfield 10, 3) := by decide +kernel
theorem dX8_addBox_59 : decode cX8_addBox 59 = .ok (.dup, 1) := by decide +kernel
theorem dX8_addBox_60 : decode cX8_addBox 60 = .ok (.getfield 41, 3) := by decide +kernel
theorem dX8_addBox_63 : decode cX8_addBox 63 = .ok (.iconst 1, 1) := by decide +kernel
theorem dX8_addBox_64 : decode cX8_addBox 64 = .ok (.iadd, 1) := by decide +kernel
theorem dX8_addBox_65 : decode cX8_addBox 65 = .ok (.putfield 41, 3) := by decide +kernel
theorem dX8_addBox_68 : decode cX8_addBox 68 = .ok (.aload_n 0, 1) := by decide +kernel
theorem dX8_addBox_69 : decode cX8_addBox 69 = .ok (.getfield 10, 3) := by decide +kernel
theorem dX8_addBox_72 : decode cX8_addBox 72 = .ok (.getfield 41, 3) := by decide +kernel
theorem dX8_addBox_75 : decode cX8_addBox 75 = .ok (.iconst 1, 1) := by decide +kernel
theorem dX8_addBox_76 : decode cX8_addBox 76 = .ok (.isub, 1) := by decide +kernel
theorem dX8_addBox_77 : decode cX8_addBox 77 = .ok (.ireturn, 1) := by decide +kernel
theorem dX8_hang_0 : decode cX8_hang 0 = .ok (.aload_n 0, 1) := by decide +kernel
theorem dX8_hang_1 : decode cX8_hang 1 = .ok (.iconst 0, 1) := by decide +kernel
theorem dX8_hang_2 : decode cX8_hang 2 = .ok (.putfield 23, 3) := by decide +kernel
theorem dX8_hang_5 : decode cX8_hang 5 = .ok (.aload_n 0, 1) := by decide +kernel
theorem dX8_hang_6 : decode cX8_hang 6 = .ok (.iload_n 1, 1) := by decide +kernel
theorem dX8_hang_7 : decode cX8_hang 7 = .ok (.invokevirtual 50, 3) := by decide +kernel
theorem dX8_hang_10 : decode cX8_hang 10 = .ok (.ifCond .ne 9, 3) := by decide +kernel
theorem dX8_hang_13 : decode cX8_hang 13 = .ok (.aload_n 0, 1) := by decide +kernel
theorem dX8_hang_14 : decode cX8_hang 14 = .ok (.iconst 1, 1) := by decide +kernel
theorem dX8_hang_15 : decode cX8_hang 15 = .ok (.invokevirtual 31, 3) := by decide +kernel
theorem dX8_hang_18 : decode cX8_hang 18 = .ok (.ireturn, 1) := by decide +kernel
theorem dX8_hang_19 : decode cX8_hang 19 = .ok (.iload_n 2, 1) := by decide +kernel
theorem dX8_hang_20 : decode cX8_hang 20 = .ok (.bipush 10, 2) := by decide +kernel
theorem dX8_hang_22 : decode cX8_hang 22 = .ok (.bipush 60, 2) := by decide +kernel
theorem dX8_hang_24 : decode cX8_hang 24 = .ok (.invokestatic 27, 3) := by decide +kernel
theorem dX8_hang_27 : decode cX8_hang 27 = .ok (.ifCond .eq 12, 3) := by decide +kernel
theorem dX8_hang_30 : decode cX8_hang 30 = .ok (.iload_n 3, 1) := by decide +kernel
theorem dX8_hang_31 : decode cX8_hang 31 = .ok (.iconst 1, 1) := by decide +kernel
theorem dX8_hang_32 : decode cX8_hang 32 = .ok (.iconst 4, 1) := by decide +kernel
theorem dX8_hang_33 : decode cX8_hang 33 = .ok (.invokestatic 27, 3) := by decide +kernel
theorem dX8_hang_36 : decode cX8_hang 36 = .ok (.ifCond .ne 9, 3) := by decide +kernel
theorem dX8_hang_39 : decode cX8_hang 39 = .ok (.aload_n 0, 1) := by decide +kernel
theorem dX8_hang_40 : decode cX8_hang 40 = .ok (.iconst 2, 1) := by decide +kernel
theorem dX8_hang_41 : decode cX8_hang 41 = .ok (.invokevirtual 31, 3) := by decide +kernel
theorem dX8_hang_44 : decode cX8_hang 44 = .ok (.ireturn, 1) := by decide +kernel
theorem dX8_hang_45 : decode cX8_hang 45 = .ok (.aload_n 0, 1) := by decide +kernel
theorem dX8_hang_46 : decode cX8_hang 46 = .ok (.getfield 10, 3) := by decide +kernel
theorem dX8_hang_49 : decode cX8_hang 49 = .ok (.getfield 54, 3) := by decide +kernel
theorem dX8_hang_52 : decode cX8_hang 52 = .ok (.iload_n 1, 1) := by decide +kernel
theorem dX8_hang_53 : decode cX8_hang 53 = .ok (.iaload, 1) := by decide +kernel
theorem dX8_hang_54 : decode cX8_hang 54 = .ok (.iconst 4, 1) := by decide +kernel
theorem dX8_hang_55 : decode cX8_hang 55 = .ok (.if_icmp .ne 9, 3) := by decide +kernel
theorem dX8_hang_58 : decode cX8_hang 58 = .ok (.aload_n 0, 1) := by decide +kernel
theorem dX8_hang_59 : decode cX8_hang 59 = .ok (.iconst 3, 1) := by decide +kernel
theorem dX8_hang_60 : decode cX8_hang 60 = .ok (.invokevirtual 31, 3) := by decide +kernel
theorem dX8_hang_63 : decode cX8_hang 63 = .ok (.ireturn, 1) := by decide +kernel
theorem dX8_hang_64 : decode cX8_hang 64 = .ok (.iconst 4, 1) := by decide +kernel
theorem dX8_hang_65 : decode cX8_hang 65 = .ok (.iload_n 1, 1) := by decide +kernel
theorem dX8_hang_66 : decode cX8_hang 66 = .ok (.imul, 1) := by decide +kernel
theorem dX8_hang_67 : decode cX8_hang 67 = .ok (.aload_n 0, 1) := by decide +kernel
theorem dX8_hang_68 : decode cX8_hang 68 = .ok (.getfield 10, 3) := by decide +kernel
theorem dX8_hang_71 : decode cX8_hang 71 = .ok (.getfield 54, 3) := by decide +kernel
theorem dX8_hang_74 : decode cX8_hang 74 = .ok (.iload_n 1, 1) := by decide +kernel
theorem dX8_hang_75 : decode cX8_hang 75 = .ok (.iaload, 1) := by decide +kernel
theorem dX8_hang_76 : decode cX8_hang 76 = .ok (.iadd, 1) := by decide +kernel
theorem dX8_hang_77 : decode cX8_hang 77 = .ok (.istore 4, 2) := by decide +kernel
theorem dX8_hang_79 : decode cX8_hang 79 = .ok (.aload_n 0, 1) := by decide +kernel
theorem dX8_hang_80 : decode cX8_hang 80 = .ok (.getfield 10, 3) := by decide +kernel
theorem dX8_hang_83 : decode cX8_hang 83 = .ok (.getfield 57, 3) := by decide +kernel
theorem dX8_hang_86 : decode cX8_hang 86 = .ok (.iload 4, 2) := by decide +kernel
theorem dX8_hang_88 : decode cX8_hang 88 = .ok (.iload_n 2, 1) := by decide +kernel
theorem dX8_hang_89 : decode cX8_hang 89 = .ok (.iastore, 1) := by decide +kernel
theorem dX8_hang_90 : decode cX8_hang 90 = .ok (.aload_n 0, 1) := by decide +kernel
theorem dX8_hang_91 : decode cX8_hang 91 = .ok (.getfield 10, 3) := by decide +kernel
theorem dX8_hang_94 : decode cX8_hang 94 = .ok (.getfield 60, 3) := by decide +kernel
theorem dX8_hang_97 : decode cX8_hang 97 = .ok (.iload 4, 2) := by decide +kernel
theorem dX8_hang_99 : decode cX8_hang 99 = .ok (.iload_n 3, 1) := by decide +kernel
theorem dX8_hang_100 : decode cX8_hang 100 = .ok (.iastore, 1) := by decide +kernel
theorem dX8_hang_101 : decode cX8_hang 101 = .ok (.aload_n 0, 1) := by decide +kernel
theorem dX8_hang_102 : decode cX8_hang 102 = .ok (.getfield 10, 3) := by decide +kernel
theorem dX8_hang_105 : decode cX8_hang 105 = .ok (.getfield 63, 3) := by decide +kernel
theorem dX8_hang_108 : decode cX8_hang 108 = .ok (.iload 4, 2) := by decide +kernel
theorem dX8_hang_110 : decode cX8_hang 110 = .ok (.iconst 0, 1) := by decide +kernel
theorem dX8_hang_111 : decode cX8_hang 111 = .ok (.iastore, 1) := by decide +kernel
theorem dX8_hang_112 : decode cX8_hang 112 = .ok (.aload_n 0, 1) := by decide +kernel
theorem dX8_hang_113 : decode cX8_hang 113 = .ok (.getfield 10, 3) := by decide +kernel
theorem dX8_hang_116 : decode cX8_hang 116 = .ok (.getfield 54, 3) := by decide +kernel
theorem dX8_hang_119 : decode cX8_hang 119 = .ok (.iload_n 1, 1) := by decide +kernel
theorem dX8_hang_120 : decode cX8_hang 120 = .ok (.dup2, 1) := by decide +kernel
theorem dX8_hang_121 : decode cX8_hang 121 = .ok (.iaload, 1) := by decide +kernel
theorem dX8_hang_122 : decode cX8_hang 122 = .ok (.iconst 1, 1) := by decide +kernel
theorem dX8_hang_123 : decode cX8_hang 123 = .ok (.iadd, 1) := by decide +kernel
theorem dX8_hang_124 : decode cX8_hang 124 = .ok (.iastore, 1) := by decide +kernel
theorem dX8_hang_125 : decode cX8_hang 125 = .ok (.aload_n 0, 1) := by decide +kernel
theorem dX8_hang_126 : decode cX8_hang 126 = .ok (.getfield 10, 3) := by decide +kernel
theorem dX8_hang_129 : decode cX8_hang 129 = .ok (.getfield 54, 3) := by decide +kernel
theorem dX8_hang_132 : decode cX8_hang 132 = .ok (.iload_n 1, 1) := by decide +kernel
theorem dX8_hang_133 : decode cX8_hang 133 = .ok (.iaload, 1) := by decide +kernel
theorem dX8_hang_134 : decode cX8_hang 134 = .ok (.ireturn, 1) := by decide +kernel
theorem dX8_shoe_0 : decode cX8_shoe 0 = .ok (.aload_n 0, 1) := by decide +kernel
theorem dX8_shoe_1 : decode cX8_shoe 1 = .ok (.iconst 0, 1) := by decide +kernel
theorem dX8_shoe_2 : decode cX8_shoe 2 = .ok (.putfield 23, 3) := by decide +kernel
theorem dX8_shoe_5 : decode cX8_shoe 5 = .ok (.aload_n 0, 1) := by decide +kernel
theorem dX8_shoe_6 : decode cX8_shoe 6 = .ok (.iload_n 1, 1) := by decide +kernel
theorem dX8_shoe_7 : decode cX8_shoe 7 = .ok (.invokevirtual 50, 3) := by decide +kernel
theorem dX8_shoe_10 : decode cX8_shoe 10 = .ok (.ifCond .eq 22, 3) := by decide +kernel
theorem dX8_shoe_13 : decode cX8_shoe 13 = .ok (.iload_n 2, 1) := by decide +kernel
theorem dX8_shoe_14 : decode cX8_shoe 14 = .ok (.iconst 0, 1) := by decide +kernel
theorem dX8_shoe_15 : decode cX8_shoe 15 = .ok (.aload_n 0, 1) := by decide +kernel
theorem dX8_shoe_16 : decode cX8_shoe 16 = .ok (.getfield 10, 3) := by decide +kernel
theorem dX8_shoe_19 : decode cX8_shoe 19 = .ok (.getfield 54, 3) := by decide +kernel
theorem dX8_shoe_22 : decode cX8_shoe 22 = .ok (.iload_n 1, 1) := by decide +kernel
theorem dX8_shoe_23 : decode cX8_shoe 23 = .ok (.iaload, 1) := by decide +kernel
theorem dX8_shoe_24 : decode cX8_shoe 24 = .ok (.iconst 1, 1) := by decide +kernel
theorem dX8_shoe_25 : decode cX8_shoe 25 = .ok (.isub, 1) := by decide +kernel
theorem dX8_shoe_26 : decode cX8_shoe 26 = .ok (.invokestatic 27, 3) := by decide +kernel
theorem dX8_shoe_29 : decode cX8_shoe 29 = .ok (.ifCond .ne 9, 3) := by decide +kernel
theorem dX8_shoe_32 : decode cX8_shoe 32 = .ok (.aload_n 0, 1) := by decide +kernel
theorem dX8_shoe_33 : decode cX8_shoe 33 = .ok (.iconst 1, 1) := by decide +kernel
theorem dX8_shoe_34 : decode cX8_shoe 34 = .ok (.invokevirtual 31, 3) := by decide +kernel
theorem dX8_shoe_37 : decode cX8_shoe 37 = .ok (.ireturn, 1) := by decide +kernel
theorem dX8_shoe_38 : decode cX8_shoe 38 = .ok (.aload_n 0, 1) := by decide +kernel
theorem dX8_shoe_39 : decode cX8_shoe 39 = .ok (.getfield 10, 3) := by decide +kernel
theorem dX8_shoe_42 : decode cX8_shoe 42 = .ok (.getfield 63, 3) := by decide +kernel
theorem dX8_shoe_45 : decode cX8_shoe 45 = .ok (.iconst 4, 1) := by decide +kernel
theorem dX8_shoe_46 : decode cX8_shoe 46 = .ok (.iload_n 1, 1) := by decide +kernel
theorem dX8_shoe_47 : decode cX8_shoe 47 = .ok (.imul, 1) := by decide +kernel
theorem dX8_shoe_48 : decode cX8_shoe 48 = .ok (.iload_n 2, 1) := by decide +kernel
theorem dX8_shoe_49 : decode cX8_shoe 49 = .ok (.iadd, 1) := by decide +kernel
theorem dX8_shoe_50 : decode cX8_shoe 50 = .ok (.iaload, 1) := by decide +kernel
theorem dX8_shoe_51 : decode cX8_shoe 51 = .ok (.istore_n 3, 1) := by decide +kernel
theorem dX8_shoe_52 : decode cX8_shoe 52 = .ok (.aload_n 0, 1) := by decide +kernel
theorem dX8_shoe_53 : decode cX8_shoe 53 = .ok (.getfield 10, 3) := by decide +kernel
theorem dX8_shoe_56 : decode cX8_shoe 56 = .ok (.getfield 63, 3) := by decide +kernel
theorem dX8_shoe_59 : decode cX8_shoe 59 = .ok (.iconst 4, 1) := by decide +kernel
theorem dX8_shoe_60 : decode cX8_shoe 60 = .ok (.iload_n 1, 1) := by decide +kernel
theorem dX8_shoe_61 : decode cX8_shoe 61 = .ok (.imul, 1) := by decide +kernel
theorem dX8_shoe_62 : decode cX8_shoe 62 = .ok (.iload_n 2, 1) := by decide +kernel
theorem dX8_shoe_63 : decode cX8_shoe 63 = .ok (.iadd, 1) := by decide +kernel
theorem dX8_shoe_64 : decode cX8_shoe 64 = .ok (.iconst 0, 1) := by decide +kernel
theorem dX8_shoe_65 : decode cX8_shoe 65 = .ok (.iastore, 1) := by decide +kernel
theorem dX8_shoe_66 : decode cX8_shoe 66 = .ok (.iload_n 3, 1) := by decide +kernel
theorem dX8_shoe_67 : decode cX8_shoe 67 = .ok (.ireturn, 1) := by decide +kernel
theorem dX8_setBox_0 : decode cX8_setBox 0 = .ok (.aload_n 0, 1) := by decide +kernel
theorem dX8_setBox_1 : decode cX8_setBox 1 = .ok (.iconst 0, 1) := by decide +kernel
theorem dX8_setBox_2 : decode cX8_setBox 2 = .ok (.putfield 23, 3) := by decide +kernel
theorem dX8_setBox_5 : decode cX8_setBox 5 = .ok (.aload_n 0, 1) := by decide +kernel
theorem dX8_setBox_6 : decode cX8_setBox 6 = .ok (.iload_n 1, 1) := by decide +kernel
theorem dX8_setBox_7 : decode cX8_setBox 7 = .ok (.invokevirtual 50, 3) := by decide +kernel
theorem dX8_setBox_10 : decode cX8_setBox 10 = .ok (.ifCond .ne 9, 3) := by decide +kernel
theorem dX8_setBox_13 : decode cX8_setBox 13 = .ok (.aload_n 0, 1) := by decide +kernel
theorem dX8_setBox_14 : decode cX8_setBox 14 = .ok (.iconst 1, 1) := by decide +kernel
theorem dX8_setBox_15 : decode cX8_setBox 15 = .ok (.invokevirtual 31, 3) := by decide +kernel
theorem dX8_setBox_18 : decode cX8_setBox 18 = .ok (.ireturn, 1) := by decide +kernel
theorem dX8_setBox_19 : decode cX8_setBox 19 = .ok (.iload_n 2, 1) := by decide +kernel
theorem dX8_setBox_20 : decode cX8_setBox 20 = .ok (.iconst 0, 1) := by decide +kernel
theorem dX8_setBox_21 : decode cX8_setBox 21 = .ok (.sipush 300, 3) := by decide +kernel
theorem dX8_setBox_24 : decode cX8_setBox 24 = .ok (.invokestatic 27, 3) := by decide +kernel
theorem dX8_setBox_27 : decode cX8_setBox 27 = .ok (.ifCond .eq 12, 3) := by decide +kernel
theorem dX8_setBox_30 : decode cX8_setBox 30 = .ok (.iload_n 3, 1) := by decide +kernel
theorem dX8_setBox_31 : decode cX8_setBox 31 = .ok (.iconst 0, 1) := by decide +kernel
theorem dX8_setBox_32 : decode cX8_setBox 32 = .ok (.iconst 2, 1) := by decide +kernel
theorem dX8_setBox_33 : decode cX8_setBox 33 = .ok (.invokestatic 27, 3) := by decide +kernel
theorem dX8_setBox_36 : decode cX8_setBox 36 = .ok (.ifCond .ne 9, 3) := by decide +kernel
theorem dX8_setBox_39 : decode cX8_setBox 39 = .ok (.aload_n 0, 1) := by decide +kernel
theorem dX8_setBox_40 : decode cX8_setBox 40 = .ok (.iconst 2, 1) := by decide +kernel
theorem dX8_setBox_41 : decode cX8_setBox 41 = .ok (.invokevirtual 31, 3) := by decide +kernel
theorem dX8_setBox_44 : decode cX8_setBox 44 = .ok (.ireturn, 1) := by decide +kernel
theorem dX8_setBox_45 : decode cX8_setBox 45 = .ok (.aload_n 0, 1) := by decide +kernel
theorem dX8_setBox_46 : decode cX8_setBox 46 = .ok (.getfield 10, 3) := by decide +kernel
theorem dX8_setBox_49 : decode cX8_setBox 49 = .ok (.getfield 44, 3) := by decide +kernel
theorem dX8_setBox_52 : decode cX8_setBox 52 = .ok (.iload_n 1, 1) := by decide +kernel
theorem dX8_setBox_53 : decode cX8_setBox 53 = .ok (.iaload, 1) := by decide +kernel
theorem dX8_setBox_54 : decode cX8_setBox 54 = .ok (.istore 4, 2) := by decide +kernel
theorem dX8_setBox_56 : decode cX8_setBox 56 = .ok (.aload_n 0, 1) := by decide +kernel
theorem dX8_setBox_57 : decode cX8_setBox 57 = .ok (.getfield 10, 3) := by decide +kernel
theorem dX8_setBox_60 : decode cX8_setBox 60 = .ok (.getfield 44, 3) := by decide +kernel
theorem dX8_setBox_63 : decode cX8_setBox 63 = .ok (.iload_n 1, 1) := by decide +kernel
theorem dX8_setBox_64 : decode cX8_setBox 64 = .ok (.iload_n 2, 1) := by decide +kernel
theorem dX8_setBox_65 : decode cX8_setBox 65 = .ok (.iastore, 1) := by decide +kernel
theorem dX8_setBox_66 : decode cX8_setBox 66 = .ok (.aload_n 0, 1) := by decide +kernel
theorem dX8_setBox_67 : decode cX8_setBox 67 = .ok (.getfield 10, 3) := by decide +kernel
theorem dX8_setBox_70 : decode cX8_setBox 70 = .ok (.getfield 66, 3) := by decide +kernel
theorem dX8_setBox_73 : decode cX8_setBox 73 = .ok (.iload_n 1, 1) := by decide +kernel
theorem dX8_setBox_74 : decode cX8_setBox 74 = .ok (.iload_n 3, 1) := by decide +kernel
theorem dX8_setBox_75 : decode cX8_setBox 75 = .ok (.iastore, 1) := by decide +kernel
theorem dX8_setBox_76 : decode cX8_setBox 76 = .ok (.iload 4, 2) := by decide +kernel
theorem dX8_setBox_78 : decode cX8_setBox 78 = .ok (.ireturn, 1) := by decide +kernel
theorem dX8_boxTold_0 : decode cX8_boxTold 0 = .ok (.iload_n 2, 1) := by decide +kernel
theorem dX8_boxTold_1 : decode cX8_boxTold 1 = .ok (.iconst 3, 1) := by decide +kernel
theorem dX8_boxTold_2 : decode cX8_boxTold 2 = .ok (.if_icmp .le 41, 3) := by decide +kernel
theorem dX8_boxTold_5 : decode cX8_boxTold 5 = .ok (.iload_n 2, 1) := by decide +kernel
theorem dX8_boxTold_6 : decode cX8_boxTold 6 = .ok (.bipush 10, 2) := by decide +kernel
theorem dX8_boxTold_8 : decode cX8_boxTold 8 = .ok (.if_icmp .ge 35, 3) := by decide +kernel
theorem dX8_boxTold_11 : decode cX8_boxTold 11 = .ok (.aload_n 0, 1) := by decide +kernel
theorem dX8_boxTold_12 : decode cX8_boxTold 12 = .ok (.getfield 10, 3) := by decide +kernel
theorem dX8_boxTold_15 : decode cX8_boxTold 15 = .ok (.getfield 69, 3) := by decide +kernel
theorem dX8_boxTold_18 : decode cX8_boxTold 18 = .ok (.iconst 2, 1) := by decide +kernel
theorem dX8_boxTold_19 : decode cX8_boxTold 19 = .ok (.iconst 3, 1) := by decide +kernel
theorem dX8_boxTold_20 : decode cX8_boxTold 20 = .ok (.iload_n 1, 1) := by decide +kernel
theorem dX8_boxTold_21 : decode cX8_boxTold 21 = .ok (.imul, 1) := by decide +kernel
theorem dX8_boxTold_22 : decode cX8_boxTold 22 = .ok (.iload_n 2, 1) := by decide +kernel
theorem dX8_boxTold_23 : decode cX8_boxTold 23 = .ok (.iconst 4, 1) := by decide +kernel
theorem dX8_boxTold_24 : decode cX8_boxTold 24 = .ok (.isub, 1) := by decide +kernel
theorem dX8_boxTold_25 : decode cX8_boxTold 25 = .ok (.iconst 3, 1) := by decide +kernel
theorem dX8_boxTold_26 : decode cX8_boxTold 26 = .ok (.irem, 1) := by decide +kernel
theorem dX8_boxTold_27 : decode cX8_boxTold 27 = .ok (.iadd, 1) := by decide +kernel
theorem dX8_boxTold_28 : decode cX8_boxTold 28 = .ok (.imul, 1) := by decide +kernel
theorem dX8_boxTold_29 : decode cX8_boxTold 29 = .ok (.iload_n 2, 1) := by decide +kernel
theorem dX8_boxTold_30 : decode cX8_boxTold 30 = .ok (.bipush 6, 2) := by decide +kernel
theorem dX8_boxTold_32 : decode cX8_boxTold 32 = .ok (.if_icmp .le 7, 3) := by decide +kernel
theorem dX8_boxTold_35 : decode cX8_boxTold 35 = .ok (.iconst 1, 1) := by decide +kernel
theorem dX8_boxTold_36 : decode cX8_boxTold 36 = .ok (.goto 4, 3) := by decide +kernel
theorem dX8_boxTold_39 : decode cX8_boxTold 39 = .ok (.iconst 0, 1) := by decide +kernel
theorem dX8_boxTold_40 : decode cX8_boxTold 40 = .ok (.iadd, 1) := by decide +kernel
theorem dX8_boxTold_41 : decode cX8_boxTold 41 = .ok (.iaload, 1) := by decide +kernel
theorem dX8_boxTold_42 : decode cX8_boxTold 42 = .ok (.ireturn, 1) := by decide +kernel
theorem dX8_boxTold_43 : decode cX8_boxTold 43 = .ok (.iload_n 2, 1) := by decide +kernel
theorem dX8_boxTold_44 : decode cX8_boxTold 44 = .ok (.bipush 10, 2) := by decide +kernel
theorem dX8_boxTold_46 : decode cX8_boxTold 46 = .ok (.if_icmp .ne 47, 3) := by decide +kernel
theorem dX8_boxTold_49 : decode cX8_boxTold 49 = .ok (.iconst 0, 1) := by decide +kernel
theorem dX8_boxTold_50 : decode cX8_boxTold 50 = .ok (.istore_n 3, 1) := by decide +kernel
theorem dX8_boxTold_51 : decode cX8_boxTold 51 = .ok (.iconst 0, 1) := by decide +kernel
theorem dX8_boxTold_52 : decode cX8_boxTold 52 = .ok (.istore 4, 2) := by decide +kernel
theorem dX8_boxTold_54 : decode cX8_boxTold 54 = .ok (.iload 4, 2) := by decide +kernel
theorem dX8_boxTold_56 : decode cX8_boxTold 56 = .ok (.aload_n 0, 1) := by decide +kernel
theorem dX8_boxTold_57 : decode cX8_boxTold 57 = .ok (.getfield 10, 3) := by decide +kernel
theorem dX8_boxTold_60 : decode cX8_boxTold 60 = .ok (.getfield 54, 3) := by decide +kernel
theorem dX8_boxTold_63 : decode cX8_boxTold 63 = .ok (.iload_n 1, 1) := by decide +kernel
theorem dX8_boxTold_64 : decode cX8_boxTold 64 = .ok (.iaload, 1) := by decide +kernel
theorem dX8_boxTold_65 : decode cX8_boxTold 65 = .ok (.if_icmp .ge 26, 3) := by decide +kernel
theorem dX8_boxTold_68 : decode cX8_boxTold 68 = .ok (.iload_n 3, 1) := by decide +kernel
theorem dX8_boxTold_69 : decode cX8_boxTold 69 = .ok (.aload_n 0, 1) := by decide +kernel
theorem dX8_boxTold_70 : decode cX8_boxTold 70 = .ok (.getfield 10, 3) := by decide +kernel
theorem dX8_boxTold_73 : decode cX8_boxTold 73 = .ok (.getfield 63, 3) := by decide +kernel
theorem dX8_boxTold_76 : decode cX8_boxTold 76 = .ok (.iconst 4, 1) := by decide +kernel
theorem dX8_boxTold_77 : decode cX8_boxTold 77 = .ok (.iload_n 1, 1) := by decide +kernel
theorem dX8_boxTold_78 : decode cX8_boxTold 78 = .ok (.imul, 1) := by decide +kernel
theorem dX8_boxTold_79 : decode cX8_boxTold 79 = .ok (.iload 4, 2) := by decide +kernel
theorem dX8_boxTold_81 : decode cX8_boxTold 81 = .ok (.iadd, 1) := by decide +kernel
theorem dX8_boxTold_82 : decode cX8_boxTold 82 = .ok (.iaload, 1) := by decide +kernel
theorem dX8_boxTold_83 : decode cX8_boxTold 83 = .ok (.iadd, 1) := by decide +kernel
theorem dX8_boxTold_84 : decode cX8_boxTold 84 = .ok (.istore_n 3, 1) := by decide +kernel
theorem dX8_boxTold_85 : decode cX8_boxTold 85 = .ok (.iinc 4 1, 3) := by decide +kernel
theorem dX8_boxTold_88 : decode cX8_boxTold 88 = .ok (.goto (-34), 3) := by decide +kernel
theorem dX8_boxTold_91 : decode cX8_boxTold 91 = .ok (.iload_n 3, 1) := by decide +kernel
theorem dX8_boxTold_92 : decode cX8_boxTold 92 = .ok (.ireturn, 1) := by decide +kernel
theorem dX8_boxTold_93 : decode cX8_boxTold 93 = .ok (.iload_n 2, 1) := by decide +kernel
theorem dX8_boxTold_94 : decode cX8_boxTold 94 = .ok (.ifCond .ne 15, 3) := by decide +kernel
theorem dX8_boxTold_97 : decode cX8_boxTold 97 = .ok (.aload_n 0, 1) := by decide +kernel
theorem dX8_boxTold_98 : decode cX8_boxTold 98 = .ok (.getfield 10, 3) := by decide +kernel
theorem dX8_boxTold_101 : decode cX8_boxTold 101 = .ok (.getfield 54, 3) := by decide +kernel
theorem dX8_boxTold_104 : decode cX8_boxTold 104 = .ok (.iload_n 1, 1) := by decide +kernel
theorem dX8_boxTold_105 : decode cX8_boxTold 105 = .ok (.iaload, 1) := by decide +kernel
theorem dX8_boxTold_106 : decode cX8_boxTold 106 = .ok (.goto 63, 3) := by decide +kernel
theorem dX8_boxTold_109 : decode cX8_boxTold 109 = .ok (.iload_n 2, 1) := by decide +kernel
theorem dX8_boxTold_110 : decode cX8_boxTold 110 = .ok (.iconst 1, 1) := by decide +kernel
theorem dX8_boxTold_111 : decode cX8_boxTold 111 = .ok (.if_icmp .ne 15, 3) := by decide +kernel
theorem dX8_boxTold_114 : decode cX8_boxTold 114 = .ok (.aload_n 0, 1) := by decide +kernel
theorem dX8_boxTold_115 : decode cX8_boxTold 115 = .ok (.getfield 10, 3) := by decide +kernel
theorem dX8_boxTold_118 : decode cX8_boxTold 118 = .ok (.getfield 44, 3) := by decide +kernel
theorem dX8_boxTold_121 : decode cX8_boxTold 121 = .ok (.iload_n 1, 1) := by decide +kernel
theorem dX8_boxTold_122 : decode cX8_boxTold 122 = .ok (.iaload, 1) := by decide +kernel
theorem dX8_boxTold_123 : decode cX8_boxTold 123 = .ok (.goto 46, 3) := by decide +kernel
theorem dX8_boxTold_126 : decode cX8_boxTold 126 = .ok (.iload_n 2, 1) := by decide +kernel
theorem dX8_boxTold_127 : decode cX8_boxTold 127 = .ok (.iconst 2, 1) := by decide +kernel
theorem dX8_boxTold_128 : decode cX8_boxTold 128 = .ok (.if_icmp .ne 15, 3) := by decide +kernel
theorem dX8_boxTold_131 : decode cX8_boxTold 131 = .ok (.aload_n 0, 1) := by decide +kernel
theorem dX8_boxTold_132 : decode cX8_boxTold 132 = .ok (.getfield 10, 3) := by decide +kernel
theorem dX8_boxTold_135 : decode cX8_boxTold 135 = .ok (.getfield 66, 3) := by decide +kernel
theorem dX8_boxTold_138 : decode cX8_boxTold 138 = .ok (.iload_n 1, 1) := by decide +kernel
theorem dX8_boxTold_139 : decode cX8_boxTold 139 = .ok (.iaload, 1) := by decide +kernel
theorem dX8_boxTold_140 : decode cX8_boxTold 140 = .ok (.goto 29, 3) := by decide +kernel
theorem dX8_boxTold_143 : decode cX8_boxTold 143 = .ok (.iload_n 2, 1) := by decide +kernel
theorem dX8_boxTold_144 : decode cX8_boxTold 144 = .ok (.iconst 3, 1) := by decide +kernel
theorem dX8_boxTold_145 : decode cX8_boxTold 145 = .ok (.if_icmp .ne 15, 3) := by decide +kernel
theorem dX8_boxTold_148 : decode cX8_boxTold 148 = .ok (.aload_n 0, 1) := by decide +kernel
theorem dX8_boxTold_149 : decode cX8_boxTold 149 = .ok (.getfield 10, 3) := by decide +kernel
theorem dX8_boxTold_152 : decode cX8_boxTold 152 = .ok (.getfield 47, 3) := by decide +kernel
theorem dX8_boxTold_155 : decode cX8_boxTold 155 = .ok (.iload_n 1, 1) := by decide +kernel
theorem dX8_boxTold_156 : decode cX8_boxTold 156 = .ok (.iaload, 1) := by decide +kernel
theorem dX8_boxTold_157 : decode cX8_boxTold 157 = .ok (.goto 12, 3) := by decide +kernel
theorem dX8_boxTold_160 : decode cX8_boxTold 160 = .ok (.aload_n 0, 1) := by decide +kernel
theorem dX8_boxTold_161 : decode cX8_boxTold 161 = .ok (.getfield 10, 3) := by decide +kernel
theorem dX8_boxTold_164 : decode cX8_boxTold 164 = .ok (.getfield 72, 3) := by decide +kernel
theorem dX8_boxTold_167 : decode cX8_boxTold 167 = .ok (.iload_n 1, 1) := by decide +kernel
theorem dX8_boxTold_168 : decode cX8_boxTold 168 = .ok (.iaload, 1) := by decide +kernel
theorem dX8_boxTold_169 : decode cX8_boxTold 169 = .ok (.ireturn, 1) := by decide +kernel
theorem dX8_box_0 : decode cX8_box 0 = .ok (.aload_n 0, 1) := by decide +kernel
theorem dX8_box_1 : decode cX8_box 1 = .ok (.iconst 0, 1) := by decide +kernel
theorem dX8_box_2 : decode cX8_box 2 = .ok (.putfield 23, 3) := by decide +kernel
theorem dX8_box_5 : decode cX8_box 5 = .ok (.aload_n 0, 1) := by decide +kernel
theorem dX8_box_6 : decode cX8_box 6 = .ok (.iload_n 1, 1) := by decide +kernel
theorem dX8_box_7 : decode cX8_box 7 = .ok (.invokevirtual 50, 3) := by decide +kernel
theorem dX8_box_10 : decode cX8_box 10 = .ok (.ifCond .eq 22, 3) := by decide +kernel
theorem dX8_box_13 : decode cX8_box 13 = .ok (.iload_n 2, 1) := by decide +kernel
theorem dX8_box_14 : decode cX8_box 14 = .ok (.iconst 0, 1) := by decide +kernel
theorem dX8_box_15 : decode cX8_box 15 = .ok (.bipush 11, 2) := by decide +kernel
theorem dX8_box_17 : decode cX8_box 17 = .ok (.invokestatic 27, 3) := by decide +kernel
theorem dX8_box_20 : decode cX8_box 20 = .ok (.ifCond .eq 12, 3) := by decide +kernel
theorem dX8_box_23 : decode cX8_box 23 = .ok (.aload_n 0, 1) := by decide +kernel
theorem dX8_box_24 : decode cX8_box 24 = .ok (.iload_n 1, 1) := by decide +kernel
theorem dX8_box_25 : decode cX8_box 25 = .ok (.iload_n 2, 1) := by decide +kernel
theorem dX8_box_26 : decode cX8_box 26 = .ok (.invokevirtual 75, 3) := by decide +kernel
theorem dX8_box_29 : decode cX8_box 29 = .ok (.goto 8, 3) := by decide +kernel
theorem dX8_box_32 : decode cX8_box 32 = .ok (.aload_n 0, 1) := by decide +kernel
theorem dX8_box_33 : decode cX8_box 33 = .ok (.iconst 1, 1) := by decide +kernel
theorem dX8_box_34 : decode cX8_box 34 = .ok (.invokevirtual 31, 3) := by decide +kernel
theorem dX8_box_37 : decode cX8_box 37 = .ok (.ireturn, 1) := by decide +kernel
theorem dX8_bring_0 : decode cX8_bring 0 = .ok (.aload_n 0, 1) := by decide +kernel
theorem dX8_bring_1 : decode cX8_bring 1 = .ok (.iconst 0, 1) := by decide +kernel
theorem dX8_bring_2 : decode cX8_bring 2 = .ok (.putfield 23, 3) := by decide +kernel
theorem dX8_bring_5 : decode cX8_bring 5 = .ok (.iload_n 1, 1) := by decide +kernel
theorem dX8_bring_6 : decode cX8_bring 6 = .ok (.iconst 1, 1) := by decide +kernel
theorem dX8_bring_7 : decode cX8_bring 7 = .ok (.sipush 5000, 3) := by decide +kernel
theorem dX8_bring_10 : decode cX8_bring 10 = .ok (.invokestatic 27, 3) := by decide +kernel
theorem dX8_bring_13 : decode cX8_bring 13 = .ok (.ifCond .eq 24, 3) := by decide +kernel
theorem dX8_bring_16 : decode cX8_bring 16 = .ok (.iload_n 2, 1) := by decide +kernel
theorem dX8_bring_17 : decode cX8_bring 17 = .ok (.iconst 0, 1) := by decide +kernel
theorem dX8_bring_18 : decode cX8_bring 18 = .ok (.sipush 1000, 3) := by decide +kernel
theorem dX8_bring_21 : decode cX8_bring 21 = .ok (.invokestatic 27, 3) := by decide +kernel
theorem dX8_bring_24 : decode cX8_bring 24 = .ok (.ifCond .eq 13, 3) := by decide +kernel
theorem dX8_bring_27 : decode cX8_bring 27 = .ok (.iload_n 3, 1) := by decide +kernel
theorem dX8_bring_28 : decode cX8_bring 28 = .ok (.iconst 1, 1) := by decide +kernel
theorem dX8_bring_29 : decode cX8_bring 29 = .ok (.bipush 9, 2) := by decide +kernel
theorem dX8_bring_31 : decode cX8_bring 31 = .ok (.invokestatic 27, 3) := by decide +kernel
theorem dX8_bring_34 : decode cX8_bring 34 = .ok (.ifCond .ne 9, 3) := by decide +kernel
theorem dX8_bring_37 : decode cX8_bring 37 = .ok (.aload_n 0, 1) := by decide +kernel
theorem dX8_bring_38 : decode cX8_bring 38 = .ok (.iconst 1, 1) := by decide +kernel
theorem dX8_bring_39 : decode cX8_bring 39 = .ok (.invokevirtual 31, 3) := by decide +kernel
theorem dX8_bring_42 : decode cX8_bring 42 = .ok (.ireturn, 1) := by decide +kernel
theorem dX8_bring_43 : decode cX8_bring 43 = .ok (.aload_n 0, 1) := by decide +kernel
theorem dX8_bring_44 : decode cX8_bring 44 = .ok (.getfield 10, 3) := by decide +kernel
theorem dX8_bring_47 : decode cX8_bring 47 = .ok (.getfield 79, 3) := by decide +kernel
theorem dX8_bring_50 : decode cX8_bring 50 = .ok (.bipush 30, 2) := by decide +kernel
theorem dX8_bring_52 : decode cX8_bring 52 = .ok (.if_icmp .ne 9, 3) := by decide +kernel
theorem dX8_bring_55 : decode cX8_bring 55 = .ok (.aload_n 0, 1) := by decide +kernel
theorem dX8_bring_56 : decode cX8_bring 56 = .ok (.iconst 2, 1) := by decide +kernel
theorem dX8_bring_57 : decode cX8_bring 57 = .ok (.invokevirtual 31, 3) := by decide +kernel
theorem dX8_bring_60 : decode cX8_bring 60 = .ok (.ireturn, 1) := by decide +kernel
theorem dX8_bring_61 : decode cX8_bring 61 = .ok (.iload_n 1, 1) := by decide +kernel
theorem dX8_bring_62 : decode cX8_bring 62 = .ok (.iload_n 2, 1) := by decide +kernel
theorem dX8_bring_63 : decode cX8_bring 63 = .ok (.imul, 1) := by decide +kernel
theorem dX8_bring_64 : decode cX8_bring 64 = .ok (.sipush 1000, 3) := by decide +kernel
theorem dX8_bring_67 : decode cX8_bring 67 = .ok (.idiv, 1) := by decide +kernel
theorem dX8_bring_68 : decode cX8_bring 68 = .ok (.istore 4, 2) := by decide +kernel
theorem dX8_bring_70 : decode cX8_bring 70 = .ok (.aload_n 0, 1) := by decide +kernel
theorem dX8_bring_71 : decode cX8_bring 71 = .ok (.getfield 10, 3) := by decide +kernel
theorem dX8_bring_74 : decode cX8_bring 74 = .ok (.iload_n 1, 1) := by decide +kernel
theorem dX8_bring_75 : decode cX8_bring 75 = .ok (.iload 4, 2) := by decide +kernel
theorem dX8_bring_77 : decode cX8_bring 77 = .ok (.isub, 1) := by decide +kernel
theorem dX8_bring_78 : decode cX8_bring 78 = .ok (.iload 4, 2) := by decide +kernel
theorem dX8_bring_80 : decode cX8_bring 80 = .ok (.iload_n 3, 1) := by decide +kernel
theorem dX8_bring_81 : decode cX8_bring 81 = .ok (.invokevirtual 82, 3) := by decide +kernel
theorem dX8_bring_84 : decode cX8_bring 84 = .ok (.aload_n 0, 1) := by decide +kernel
theorem dX8_bring_85 : decode cX8_bring 85 = .ok (.getfield 10, 3) := by decide +kernel
theorem dX8_bring_88 : decode cX8_bring 88 = .ok (.getfield 79, 3) := by decide +kernel
theorem dX8_bring_91 : decode cX8_bring 91 = .ok (.ireturn, 1) := by decide +kernel
theorem dX8_lot_0 : decode cX8_lot 0 = .ok (.aload_n 0, 1) := by decide +kernel
theorem dX8_lot_1 : decode cX8_lot 1 = .ok (.iconst 0, 1) := by decide +kernel
theorem dX8_lot_2 : decode cX8_lot 2 = .ok (.putfield 23, 3) := by decide +kernel
theorem dX8_lot_5 : decode cX8_lot 5 = .ok (.iload_n 1, 1) := by decide +kernel
theorem dX8_lot_6 : decode cX8_lot 6 = .ok (.iconst 0, 1) := by decide +kernel
theorem dX8_lot_7 : decode cX8_lot 7 = .ok (.aload_n 0, 1) := by decide +kernel
theorem dX8_lot_8 : decode cX8_lot 8 = .ok (.getfield 10, 3) := by decide +kernel
theorem dX8_lot_11 : decode cX8_lot 11 = .ok (.getfield 79, 3) := by decide +kernel
theorem dX8_lot_14 : decode cX8_lot 14 = .ok (.iconst 1, 1) := by decide +kernel
theorem dX8_lot_15 : decode cX8_lot 15 = .ok (.isub, 1) := by decide +kernel
theorem dX8_lot_16 : decode cX8_lot 16 = .ok (.invokestatic 27, 3) := by decide +kernel
theorem dX8_lot_19 : decode cX8_lot 19 = .ok (.ifCond .eq 28, 3) := by decide +kernel
theorem dX8_lot_22 : decode cX8_lot 22 = .ok (.iload_n 2, 1) := by decide +kernel
theorem dX8_lot_23 : decode cX8_lot 23 = .ok (.iconst 0, 1) := by decide +kernel
theorem dX8_lot_24 : decode cX8_lot 24 = .ok (.iconst 2, 1) := by decide +kernel
theorem dX8_lot_25 : decode cX8_lot 25 = .ok (.invokestatic 27, 3) := by decide +kernel
theorem dX8_lot_28 : decode cX8_lot 28 = .ok (.ifCond .eq 19, 3) := by decide +kernel
theorem dX8_lot_31 : decode cX8_lot 31 = .ok (.aload_n 0, 1) := by decide +kernel
theorem dX8_lot_32 : decode cX8_lot 32 = .ok (.getfield 10, 3) := by decide +kernel
theorem dX8_lot_35 : decode cX8_lot 35 = .ok (.getfield 86, 3) := by decide +kernel
theorem dX8_lot_38 : decode cX8_lot 38 = .ok (.iconst 3, 1) := by decide +kernel
theorem dX8_lot_39 : decode cX8_lot 39 = .ok (.iload_n 1, 1) := by decide +kernel
theorem dX8_lot_40 : decode cX8_lot 40 = .ok (.imul, 1) := by decide +kernel
theorem dX8_lot_41 : decode cX8_lot 41 = .ok (.iload_n 2, 1) := by decide +kernel
theorem dX8_lot_42 : decode cX8_lot 42 = .ok (.iadd, 1) := by decide +kernel
theorem dX8_lot_43 : decode cX8_lot 43 = .ok (.iaload, 1) := by decide +kernel
theorem dX8_lot_44 : decode cX8_lot 44 = .ok (.goto 8, 3) := by decide +kernel
theorem dX8_lot_47 : decode cX8_lot 47 = .ok (.aload_n 0, 1) := by decide +kernel
theorem dX8_lot_48 : decode cX8_lot 48 = .ok (.iconst 1, 1) := by decide +kernel
theorem dX8_lot_49 : decode cX8_lot 49 = .ok (.invokevirtual 31, 3) := by decide +kernel
theorem dX8_lot_52 : decode cX8_lot 52 = .ok (.ireturn, 1) := by decide +kernel
theorem dX8_run_0 : decode cX8_run 0 = .ok (.iconst 0, 1) := by decide +kernel
theorem dX8_run_1 : decode cX8_run 1 = .ok (.istore_n 2, 1) := by decide +kernel
theorem dX8_run_2 : decode cX8_run 2 = .ok (.iconst 0, 1) := by decide +kernel
theorem dX8_run_3 : decode cX8_run 3 = .ok (.istore_n 3, 1) := by decide +kernel
theorem dX8_run_4 : decode cX8_run 4 = .ok (.iload_n 3, 1) := by decide +kernel
theorem dX8_run_5 : decode cX8_run 5 = .ok (.iload_n 1, 1) := by decide +kernel
theorem dX8_run_6 : decode cX8_run 6 = .ok (.if_icmp .ge 16, 3) := by decide +kernel
theorem dX8_run_9 : decode cX8_run 9 = .ok (.iload_n 2, 1) := by decide +kernel
theorem dX8_run_10 : decode cX8_run 10 = .ok (.aload_n 0, 1) := by decide +kernel
theorem dX8_run_11 : decode cX8_run 11 = .ok (.invokevirtual 89, 3) := by decide +kernel
theorem dX8_run_14 : decode cX8_run 14 = .ok (.iadd, 1) := by decide +kernel
theorem dX8_run_15 : decode cX8_run 15 = .ok (.istore_n 2, 1) := by decide +kernel
theorem dX8_run_16 : decode cX8_run 16 = .ok (.iinc 3 1, 3) := by decide +kernel
theorem dX8_run_19 : decode cX8_run 19 = .ok (.goto (-15), 3) := by decide +kernel
theorem dX8_run_22 : decode cX8_run 22 = .ok (.iload_n 2, 1) := by decide +kernel
theorem dX8_run_23 : decode cX8_run 23 = .ok (.ireturn, 1) := by decide +kernel
theorem dX8_run__0 : decode cX8_run_ 0 = .ok (.aload_n 0, 1) := by decide +kernel
theorem dX8_run__1 : decode cX8_run_ 1 = .ok (.iconst 0, 1) := by decide +kernel
theorem dX8_run__2 : decode cX8_run_ 2 = .ok (.putfield 23, 3) := by decide +kernel
theorem dX8_run__5 : decode cX8_run_ 5 = .ok (.iload_n 1, 1) := by decide +kernel
theorem dX8_run__6 : decode cX8_run_ 6 = .ok (.iconst 1, 1) := by decide +kernel
theorem dX8_run__7 : decode cX8_run_ 7 = .ok (.bipush 100, 2) := by decide +kernel
theorem dX8_run__9 : decode cX8_run_ 9 = .ok (.invokestatic 27, 3) := by decide +kernel
theorem dX8_run__12 : decode cX8_run_ 12 = .ok (.ifCond .ne 9, 3) := by decide +kernel
theorem dX8_run__15 : decode cX8_run_ 15 = .ok (.aload_n 0, 1) := by decide +kernel
theorem dX8_run__16 : decode cX8_run_ 16 = .ok (.iconst 1, 1) := by decide +kernel
theorem dX8_run__17 : decode cX8_run_ 17 = .ok (.invokevirtual 31, 3) := by decide +kernel
theorem dX8_run__20 : decode cX8_run_ 20 = .ok (.ireturn, 1) := by decide +kernel
theorem dX8_run__21 : decode cX8_run_ 21 = .ok (.aload_n 0, 1) := by decide +kernel
theorem dX8_run__22 : decode cX8_run_ 22 = .ok (.getfield 10, 3) := by decide +kernel
theorem dX8_run__25 : decode cX8_run_ 25 = .ok (.getfield 93, 3) := by decide +kernel
theorem dX8_run__28 : decode cX8_run_ 28 = .ok (.iload_n 1, 1) := by decide +kernel
theorem dX8_run__29 : decode cX8_run_ 29 = .ok (.iadd, 1) := by decide +kernel
theorem dX8_run__30 : decode cX8_run_ 30 = .ok (.sipush 5000, 3) := by decide +kernel
theorem dX8_run__33 : decode cX8_run_ 33 = .ok (.if_icmp .le 9, 3) := by decide +kernel
theorem dX8_run__36 : decode cX8_run_ 36 = .ok (.aload_n 0, 1) := by decide +kernel
theorem dX8_run__37 : decode cX8_run_ 37 = .ok (.iconst 2, 1) := by decide +kernel
theorem dX8_run__38 : decode cX8_run_ 38 = .ok (.invokevirtual 31, 3) := by decide +kernel
theorem dX8_run__41 : decode cX8_run_ 41 = .ok (.ireturn, 1) := by decide +kernel
theorem dX8_run__42 : decode cX8_run_ 42 = .ok (.aload_n 0, 1) := by decide +kernel
theorem dX8_run__43 : decode cX8_run_ 43 = .ok (.getfield 10, 3) := by decide +kernel
theorem dX8_run__46 : decode cX8_run_ 46 = .ok (.iload_n 1, 1) := by decide +kernel
theorem dX8_run__47 : decode cX8_run_ 47 = .ok (.invokestatic 96, 3) := by decide +kernel
theorem dX8_run__50 : decode cX8_run_ 50 = .ok (.ireturn, 1) := by decide +kernel
theorem dX8_tinInBoxes_0 : decode cX8_tinInBoxes 0 = .ok (.iconst 0, 1) := by decide +kernel
theorem dX8_tinInBoxes_1 : decode cX8_tinInBoxes 1 = .ok (.istore_n 1, 1) := by decide +kernel
theorem dX8_tinInBoxes_2 : decode cX8_tinInBoxes 2 = .ok (.iconst 0, 1) := by decide +kernel
theorem dX8_tinInBoxes_3 : decode cX8_tinInBoxes 3 = .ok (.istore_n 2, 1) := by decide +kernel
theorem dX8_tinInBoxes_4 : decode cX8_tinInBoxes 4 = .ok (.iload_n 2, 1) := by decide +kernel
theorem dX8_tinInBoxes_5 : decode cX8_tinInBoxes 5 = .ok (.aload_n 0, 1) := by decide +kernel
theorem dX8_tinInBoxes_6 : decode cX8_tinInBoxes 6 = .ok (.getfield 10, 3) := by decide +kernel
theorem dX8_tinInBoxes_9 : decode cX8_tinInBoxes 9 = .ok (.getfield 41, 3) := by decide +kernel
theorem dX8_tinInBoxes_12 : decode cX8_tinInBoxes 12 = .ok (.iconst 3, 1) := by decide +kernel
theorem dX8_tinInBoxes_13 : decode cX8_tinInBoxes 13 = .ok (.imul, 1) := by decide +kernel
theorem dX8_tinInBoxes_14 : decode cX8_tinInBoxes 14 = .ok (.if_icmp .ge 25, 3) := by decide +kernel
theorem dX8_tinInBoxes_17 : decode cX8_tinInBoxes 17 = .ok (.iload_n 1, 1) := by decide +kernel
theorem dX8_tinInBoxes_18 : decode cX8_tinInBoxes 18 = .ok (.aload_n 0, 1) := by decide +kernel
theorem dX8_tinInBoxes_19 : decode cX8_tinInBoxes 19 = .ok (.getfield 10, 3) := by decide +kernel
theorem dX8_tinInBoxes_22 : decode cX8_tinInBoxes 22 = .ok (.getfield 69, 3) := by decide +kernel
theorem dX8_tinInBoxes_25 : decode cX8_tinInBoxes 25 = .ok (.iconst 2, 1) := by decide +kernel
theorem dX8_tinInBoxes_26 : decode cX8_tinInBoxes 26 = .ok (.iload_n 2, 1) := by decide +kernel
theorem dX8_tinInBoxes_27 : decode cX8_tinInBoxes 27 = .ok (.imul, 1) := by decide +kernel
theorem dX8_tinInBoxes_28 : decode cX8_tinInBoxes 28 = .ok (.iconst 1, 1) := by decide +kernel
theorem dX8_tinInBoxes_29 : decode cX8_tinInBoxes 29 = .ok (.iadd, 1) := by decide +kernel
theorem dX8_tinInBoxes_30 : decode cX8_tinInBoxes 30 = .ok (.iaload, 1) := by decide +kernel
theorem dX8_tinInBoxes_31 : decode cX8_tinInBoxes 31 = .ok (.iadd, 1) := by decide +kernel
theorem dX8_tinInBoxes_32 : decode cX8_tinInBoxes 32 = .ok (.istore_n 1, 1) := by decide +kernel
theorem dX8_tinInBoxes_33 : decode cX8_tinInBoxes 33 = .ok (.iinc 2 1, 3) := by decide +kernel
theorem dX8_tinInBoxes_36 : decode cX8_tinInBoxes 36 = .ok (.goto (-32), 3) := by decide +kernel
theorem dX8_tinInBoxes_39 : decode cX8_tinInBoxes 39 = .ok (.iload_n 1, 1) := by decide +kernel
theorem dX8_tinInBoxes_40 : decode cX8_tinInBoxes 40 = .ok (.ireturn, 1) := by decide +kernel
theorem dX8_counted_0 : decode cX8_counted 0 = .ok (.bipush 14, 2) := by decide +kernel
theorem dX8_counted_2 : decode cX8_counted 2 = .ok (.newarray .int, 2) := by decide +kernel
theorem dX8_counted_4 : decode cX8_counted 4 = .ok (.dup, 1) := by decide +kernel
theorem dX8_counted_5 : decode cX8_counted 5 = .ok (.iconst 0, 1) := by decide +kernel
theorem dX8_counted_6 : decode cX8_counted 6 = .ok (.aload_n 0, 1) := by decide +kernel
theorem dX8_counted_7 : decode cX8_counted 7 = .ok (.getfield 10, 3) := by decide +kernel
theorem dX8_counted_10 : decode cX8_counted 10 = .ok (.getfield 93, 3) := by decide +kernel
theorem dX8_counted_13 : decode cX8_counted 13 = .ok (.iastore, 1) := by decide +kernel
theorem dX8_counted_14 : decode cX8_counted 14 = .ok (.dup, 1) := by decide +kernel
theorem dX8_counted_15 : decode cX8_counted 15 = .ok (.iconst 1, 1) := by decide +kernel
theorem dX8_counted_16 : decode cX8_counted 16 = .ok (.aload_n 0, 1) := by decide +kernel
theorem dX8_counted_17 : decode cX8_counted 17 = .ok (.getfield 10, 3) := by decide +kernel
theorem dX8_counted_20 : decode cX8_counted 20 = .ok (.getfield 100, 3) := by decide +kernel
theorem dX8_counted_23 : decode cX8_counted 23 = .ok (.iastore, 1) := by decide +kernel
theorem dX8_counted_24 : decode cX8_counted 24 = .ok (.dup, 1) := by decide +kernel
theorem dX8_counted_25 : decode cX8_counted 25 = .ok (.iconst 2, 1) := by decide +kernel
theorem dX8_counted_26 : decode cX8_counted 26 = .ok (.aload_n 0, 1) := by decide +kernel
theorem dX8_counted_27 : decode cX8_counted 27 = .ok (.getfield 10, 3) := by decide +kernel
theorem dX8_counted_30 : decode cX8_counted 30 = .ok (.getfield 38, 3) := by decide +kernel
theorem dX8_counted_33 : decode cX8_counted 33 = .ok (.iastore, 1) := by decide +kernel
theorem dX8_counted_34 : decode cX8_counted 34 = .ok (.dup, 1) := by decide +kernel
theorem dX8_counted_35 : decode cX8_counted 35 = .ok (.iconst 3, 1) := by decide +kernel
theorem dX8_counted_36 : decode cX8_counted 36 = .ok (.aload_n 0, 1) := by decide +kernel
theorem dX8_counted_37 : decode cX8_counted 37 = .ok (.getfield 10, 3) := by decide +kernel
theorem dX8_counted_40 : decode cX8_counted 40 = .ok (.getfield 41, 3) := by decide +kernel
theorem dX8_counted_43 : decode cX8_counted 43 = .ok (.iastore, 1) := by decide +kernel
theorem dX8_counted_44 : decode cX8_counted 44 = .ok (.dup, 1) := by decide +kernel
theorem dX8_counted_45 : decode cX8_counted 45 = .ok (.iconst 4, 1) := by decide +kernel
theorem dX8_counted_46 : decode cX8_counted 46 = .ok (.aload_n 0, 1) := by decide +kernel
theorem dX8_counted_47 : decode cX8_counted 47 = .ok (.getfield 10, 3) := by decide +kernel
theorem dX8_counted_50 : decode cX8_counted 50 = .ok (.getfield 79, 3) := by decide +kernel
theorem dX8_counted_53 : decode cX8_counted 53 = .ok (.iastore, 1) := by decide +kernel
theorem dX8_counted_54 : decode cX8_counted 54 = .ok (.dup, 1) := by decide +kernel
theorem dX8_counted_55 : decode cX8_counted 55 = .ok (.iconst 5, 1) := by decide +kernel
theorem dX8_counted_56 : decode cX8_counted 56 = .ok (.aload_n 0, 1) := by decide +kernel
theorem dX8_counted_57 : decode cX8_counted 57 = .ok (.getfield 10, 3) := by decide +kernel
theorem dX8_counted_60 : decode cX8_counted 60 = .ok (.invokevirtual 103, 3) := by decide +kernel
theorem dX8_counted_63 : decode cX8_counted 63 = .ok (.iastore, 1) := by decide +kernel
theorem dX8_counted_64 : decode cX8_counted 64 = .ok (.dup, 1) := by decide +kernel
theorem dX8_counted_65 : decode cX8_counted 65 = .ok (.bipush 6, 2) := by decide +kernel
theorem dX8_counted_67 : decode cX8_counted 67 = .ok (.aload_n 0, 1) := by decide +kernel
theorem dX8_counted_68 : decode cX8_counted 68 = .ok (.getfield 10, 3) := by decide +kernel
theorem dX8_counted_71 : decode cX8_counted 71 = .ok (.invokevirtual 106, 3) := by decide +kernel
theorem dX8_counted_74 : decode cX8_counted 74 = .ok (.iastore, 1) := by decide +kernel
theorem dX8_counted_75 : decode cX8_counted 75 = .ok (.dup, 1) := by decide +kernel
theorem dX8_counted_76 : decode cX8_counted 76 = .ok (.bipush 7, 2) := by decide +kernel
theorem dX8_counted_78 : decode cX8_counted 78 = .ok (.aload_n 0, 1) := by decide +kernel
theorem dX8_counted_79 : decode cX8_counted 79 = .ok (.getfield 19, 3) := by decide +kernel
theorem dX8_counted_82 : decode cX8_counted 82 = .ok (.iconst 0, 1) := by decide +kernel
theorem dX8_counted_83 : decode cX8_counted 83 = .ok (.iaload, 1) := by decide +kernel
theorem dX8_counted_84 : decode cX8_counted 84 = .ok (.iastore, 1) := by decide +kernel
theorem dX8_counted_85 : decode cX8_counted 85 = .ok (.dup, 1) := by decide +kernel
theorem dX8_counted_86 : decode cX8_counted 86 = .ok (.bipush 8, 2) := by decide +kernel
theorem dX8_counted_88 : decode cX8_counted 88 = .ok (.aload_n 0, 1) := by decide +kernel
theorem dX8_counted_89 : decode cX8_counted 89 = .ok (.getfield 19, 3) := by decide +kernel
theorem dX8_counted_92 : decode cX8_counted 92 = .ok (.iconst 1, 1) := by decide +kernel
theorem dX8_counted_93 : decode cX8_counted 93 = .ok (.iaload, 1) := by decide +kernel
theorem dX8_counted_94 : decode cX8_counted 94 = .ok (.iastore, 1) := by decide +kernel
theorem dX8_counted_95 : decode cX8_counted 95 = .ok (.dup, 1) := by decide +kernel
theorem dX8_counted_96 : decode cX8_counted 96 = .ok (.bipush 9, 2) := by decide +kernel
theorem dX8_counted_98 : decode cX8_counted 98 = .ok (.aload_n 0, 1) := by decide +kernel
theorem dX8_counted_99 : decode cX8_counted 99 = .ok (.getfield 10, 3) := by decide +kernel
theorem dX8_counted_102 : decode cX8_counted 102 = .ok (.getfield 109, 3) := by decide +kernel
theorem dX8_counted_105 : decode cX8_counted 105 = .ok (.iastore, 1) := by decide +kernel
theorem dX8_counted_106 : decode cX8_counted 106 = .ok (.dup, 1) := by decide +kernel
theorem dX8_counted_107 : decode cX8_counted 107 = .ok (.bipush 10, 2) := by decide +kernel
theorem dX8_counted_109 : decode cX8_counted 109 = .ok (.aload_n 0, 1) := by decide +kernel
theorem dX8_counted_110 : decode cX8_counted 110 = .ok (.getfield 112, 3) := by decide +kernel
theorem dX8_counted_113 : decode cX8_counted 113 = .ok (.iastore, 1) := by decide +kernel
theorem dX8_counted_114 : decode cX8_counted 114 = .ok (.dup, 1) := by decide +kernel
theorem dX8_counted_115 : decode cX8_counted 115 = .ok (.bipush 11, 2) := by decide +kernel
theorem dX8_counted_117 : decode cX8_counted 117 = .ok (.aload_n 0, 1) := by decide +kernel
theorem dX8_counted_118 : decode cX8_counted 118 = .ok (.getfield 115, 3) := by decide +kernel
theorem dX8_counted_121 : decode cX8_counted 121 = .ok (.iastore, 1) := by decide +kernel
theorem dX8_counted_122 : decode cX8_counted 122 = .ok (.dup, 1) := by decide +kernel
theorem dX8_counted_123 : decode cX8_counted 123 = .ok (.bipush 12, 2) := by decide +kernel
theorem dX8_counted_125 : decode cX8_counted 125 = .ok (.aload_n 0, 1) := by decide +kernel
theorem dX8_counted_126 : decode cX8_counted 126 = .ok (.getfield 118, 3) := by decide +kernel
theorem dX8_counted_129 : decode cX8_counted 129 = .ok (.iastore, 1) := by decide +kernel
theorem dX8_counted_130 : decode cX8_counted 130 = .ok (.dup, 1) := by decide +kernel
theorem dX8_counted_131 : decode cX8_counted 131 = .ok (.bipush 13, 2) := by decide +kernel
theorem dX8_counted_133 : decode cX8_counted 133 = .ok (.aload_n 0, 1) := by decide +kernel
theorem dX8_counted_134 : decode cX8_counted 134 = .ok (.invokevirtual 121, 3) := by decide +kernel
theorem dX8_counted_137 : decode cX8_counted 137 = .ok (.iastore, 1) := by decide +kernel
theorem dX8_counted_138 : decode cX8_counted 138 = .ok (.astore_n 2, 1) := by decide +kernel
theorem dX8_counted_139 : decode cX8_counted 139 = .ok (.aload_n 2, 1) := by decide +kernel
theorem dX8_counted_140 : decode cX8_counted 140 = .ok (.iload_n 1, 1) := by decide +kernel
theorem dX8_counted_141 : decode cX8_counted 141 = .ok (.iaload, 1) := by decide +kernel
theorem dX8_counted_142 : decode cX8_counted 142 = .ok (.ireturn, 1) := by decide +kernel
theorem dX8_count_0 : decode cX8_count 0 = .ok (.aload_n 0, 1) := by decide +kernel
theorem dX8_count_1 : decode cX8_count 1 = .ok (.iconst 0, 1) := by decide +kernel
theorem dX8_count_2 : decode cX8_count 2 = .ok (.putfield 23, 3) := by decide +kernel
theorem dX8_count_5 : decode cX8_count 5 = .ok (.iload_n 1, 1) := by decide +kernel
theorem dX8_count_6 : decode cX8_count 6 = .ok (.iconst 0, 1) := by decide +kernel
theorem dX8_count_7 : decode cX8_count 7 = .ok (.bipush 13, 2) := by decide +kernel
theorem dX8_count_9 : decode cX8_count 9 = .ok (.invokestatic 27, 3) := by decide +kernel
theorem dX8_count_12 : decode cX8_count 12 = .ok (.ifCond .eq 11, 3) := by decide +kernel
theorem dX8_count_15 : decode cX8_count 15 = .ok (.aload_n 0, 1) := by decide +kernel
theorem dX8_count_16 : decode cX8_count 16 = .ok (.iload_n 1, 1) := by decide +kernel
theorem dX8_count_17 : decode cX8_count 17 = .ok (.invokevirtual 124, 3) := by decide +kernel
theorem dX8_count_20 : decode cX8_count 20 = .ok (.goto 8, 3) := by decide +kernel
theorem dX8_count_23 : decode cX8_count 23 = .ok (.aload_n 0, 1) := by decide +kernel
theorem dX8_count_24 : decode cX8_count 24 = .ok (.iconst 1, 1) := by decide +kernel
theorem dX8_count_25 : decode cX8_count 25 = .ok (.invokevirtual 31, 3) := by decide +kernel
theorem dX8_count_28 : decode cX8_count 28 = .ok (.ireturn, 1) := by decide +kernel
theorem dX8_grade_0 : decode cX8_grade 0 = .ok (.lload_n 0, 1) := by decide +kernel
theorem dX8_grade_1 : decode cX8_grade 1 = .ok (.lload_n 2, 1) := by decide +kernel
theorem dX8_grade_2 : decode cX8_grade 2 = .ok (.ladd, 1) := by decide +kernel
theorem dX8_grade_3 : decode cX8_grade 3 = .ok (.lconst 0, 1) := by decide +kernel
theorem dX8_grade_4 : decode cX8_grade 4 = .ok (.lcmp, 1) := by decide +kernel
theorem dX8_grade_5 : decode cX8_grade 5 = .ok (.ifCond .ne 7, 3) := by decide +kernel
theorem dX8_grade_8 : decode cX8_grade 8 = .ok (.iconst 0, 1) := by decide +kernel
theorem dX8_grade_9 : decode cX8_grade 9 = .ok (.goto 13, 3) := by decide +kernel
theorem dX8_grade_12 : decode cX8_grade 12 = .ok (.lload_n 2, 1) := by decide +kernel
theorem dX8_grade_13 : decode cX8_grade 13 = .ok (.ldc2_w 127, 3) := by decide +kernel
theorem dX8_grade_16 : decode cX8_grade 16 = .ok (.lmul, 1) := by decide +kernel
theorem dX8_grade_17 : decode cX8_grade 17 = .ok (.lload_n 0, 1) := by decide +kernel
theorem dX8_grade_18 : decode cX8_grade 18 = .ok (.lload_n 2, 1) := by decide +kernel
theorem dX8_grade_19 : decode cX8_grade 19 = .ok (.ladd, 1) := by decide +kernel
theorem dX8_grade_20 : decode cX8_grade 20 = .ok (.ldiv, 1) := by decide +kernel
theorem dX8_grade_21 : decode cX8_grade 21 = .ok (.l2i, 1) := by decide +kernel
theorem dX8_grade_22 : decode cX8_grade 22 = .ok (.ireturn, 1) := by decide +kernel
theorem dX8_buddleTold_0 : decode cX8_buddleTold 0 = .ok (.iload_n 2, 1) := by decide +kernel
theorem dX8_buddleTold_1 : decode cX8_buddleTold 1 = .ok (.iconst 2, 1) := by decide +kernel
theorem dX8_buddleTold_2 : decode cX8_buddleTold 2 = .ok (.if_icmp .ge 19, 3) := by decide +kernel
theorem dX8_buddleTold_5 : decode cX8_buddleTold 5 = .ok (.aload_n 0, 1) := by decide +kernel
theorem dX8_buddleTold_6 : decode cX8_buddleTold 6 = .ok (.getfield 10, 3) := by decide +kernel
theorem dX8_buddleTold_9 : decode cX8_buddleTold 9 = .ok (.getfield 129, 3) := by decide +kernel
theorem dX8_buddleTold_12 : decode cX8_buddleTold 12 = .ok (.iconst 2, 1) := by decide +kernel
theorem dX8_buddleTold_13 : decode cX8_buddleTold 13 = .ok (.iload_n 1, 1) := by decide +kernel
theorem dX8_buddleTold_14 : decode cX8_buddleTold 14 = .ok (.imul, 1) := by decide +kernel
theorem dX8_buddleTold_15 : decode cX8_buddleTold 15 = .ok (.iload_n 2, 1) := by decide +kernel
theorem dX8_buddleTold_16 : decode cX8_buddleTold 16 = .ok (.iadd, 1) := by decide +kernel
theorem dX8_buddleTold_17 : decode cX8_buddleTold 17 = .ok (.iaload, 1) := by decide +kernel
theorem dX8_buddleTold_18 : decode cX8_buddleTold 18 = .ok (.goto 32, 3) := by decide +kernel
theorem dX8_buddleTold_21 : decode cX8_buddleTold 21 = .ok (.aload_n 0, 1) := by decide +kernel
theorem dX8_buddleTold_22 : decode cX8_buddleTold 22 = .ok (.getfield 10, 3) := by decide +kernel
theorem dX8_buddleTold_25 : decode cX8_buddleTold 25 = .ok (.getfield 129, 3) := by decide +kernel
theorem dX8_buddleTold_28 : decode cX8_buddleTold 28 = .ok (.iconst 2, 1) := by decide +kernel
theorem dX8_buddleTold_29 : decode cX8_buddleTold 29 = .ok (.iload_n 1, 1) := by decide +kernel
theorem dX8_buddleTold_30 : decode cX8_buddleTold 30 = .ok (.imul, 1) := by decide +kernel
theorem dX8_buddleTold_31 : decode cX8_buddleTold 31 = .ok (.iaload, 1) := by decide +kernel
theorem dX8_buddleTold_32 : decode cX8_buddleTold 32 = .ok (.i2l, 1) := by decide +kernel
theorem dX8_buddleTold_33 : decode cX8_buddleTold 33 = .ok (.aload_n 0, 1) := by decide +kernel
theorem dX8_buddleTold_34 : decode cX8_buddleTold 34 = .ok (.getfield 10, 3) := by decide +kernel
theorem dX8_buddleTold_37 : decode cX8_buddleTold 37 = .ok (.getfield 129, 3) := by decide +kernel
theorem dX8_buddleTold_40 : decode cX8_buddleTold 40 = .ok (.iconst 2, 1) := by decide +kernel
theorem dX8_buddleTold_41 : decode cX8_buddleTold 41 = .ok (.iload_n 1, 1) := by decide +kernel
theorem dX8_buddleTold_42 : decode cX8_buddleTold 42 = .ok (.imul, 1) := by decide +kernel
theorem dX8_buddleTold_43 : decode cX8_buddleTold 43 = .ok (.iconst 1, 1) := by decide +kernel
theorem dX8_buddleTold_44 : decode cX8_buddleTold 44 = .ok (.iadd, 1) := by decide +kernel
theorem dX8_buddleTold_45 : decode cX8_buddleTold 45 = .ok (.iaload, 1) := by decide +kernel
theorem dX8_buddleTold_46 : decode cX8_buddleTold 46 = .ok (.i2l, 1) := by decide +kernel
theorem dX8_buddleTold_47 : decode cX8_buddleTold 47 = .ok (.invokestatic 132, 3) := by decide +kernel
theorem dX8_buddleTold_50 : decode cX8_buddleTold 50 = .ok (.ireturn, 1) := by decide +kernel
theorem dX8_buddle_0 : decode cX8_buddle 0 = .ok (.aload_n 0, 1) := by decide +kernel
theorem dX8_buddle_1 : decode cX8_buddle 1 = .ok (.iconst 0, 1) := by decide +kernel
theorem dX8_buddle_2 : decode cX8_buddle 2 = .ok (.putfield 23, 3) := by decide +kernel
theorem dX8_buddle_5 : decode cX8_buddle 5 = .ok (.iload_n 1, 1) := by decide +kernel
theorem dX8_buddle_6 : decode cX8_buddle 6 = .ok (.iconst 0, 1) := by decide +kernel
theorem dX8_buddle_7 : decode cX8_buddle 7 = .ok (.iconst 2, 1) := by decide +kernel
theorem dX8_buddle_8 : decode cX8_buddle 8 = .ok (.invokestatic 27, 3) := by decide +kernel
theorem dX8_buddle_11 : decode cX8_buddle 11 = .ok (.ifCond .eq 21, 3) := by decide +kernel
theorem dX8_buddle_14 : decode cX8_buddle 14 = .ok (.iload_n 2, 1) := by decide +kernel
theorem dX8_buddle_15 : decode cX8_buddle 15 = .ok (.iconst 0, 1) := by decide +kernel
theorem dX8_buddle_16 : decode cX8_buddle 16 = .ok (.iconst 2, 1) := by decide +kernel
theorem dX8_buddle_17 : decode cX8_buddle 17 = .ok (.invokestatic 27, 3) := by decide +kernel
theorem dX8_buddle_20 : decode cX8_buddle 20 = .ok (.ifCond .eq 12, 3) := by decide +kernel
theorem dX8_buddle_23 : decode cX8_buddle 23 = .ok (.aload_n 0, 1) := by decide +kernel
theorem dX8_buddle_24 : decode cX8_buddle 24 = .ok (.iload_n 1, 1) := by decide +kernel
theorem dX8_buddle_25 : decode cX8_buddle 25 = .ok (.iload_n 2, 1) := by decide +kernel
theorem dX8_buddle_26 : decode cX8_buddle 26 = .ok (.invokevirtual 136, 3) := by decide +kernel
theorem dX8_buddle_29 : decode cX8_buddle 29 = .ok (.goto 8, 3) := by decide +kernel
theorem dX8_buddle_32 : decode cX8_buddle 32 = .ok (.aload_n 0, 1) := by decide +kernel
theorem dX8_buddle_33 : decode cX8_buddle 33 = .ok (.iconst 1, 1) := by decide +kernel
theorem dX8_buddle_34 : decode cX8_buddle 34 = .ok (.invokevirtual 31, 3) := by decide +kernel
theorem dX8_buddle_37 : decode cX8_buddle 37 = .ok (.ireturn, 1) := by decide +kernel
theorem dX8_headTin_0 : decode cX8_headTin 0 = .ok (.aload_n 0, 1) := by decide +kernel
theorem dX8_headTin_1 : decode cX8_headTin 1 = .ok (.getfield 10, 3) := by decide +kernel
theorem dX8_headTin_4 : decode cX8_headTin 4 = .ok (.getfield 129, 3) := by decide +kernel
theorem dX8_headTin_7 : decode cX8_headTin 7 = .ok (.iconst 2, 1) := by decide +kernel
theorem dX8_headTin_8 : decode cX8_headTin 8 = .ok (.iload_n 1, 1) := by decide +kernel
theorem dX8_headTin_9 : decode cX8_headTin 9 = .ok (.imul, 1) := by decide +kernel
theorem dX8_headTin_10 : decode cX8_headTin 10 = .ok (.iconst 1, 1) := by decide +kernel
theorem dX8_headTin_11 : decode cX8_headTin 11 = .ok (.iadd, 1) := by decide +kernel
theorem dX8_headTin_12 : decode cX8_headTin 12 = .ok (.iaload, 1) := by decide +kernel
theorem dX8_headTin_13 : decode cX8_headTin 13 = .ok (.bipush 100, 2) := by decide +kernel
theorem dX8_headTin_15 : decode cX8_headTin 15 = .ok (.iload_n 2, 1) := by decide +kernel
theorem dX8_headTin_16 : decode cX8_headTin 16 = .ok (.iconst 3, 1) := by decide +kernel
theorem dX8_headTin_17 : decode cX8_headTin 17 = .ok (.idiv, 1) := by decide +kernel
theorem dX8_headTin_18 : decode cX8_headTin 18 = .ok (.isub, 1) := by decide +kernel
theorem dX8_headTin_19 : decode cX8_headTin 19 = .ok (.imul, 1) := by decide +kernel
theorem dX8_headTin_20 : decode cX8_headTin 20 = .ok (.bipush 100, 2) := by decide +kernel
theorem dX8_headTin_22 : decode cX8_headTin 22 = .ok (.idiv, 1) := by decide +kernel
theorem dX8_headTin_23 : decode cX8_headTin 23 = .ok (.ireturn, 1) := by decide +kernel
theorem dX8_headRock_0 : decode cX8_headRock 0 = .ok (.aload_n 0, 1) := by decide +kernel
theorem dX8_headRock_1 : decode cX8_headRock 1 = .ok (.getfield 10, 3) := by decide +kernel
theorem dX8_headRock_4 : decode cX8_headRock 4 = .ok (.getfield 129, 3) := by decide +kernel
theorem dX8_headRock_7 : decode cX8_headRock 7 = .ok (.iconst 2, 1) := by decide +kernel
theorem dX8_headRock_8 : decode cX8_headRock 8 = .ok (.iload_n 1, 1) := by decide +kernel
theorem dX8_headRock_9 : decode cX8_headRock 9 = .ok (.imul, 1) := by decide +kernel
theorem dX8_headRock_10 : decode cX8_headRock 10 = .ok (.iaload, 1) := by decide +kernel
theorem dX8_headRock_11 : decode cX8_headRock 11 = .ok (.bipush 100, 2) := by decide +kernel
theorem dX8_headRock_13 : decode cX8_headRock 13 = .ok (.iload_n 2, 1) := by decide +kernel
theorem dX8_headRock_14 : decode cX8_headRock 14 = .ok (.isub, 1) := by decide +kernel
theorem dX8_headRock_15 : decode cX8_headRock 15 = .ok (.iconst 4, 1) := by decide +kernel
theorem dX8_headRock_16 : decode cX8_headRock 16 = .ok (.idiv, 1) := by decide +kernel
theorem dX8_headRock_17 : decode cX8_headRock 17 = .ok (.imul, 1) := by decide +kernel
theorem dX8_headRock_18 : decode cX8_headRock 18 = .ok (.bipush 100, 2) := by decide +kernel
theorem dX8_headRock_20 : decode cX8_headRock 20 = .ok (.idiv, 1) := by decide +kernel
theorem dX8_headRock_21 : decode cX8_headRock 21 = .ok (.ireturn, 1) := by decide +kernel
theorem dX8_wash_0 : decode cX8_wash 0 = .ok (.aload_n 0, 1) := by decide +kernel
theorem dX8_wash_1 : decode cX8_wash 1 = .ok (.iconst 0, 1) := by decide +kernel
theorem dX8_wash_2 : decode cX8_wash 2 = .ok (.putfield 23, 3) := by decide +kernel
theorem dX8_wash_5 : decode cX8_wash 5 = .ok (.iload_n 1, 1) := by decide +kernel
theorem dX8_wash_6 : decode cX8_wash 6 = .ok (.iconst 0, 1) := by decide +kernel
theorem dX8_wash_7 : decode cX8_wash 7 = .ok (.iconst 2, 1) := by decide +kernel
theorem dX8_wash_8 : decode cX8_wash 8 = .ok (.invokestatic 27, 3) := by decide +kernel
theorem dX8_wash_11 : decode cX8_wash 11 = .ok (.ifCond .ne 9, 3) := by decide +kernel
theorem dX8_wash_14 : decode cX8_wash 14 = .ok (.aload_n 0, 1) := by decide +kernel
theorem dX8_wash_15 : decode cX8_wash 15 = .ok (.iconst 1, 1) := by decide +kernel
theorem dX8_wash_16 : decode cX8_wash 16 = .ok (.invokevirtual 31, 3) := by decide +kernel
theorem dX8_wash_19 : decode cX8_wash 19 = .ok (.ireturn, 1) := by decide +kernel
theorem dX8_wash_20 : decode cX8_wash 20 = .ok (.iload_n 2, 1) := by decide +kernel
theorem dX8_wash_21 : decode cX8_wash 21 = .ok (.bipush 10, 2) := by decide +kernel
theorem dX8_wash_23 : decode cX8_wash 23 = .ok (.bipush 90, 2) := by decide +kernel
theorem dX8_wash_25 : decode cX8_wash 25 = .ok (.invokestatic 27, 3) := by decide +kernel
theorem dX8_wash_28 : decode cX8_wash 28 = .ok (.ifCond .ne 9, 3) := by decide +kernel
theorem dX8_wash_31 : decode cX8_wash 31 = .ok (.aload_n 0, 1) := by decide +kernel
theorem dX8_wash_32 : decode cX8_wash 32 = .ok (.iconst 2, 1) := by decide +kernel
theorem dX8_wash_33 : decode cX8_wash 33 = .ok (.invokevirtual 31, 3) := by decide +kernel
theorem dX8_wash_36 : decode cX8_wash 36 = .ok (.ireturn, 1) := by decide +kernel
theorem dX8_wash_37 : decode cX8_wash 37 = .ok (.aload_n 0, 1) := by decide +kernel
theorem dX8_wash_38 : decode cX8_wash 38 = .ok (.getfield 10, 3) := by decide +kernel
theorem dX8_wash_41 : decode cX8_wash 41 = .ok (.iload_n 1, 1) := by decide +kernel
theorem dX8_wash_42 : decode cX8_wash 42 = .ok (.invokevirtual 139, 3) := by decide +kernel
theorem dX8_wash_45 : decode cX8_wash 45 = .ok (.ifCond .eq 15, 3) := by decide +kernel
theorem dX8_wash_48 : decode cX8_wash 48 = .ok (.aload_n 0, 1) := by decide +kernel
theorem dX8_wash_49 : decode cX8_wash 49 = .ok (.getfield 10, 3) := by decide +kernel
theorem dX8_wash_52 : decode cX8_wash 52 = .ok (.getfield 79, 3) := by decide +kernel
theorem dX8_wash_55 : decode cX8_wash 55 = .ok (.bipush 30, 2) := by decide +kernel
theorem dX8_wash_57 : decode cX8_wash 57 = .ok (.if_icmp .ne 9, 3) := by decide +kernel
theorem dX8_wash_60 : decode cX8_wash 60 = .ok (.aload_n 0, 1) := by decide +kernel
theorem dX8_wash_61 : decode cX8_wash 61 = .ok (.iconst 3, 1) := by decide +kernel
theorem dX8_wash_62 : decode cX8_wash 62 = .ok (.invokevirtual 31, 3) := by decide +kernel
theorem dX8_wash_65 : decode cX8_wash 65 = .ok (.ireturn, 1) := by decide +kernel
theorem dX8_wash_66 : decode cX8_wash 66 = .ok (.aload_n 0, 1) := by decide +kernel
theorem dX8_wash_67 : decode cX8_wash 67 = .ok (.iload_n 1, 1) := by decide +kernel
theorem dX8_wash_68 : decode cX8_wash 68 = .ok (.iload_n 2, 1) := by decide +kernel
theorem dX8_wash_69 : decode cX8_wash 69 = .ok (.invokevirtual 142, 3) := by decide +kernel
theorem dX8_wash_72 : decode cX8_wash 72 = .ok (.istore_n 3, 1) := by decide +kernel
theorem dX8_wash_73 : decode cX8_wash 73 = .ok (.aload_n 0, 1) := by decide +kernel
theorem dX8_wash_74 : decode cX8_wash 74 = .ok (.iload_n 1, 1) := by decide +kernel
theorem dX8_wash_75 : decode cX8_wash 75 = .ok (.iload_n 2, 1) := by decide +kernel
theorem dX8_wash_76 : decode cX8_wash 76 = .ok (.invokevirtual 145, 3) := by decide +kernel
theorem dX8_wash_79 : decode cX8_wash 79 = .ok (.istore 4, 2) := by decide +kernel
theorem dX8_wash_81 : decode cX8_wash 81 = .ok (.aload_n 0, 1) := by decide +kernel
theorem dX8_wash_82 : decode cX8_wash 82 = .ok (.getfield 10, 3) := by decide +kernel
theorem dX8_wash_85 : decode cX8_wash 85 = .ok (.getfield 129, 3) := by decide +kernel
theorem dX8_wash_88 : decode cX8_wash 88 = .ok (.iconst 2, 1) := by decide +kernel
theorem dX8_wash_89 : decode cX8_wash 89 = .ok (.iload_n 1, 1) := by decide +kernel
theorem dX8_wash_90 : decode cX8_wash 90 = .ok (.imul, 1) := by decide +kernel
theorem dX8_wash_91 : decode cX8_wash 91 = .ok (.iconst 1, 1) := by decide +kernel
theorem dX8_wash_92 : decode cX8_wash 92 = .ok (.iadd, 1) := by decide +kernel
theorem dX8_wash_93 : decode cX8_wash 93 = .ok (.iaload, 1) := by decide +kernel
theorem dX8_wash_94 : decode cX8_wash 94 = .ok (.iload_n 3, 1) := by decide +kernel
theorem dX8_wash_95 : decode cX8_wash 95 = .ok (.isub, 1) := by decide +kernel
theorem dX8_wash_96 : decode cX8_wash 96 = .ok (.istore 5, 2) := by decide +kernel
theorem dX8_wash_98 : decode cX8_wash 98 = .ok (.aload_n 0, 1) := by decide +kernel
theorem dX8_wash_99 : decode cX8_wash 99 = .ok (.getfield 10, 3) := by decide +kernel
theorem dX8_wash_102 : decode cX8_wash 102 = .ok (.getfield 129, 3) := by decide +kernel
theorem dX8_wash_105 : decode cX8_wash 105 = .ok (.iconst 2, 1) := by decide +kernel
theorem dX8_wash_106 : decode cX8_wash 106 = .ok (.iload_n 1, 1) := by decide +kernel
theorem dX8_wash_107 : decode cX8_wash 107 = .ok (.imul, 1) := by decide +kernel
theorem dX8_wash_108 : decode cX8_wash 108 = .ok (.iaload, 1) := by decide +kernel
theorem dX8_wash_109 : decode cX8_wash 109 = .ok (.iload 4, 2) := by decide +kernel
theorem dX8_wash_111 : decode cX8_wash 111 = .ok (.isub, 1) := by decide +kernel
theorem dX8_wash_112 : decode cX8_wash 112 = .ok (.istore 6, 2) := by decide +kernel
theorem dX8_wash_114 : decode cX8_wash 114 = .ok (.iload 5, 2) := by decide +kernel
theorem dX8_wash_116 : decode cX8_wash 116 = .ok (.iconst 2, 1) := by decide +kernel
theorem dX8_wash_117 : decode cX8_wash 117 = .ok (.idiv, 1) := by decide +kernel
theorem dX8_wash_118 : decode cX8_wash 118 = .ok (.iload 6, 2) := by decide +kernel
theorem dX8_wash_120 : decode cX8_wash 120 = .ok (.iconst 2, 1) := by decide +kernel
theorem dX8_wash_121 : decode cX8_wash 121 = .ok (.idiv, 1) := by decide +kernel
theorem dX8_wash_122 : decode cX8_wash 122 = .ok (.iadd, 1) := by decide +kernel
theorem dX8_wash_123 : decode cX8_wash 123 = .ok (.ifCond .le 19, 3) := by decide +kernel
theorem dX8_wash_126 : decode cX8_wash 126 = .ok (.aload_n 0, 1) := by decide +kernel
theorem dX8_wash_127 : decode cX8_wash 127 = .ok (.getfield 10, 3) := by decide +kernel
theorem dX8_wash_130 : decode cX8_wash 130 = .ok (.iload 6, 2) := by decide +kernel
theorem dX8_wash_132 : decode cX8_wash 132 = .ok (.iconst 2, 1) := by decide +kernel
theorem dX8_wash_133 : decode cX8_wash 133 = .ok (.idiv, 1) := by decide +kernel
theorem dX8_wash_134 : decode cX8_wash 134 = .ok (.iload 5, 2) := by decide +kernel
theorem dX8_wash_136 : decode cX8_wash 136 = .ok (.iconst 2, 1) := by decide +kernel
theorem dX8_wash_137 : decode cX8_wash 137 = .ok (.idiv, 1) := by decide +kernel
theorem dX8_wash_138 : decode cX8_wash 138 = .ok (.iconst 1, 1) := by decide +kernel
theorem dX8_wash_139 : decode cX8_wash 139 = .ok (.invokevirtual 82, 3) := by decide +kernel
theorem dX8_wash_142 : decode cX8_wash 142 = .ok (.aload_n 0, 1) := by decide +kernel
theorem dX8_wash_143 : decode cX8_wash 143 = .ok (.dup, 1) := by decide +kernel
theorem dX8_wash_144 : decode cX8_wash 144 = .ok (.getfield 112, 3) := by decide +kernel
theorem dX8_wash_147 : decode cX8_wash 147 = .ok (.iload 5, 2) := by decide +kernel
theorem dX8_wash_149 : decode cX8_wash 149 = .ok (.iload 5, 2) := by decide +kernel
theorem dX8_wash_151 : decode cX8_wash 151 = .ok (.iconst 2, 1) := by decide +kernel
theorem dX8_wash_152 : decode cX8_wash 152 = .ok (.idiv, 1) := by decide +kernel
theorem dX8_wash_153 : decode cX8_wash 153 = .ok (.isub, 1) := by decide +kernel
theorem dX8_wash_154 : decode cX8_wash 154 = .ok (.iadd, 1) := by decide +kernel
theorem dX8_wash_155 : decode cX8_wash 155 = .ok (.putfield 112, 3) := by decide +kernel
theorem dX8_wash_158 : decode cX8_wash 158 = .ok (.aload_n 0, 1) := by decide +kernel
theorem dX8_wash_159 : decode cX8_wash 159 = .ok (.dup, 1) := by decide +kernel
theorem dX8_wash_160 : decode cX8_wash 160 = .ok (.getfield 115, 3) := by decide +kernel
theorem dX8_wash_163 : decode cX8_wash 163 = .ok (.iload 6, 2) := by decide +kernel
theorem dX8_wash_165 : decode cX8_wash 165 = .ok (.iload 6, 2) := by decide +kernel
theorem dX8_wash_167 : decode cX8_wash 167 = .ok (.iconst 2, 1) := by decide +kernel
theorem dX8_wash_168 : decode cX8_wash 168 = .ok (.idiv, 1) := by decide +kernel
theorem dX8_wash_169 : decode cX8_wash 169 = .ok (.isub, 1) := by decide +kernel
theorem dX8_wash_170 : decode cX8_wash 170 = .ok (.iadd, 1) := by decide +kernel
theorem dX8_wash_171 : decode cX8_wash 171 = .ok (.putfield 115, 3) := by decide +kernel
theorem dX8_wash_174 : decode cX8_wash 174 = .ok (.aload_n 0, 1) := by decide +kernel
theorem dX8_wash_175 : decode cX8_wash 175 = .ok (.getfield 19, 3) := by decide +kernel
theorem dX8_wash_178 : decode cX8_wash 178 = .ok (.iconst 0, 1) := by decide +kernel
theorem dX8_wash_179 : decode cX8_wash 179 = .ok (.dup2, 1) := by decide +kernel
theorem dX8_wash_180 : decode cX8_wash 180 = .ok (.iaload, 1) := by decide +kernel
theorem dX8_wash_181 : decode cX8_wash 181 = .ok (.iload 4, 2) := by decide +kernel
theorem dX8_wash_183 : decode cX8_wash 183 = .ok (.iadd, 1) := by decide +kernel
theorem dX8_wash_184 : decode cX8_wash 184 = .ok (.iastore, 1) := by decide +kernel
theorem dX8_wash_185 : decode cX8_wash 185 = .ok (.aload_n 0, 1) := by decide +kernel
theorem dX8_wash_186 : decode cX8_wash 186 = .ok (.getfield 19, 3) := by decide +kernel
theorem dX8_wash_189 : decode cX8_wash 189 = .ok (.iconst 1, 1) := by decide +kernel
theorem dX8_wash_190 : decode cX8_wash 190 = .ok (.dup2, 1) := by decide +kernel
theorem dX8_wash_191 : decode cX8_wash 191 = .ok (.iaload, 1) := by decide +kernel
theorem dX8_wash_192 : decode cX8_wash 192 = .ok (.iload_n 3, 1) := by decide +kernel
theorem dX8_wash_193 : decode cX8_wash 193 = .ok (.iadd, 1) := by decide +kernel
theorem dX8_wash_194 : decode cX8_wash 194 = .ok (.iastore, 1) := by decide +kernel
theorem dX8_wash_195 : decode cX8_wash 195 = .ok (.aload_n 0, 1) := by decide +kernel
theorem dX8_wash_196 : decode cX8_wash 196 = .ok (.getfield 10, 3) := by decide +kernel
theorem dX8_wash_199 : decode cX8_wash 199 = .ok (.getfield 129, 3) := by decide +kernel
theorem dX8_wash_202 : decode cX8_wash 202 = .ok (.iconst 2, 1) := by decide +kernel
theorem dX8_wash_203 : decode cX8_wash 203 = .ok (.iload_n 1, 1) := by decide +kernel
theorem dX8_wash_204 : decode cX8_wash 204 = .ok (.imul, 1) := by decide +kernel
theorem dX8_wash_205 : decode cX8_wash 205 = .ok (.iconst 0, 1) := by decide +kernel
theorem dX8_wash_206 : decode cX8_wash 206 = .ok (.iastore, 1) := by decide +kernel
theorem dX8_wash_207 : decode cX8_wash 207 = .ok (.aload_n 0, 1) := by decide +kernel
theorem dX8_wash_208 : decode cX8_wash 208 = .ok (.getfield 10, 3) := by decide +kernel
theorem dX8_wash_211 : decode cX8_wash 211 = .ok (.getfield 129, 3) := by decide +kernel
theorem dX8_wash_214 : decode cX8_wash 214 = .ok (.iconst 2, 1) := by decide +kernel
theorem dX8_wash_215 : decode cX8_wash 215 = .ok (.iload_n 1, 1) := by decide +kernel
theorem dX8_wash_216 : decode cX8_wash 216 = .ok (.imul, 1) := by decide +kernel
theorem dX8_wash_217 : decode cX8_wash 217 = .ok (.iconst 1, 1) := by decide +kernel
theorem dX8_wash_218 : decode cX8_wash 218 = .ok (.iadd, 1) := by decide +kernel
theorem dX8_wash_219 : decode cX8_wash 219 = .ok (.iconst 0, 1) := by decide +kernel
theorem dX8_wash_220 : decode cX8_wash 220 = .ok (.iastore, 1) := by decide +kernel
theorem dX8_wash_221 : decode cX8_wash 221 = .ok (.iload_n 3, 1) := by decide +kernel
theorem dX8_wash_222 : decode cX8_wash 222 = .ok (.ireturn, 1) := by decide +kernel
theorem dX8_again_0 : decode cX8_again 0 = .ok (.aload_n 0, 1) := by decide +kernel
theorem dX8_again_1 : decode cX8_again 1 = .ok (.iconst 0, 1) := by decide +kernel
theorem dX8_again_2 : decode cX8_again 2 = .ok (.putfield 23, 3) := by decide +kernel
theorem dX8_again_5 : decode cX8_again 5 = .ok (.iload_n 1, 1) := by decide +kernel
theorem dX8_again_6 : decode cX8_again 6 = .ok (.iconst 0, 1) := by decide +kernel
theorem dX8_again_7 : decode cX8_again 7 = .ok (.iconst 2, 1) := by decide +kernel
theorem dX8_again_8 : decode cX8_again 8 = .ok (.invokestatic 27, 3) := by decide +kernel
theorem dX8_again_11 : decode cX8_again 11 = .ok (.ifCond .ne 9, 3) := by decide +kernel
theorem dX8_again_14 : decode cX8_again 14 = .ok (.aload_n 0, 1) := by decide +kernel
theorem dX8_again_15 : decode cX8_again 15 = .ok (.iconst 1, 1) := by decide +kernel
theorem dX8_again_16 : decode cX8_again 16 = .ok (.invokevirtual 31, 3) := by decide +kernel
theorem dX8_again_19 : decode cX8_again 19 = .ok (.ireturn, 1) := by decide +kernel
theorem dX8_again_20 : decode cX8_again 20 = .ok (.aload_n 0, 1) := by decide +kernel
theorem dX8_again_21 : decode cX8_again 21 = .ok (.getfield 19, 3) := by decide +kernel
theorem dX8_again_24 : decode cX8_again 24 = .ok (.iconst 0, 1) := by decide +kernel
theorem dX8_again_25 : decode cX8_again 25 = .ok (.iaload, 1) := by decide +kernel
theorem dX8_again_26 : decode cX8_again 26 = .ok (.aload_n 0, 1) := by decide +kernel
theorem dX8_again_27 : decode cX8_again 27 = .ok (.getfield 19, 3) := by decide +kernel
theorem dX8_again_30 : decode cX8_again 30 = .ok (.iconst 1, 1) := by decide +kernel
theorem dX8_again_31 : decode cX8_again 31 = .ok (.iaload, 1) := by decide +kernel
theorem dX8_again_32 : decode cX8_again 32 = .ok (.iadd, 1) := by decide +kernel
theorem dX8_again_33 : decode cX8_again 33 = .ok (.sipush 6000, 3) := by decide +kernel
theorem dX8_again_36 : decode cX8_again 36 = .ok (.aload_n 0, 1) := by decide +kernel
theorem dX8_again_37 : decode cX8_again 37 = .ok (.getfield 10, 3) := by decide +kernel
theorem dX8_again_40 : decode cX8_again 40 = .ok (.iload_n 1, 1) := by decide +kernel
theorem dX8_again_41 : decode cX8_again 41 = .ok (.invokevirtual 139, 3) := by decide +kernel
theorem dX8_again_44 : decode cX8_again 44 = .ok (.isub, 1) := by decide +kernel
theorem dX8_again_45 : decode cX8_again 45 = .ok (.invokestatic 148, 3) := by decide +kernel
theorem dX8_again_48 : decode cX8_again 48 = .ok (.istore_n 2, 1) := by decide +kernel
theorem dX8_again_49 : decode cX8_again 49 = .ok (.aload_n 0, 1) := by decide +kernel
theorem dX8_again_50 : decode cX8_again 50 = .ok (.getfield 19, 3) := by decide +kernel
theorem dX8_again_53 : decode cX8_again 53 = .ok (.iconst 0, 1) := by decide +kernel
theorem dX8_again_54 : decode cX8_again 54 = .ok (.aload_n 0, 1) := by decide +kernel
theorem dX8_again_55 : decode cX8_again 55 = .ok (.getfield 10, 3) := by decide +kernel
theorem dX8_again_58 : decode cX8_again 58 = .ok (.getfield 129, 3) := by decide +kernel
theorem dX8_again_61 : decode cX8_again 61 = .ok (.iconst 2, 1) := by decide +kernel
theorem dX8_again_62 : decode cX8_again 62 = .ok (.iload_n 1, 1) := by decide +kernel
theorem dX8_again_63 : decode cX8_again 63 = .ok (.imul, 1) := by decide +kernel
theorem dX8_again_64 : decode cX8_again 64 = .ok (.iload_n 2, 1) := by decide +kernel
theorem dX8_again_65 : decode cX8_again 65 = .ok (.invokestatic 153, 3) := by decide +kernel
theorem dX8_again_68 : decode cX8_again 68 = .ok (.iload_n 2, 1) := by decide +kernel
theorem dX8_again_69 : decode cX8_again 69 = .ok (.ireturn, 1) := by decide +kernel
theorem dX8_smelt_0 : decode cX8_smelt 0 = .ok (.aload_n 0, 1) := by decide +kernel
theorem dX8_smelt_1 : decode cX8_smelt 1 = .ok (.iconst 0, 1) := by decide +kernel
theorem dX8_smelt_2 : decode cX8_smelt 2 = .ok (.putfield 23, 3) := by decide +kernel
theorem dX8_smelt_5 : decode cX8_smelt 5 = .ok (.iload_n 1, 1) := by decide +kernel
theorem dX8_smelt_6 : decode cX8_smelt 6 = .ok (.iconst 1, 1) := by decide +kernel
theorem dX8_smelt_7 : decode cX8_smelt 7 = .ok (.if_icmp .ge 9, 3) := by decide +kernel
theorem dX8_smelt_10 : decode cX8_smelt 10 = .ok (.aload_n 0, 1) := by decide +kernel
theorem dX8_smelt_11 : decode cX8_smelt 11 = .ok (.iconst 1, 1) := by decide +kernel
theorem dX8_smelt_12 : decode cX8_smelt 12 = .ok (.invokevirtual 31, 3) := by decide +kernel
theorem dX8_smelt_15 : decode cX8_smelt 15 = .ok (.ireturn, 1) := by decide +kernel
theorem dX8_smelt_16 : decode cX8_smelt 16 = .ok (.iload_n 1, 1) := by decide +kernel
theorem dX8_smelt_17 : decode cX8_smelt 17 = .ok (.aload_n 0, 1) := by decide +kernel
theorem dX8_smelt_18 : decode cX8_smelt 18 = .ok (.getfield 19, 3) := by decide +kernel
theorem dX8_smelt_21 : decode cX8_smelt 21 = .ok (.iconst 0, 1) := by decide +kernel
theorem dX8_smelt_22 : decode cX8_smelt 22 = .ok (.iaload, 1) := by decide +kernel
theorem dX8_smelt_23 : decode cX8_smelt 23 = .ok (.aload_n 0, 1) := by decide +kernel
theorem dX8_smelt_24 : decode cX8_smelt 24 = .ok (.getfield 19, 3) := by decide +kernel
theorem dX8_smelt_27 : decode cX8_smelt 27 = .ok (.iconst 1, 1) := by decide +kernel
theorem dX8_smelt_28 : decode cX8_smelt 28 = .ok (.iaload, 1) := by decide +kernel
theorem dX8_smelt_29 : decode cX8_smelt 29 = .ok (.iadd, 1) := by decide +kernel
theorem dX8_smelt_30 : decode cX8_smelt 30 = .ok (.if_icmp .le 9, 3) := by decide +kernel
theorem dX8_smelt_33 : decode cX8_smelt 33 = .ok (.aload_n 0, 1) := by decide +kernel
theorem dX8_smelt_34 : decode cX8_smelt 34 = .ok (.iconst 2, 1) := by decide +kernel
theorem dX8_smelt_35 : decode cX8_smelt 35 = .ok (.invokevirtual 31, 3) := by decide +kernel
theorem dX8_smelt_38 : decode cX8_smelt 38 = .ok (.ireturn, 1) := by decide +kernel
theorem dX8_smelt_39 : decode cX8_smelt 39 = .ok (.iconst 2, 1) := by decide +kernel
theorem dX8_smelt_40 : decode cX8_smelt 40 = .ok (.newarray .int, 2) := by decide +kernel
theorem dX8_smelt_42 : decode cX8_smelt 42 = .ok (.astore_n 2, 1) := by decide +kernel
theorem dX8_smelt_43 : decode cX8_smelt 43 = .ok (.aload_n 0, 1) := by decide +kernel
theorem dX8_smelt_44 : decode cX8_smelt 44 = .ok (.getfield 19, 3) := by decide +kernel
theorem dX8_smelt_47 : decode cX8_smelt 47 = .ok (.iconst 0, 1) := by decide +kernel
theorem dX8_smelt_48 : decode cX8_smelt 48 = .ok (.aload_n 2, 1) := by decide +kernel
theorem dX8_smelt_49 : decode cX8_smelt 49 = .ok (.iconst 0, 1) := by decide +kernel
theorem dX8_smelt_50 : decode cX8_smelt 50 = .ok (.iload_n 1, 1) := by decide +kernel
theorem dX8_smelt_51 : decode cX8_smelt 51 = .ok (.invokestatic 153, 3) := by decide +kernel
theorem dX8_smelt_54 : decode cX8_smelt 54 = .ok (.aload_n 2, 1) := by decide +kernel
theorem dX8_smelt_55 : decode cX8_smelt 55 = .ok (.iconst 0, 1) := by decide +kernel
theorem dX8_smelt_56 : decode cX8_smelt 56 = .ok (.iaload, 1) := by decide +kernel
theorem dX8_smelt_57 : decode cX8_smelt 57 = .ok (.i2l, 1) := by decide +kernel
theorem dX8_smelt_58 : decode cX8_smelt 58 = .ok (.aload_n 2, 1) := by decide +kernel
theorem dX8_smelt_59 : decode cX8_smelt 59 = .ok (.iconst 1, 1) := by decide +kernel
theorem dX8_smelt_60 : decode cX8_smelt 60 = .ok (.iaload, 1) := by decide +kernel
theorem dX8_smelt_61 : decode cX8_smelt 61 = .ok (.i2l, 1) := by decide +kernel
theorem dX8_smelt_62 : decode cX8_smelt 62 = .ok (.invokestatic 132, 3) := by decide +kernel
theorem dX8_smelt_65 : decode cX8_smelt 65 = .ok (.sipush 400, 3) := by decide +kernel
theorem dX8_smelt_68 : decode cX8_smelt 68 = .ok (.if_icmp .lt 15, 3) := by decide +kernel
theorem dX8_smelt_71 : decode cX8_smelt 71 = .ok (.aload_n 2, 1) := by decide +kernel
theorem dX8_smelt_72 : decode cX8_smelt 72 = .ok (.iconst 1, 1) := by decide +kernel
theorem dX8_smelt_73 : decode cX8_smelt 73 = .ok (.iaload, 1) := by decide +kernel
theorem dX8_smelt_74 : decode cX8_smelt 74 = .ok (.bipush 9, 2) := by decide +kernel
theorem dX8_smelt_76 : decode cX8_smelt 76 = .ok (.imul, 1) := by decide +kernel
theorem dX8_smelt_77 : decode cX8_smelt 77 = .ok (.bipush 10, 2) := by decide +kernel
theorem dX8_smelt_79 : decode cX8_smelt 79 = .ok (.idiv, 1) := by decide +kernel
theorem dX8_smelt_80 : decode cX8_smelt 80 = .ok (.goto 4, 3) := by decide +kernel
theorem dX8_smelt_83 : decode cX8_smelt 83 = .ok (.iconst 0, 1) := by decide +kernel
theorem dX8_smelt_84 : decode cX8_smelt 84 = .ok (.istore_n 3, 1) := by decide +kernel
theorem dX8_smelt_85 : decode cX8_smelt 85 = .ok (.aload_n 0, 1) := by decide +kernel
theorem dX8_smelt_86 : decode cX8_smelt 86 = .ok (.dup, 1) := by decide +kernel
theorem dX8_smelt_87 : decode cX8_smelt 87 = .ok (.getfield 118, 3) := by decide +kernel
theorem dX8_smelt_90 : decode cX8_smelt 90 = .ok (.iload_n 3, 1) := by decide +kernel
theorem dX8_smelt_91 : decode cX8_smelt 91 = .ok (.iadd, 1) := by decide +kernel
theorem dX8_smelt_92 : decode cX8_smelt 92 = .ok (.putfield 118, 3) := by decide +kernel
theorem dX8_smelt_95 : decode cX8_smelt 95 = .ok (.iload_n 3, 1) := by decide +kernel
theorem dX8_smelt_96 : decode cX8_smelt 96 = .ok (.ireturn, 1) := by decide +kernel
theorem dX8_foresee_0 : decode cX8_foresee 0 = .ok (.aload_n 0, 1) := by decide +kernel
theorem dX8_foresee_1 : decode cX8_foresee 1 = .ok (.iconst 0, 1) := by decide +kernel
theorem dX8_foresee_2 : decode cX8_foresee 2 = .ok (.putfield 23, 3) := by decide +kernel
theorem dX8_foresee_5 : decode cX8_foresee 5 = .ok (.iload_n 1, 1) := by decide +kernel
theorem dX8_foresee_6 : decode cX8_foresee 6 = .ok (.iconst 1, 1) := by decide +kernel
theorem dX8_foresee_7 : decode cX8_foresee 7 = .ok (.bipush 100, 2) := by decide +kernel
theorem dX8_foresee_9 : decode cX8_foresee 9 = .ok (.invokestatic 27, 3) := by decide +kernel
theorem dX8_foresee_12 : decode cX8_foresee 12 = .ok (.ifCond .ne 9, 3) := by decide +kernel
theorem dX8_foresee_15 : decode cX8_foresee 15 = .ok (.aload_n 0, 1) := by decide +kernel
theorem dX8_foresee_16 : decode cX8_foresee 16 = .ok (.iconst 1, 1) := by decide +kernel
theorem dX8_foresee_17 : decode cX8_foresee 17 = .ok (.invokevirtual 31, 3) := by decide +kernel
theorem dX8_foresee_20 : decode cX8_foresee 20 = .ok (.ireturn, 1) := by decide +kernel
theorem dX8_foresee_21 : decode cX8_foresee 21 = .ok (.iload_n 2, 1) := by decide +kernel
theorem dX8_foresee_22 : decode cX8_foresee 22 = .ok (.iconst 0, 1) := by decide +kernel
theorem dX8_foresee_23 : decode cX8_foresee 23 = .ok (.iconst 4, 1) := by decide +kernel
theorem dX8_foresee_24 : decode cX8_foresee 24 = .ok (.invokestatic 27, 3) := by decide +kernel
theorem dX8_foresee_27 : decode cX8_foresee 27 = .ok (.ifCond .ne 9, 3) := by decide +kernel
theorem dX8_foresee_30 : decode cX8_foresee 30 = .ok (.aload_n 0, 1) := by decide +kernel
theorem dX8_foresee_31 : decode cX8_foresee 31 = .ok (.iconst 2, 1) := by decide +kernel
theorem dX8_foresee_32 : decode cX8_foresee 32 = .ok (.invokevirtual 31, 3) := by decide +kernel
theorem dX8_foresee_35 : decode cX8_foresee 35 = .ok (.ireturn, 1) := by decide +kernel
theorem dX8_foresee_36 : decode cX8_foresee 36 = .ok (.aload_n 0, 1) := by decide +kernel
theorem dX8_foresee_37 : decode cX8_foresee 37 = .ok (.getfield 10, 3) := by decide +kernel
theorem dX8_foresee_40 : decode cX8_foresee 40 = .ok (.getfield 93, 3) := by decide +kernel
theorem dX8_foresee_43 : decode cX8_foresee 43 = .ok (.iload_n 1, 1) := by decide +kernel
theorem dX8_foresee_44 : decode cX8_foresee 44 = .ok (.iadd, 1) := by decide +kernel
theorem dX8_foresee_45 : decode cX8_foresee 45 = .ok (.sipush 5000, 3) := by decide +kernel
theorem dX8_foresee_48 : decode cX8_foresee 48 = .ok (.if_icmp .le 9, 3) := by decide +kernel
theorem dX8_foresee_51 : decode cX8_foresee 51 = .ok (.aload_n 0, 1) := by decide +kernel
theorem dX8_foresee_52 : decode cX8_foresee 52 = .ok (.iconst 3, 1) := by decide +kernel
theorem dX8_foresee_53 : decode cX8_foresee 53 = .ok (.invokevirtual 31, 3) := by decide +kernel
theorem dX8_foresee_56 : decode cX8_foresee 56 = .ok (.ireturn, 1) := by decide +kernel
theorem dX8_foresee_57 : decode cX8_foresee 57 = .ok (.aload_n 0, 1) := by decide +kernel
theorem dX8_foresee_58 : decode cX8_foresee 58 = .ok (.getfield 16, 3) := by decide +kernel
theorem dX8_foresee_61 : decode cX8_foresee 61 = .ok (.aload_n 0, 1) := by decide +kernel
theorem dX8_foresee_62 : decode cX8_foresee 62 = .ok (.getfield 10, 3) := by decide +kernel
theorem dX8_foresee_65 : decode cX8_foresee 65 = .ok (.invokevirtual 157, 3) := by decide +kernel
theorem dX8_foresee_68 : decode cX8_foresee 68 = .ok (.aload_n 0, 1) := by decide +kernel
theorem dX8_foresee_69 : decode cX8_foresee 69 = .ok (.getfield 16, 3) := by decide +kernel
theorem dX8_foresee_72 : decode cX8_foresee 72 = .ok (.iload_n 1, 1) := by decide +kernel
theorem dX8_foresee_73 : decode cX8_foresee 73 = .ok (.invokestatic 96, 3) := by decide +kernel
theorem dX8_foresee_76 : decode cX8_foresee 76 = .ok (.istore_n 3, 1) := by decide +kernel
theorem dX8_foresee_77 : decode cX8_foresee 77 = .ok (.iload_n 2, 1) := by decide +kernel
theorem dX8_foresee_78 : decode cX8_foresee 78 = .ok (.ifCond .ne 7, 3) := by decide +kernel
theorem dX8_foresee_81 : decode cX8_foresee 81 = .ok (.iload_n 3, 1) := by decide +kernel
theorem dX8_foresee_82 : decode cX8_foresee 82 = .ok (.goto 63, 3) := by decide +kernel
theorem dX8_foresee_85 : decode cX8_foresee 85 = .ok (.iload_n 2, 1) := by decide +kernel
theorem dX8_foresee_86 : decode cX8_foresee 86 = .ok (.iconst 1, 1) := by decide +kernel
theorem dX8_foresee_87 : decode cX8_foresee 87 = .ok (.if_icmp .ne 13, 3) := by decide +kernel
theorem dX8_foresee_90 : decode cX8_foresee 90 = .ok (.aload_n 0, 1) := by decide +kernel
theorem dX8_foresee_91 : decode cX8_foresee 91 = .ok (.getfield 16, 3) := by decide +kernel
theorem dX8_foresee_94 : decode cX8_foresee 94 = .ok (.getfield 100, 3) := by decide +kernel
theorem dX8_foresee_97 : decode cX8_foresee 97 = .ok (.goto 48, 3) := by decide +kernel
theorem dX8_foresee_100 : decode cX8_foresee 100 = .ok (.iload_n 2, 1) := by decide +kernel
theorem dX8_foresee_101 : decode cX8_foresee 101 = .ok (.iconst 2, 1) := by decide +kernel
theorem dX8_foresee_102 : decode cX8_foresee 102 = .ok (.if_icmp .ne 13, 3) := by decide +kernel
theorem dX8_foresee_105 : decode cX8_foresee 105 = .ok (.aload_n 0, 1) := by decide +kernel
theorem dX8_foresee_106 : decode cX8_foresee 106 = .ok (.getfield 16, 3) := by decide +kernel
theorem dX8_foresee_109 : decode cX8_foresee 109 = .ok (.invokevirtual 161, 3) := by decide +kernel
theorem dX8_foresee_112 : decode cX8_foresee 112 = .ok (.goto 33, 3) := by decide +kernel
theorem dX8_foresee_115 : decode cX8_foresee 115 = .ok (.iload_n 2, 1) := by decide +kernel
theorem dX8_foresee_116 : decode cX8_foresee 116 = .ok (.iconst 3, 1) := by decide +kernel
theorem dX8_foresee_117 : decode cX8_foresee 117 = .ok (.if_icmp .ne 21, 3) := by decide +kernel
theorem dX8_foresee_120 : decode cX8_foresee 120 = .ok (.aload_n 0, 1) := by decide +kernel
theorem dX8_foresee_121 : decode cX8_foresee 121 = .ok (.getfield 16, 3) := by decide +kernel
theorem dX8_foresee_124 : decode cX8_foresee 124 = .ok (.getfield 109, 3) := by decide +kernel
theorem dX8_foresee_127 : decode cX8_foresee 127 = .ok (.aload_n 0, 1) := by decide +kernel
theorem dX8_foresee_128 : decode cX8_foresee 128 = .ok (.getfield 10, 3) := by decide +kernel
theorem dX8_foresee_131 : decode cX8_foresee 131 = .ok (.getfield 109, 3) := by decide +kernel
theorem dX8_foresee_134 : decode cX8_foresee 134 = .ok (.isub, 1) := by decide +kernel
theorem dX8_foresee_135 : decode cX8_foresee 135 = .ok (.goto 10, 3) := by decide +kernel
theorem dX8_foresee_138 : decode cX8_foresee 138 = .ok (.aload_n 0, 1) := by decide +kernel
theorem dX8_foresee_139 : decode cX8_foresee 139 = .ok (.getfield 16, 3) := by decide +kernel
theorem dX8_foresee_142 : decode cX8_foresee 142 = .ok (.invokevirtual 103, 3) := by decide +kernel
theorem dX8_foresee_145 : decode cX8_foresee 145 = .ok (.ireturn, 1) := by decide +kernel
theorem dX8_advise_0 : decode cX8_advise 0 = .ok (.aload_n 0, 1) := by decide +kernel
theorem dX8_advise_1 : decode cX8_advise 1 = .ok (.iconst 0, 1) := by decide +kernel
theorem dX8_advise_2 : decode cX8_advise 2 = .ok (.putfield 23, 3) := by decide +kernel
theorem dX8_advise_5 : decode cX8_advise 5 = .ok (.iload_n 1, 1) := by decide +kernel
theorem dX8_advise_6 : decode cX8_advise 6 = .ok (.iconst 1, 1) := by decide +kernel
theorem dX8_advise_7 : decode cX8_advise 7 = .ok (.bipush 48, 2) := by decide +kernel
theorem dX8_advise_9 : decode cX8_advise 9 = .ok (.invokestatic 27, 3) := by decide +kernel
theorem dX8_advise_12 : decode cX8_advise 12 = .ok (.ifCond .ne 9, 3) := by decide +kernel
theorem dX8_advise_15 : decode cX8_advise 15 = .ok (.aload_n 0, 1) := by decide +kernel
theorem dX8_advise_16 : decode cX8_advise 16 = .ok (.iconst 1, 1) := by decide +kernel
theorem dX8_advise_17 : decode cX8_advise 17 = .ok (.invokevirtual 31, 3) := by decide +kernel
theorem dX8_advise_20 : decode cX8_advise 20 = .ok (.ireturn, 1) := by decide +kernel
theorem dX8_advise_21 : decode cX8_advise 21 = .ok (.aload_n 0, 1) := by decide +kernel
theorem dX8_advise_22 : decode cX8_advise 22 = .ok (.getfield 10, 3) := by decide +kernel
theorem dX8_advise_25 : decode cX8_advise 25 = .ok (.getfield 93, 3) := by decide +kernel
theorem dX8_advise_28 : decode cX8_advise 28 = .ok (.iload_n 1, 1) := by decide +kernel
theorem dX8_advise_29 : decode cX8_advise 29 = .ok (.iadd, 1) := by decide +kernel
theorem dX8_advise_30 : decode cX8_advise 30 = .ok (.sipush 5000, 3) := by decide +kernel
theorem dX8_advise_33 : decode cX8_advise 33 = .ok (.if_icmp .le 9, 3) := by decide +kernel
theorem dX8_advise_36 : decode cX8_advise 36 = .ok (.aload_n 0, 1) := by decide +kernel
theorem dX8_advise_37 : decode cX8_advise 37 = .ok (.iconst 2, 1) := by decide +kernel
theorem dX8_advise_38 : decode cX8_advise 38 = .ok (.invokevirtual 31, 3) := by decide +kernel
theorem dX8_advise_41 : decode cX8_advise 41 = .ok (.ireturn, 1) := by decide +kernel
theorem dX8_advise_42 : decode cX8_advise 42 = .ok (.iconst 0, 1) := by decide +kernel
theorem dX8_advise_43 : decode cX8_advise 43 = .ok (.istore_n 2, 1) := by decide +kernel
theorem dX8_advise_44 : decode cX8_advise 44 = .ok (.iconst (-1), 1) := by decide +kernel
theorem dX8_advise_45 : decode cX8_advise 45 = .ok (.istore_n 3, 1) := by decide +kernel
theorem dX8_advise_46 : decode cX8_advise 46 = .ok (.iconst 0, 1) := by decide +kernel
theorem dX8_advise_47 : decode cX8_advise 47 = .ok (.istore 4, 2) := by decide +kernel
theorem dX8_advise_49 : decode cX8_advise 49 = .ok (.iload 4, 2) := by decide +kernel
theorem dX8_advise_51 : decode cX8_advise 51 = .ok (.bipush 21, 2) := by decide +kernel
theorem dX8_advise_53 : decode cX8_advise 53 = .ok (.if_icmp .ge 63, 3) := by decide +kernel
theorem dX8_advise_56 : decode cX8_advise 56 = .ok (.aload_n 0, 1) := by decide +kernel
theorem dX8_advise_57 : decode cX8_advise 57 = .ok (.getfield 16, 3) := by decide +kernel
theorem dX8_advise_60 : decode cX8_advise 60 = .ok (.aload_n 0, 1) := by decide +kernel
theorem dX8_advise_61 : decode cX8_advise 61 = .ok (.getfield 10, 3) := by decide +kernel
theorem dX8_advise_64 : decode cX8_advise 64 = .ok (.invokevirtual 157, 3) := by decide +kernel
theorem dX8_advise_67 : decode cX8_advise 67 = .ok (.aload_n 0, 1) := by decide +kernel
theorem dX8_advise_68 : decode cX8_advise 68 = .ok (.getfield 16, 3) := by decide +kernel
theorem dX8_advise_71 : decode cX8_advise 71 = .ok (.iload 4, 2) := by decide +kernel
theorem dX8_advise_73 : decode cX8_advise 73 = .ok (.putfield 38, 3) := by decide +kernel
theorem dX8_advise_76 : decode cX8_advise 76 = .ok (.aload_n 0, 1) := by decide +kernel
theorem dX8_advise_77 : decode cX8_advise 77 = .ok (.getfield 16, 3) := by decide +kernel
theorem dX8_advise_80 : decode cX8_advise 80 = .ok (.iload_n 1, 1) := by decide +kernel
theorem dX8_advise_81 : decode cX8_advise 81 = .ok (.invokestatic 96, 3) := by decide +kernel
theorem dX8_advise_84 : decode cX8_advise 84 = .ok (.pop, 1) := by decide +kernel
theorem dX8_advise_85 : decode cX8_advise 85 = .ok (.aload_n 0, 1) := by decide +kernel
theorem dX8_advise_86 : decode cX8_advise 86 = .ok (.getfield 16, 3) := by decide +kernel
theorem dX8_advise_89 : decode cX8_advise 89 = .ok (.invokevirtual 161, 3) := by decide +kernel
theorem dX8_advise_92 : decode cX8_advise 92 = .ok (.iload_n 3, 1) := by decide +kernel
theorem dX8_advise_93 : decode cX8_advise 93 = .ok (.if_icmp .gt 6, 3) := by decide +kernel
theorem dX8_advise_96 : decode cX8_advise 96 = .ok (.goto 14, 3) := by decide +kernel
theorem dX8_advise_99 : decode cX8_advise 99 = .ok (.aload_n 0, 1) := by decide +kernel
theorem dX8_advise_100 : decode cX8_advise 100 = .ok (.getfield 16, 3) := by decide +kernel
theorem dX8_advise_103 : decode cX8_advise 103 = .ok (.invokevirtual 161, 3) := by decide +kernel
theorem dX8_advise_106 : decode cX8_advise 106 = .ok (.istore_n 3, 1) := by decide +kernel
theorem dX8_advise_107 : decode cX8_advise 107 = .ok (.iload 4, 2) := by decide +kernel
theorem dX8_advise_109 : decode cX8_advise 109 = .ok (.istore_n 2, 1) := by decide +kernel
theorem dX8_advise_110 : decode cX8_advise 110 = .ok (.iinc 4 1, 3) := by decide +kernel
theorem dX8_advise_113 : decode cX8_advise 113 = .ok (.goto (-64), 3) := by decide +kernel
theorem dX8_advise_116 : decode cX8_advise 116 = .ok (.iload_n 2, 1) := by decide +kernel
theorem dX8_advise_117 : decode cX8_advise 117 = .ok (.ireturn, 1) := by decide +kernel
theorem dX8_bestWater_0 : decode cX8_bestWater 0 = .ok (.aload_n 0, 1) := by decide +kernel
theorem dX8_bestWater_1 : decode cX8_bestWater 1 = .ok (.iconst 0, 1) := by decide +kernel
theorem dX8_bestWater_2 : decode cX8_bestWater 2 = .ok (.putfield 23, 3) := by decide +kernel
theorem dX8_bestWater_5 : decode cX8_bestWater 5 = .ok (.iload_n 1, 1) := by decide +kernel
theorem dX8_bestWater_6 : decode cX8_bestWater 6 = .ok (.iconst 0, 1) := by decide +kernel
theorem dX8_bestWater_7 : decode cX8_bestWater 7 = .ok (.iconst 2, 1) := by decide +kernel
theorem dX8_bestWater_8 : decode cX8_bestWater 8 = .ok (.invokestatic 27, 3) := by decide +kernel
theorem dX8_bestWater_11 : decode cX8_bestWater 11 = .ok (.ifCond .ne 9, 3) := by decide +kernel
theorem dX8_bestWater_14 : decode cX8_bestWater 14 = .ok (.aload_n 0, 1) := by decide +kernel
theorem dX8_bestWater_15 : decode cX8_bestWater 15 = .ok (.iconst 1, 1) := by decide +kernel
theorem dX8_bestWater_16 : decode cX8_bestWater 16 = .ok (.invokevirtual 31, 3) := by decide +kernel
theorem dX8_bestWater_19 : decode cX8_bestWater 19 = .ok (.ireturn, 1) := by decide +kernel
theorem dX8_bestWater_20 : decode cX8_bestWater 20 = .ok (.iload_n 2, 1) := by decide +kernel
theorem dX8_bestWater_21 : decode cX8_bestWater 21 = .ok (.ifCond .ge 9, 3) := by decide +kernel
theorem dX8_bestWater_24 : decode cX8_bestWater 24 = .ok (.aload_n 0, 1) := by decide +kernel
theorem dX8_bestWater_25 : decode cX8_bestWater 25 = .ok (.iconst 2, 1) := by decide +kernel
theorem dX8_bestWater_26 : decode cX8_bestWater 26 = .ok (.invokevirtual 31, 3) := by decide +kernel
theorem dX8_bestWater_29 : decode cX8_bestWater 29 = .ok (.ireturn, 1) := by decide +kernel
theorem dX8_bestWater_30 : decode cX8_bestWater 30 = .ok (.iconst (-1), 1) := by decide +kernel
theorem dX8_bestWater_31 : decode cX8_bestWater 31 = .ok (.istore_n 3, 1) := by decide +kernel
theorem dX8_bestWater_32 : decode cX8_bestWater 32 = .ok (.iconst (-1), 1) := by decide +kernel
theorem dX8_bestWater_33 : decode cX8_bestWater 33 = .ok (.istore 4, 2) := by decide +kernel
theorem dX8_bestWater_35 : decode cX8_bestWater 35 = .ok (.bipush 10, 2) := by decide +kernel
theorem dX8_bestWater_37 : decode cX8_bestWater 37 = .ok (.istore 5, 2) := by decide +kernel
theorem dX8_bestWater_39 : decode cX8_bestWater 39 = .ok (.iload 5, 2) := by decide +kernel
theorem dX8_bestWater_41 : decode cX8_bestWater 41 = .ok (.bipush 91, 2) := by decide +kernel
theorem dX8_bestWater_43 : decode cX8_bestWater 43 = .ok (.if_icmp .ge 69, 3) := by decide +kernel
theorem dX8_bestWater_46 : decode cX8_bestWater 46 = .ok (.aload_n 0, 1) := by decide +kernel
theorem dX8_bestWater_47 : decode cX8_bestWater 47 = .ok (.getfield 10, 3) := by decide +kernel
theorem dX8_bestWater_50 : decode cX8_bestWater 50 = .ok (.iload_n 1, 1) := by decide +kernel
theorem dX8_bestWater_51 : decode cX8_bestWater 51 = .ok (.invokevirtual 139, 3) := by decide +kernel
theorem dX8_bestWater_54 : decode cX8_bestWater 54 = .ok (.ifCond .le 58, 3) := by decide +kernel
theorem dX8_bestWater_57 : decode cX8_bestWater 57 = .ok (.aload_n 0, 1) := by decide +kernel
theorem dX8_bestWater_58 : decode cX8_bestWater 58 = .ok (.iload_n 1, 1) := by decide +kernel
theorem dX8_bestWater_59 : decode cX8_bestWater 59 = .ok (.iload 5, 2) := by decide +kernel
theorem dX8_bestWater_61 : decode cX8_bestWater 61 = .ok (.invokevirtual 145, 3) := by decide +kernel
theorem dX8_bestWater_64 : decode cX8_bestWater 64 = .ok (.i2l, 1) := by decide +kernel
theorem dX8_bestWater_65 : decode cX8_bestWater 65 = .ok (.aload_n 0, 1) := by decide +kernel
theorem dX8_bestWater_66 : decode cX8_bestWater 66 = .ok (.iload_n 1, 1) := by decide +kernel
theorem dX8_bestWater_67 : decode cX8_bestWater 67 = .ok (.iload 5, 2) := by decide +kernel
theorem dX8_bestWater_69 : decode cX8_bestWater 69 = .ok (.invokevirtual 142, 3) := by decide +kernel
theorem dX8_bestWater_72 : decode cX8_bestWater 72 = .ok (.i2l, 1) := by decide +kernel
theorem dX8_bestWater_73 : decode cX8_bestWater 73 = .ok (.invokestatic 132, 3) := by decide +kernel
theorem dX8_bestWater_76 : decode cX8_bestWater 76 = .ok (.istore 6, 2) := by decide +kernel
theorem dX8_bestWater_78 : decode cX8_bestWater 78 = .ok (.aload_n 0, 1) := by decide +kernel
theorem dX8_bestWater_79 : decode cX8_bestWater 79 = .ok (.iload_n 1, 1) := by decide +kernel
theorem dX8_bestWater_80 : decode cX8_bestWater 80 = .ok (.iload 5, 2) := by decide +kernel
theorem dX8_bestWater_82 : decode cX8_bestWater 82 = .ok (.invokevirtual 142, 3) := by decide +kernel
theorem dX8_bestWater_85 : decode cX8_bestWater 85 = .ok (.iload_n 2, 1) := by decide +kernel
theorem dX8_bestWater_86 : decode cX8_bestWater 86 = .ok (.if_icmp .lt 20, 3) := by decide +kernel
theorem dX8_bestWater_89 : decode cX8_bestWater 89 = .ok (.iload 6, 2) := by decide +kernel
theorem dX8_bestWater_91 : decode cX8_bestWater 91 = .ok (.iload 4, 2) := by decide +kernel
theorem dX8_bestWater_93 : decode cX8_bestWater 93 = .ok (.if_icmp .gt 6, 3) := by decide +kernel
theorem dX8_bestWater_96 : decode cX8_bestWater 96 = .ok (.goto 10, 3) := by decide +kernel
theorem dX8_bestWater_99 : decode cX8_bestWater 99 = .ok (.iload 6, 2) := by decide +kernel
theorem dX8_bestWater_101 : decode cX8_bestWater 101 = .ok (.istore 4, 2) := by decide +kernel
theorem dX8_bestWater_103 : decode cX8_bestWater 103 = .ok (.iload 5, 2) := by decide +kernel
theorem dX8_bestWater_105 : decode cX8_bestWater 105 = .ok (.istore_n 3, 1) := by decide +kernel
theorem dX8_bestWater_106 : decode cX8_bestWater 106 = .ok (.iinc 5 1, 3) := by decide +kernel
theorem dX8_bestWater_109 : decode cX8_bestWater 109 = .ok (.goto (-70), 3) := by decide +kernel
theorem dX8_bestWater_112 : decode cX8_bestWater 112 = .ok (.iload_n 3, 1) := by decide +kernel
theorem dX8_bestWater_113 : decode cX8_bestWater 113 = .ok (.ireturn, 1) := by decide +kernel
theorem dX8_share_0 : decode cX8_share 0 = .ok (.aload_n 0, 1) := by decide +kernel
theorem dX8_share_1 : decode cX8_share 1 = .ok (.iconst 0, 1) := by decide +kernel
theorem dX8_share_2 : decode cX8_share 2 = .ok (.putfield 23, 3) := by decide +kernel
theorem dX8_share_5 : decode cX8_share 5 = .ok (.aload_n 0, 1) := by decide +kernel
theorem dX8_share_6 : decode cX8_share 6 = .ok (.getfield 118, 3) := by decide +kernel
theorem dX8_share_9 : decode cX8_share 9 = .ok (.aload_n 0, 1) := by decide +kernel
theorem dX8_share_10 : decode cX8_share 10 = .ok (.getfield 10, 3) := by decide +kernel
theorem dX8_share_13 : decode cX8_share 13 = .ok (.getfield 109, 3) := by decide +kernel
theorem dX8_share_16 : decode cX8_share 16 = .ok (.iadd, 1) := by decide +kernel
theorem dX8_share_17 : decode cX8_share 17 = .ok (.aload_n 0, 1) := by decide +kernel
theorem dX8_share_18 : decode cX8_share 18 = .ok (.getfield 112, 3) := by decide +kernel
theorem dX8_share_21 : decode cX8_share 21 = .ok (.iadd, 1) := by decide +kernel
theorem dX8_share_22 : decode cX8_share 22 = .ok (.istore_n 1, 1) := by decide +kernel
theorem dX8_share_23 : decode cX8_share 23 = .ok (.iload_n 1, 1) := by decide +kernel
theorem dX8_share_24 : decode cX8_share 24 = .ok (.ifCond .ne 7, 3) := by decide +kernel
theorem dX8_share_27 : decode cX8_share 27 = .ok (.dconst 0, 1) := by decide +kernel
theorem dX8_share_28 : decode cX8_share 28 = .ok (.goto 11, 3) := by decide +kernel
theorem dX8_share_31 : decode cX8_share 31 = .ok (.aload_n 0, 1) := by decide +kernel
theorem dX8_share_32 : decode cX8_share 32 = .ok (.getfield 118, 3) := by decide +kernel
theorem dX8_share_35 : decode cX8_share 35 = .ok (.i2d, 1) := by decide +kernel
theorem dX8_share_36 : decode cX8_share 36 = .ok (.iload_n 1, 1) := by decide +kernel
theorem dX8_share_37 : decode cX8_share 37 = .ok (.i2d, 1) := by decide +kernel
theorem dX8_share_38 : decode cX8_share 38 = .ok (.ddiv, 1) := by decide +kernel
theorem dX8_share_39 : decode cX8_share 39 = .ok (.dreturn, 1) := by decide +kernel
theorem dX8_digest_0 : decode cX8_digest 0 = .ok (.aload_n 0, 1) := by decide +kernel
theorem dX8_digest_1 : decode cX8_digest 1 = .ok (.iconst 0, 1) := by decide +kernel
theorem dX8_digest_2 : decode cX8_digest 2 = .ok (.putfield 23, 3) := by decide +kernel
theorem dX8_digest_5 : decode cX8_digest 5 = .ok (.ldc2_w 164, 3) := by decide +kernel
theorem dX8_digest_8 : decode cX8_digest 8 = .ok (.lstore_n 1, 1) := by decide +kernel
theorem dX8_digest_9 : decode cX8_digest 9 = .ok (.iconst 0, 1) := by decide +kernel
theorem dX8_digest_10 : decode cX8_digest 10 = .ok (.istore_n 3, 1) := by decide +kernel
theorem dX8_digest_11 : decode cX8_digest 11 = .ok (.iload_n 3, 1) := by decide +kernel
theorem dX8_digest_12 : decode cX8_digest 12 = .ok (.bipush 14, 2) := by decide +kernel
theorem dX8_digest_14 : decode cX8_digest 14 = .ok (.if_icmp .ge 22, 3) := by decide +kernel
theorem dX8_digest_17 : decode cX8_digest 17 = .ok (.lload_n 1, 1) := by decide +kernel
theorem dX8_digest_18 : decode cX8_digest 18 = .ok (.ldc2_w 166, 3) := by decide +kernel
theorem dX8_digest_21 : decode cX8_digest 21 = .ok (.lmul, 1) := by decide +kernel
theorem dX8_digest_22 : decode cX8_digest 22 = .ok (.aload_n 0, 1) := by decide +kernel
theorem dX8_digest_23 : decode cX8_digest 23 = .ok (.iload_n 3, 1) := by decide +kernel
theorem dX8_digest_24 : decode cX8_digest 24 = .ok (.invokevirtual 124, 3) := by decide +kernel
theorem dX8_digest_27 : decode cX8_digest 27 = .ok (.i2l, 1) := by decide +kernel
theorem dX8_digest_28 : decode cX8_digest 28 = .ok (.ladd, 1) := by decide +kernel
theorem dX8_digest_29 : decode cX8_digest 29 = .ok (.lstore_n 1, 1) := by decide +kernel
theorem dX8_digest_30 : decode cX8_digest 30 = .ok (.iinc 3 1, 3) := by decide +kernel
theorem dX8_digest_33 : decode cX8_digest 33 = .ok (.goto (-22), 3) := by decide +kernel
theorem dX8_digest_36 : decode cX8_digest 36 = .ok (.iconst 0, 1) := by decide +kernel
theorem dX8_digest_37 : decode cX8_digest 37 = .ok (.istore_n 3, 1) := by decide +kernel
theorem dX8_digest_38 : decode cX8_digest 38 = .ok (.iload_n 3, 1) := by decide +kernel
theorem dX8_digest_39 : decode cX8_digest 39 = .ok (.bipush 24, 2) := by decide +kernel
theorem dX8_digest_41 : decode cX8_digest 41 = .ok (.if_icmp .ge 26, 3) := by decide +kernel
theorem dX8_digest_44 : decode cX8_digest 44 = .ok (.lload_n 1, 1) := by decide +kernel
theorem dX8_digest_45 : decode cX8_digest 45 = .ok (.ldc2_w 166, 3) := by decide +kernel
theorem dX8_digest_48 : decode cX8_digest 48 = .ok (.lmul, 1) := by decide +kernel
theorem dX8_digest_49 : decode cX8_digest 49 = .ok (.aload_n 0, 1) := by decide +kernel
theorem dX8_digest_50 : decode cX8_digest 50 = .ok (.getfield 10, 3) := by decide +kernel
theorem dX8_digest_53 : decode cX8_digest 53 = .ok (.getfield 35, 3) := by decide +kernel
theorem dX8_digest_56 : decode cX8_digest 56 = .ok (.iload_n 3, 1) := by decide +kernel
theorem dX8_digest_57 : decode cX8_digest 57 = .ok (.iaload, 1) := by decide +kernel
theorem dX8_digest_58 : decode cX8_digest 58 = .ok (.i2l, 1) := by decide +kernel
theorem dX8_digest_59 : decode cX8_digest 59 = .ok (.ladd, 1) := by decide +kernel
theorem dX8_digest_60 : decode cX8_digest 60 = .ok (.lstore_n 1, 1) := by decide +kernel
theorem dX8_digest_61 : decode cX8_digest 61 = .ok (.iinc 3 1, 3) := by decide +kernel
theorem dX8_digest_64 : decode cX8_digest 64 = .ok (.goto (-26), 3) := by decide +kernel
theorem dX8_digest_67 : decode cX8_digest 67 = .ok (.iconst 0, 1) := by decide +kernel
theorem dX8_digest_68 : decode cX8_digest 68 = .ok (.istore_n 3, 1) := by decide +kernel
theorem dX8_digest_69 : decode cX8_digest 69 = .ok (.iload_n 3, 1) := by decide +kernel
theorem dX8_digest_70 : decode cX8_digest 70 = .ok (.aload_n 0, 1) := by decide +kernel
theorem dX8_digest_71 : decode cX8_digest 71 = .ok (.getfield 10, 3) := by decide +kernel
theorem dX8_digest_74 : decode cX8_digest 74 = .ok (.getfield 41, 3) := by decide +kernel
theorem dX8_digest_77 : decode cX8_digest 77 = .ok (.if_icmp .ge 119, 3) := by decide +kernel
theorem dX8_digest_80 : decode cX8_digest 80 = .ok (.iconst 0, 1) := by decide +kernel
theorem dX8_digest_81 : decode cX8_digest 81 = .ok (.istore 4, 2) := by decide +kernel
theorem dX8_digest_83 : decode cX8_digest 83 = .ok (.iload 4, 2) := by decide +kernel
theorem dX8_digest_85 : decode cX8_digest 85 = .ok (.bipush 12, 2) := by decide +kernel
theorem dX8_digest_87 : decode cX8_digest 87 = .ok (.if_icmp .ge 24, 3) := by decide +kernel
theorem dX8_digest_90 : decode cX8_digest 90 = .ok (.lload_n 1, 1) := by decide +kernel
theorem dX8_digest_91 : decode cX8_digest 91 = .ok (.ldc2_w 166, 3) := by decide +kernel
theorem dX8_digest_94 : decode cX8_digest 94 = .ok (.lmul, 1) := by decide +kernel
theorem dX8_digest_95 : decode cX8_digest 95 = .ok (.aload_n 0, 1) := by decide +kernel
theorem dX8_digest_96 : decode cX8_digest 96 = .ok (.iload_n 3, 1) := by decide +kernel
theorem dX8_digest_97 : decode cX8_digest 97 = .ok (.iload 4, 2) := by decide +kernel
theorem dX8_digest_99 : decode cX8_digest 99 = .ok (.invokevirtual 75, 3) := by decide +kernel
theorem dX8_digest_102 : decode cX8_digest 102 = .ok (.i2l, 1) := by decide +kernel
theorem dX8_digest_103 : decode cX8_digest 103 = .ok (.ladd, 1) := by decide +kernel
theorem dX8_digest_104 : decode cX8_digest 104 = .ok (.lstore_n 1, 1) := by decide +kernel
theorem dX8_digest_105 : decode cX8_digest 105 = .ok (.iinc 4 1, 3) := by decide +kernel
theorem dX8_digest_108 : decode cX8_digest 108 = .ok (.goto (-25), 3) := by decide +kernel
theorem dX8_digest_111 : decode cX8_digest 111 = .ok (.iconst 4, 1) := by decide +kernel
theorem dX8_digest_112 : decode cX8_digest 112 = .ok (.iload_n 3, 1) := by decide +kernel
theorem dX8_digest_113 : decode cX8_digest 113 = .ok (.imul, 1) := by decide +kernel
theorem dX8_digest_114 : decode cX8_digest 114 = .ok (.istore 4, 2) := by decide +kernel
theorem dX8_digest_116 : decode cX8_digest 116 = .ok (.iload 4, 2) := by decide +kernel
theorem dX8_digest_118 : decode cX8_digest 118 = .ok (.iconst 4, 1) := by decide +kernel
theorem dX8_digest_119 : decode cX8_digest 119 = .ok (.iload_n 3, 1) := by decide +kernel
theorem dX8_digest_120 : decode cX8_digest 120 = .ok (.imul, 1) := by decide +kernel
theorem dX8_digest_121 : decode cX8_digest 121 = .ok (.aload_n 0, 1) := by decide +kernel
theorem dX8_digest_122 : decode cX8_digest 122 = .ok (.getfield 10, 3) := by decide +kernel
theorem dX8_digest_125 : decode cX8_digest 125 = .ok (.getfield 54, 3) := by decide +kernel
theorem dX8_digest_128 : decode cX8_digest 128 = .ok (.iload_n 3, 1) := by decide +kernel
theorem dX8_digest_129 : decode cX8_digest 129 = .ok (.iaload, 1) := by decide +kernel
theorem dX8_digest_130 : decode cX8_digest 130 = .ok (.iadd, 1) := by decide +kernel
theorem dX8_digest_131 : decode cX8_digest 131 = .ok (.if_icmp .ge 59, 3) := by decide +kernel
theorem dX8_digest_134 : decode cX8_digest 134 = .ok (.lload_n 1, 1) := by decide +kernel
theorem dX8_digest_135 : decode cX8_digest 135 = .ok (.ldc2_w 166, 3) := by decide +kernel
theorem dX8_digest_138 : decode cX8_digest 138 = .ok (.lmul, 1) := by decide +kernel
theorem dX8_digest_139 : decode cX8_digest 139 = .ok (.aload_n 0, 1) := by decide +kernel
theorem dX8_digest_140 : decode cX8_digest 140 = .ok (.getfield 10, 3) := by decide +kernel
theorem dX8_digest_143 : decode cX8_digest 143 = .ok (.getfield 57, 3) := by decide +kernel
theorem dX8_digest_146 : decode cX8_digest 146 = .ok (.iload 4, 2) := by decide +kernel
theorem dX8_digest_148 : decode cX8_digest 148 = .ok (.iaload, 1) := by decide +kernel
theorem dX8_digest_149 : decode cX8_digest 149 = .ok (.i2l, 1) := by decide +kernel
theorem dX8_digest_150 : decode cX8_digest 150 = .ok (.ladd, 1) := by decide +kernel
theorem dX8_digest_151 : decode cX8_digest 151 = .ok (.ldc2_w 166, 3) := by decide +kernel
theorem dX8_digest_154 : decode cX8_digest 154 = .ok (.lmul, 1) := by decide +kernel
theorem dX8_digest_155 : decode cX8_digest 155 = .ok (.aload_n 0, 1) := by decide +kernel
theorem dX8_digest_156 : decode cX8_digest 156 = .ok (.getfield 10, 3) := by decide +kernel
theorem dX8_digest_159 : decode cX8_digest 159 = .ok (.getfield 60, 3) := by decide +kernel
theorem dX8_digest_162 : decode cX8_digest 162 = .ok (.iload 4, 2) := by decide +kernel
theorem dX8_digest_164 : decode cX8_digest 164 = .ok (.iaload, 1) := by decide +kernel
theorem dX8_digest_165 : decode cX8_digest 165 = .ok (.i2l, 1) := by decide +kernel
theorem dX8_digest_166 : decode cX8_digest 166 = .ok (.ladd, 1) := by decide +kernel
theorem dX8_digest_167 : decode cX8_digest 167 = .ok (.ldc2_w 166, 3) := by decide +kernel
theorem dX8_digest_170 : decode cX8_digest 170 = .ok (.lmul, 1) := by decide +kernel
theorem dX8_digest_171 : decode cX8_digest 171 = .ok (.aload_n 0, 1) := by decide +kernel
theorem dX8_digest_172 : decode cX8_digest 172 = .ok (.getfield 10, 3) := by decide +kernel
theorem dX8_digest_175 : decode cX8_digest 175 = .ok (.getfield 63, 3) := by decide +kernel
theorem dX8_digest_178 : decode cX8_digest 178 = .ok (.iload 4, 2) := by decide +kernel
theorem dX8_digest_180 : decode cX8_digest 180 = .ok (.iaload, 1) := by decide +kernel
theorem dX8_digest_181 : decode cX8_digest 181 = .ok (.i2l, 1) := by decide +kernel
theorem dX8_digest_182 : decode cX8_digest 182 = .ok (.ladd, 1) := by decide +kernel
theorem dX8_digest_183 : decode cX8_digest 183 = .ok (.lstore_n 1, 1) := by decide +kernel
theorem dX8_digest_184 : decode cX8_digest 184 = .ok (.iinc 4 1, 3) := by decide +kernel
theorem dX8_digest_187 : decode cX8_digest 187 = .ok (.goto (-71), 3) := by decide +kernel
theorem dX8_digest_190 : decode cX8_digest 190 = .ok (.iinc 3 1, 3) := by decide +kernel
theorem dX8_digest_193 : decode cX8_digest 193 = .ok (.goto (-124), 3) := by decide +kernel
theorem dX8_digest_196 : decode cX8_digest 196 = .ok (.iconst 0, 1) := by decide +kernel
theorem dX8_digest_197 : decode cX8_digest 197 = .ok (.istore_n 3, 1) := by decide +kernel
theorem dX8_digest_198 : decode cX8_digest 198 = .ok (.iload_n 3, 1) := by decide +kernel
theorem dX8_digest_199 : decode cX8_digest 199 = .ok (.iconst 3, 1) := by decide +kernel
theorem dX8_digest_200 : decode cX8_digest 200 = .ok (.aload_n 0, 1) := by decide +kernel
theorem dX8_digest_201 : decode cX8_digest 201 = .ok (.getfield 10, 3) := by decide +kernel
theorem dX8_digest_204 : decode cX8_digest 204 = .ok (.getfield 79, 3) := by decide +kernel
theorem dX8_digest_207 : decode cX8_digest 207 = .ok (.imul, 1) := by decide +kernel
theorem dX8_digest_208 : decode cX8_digest 208 = .ok (.if_icmp .ge 26, 3) := by decide +kernel
theorem dX8_digest_211 : decode cX8_digest 211 = .ok (.lload_n 1, 1) := by decide +kernel
theorem dX8_digest_212 : decode cX8_digest 212 = .ok (.ldc2_w 166, 3) := by decide +kernel
theorem dX8_digest_215 : decode cX8_digest 215 = .ok (.lmul, 1) := by decide +kernel
theorem dX8_digest_216 : decode cX8_digest 216 = .ok (.aload_n 0, 1) := by decide +kernel
theorem dX8_digest_217 : decode cX8_digest 217 = .ok (.getfield 10, 3) := by decide +kernel
theorem dX8_digest_220 : decode cX8_digest 220 = .ok (.getfield 86, 3) := by decide +kernel
theorem dX8_digest_223 : decode cX8_digest 223 = .ok (.iload_n 3, 1) := by decide +kernel
theorem dX8_digest_224 : decode cX8_digest 224 = .ok (.iaload, 1) := by decide +kernel
theorem dX8_digest_225 : decode cX8_digest 225 = .ok (.i2l, 1) := by decide +kernel
theorem dX8_digest_226 : decode cX8_digest 226 = .ok (.ladd, 1) := by decide +kernel
theorem dX8_digest_227 : decode cX8_digest 227 = .ok (.lstore_n 1, 1) := by decide +kernel
theorem dX8_digest_228 : decode cX8_digest 228 = .ok (.iinc 3 1, 3) := by decide +kernel
theorem dX8_digest_231 : decode cX8_digest 231 = .ok (.goto (-33), 3) := by decide +kernel
theorem dX8_digest_234 : decode cX8_digest 234 = .ok (.iconst 0, 1) := by decide +kernel
theorem dX8_digest_235 : decode cX8_digest 235 = .ok (.istore_n 3, 1) := by decide +kernel
theorem dX8_digest_236 : decode cX8_digest 236 = .ok (.iload_n 3, 1) := by decide +kernel
theorem dX8_digest_237 : decode cX8_digest 237 = .ok (.iconst 3, 1) := by decide +kernel
theorem dX8_digest_238 : decode cX8_digest 238 = .ok (.if_icmp .ge 39, 3) := by decide +kernel
theorem dX8_digest_241 : decode cX8_digest 241 = .ok (.iconst 0, 1) := by decide +kernel
theorem dX8_digest_242 : decode cX8_digest 242 = .ok (.istore 4, 2) := by decide +kernel
theorem dX8_digest_244 : decode cX8_digest 244 = .ok (.iload 4, 2) := by decide +kernel
theorem dX8_digest_246 : decode cX8_digest 246 = .ok (.iconst 3, 1) := by decide +kernel
theorem dX8_digest_247 : decode cX8_digest 247 = .ok (.if_icmp .ge 24, 3) := by decide +kernel
theorem dX8_digest_250 : decode cX8_digest 250 = .ok (.lload_n 1, 1) := by decide +kernel
theorem dX8_digest_251 : decode cX8_digest 251 = .ok (.ldc2_w 166, 3) := by decide +kernel
theorem dX8_digest_254 : decode cX8_digest 254 = .ok (.lmul, 1) := by decide +kernel
theorem dX8_digest_255 : decode cX8_digest 255 = .ok (.aload_n 0, 1) := by decide +kernel
theorem dX8_digest_256 : decode cX8_digest 256 = .ok (.iload_n 3, 1) := by decide +kernel
theorem dX8_digest_257 : decode cX8_digest 257 = .ok (.iload 4, 2) := by decide +kernel
theorem dX8_digest_259 : decode cX8_digest 259 = .ok (.invokevirtual 136, 3) := by decide +kernel
theorem dX8_digest_262 : decode cX8_digest 262 = .ok (.i2l, 1) := by decide +kernel
theorem dX8_digest_263 : decode cX8_digest 263 = .ok (.ladd, 1) := by decide +kernel
theorem dX8_digest_264 : decode cX8_digest 264 = .ok (.lstore_n 1, 1) := by decide +kernel
theorem dX8_digest_265 : decode cX8_digest 265 = .ok (.iinc 4 1, 3) := by decide +kernel
theorem dX8_digest_268 : decode cX8_digest 268 = .ok (.goto (-24), 3) := by decide +kernel
theorem dX8_digest_271 : decode cX8_digest 271 = .ok (.iinc 3 1, 3) := by decide +kernel
theorem dX8_digest_274 : decode cX8_digest 274 = .ok (.goto (-38), 3) := by decide +kernel
theorem dX8_digest_277 : decode cX8_digest 277 = .ok (.lload_n 1, 1) := by decide +kernel
theorem dX8_digest_278 : decode cX8_digest 278 = .ok (.lreturn, 1) := by decide +kernel
theorem dJ9_floorMod_7cf53_0 : decode cJ9_floorMod_7cf53 0 = .ok (.iload_n 0, 1) := by decide +kernel
theorem dJ9_floorMod_7cf53_1 : decode cJ9_floorMod_7cf53 1 = .ok (.iload_n 1, 1) := by decide +kernel
theorem dJ9_floorMod_7cf53_2 : decode cJ9_floorMod_7cf53 2 = .ok (.irem, 1) := by decide +kernel
theorem dJ9_floorMod_7cf53_3 : decode cJ9_floorMod_7cf53 3 = .ok (.istore_n 2, 1) := by decide +kernel
theorem dJ9_floorMod_7cf53_4 : decode cJ9_floorMod_7cf53 4 = .ok (.iload_n 0, 1) := by decide +kernel
theorem dJ9_floorMod_7cf53_5 : decode cJ9_floorMod_7cf53 5 = .ok (.iload_n 1, 1) := by decide +kernel
theorem dJ9_floorMod_7cf53_6 : decode cJ9_floorMod_7cf53 6 = .ok (.ixor, 1) := by decide +kernel
theorem dJ9_floorMod_7cf53_7 : decode cJ9_floorMod_7cf53 7 = .ok (.ifCond .ge 11, 3) := by decide +kernel
theorem dJ9_floorMod_7cf53_10 : decode cJ9_floorMod_7cf53 10 = .ok (.iload_n 2, 1) := by decide +kernel
theorem dJ9_floorMod_7cf53_11 : decode cJ9_floorMod_7cf53 11 = .ok (.ifCond .eq 7, 3) := by decide +kernel
theorem dJ9_floorMod_7cf53_14 : decode cJ9_floorMod_7cf53 14 = .ok (.iload_n 2, 1) := by decide +kernel
theorem dJ9_floorMod_7cf53_15 : decode cJ9_floorMod_7cf53 15 = .ok (.iload_n 1, 1) := by decide +kernel
theorem dJ9_floorMod_7cf53_16 : decode cJ9_floorMod_7cf53 16 = .ok (.iadd, 1) := by decide +kernel
theorem dJ9_floorMod_7cf53_17 : decode cJ9_floorMod_7cf53 17 = .ok (.ireturn, 1) := by decide +kernel
theorem dJ9_floorMod_7cf53_18 : decode cJ9_floorMod_7cf53 18 = .ok (.iload_n 2, 1) := by decide +kernel
theorem dJ9_floorMod_7cf53_19 : decode cJ9_floorMod_7cf53 19 = .ok (.ireturn, 1) := by decide +kernel
theorem dJ9_max_7cf53_0 : decode cJ9_max_7cf53 0 = .ok (.iload_n 0, 1) := by decide +kernel
theorem dJ9_max_7cf53_1 : decode cJ9_max_7cf53 1 = .ok (.iload_n 1, 1) := by decide +kernel
theorem dJ9_max_7cf53_2 : decode cJ9_max_7cf53 2 = .ok (.if_icmp .lt 7, 3) := by decide +kernel
theorem dJ9_max_7cf53_5 : decode cJ9_max_7cf53 5 = .ok (.iload_n 0, 1) := by decide +kernel
theorem dJ9_max_7cf53_6 : decode cJ9_max_7cf53 6 = .ok (.goto 4, 3) := by decide +kernel
theorem dJ9_max_7cf53_9 : decode cJ9_max_7cf53 9 = .ok (.iload_n 1, 1) := by decide +kernel
theorem dJ9_max_7cf53_10 : decode cJ9_max_7cf53 10 = .ok (.ireturn, 1) := by decide +kernel
theorem dJ9_min_7cf53_0 : decode cJ9_min_7cf53 0 = .ok (.iload_n 0, 1) := by decide +kernel
theorem dJ9_min_7cf53_1 : decode cJ9_min_7cf53 1 = .ok (.iload_n 1, 1) := by decide +kernel
theorem dJ9_min_7cf53_2 : decode cJ9_min_7cf53 2 = .ok (.if_icmp .gt 7, 3) := by decide +kernel
theorem dJ9_min_7cf53_5 : decode cJ9_min_7cf53 5 = .ok (.iload_n 0, 1) := by decide +kernel
theorem dJ9_min_7cf53_6 : decode cJ9_min_7cf53 6 = .ok (.goto 4, 3) := by decide +kernel
theorem dJ9_min_7cf53_9 : decode cJ9_min_7cf53 9 = .ok (.iload_n 1, 1) := by decide +kernel
theorem dJ9_min_7cf53_10 : decode cJ9_min_7cf53 10 = .ok (.ireturn, 1) := by decide +kernel
theorem dL_setInflow_0 : decode cL_setInflow 0 = .ok (.aload_n 3, 1) := by decide +kernel
theorem dL_setInflow_1 : decode cL_setInflow 1 = .ok (.iconst 0, 1) := by decide +kernel
theorem dL_setInflow_2 : decode cL_setInflow 2 = .ok (.aload_n 0, 1) := by decide +kernel
theorem dL_setInflow_3 : decode cL_setInflow 3 = .ok (.iload_n 1, 1) := by decide +kernel
theorem dL_setInflow_4 : decode cL_setInflow 4 = .ok (.iload_n 2, 1) := by decide +kernel
theorem dL_setInflow_5 : decode cL_setInflow 5 = .ok (.invokevirtual 7, 3) := by decide +kernel
theorem dL_setInflow_8 : decode cL_setInflow 8 = .ok (.i2l, 1) := by decide +kernel
theorem dL_setInflow_9 : decode cL_setInflow 9 = .ok (.lastore, 1) := by decide +kernel
theorem dL_setInflow_10 : decode cL_setInflow 10 = .ok (.goto 11, 3) := by decide +kernel
theorem dL_setInflow_13 : decode cL_setInflow 13 = .ok (.astore 4, 2) := by decide +kernel
theorem dL_setInflow_15 : decode cL_setInflow 15 = .ok (.iconst 1, 1) := by decide +kernel
theorem dL_setInflow_16 : decode cL_setInflow 16 = .ok (.ireturn, 1) := by decide +kernel
theorem dL_setInflow_17 : decode cL_setInflow 17 = .ok (.astore 4, 2) := by decide +kernel
theorem dL_setInflow_19 : decode cL_setInflow 19 = .ok (.iconst 2, 1) := by decide +kernel
theorem dL_setInflow_20 : decode cL_setInflow 20 = .ok (.ireturn, 1) := by decide +kernel
theorem dL_setInflow_21 : decode cL_setInflow 21 = .ok (.iconst 0, 1) := by decide +kernel
theorem dL_setInflow_22 : decode cL_setInflow 22 = .ok (.ireturn, 1) := by decide +kernel
theorem dL_setSluice_0 : decode cL_setSluice 0 = .ok (.aload_n 2, 1) := by decide +kernel
theorem dL_setSluice_1 : decode cL_setSluice 1 = .ok (.iconst 0, 1) := by decide +kernel
theorem dL_setSluice_2 : decode cL_setSluice 2 = .ok (.aload_n 0, 1) := by decide +kernel
theorem dL_setSluice_3 : decode cL_setSluice 3 = .ok (.iload_n 1, 1) := by decide +kernel
theorem dL_setSluice_4 : decode cL_setSluice 4 = .ok (.invokevirtual 17, 3) := by decide +kernel
theorem dL_setSluice_7 : decode cL_setSluice 7 = .ok (.i2l, 1) := by decide +kernel
theorem dL_setSluice_8 : decode cL_setSluice 8 = .ok (.lastore, 1) := by decide +kernel
theorem dL_setSluice_9 : decode cL_setSluice 9 = .ok (.goto 6, 3) := by decide +kernel
theorem dL_setSluice_12 : decode cL_setSluice 12 = .ok (.astore_n 3, 1) := by decide +kernel
theorem dL_setSluice_13 : decode cL_setSluice 13 = .ok (.iconst 1, 1) := by decide +kernel
theorem dL_setSluice_14 : decode cL_setSluice 14 = .ok (.ireturn, 1) := by decide +kernel
theorem dL_setSluice_15 : decode cL_setSluice 15 = .ok (.iconst 0, 1) := by decide +kernel
theorem dL_setSluice_16 : decode cL_setSluice 16 = .ok (.ireturn, 1) := by decide +kernel
theorem dL_addBox_0 : decode cL_addBox 0 = .ok (.aload_n 1, 1) := by decide +kernel
theorem dL_addBox_1 : decode cL_addBox 1 = .ok (.iconst 0, 1) := by decide +kernel
theorem dL_addBox_2 : decode cL_addBox 2 = .ok (.aload_n 0, 1) := by decide +kernel
theorem dL_addBox_3 : decode cL_addBox 3 = .ok (.invokevirtual 21, 3) := by decide +kernel
theorem dL_addBox_6 : decode cL_addBox 6 = .ok (.i2l, 1) := by decide +kernel
theorem dL_addBox_7 : decode cL_addBox 7 = .ok (.lastore, 1) := by decide +kernel
theorem dL_addBox_8 : decode cL_addBox 8 = .ok (.goto 6, 3) := by decide +kernel
theorem dL_addBox_11 : decode cL_addBox 11 = .ok (.astore_n 2, 1) := by decide +kernel
theorem dL_addBox_12 : decode cL_addBox 12 = .ok (.iconst 1, 1) := by decide +kernel
theorem dL_addBox_13 : decode cL_addBox 13 = .ok (.ireturn, 1) := by decide +kernel
theorem dL_addBox_14 : decode cL_addBox 14 = .ok (.iconst 0, 1) := by decide +kernel
theorem dL_addBox_15 : decode cL_addBox 15 = .ok (.ireturn, 1) := by decide +kernel
theorem dL_hang_0 : decode cL_hang 0 = .ok (.aload 4, 2) := by decide +kernel
theorem dL_hang_2 : decode cL_hang 2 = .ok (.iconst 0, 1) := by decide +kernel
theorem dL_hang_3 : decode cL_hang 3 = .ok (.aload_n 0, 1) := by decide +kernel
theorem dL_hang_4 : decode cL_hang 4 = .ok (.iload_n 1, 1) := by decide +kernel
theorem dL_hang_5 : decode cL_hang 5 = .ok (.iload_n 2, 1) := by decide +kernel
theorem dL_hang_6 : decode cL_hang 6 = .ok (.iload_n 3, 1) := by decide +kernel
theorem dL_hang_7 : decode cL_hang 7 = .ok (.invokevirtual 27, 3) := by decide +kernel
theorem dL_hang_10 : decode cL_hang 10 = .ok (.i2l, 1) := by decide +kernel
theorem dL_hang_11 : decode cL_hang 11 = .ok (.lastore, 1) := by decide +kernel
theorem dL_hang_12 : decode cL_hang 12 = .ok (.goto 15, 3) := by decide +kernel
theorem dL_hang_15 : decode cL_hang 15 = .ok (.astore 5, 2) := by decide +kernel
theorem dL_hang_17 : decode cL_hang 17 = .ok (.iconst 1, 1) := by decide +kernel
theorem dL_hang_18 : decode cL_hang 18 = .ok (.ireturn, 1) := by decide +kernel
theorem dL_hang_19 : decode cL_hang 19 = .ok (.astore 5, 2) := by decide +kernel
theorem dL_hang_21 : decode cL_hang 21 = .ok (.iconst 2, 1) := by decide +kernel
theorem dL_hang_22 : decode cL_hang 22 = .ok (.ireturn, 1) := by decide +kernel
theorem dL_hang_23 : decode cL_hang 23 = .ok (.astore 5, 2) := by decide +kernel
theorem dL_hang_25 : decode cL_hang 25 = .ok (.iconst 3, 1) := by decide +kernel
theorem dL_hang_26 : decode cL_hang 26 = .ok (.ireturn, 1) := by decide +kernel
theorem dL_hang_27 : decode cL_hang 27 = .ok (.iconst 0, 1) := by decide +kernel
theorem dL_hang_28 : decode cL_hang 28 = .ok (.ireturn, 1) := by decide +kernel
theorem dL_shoe_0 : decode cL_shoe 0 = .ok (.aload_n 3, 1) := by decide +kernel
theorem dL_shoe_1 : decode cL_shoe 1 = .ok (.iconst 0, 1) := by decide +kernel
theorem dL_shoe_2 : decode cL_shoe 2 = .ok (.aload_n 0, 1) := by decide +kernel
theorem dL_shoe_3 : decode cL_shoe 3 = .ok (.iload_n 1, 1) := by decide +kernel
theorem dL_shoe_4 : decode cL_shoe 4 = .ok (.iload_n 2, 1) := by decide +kernel
theorem dL_shoe_5 : decode cL_shoe 5 = .ok (.invokevirtual 31, 3) := by decide +kernel
theorem dL_shoe_8 : decode cL_shoe 8 = .ok (.i2l, 1) := by decide +kernel
theorem dL_shoe_9 : decode cL_shoe 9 = .ok (.lastore, 1) := by decide +kernel
theorem dL_shoe_10 : decode cL_shoe 10 = .ok (.goto 7, 3) := by decide +kernel
theorem dL_shoe_13 : decode cL_shoe 13 = .ok (.astore 4, 2) := by decide +kernel
theorem dL_shoe_15 : decode cL_shoe 15 = .ok (.iconst 1, 1) := by decide +kernel
theorem dL_shoe_16 : decode cL_shoe 16 = .ok (.ireturn, 1) := by decide +kernel
theorem dL_shoe_17 : decode cL_shoe 17 = .ok (.iconst 0, 1) := by decide +kernel
theorem dL_shoe_18 : decode cL_shoe 18 = .ok (.ireturn, 1) := by decide +kernel
theorem dL_setBox_0 : decode cL_setBox 0 = .ok (.aload 4, 2) := by decide +kernel
theorem dL_setBox_2 : decode cL_setBox 2 = .ok (.iconst 0, 1) := by decide +kernel
theorem dL_setBox_3 : decode cL_setBox 3 = .ok (.aload_n 0, 1) := by decide +kernel
theorem dL_setBox_4 : decode cL_setBox 4 = .ok (.iload_n 1, 1) := by decide +kernel
theorem dL_setBox_5 : decode cL_setBox 5 = .ok (.iload_n 2, 1) := by decide +kernel
theorem dL_setBox_6 : decode cL_setBox 6 = .ok (.iload_n 3, 1) := by decide +kernel
theorem dL_setBox_7 : decode cL_setBox 7 = .ok (.invokevirtual 34, 3) := by decide +kernel
theorem dL_setBox_10 : decode cL_setBox 10 = .ok (.i2l, 1) := by decide +kernel
theorem dL_setBox_11 : decode cL_setBox 11 = .ok (.lastore, 1) := by decide +kernel
theorem dL_setBox_12 : decode cL_setBox 12 = .ok (.goto 11, 3) := by decide +kernel
theorem dL_setBox_15 : decode cL_setBox 15 = .ok (.astore 5, 2) := by decide +kernel
theorem dL_setBox_17 : decode cL_setBox 17 = .ok (.iconst 1, 1) := by decide +kernel
theorem dL_setBox_18 : decode cL_setBox 18 = .ok (.ireturn, 1) := by decide +kernel
theorem dL_setBox_19 : decode cL_setBox 19 = .ok (.astore 5, 2) := by decide +kernel
theorem dL_setBox_21 : decode cL_setBox 21 = .ok (.iconst 2, 1) := by decide +kernel
theorem dL_setBox_22 : decode cL_setBox 22 = .ok (.ireturn, 1) := by decide +kernel
theorem dL_setBox_23 : decode cL_setBox 23 = .ok (.iconst 0, 1) := by decide +kernel
theorem dL_setBox_24 : decode cL_setBox 24 = .ok (.ireturn, 1) := by decide +kernel
theorem dL_box_0 : decode cL_box 0 = .ok (.aload_n 3, 1) := by decide +kernel
theorem dL_box_1 : decode cL_box 1 = .ok (.iconst 0, 1) := by decide +kernel
theorem dL_box_2 : decode cL_box 2 = .ok (.aload_n 0, 1) := by decide +kernel
theorem dL_box_3 : decode cL_box 3 = .ok (.iload_n 1, 1) := by decide +kernel
theorem dL_box_4 : decode cL_box 4 = .ok (.iload_n 2, 1) := by decide +kernel
theorem dL_box_5 : decode cL_box 5 = .ok (.invokevirtual 37, 3) := by decide +kernel
theorem dL_box_8 : decode cL_box 8 = .ok (.i2l, 1) := by decide +kernel
theorem dL_box_9 : decode cL_box 9 = .ok (.lastore, 1) := by decide +kernel
theorem dL_box_10 : decode cL_box 10 = .ok (.goto 7, 3) := by decide +kernel
theorem dL_box_13 : decode cL_box 13 = .ok (.astore 4, 2) := by decide +kernel
theorem dL_box_15 : decode cL_box 15 = .ok (.iconst 1, 1) := by decide +kernel
theorem dL_box_16 : decode cL_box 16 = .ok (.ireturn, 1) := by decide +kernel
theorem dL_box_17 : decode cL_box 17 = .ok (.iconst 0, 1) := by decide +kernel
theorem dL_box_18 : decode cL_box 18 = .ok (.ireturn, 1) := by decide +kernel
theorem dL_bring_0 : decode cL_bring 0 = .ok (.aload 4, 2) := by decide +kernel
theorem dL_bring_2 : decode cL_bring 2 = .ok (.iconst 0, 1) := by decide +kernel
theorem dL_bring_3 : decode cL_bring 3 = .ok (.aload_n 0, 1) := by decide +kernel
theorem dL_bring_4 : decode cL_bring 4 = .ok (.iload_n 1, 1) := by decide +kernel
theorem dL_bring_5 : decode cL_bring 5 = .ok (.iload_n 2, 1) := by decide +kernel
theorem dL_bring_6 : decode cL_bring 6 = .ok (.iload_n 3, 1) := by decide +kernel
theorem dL_bring_7 : decode cL_bring 7 = .ok (.invokevirtual 40, 3) := by decide +kernel
theorem dL_bring_10 : decode cL_bring 10 = .ok (.i2l, 1) := by decide +kernel
theorem dL_bring_11 : decode cL_bring 11 = .ok (.lastore, 1) := by decide +kernel
theorem dL_bring_12 : decode cL_bring 12 = .ok (.goto 11, 3) := by decide +kernel
theorem dL_bring_15 : decode cL_bring 15 = .ok (.astore 5, 2) := by decide +kernel
theorem dL_bring_17 : decode cL_bring 17 = .ok (.iconst 1, 1) := by decide +kernel
theorem dL_bring_18 : decode cL_bring 18 = .ok (.ireturn, 1) := by decide +kernel
theorem dL_bring_19 : decode cL_bring 19 = .ok (.astore 5, 2) := by decide +kernel
theorem dL_bring_21 : decode cL_bring 21 = .ok (.iconst 2, 1) := by decide +kernel
theorem dL_bring_22 : decode cL_bring 22 = .ok (.ireturn, 1) := by decide +kernel
theorem dL_bring_23 : decode cL_bring 23 = .ok (.iconst 0, 1) := by decide +kernel
theorem dL_bring_24 : decode cL_bring 24 = .ok (.ireturn, 1) := by decide +kernel
theorem dL_lot_0 : decode cL_lot 0 = .ok (.aload_n 3, 1) := by decide +kernel
theorem dL_lot_1 : decode cL_lot 1 = .ok (.iconst 0, 1) := by decide +kernel
theorem dL_lot_2 : decode cL_lot 2 = .ok (.aload_n 0, 1) := by decide +kernel
theorem dL_lot_3 : decode cL_lot 3 = .ok (.iload_n 1, 1) := by decide +kernel
theorem dL_lot_4 : decode cL_lot 4 = .ok (.iload_n 2, 1) := by decide +kernel
theorem dL_lot_5 : decode cL_lot 5 = .ok (.invokevirtual 43, 3) := by decide +kernel
theorem dL_lot_8 : decode cL_lot 8 = .ok (.i2l, 1) := by decide +kernel
theorem dL_lot_9 : decode cL_lot 9 = .ok (.lastore, 1) := by decide +kernel
theorem dL_lot_10 : decode cL_lot 10 = .ok (.goto 7, 3) := by decide +kernel
theorem dL_lot_13 : decode cL_lot 13 = .ok (.astore 4, 2) := by decide +kernel
theorem dL_lot_15 : decode cL_lot 15 = .ok (.iconst 1, 1) := by decide +kernel
theorem dL_lot_16 : decode cL_lot 16 = .ok (.ireturn, 1) := by decide +kernel
theorem dL_lot_17 : decode cL_lot 17 = .ok (.iconst 0, 1) := by decide +kernel
theorem dL_lot_18 : decode cL_lot 18 = .ok (.ireturn, 1) := by decide +kernel
theorem dL_run_0 : decode cL_run 0 = .ok (.aload_n 2, 1) := by decide +kernel
theorem dL_run_1 : decode cL_run 1 = .ok (.iconst 0, 1) := by decide +kernel
theorem dL_run_2 : decode cL_run 2 = .ok (.aload_n 0, 1) := by decide +kernel
theorem dL_run_3 : decode cL_run 3 = .ok (.iload_n 1, 1) := by decide +kernel
theorem dL_run_4 : decode cL_run 4 = .ok (.invokevirtual 46, 3) := by decide +kernel
theorem dL_run_7 : decode cL_run 7 = .ok (.i2l, 1) := by decide +kernel
theorem dL_run_8 : decode cL_run 8 = .ok (.lastore, 1) := by decide +kernel
theorem dL_run_9 : decode cL_run 9 = .ok (.goto 9, 3) := by decide +kernel
theorem dL_run_12 : decode cL_run 12 = .ok (.astore_n 3, 1) := by decide +kernel
theorem dL_run_13 : decode cL_run 13 = .ok (.iconst 1, 1) := by decide +kernel
theorem dL_run_14 : decode cL_run 14 = .ok (.ireturn, 1) := by decide +kernel
theorem dL_run_15 : decode cL_run 15 = .ok (.astore_n 3, 1) := by decide +kernel
theorem dL_run_16 : decode cL_run 16 = .ok (.iconst 2, 1) := by decide +kernel
theorem dL_run_17 : decode cL_run 17 = .ok (.ireturn, 1) := by decide +kernel
theorem dL_run_18 : decode cL_run 18 = .ok (.iconst 0, 1) := by decide +kernel
theorem dL_run_19 : decode cL_run 19 = .ok (.ireturn, 1) := by decide +kernel
theorem dL_count_0 : decode cL_count 0 = .ok (.aload_n 2, 1) := by decide +kernel
theorem dL_count_1 : decode cL_count 1 = .ok (.iconst 0, 1) := by decide +kernel
theorem dL_count_2 : decode cL_count 2 = .ok (.aload_n 0, 1) := by decide +kernel
theorem dL_count_3 : decode cL_count 3 = .ok (.iload_n 1, 1) := by decide +kernel
theorem dL_count_4 : decode cL_count 4 = .ok (.invokevirtual 49, 3) := by decide +kernel
theorem dL_count_7 : decode cL_count 7 = .ok (.i2l, 1) := by decide +kernel
theorem dL_count_8 : decode cL_count 8 = .ok (.lastore, 1) := by decide +kernel
theorem dL_count_9 : decode cL_count 9 = .ok (.goto 6, 3) := by decide +kernel
theorem dL_count_12 : decode cL_count 12 = .ok (.astore_n 3, 1) := by decide +kernel
theorem dL_count_13 : decode cL_count 13 = .ok (.iconst 1, 1) := by decide +kernel
theorem dL_count_14 : decode cL_count 14 = .ok (.ireturn, 1) := by decide +kernel
theorem dL_count_15 : decode cL_count 15 = .ok (.iconst 0, 1) := by decide +kernel
theorem dL_count_16 : decode cL_count 16 = .ok (.ireturn, 1) := by decide +kernel
theorem dL_buddle_0 : decode cL_buddle 0 = .ok (.aload_n 3, 1) := by decide +kernel
theorem dL_buddle_1 : decode cL_buddle 1 = .ok (.iconst 0, 1) := by decide +kernel
theorem dL_buddle_2 : decode cL_buddle 2 = .ok (.aload_n 0, 1) := by decide +kernel
theorem dL_buddle_3 : decode cL_buddle 3 = .ok (.iload_n 1, 1) := by decide +kernel
theorem dL_buddle_4 : decode cL_buddle 4 = .ok (.iload_n 2, 1) := by decide +kernel
theorem dL_buddle_5 : decode cL_buddle 5 = .ok (.invokevirtual 52, 3) := by decide +kernel
theorem dL_buddle_8 : decode cL_buddle 8 = .ok (.i2l, 1) := by decide +kernel
theorem dL_buddle_9 : decode cL_buddle 9 = .ok (.lastore, 1) := by decide +kernel
theorem dL_buddle_10 : decode cL_buddle 10 = .ok (.goto 7, 3) := by decide +kernel
theorem dL_buddle_13 : decode cL_buddle 13 = .ok (.astore 4, 2) := by decide +kernel
theorem dL_buddle_15 : decode cL_buddle 15 = .ok (.iconst 1, 1) := by decide +kernel
theorem dL_buddle_16 : decode cL_buddle 16 = .ok (.ireturn, 1) := by decide +kernel
theorem dL_buddle_17 : decode cL_buddle 17 = .ok (.iconst 0, 1) := by decide +kernel
theorem dL_buddle_18 : decode cL_buddle 18 = .ok (.ireturn, 1) := by decide +kernel
theorem dL_wash_0 : decode cL_wash 0 = .ok (.aload_n 3, 1) := by decide +kernel
theorem dL_wash_1 : decode cL_wash 1 = .ok (.iconst 0, 1) := by decide +kernel
theorem dL_wash_2 : decode cL_wash 2 = .ok (.aload_n 0, 1) := by decide +kernel
theorem dL_wash_3 : decode cL_wash 3 = .ok (.iload_n 1, 1) := by decide +kernel
theorem dL_wash_4 : decode cL_wash 4 = .ok (.iload_n 2, 1) := by decide +kernel
theorem dL_wash_5 : decode cL_wash 5 = .ok (.invokevirtual 55, 3) := by decide +kernel
theorem dL_wash_8 : decode cL_wash 8 = .ok (.i2l, 1) := by decide +kernel
theorem dL_wash_9 : decode cL_wash 9 = .ok (.lastore, 1) := by decide +kernel
theorem dL_wash_10 : decode cL_wash 10 = .ok (.goto 15, 3) := by decide +kernel
theorem dL_wash_13 : decode cL_wash 13 = .ok (.astore 4, 2) := by decide +kernel
theorem dL_wash_15 : decode cL_wash 15 = .ok (.iconst 1, 1) := by decide +kernel
theorem dL_wash_16 : decode cL_wash 16 = .ok (.ireturn, 1) := by decide +kernel
theorem dL_wash_17 : decode cL_wash 17 = .ok (.astore 4, 2) := by decide +kernel
theorem dL_wash_19 : decode cL_wash 19 = .ok (.iconst 2, 1) := by decide +kernel
theorem dL_wash_20 : decode cL_wash 20 = .ok (.ireturn, 1) := by decide +kernel
theorem dL_wash_21 : decode cL_wash 21 = .ok (.astore 4, 2) := by decide +kernel
theorem dL_wash_23 : decode cL_wash 23 = .ok (.iconst 3, 1) := by decide +kernel
theorem dL_wash_24 : decode cL_wash 24 = .ok (.ireturn, 1) := by decide +kernel
theorem dL_wash_25 : decode cL_wash 25 = .ok (.iconst 0, 1) := by decide +kernel
theorem dL_wash_26 : decode cL_wash 26 = .ok (.ireturn, 1) := by decide +kernel
theorem dL_again_0 : decode cL_again 0 = .ok (.aload_n 2, 1) := by decide +kernel
theorem dL_again_1 : decode cL_again 1 = .ok (.iconst 0, 1) := by decide +kernel
theorem dL_again_2 : decode cL_again 2 = .ok (.aload_n 0, 1) := by decide +kernel
theorem dL_again_3 : decode cL_again 3 = .ok (.iload_n 1, 1) := by decide +kernel
theorem dL_again_4 : decode cL_again 4 = .ok (.invokevirtual 58, 3) := by decide +kernel
theorem dL_again_7 : decode cL_again 7 = .ok (.i2l, 1) := by decide +kernel
theorem dL_again_8 : decode cL_again 8 = .ok (.lastore, 1) := by decide +kernel
theorem dL_again_9 : decode cL_again 9 = .ok (.goto 6, 3) := by decide +kernel
theorem dL_again_12 : decode cL_again 12 = .ok (.astore_n 3, 1) := by decide +kernel
theorem dL_again_13 : decode cL_again 13 = .ok (.iconst 1, 1) := by decide +kernel
theorem dL_again_14 : decode cL_again 14 = .ok (.ireturn, 1) := by decide +kernel
theorem dL_again_15 : decode cL_again 15 = .ok (.iconst 0, 1) := by decide +kernel
theorem dL_again_16 : decode cL_again 16 = .ok (.ireturn, 1) := by decide +kernel
theorem dL_smelt_0 : decode cL_smelt 0 = .ok (.aload_n 2, 1) := by decide +kernel
theorem dL_smelt_1 : decode cL_smelt 1 = .ok (.iconst 0, 1) := by decide +kernel
theorem dL_smelt_2 : decode cL_smelt 2 = .ok (.aload_n 0, 1) := by decide +kernel
theorem dL_smelt_3 : decode cL_smelt 3 = .ok (.iload_n 1, 1) := by decide +kernel
theorem dL_smelt_4 : decode cL_smelt 4 = .ok (.invokevirtual 61, 3) := by decide +kernel
theorem dL_smelt_7 : decode cL_smelt 7 = .ok (.i2l, 1) := by decide +kernel
theorem dL_smelt_8 : decode cL_smelt 8 = .ok (.lastore, 1) := by decide +kernel
theorem dL_smelt_9 : decode cL_smelt 9 = .ok (.goto 9, 3) := by decide +kernel
theorem dL_smelt_12 : decode cL_smelt 12 = .ok (.astore_n 3, 1) := by decide +kernel
theorem dL_smelt_13 : decode cL_smelt 13 = .ok (.iconst 1, 1) := by decide +kernel
theorem dL_smelt_14 : decode cL_smelt 14 = .ok (.ireturn, 1) := by decide +kernel
theorem dL_smelt_15 : decode cL_smelt 15 = .ok (.astore_n 3, 1) := by decide +kernel
theorem dL_smelt_16 : decode cL_smelt 16 = .ok (.iconst 2, 1) := by decide +kernel
theorem dL_smelt_17 : decode cL_smelt 17 = .ok (.ireturn, 1) := by decide +kernel
theorem dL_smelt_18 : decode cL_smelt 18 = .ok (.iconst 0, 1) := by decide +kernel
theorem dL_smelt_19 : decode cL_smelt 19 = .ok (.ireturn, 1) := by decide +kernel
theorem dL_foresee_0 : decode cL_foresee 0 = .ok (.aload_n 3, 1) := by decide +kernel
theorem dL_foresee_1 : decode cL_foresee 1 = .ok (.iconst 0, 1) := by decide +kernel
theorem dL_foresee_2 : decode cL_foresee 2 = .ok (.aload_n 0, 1) := by decide +kernel
theorem dL_foresee_3 : decode cL_foresee 3 = .ok (.iload_n 1, 1) := by decide +kernel
theorem dL_foresee_4 : decode cL_foresee 4 = .ok (.iload_n 2, 1) := by decide +kernel
theorem dL_foresee_5 : decode cL_foresee 5 = .ok (.invokevirtual 64, 3) := by decide +kernel
theorem dL_foresee_8 : decode cL_foresee 8 = .ok (.i2l, 1) := by decide +kernel
theorem dL_foresee_9 : decode cL_foresee 9 = .ok (.lastore, 1) := by decide +kernel
theorem dL_foresee_10 : decode cL_foresee 10 = .ok (.goto 15, 3) := by decide +kernel
theorem dL_foresee_13 : decode cL_foresee 13 = .ok (.astore 4, 2) := by decide +kernel
theorem dL_foresee_15 : decode cL_foresee 15 = .ok (.iconst 1, 1) := by decide +kernel
theorem dL_foresee_16 : decode cL_foresee 16 = .ok (.ireturn, 1) := by decide +kernel
theorem dL_foresee_17 : decode cL_foresee 17 = .ok (.astore 4, 2) := by decide +kernel
theorem dL_foresee_19 : decode cL_foresee 19 = .ok (.iconst 2, 1) := by decide +kernel
theorem dL_foresee_20 : decode cL_foresee 20 = .ok (.ireturn, 1) := by decide +kernel
theorem dL_foresee_21 : decode cL_foresee 21 = .ok (.astore 4, 2) := by decide +kernel
theorem dL_foresee_23 : decode cL_foresee 23 = .ok (.iconst 3, 1) := by decide +kernel
theorem dL_foresee_24 : decode cL_foresee 24 = .ok (.ireturn, 1) := by decide +kernel
theorem dL_foresee_25 : decode cL_foresee 25 = .ok (.iconst 0, 1) := by decide +kernel
theorem dL_foresee_26 : decode cL_foresee 26 = .ok (.ireturn, 1) := by decide +kernel
theorem dL_advise_0 : decode cL_advise 0 = .ok (.aload_n 2, 1) := by decide +kernel
theorem dL_advise_1 : decode cL_advise 1 = .ok (.iconst 0, 1) := by decide +kernel
theorem dL_advise_2 : decode cL_advise 2 = .ok (.aload_n 0, 1) := by decide +kernel
theorem dL_advise_3 : decode cL_advise 3 = .ok (.iload_n 1, 1) := by decide +kernel
theorem dL_advise_4 : decode cL_advise 4 = .ok (.invokevirtual 67, 3) := by decide +kernel
theorem dL_advise_7 : decode cL_advise 7 = .ok (.i2l, 1) := by decide +kernel
theorem dL_advise_8 : decode cL_advise 8 = .ok (.lastore, 1) := by decide +kernel
theorem dL_advise_9 : decode cL_advise 9 = .ok (.goto 9, 3) := by decide +kernel
theorem dL_advise_12 : decode cL_advise 12 = .ok (.astore_n 3, 1) := by decide +kernel
theorem dL_advise_13 : decode cL_advise 13 = .ok (.iconst 1, 1) := by decide +kernel
theorem dL_advise_14 : decode cL_advise 14 = .ok (.ireturn, 1) := by decide +kernel
theorem dL_advise_15 : decode cL_advise 15 = .ok (.astore_n 3, 1) := by decide +kernel
theorem dL_advise_16 : decode cL_advise 16 = .ok (.iconst 2, 1) := by decide +kernel
theorem dL_advise_17 : decode cL_advise 17 = .ok (.ireturn, 1) := by decide +kernel
theorem dL_advise_18 : decode cL_advise 18 = .ok (.iconst 0, 1) := by decide +kernel
theorem dL_advise_19 : decode cL_advise 19 = .ok (.ireturn, 1) := by decide +kernel
theorem dL_bestWater_0 : decode cL_bestWater 0 = .ok (.aload_n 3, 1) := by decide +kernel
theorem dL_bestWater_1 : decode cL_bestWater 1 = .ok (.iconst 0, 1) := by decide +kernel
theorem dL_bestWater_2 : decode cL_bestWater 2 = .ok (.aload_n 0, 1) := by decide +kernel
theorem dL_bestWater_3 : decode cL_bestWater 3 = .ok (.iload_n 1, 1) := by decide +kernel
theorem dL_bestWater_4 : decode cL_bestWater 4 = .ok (.iload_n 2, 1) := by decide +kernel
theorem dL_bestWater_5 : decode cL_bestWater 5 = .ok (.invokevirtual 70, 3) := by decide +kernel
theorem dL_bestWater_8 : decode cL_bestWater 8 = .ok (.i2l, 1) := by decide +kernel
theorem dL_bestWater_9 : decode cL_bestWater 9 = .ok (.lastore, 1) := by decide +kernel
theorem dL_bestWater_10 : decode cL_bestWater 10 = .ok (.goto 11, 3) := by decide +kernel
theorem dL_bestWater_13 : decode cL_bestWater 13 = .ok (.astore 4, 2) := by decide +kernel
theorem dL_bestWater_15 : decode cL_bestWater 15 = .ok (.iconst 1, 1) := by decide +kernel
theorem dL_bestWater_16 : decode cL_bestWater 16 = .ok (.ireturn, 1) := by decide +kernel
theorem dL_bestWater_17 : decode cL_bestWater 17 = .ok (.astore 4, 2) := by decide +kernel
theorem dL_bestWater_19 : decode cL_bestWater 19 = .ok (.iconst 2, 1) := by decide +kernel
theorem dL_bestWater_20 : decode cL_bestWater 20 = .ok (.ireturn, 1) := by decide +kernel
theorem dL_bestWater_21 : decode cL_bestWater 21 = .ok (.iconst 0, 1) := by decide +kernel
theorem dL_bestWater_22 : decode cL_bestWater 22 = .ok (.ireturn, 1) := by decide +kernel
