theorem dX0_init_0 : decode cX0_init 0 = .ok (.aload_n 0, 1) := by decide +kernel
theorem dX0_init_1 : decode cX0_init 1 = .ok (.invokespecial 3, 3) := by decide +kernel
theorem dX0_init_4 : decode cX0_init 4 = .ok (.aload_n 0, 1) := by decide +kernel
theorem dX0_init_5 : decode cX0_init 5 = .ok (.bipush 8, 2) := by decide +kernel
theorem dX0_init_7 : decode cX0_init 7 = .ok (.newarray .int, 2) := by decide +kernel
theorem dX0_init_9 : decode cX0_init 9 = .ok (.putfield 9, 3) := by decide +kernel
theorem dX0_init_12 : decode cX0_init 12 = .ok (.aload_n 0, 1) := by decide +kernel
theorem dX0_init_13 : decode cX0_init 13 = .ok (.bipush 120, 2) := by decide +kernel
theorem dX0_init_15 : decode cX0_init 15 = .ok (.newarray .int, 2) := by decide +kernel
theorem dX0_init_17 : decode cX0_init 17 = .ok (.putfield 15, 3) := by decide +kernel
theorem dX0_init_20 : decode cX0_init 20 = .ok (.aload_n 0, 1) := by decide +kernel
theorem dX0_init_21 : decode cX0_init 21 = .ok (.bipush 120, 2) := by decide +kernel
theorem dX0_init_23 : decode cX0_init 23 = .ok (.newarray .int, 2) := by decide +kernel
theorem dX0_init_25 : decode cX0_init 25 = .ok (.putfield 18, 3) := by decide +kernel
theorem dX0_init_28 : decode cX0_init 28 = .ok (.aload_n 0, 1) := by decide +kernel
theorem dX0_init_29 : decode cX0_init 29 = .ok (.bipush 120, 2) := by decide +kernel
theorem dX0_init_31 : decode cX0_init 31 = .ok (.newarray .int, 2) := by decide +kernel
theorem dX0_init_33 : decode cX0_init 33 = .ok (.putfield 21, 3) := by decide +kernel
theorem dX0_init_36 : decode cX0_init 36 = .ok (.aload_n 0, 1) := by decide +kernel
theorem dX0_init_37 : decode cX0_init 37 = .ok (.bipush 120, 2) := by decide +kernel
theorem dX0_init_39 : decode cX0_init 39 = .ok (.newarray .int, 2) := by decide +kernel
theorem dX0_init_41 : decode cX0_init 41 = .ok (.putfield 24, 3) := by decide +kernel
theorem dX0_init_44 : decode cX0_init 44 = .ok (.aload_n 0, 1) := by decide +kernel
theorem dX0_init_45 : decode cX0_init 45 = .ok (.bipush 120, 2) := by decide +kernel
theorem dX0_init_47 : decode cX0_init 47 = .ok (.newarray .int, 2) := by decide +kernel
theorem dX0_init_49 : decode cX0_init 49 = .ok (.putfield 27, 3) := by decide +kernel
theorem dX0_init_52 : decode cX0_init 52 = .ok (.aload_n 0, 1) := by decide +kernel
theorem dX0_init_53 : decode cX0_init 53 = .ok (.bipush 120, 2) := by decide +kernel
theorem dX0_init_55 : decode cX0_init 55 = .ok (.newarray .int, 2) := by decide +kernel
theorem dX0_init_57 : decode cX0_init 57 = .ok (.putfield 30, 3) := by decide +kernel
theorem dX0_init_60 : decode cX0_init 60 = .ok (.aload_n 0, 1) := by decide +kernel
theorem dX0_init_61 : decode cX0_init 61 = .ok (.iconst 0, 1) := by decide +kernel
theorem dX0_init_62 : decode cX0_init 62 = .ok (.putfield 33, 3) := by decide +kernel
theorem dX0_init_65 : decode cX0_init 65 = .ok (.aload_n 0, 1) := by decide +kernel
theorem dX0_init_66 : decode cX0_init 66 = .ok (.iconst 0, 1) := by decide +kernel
theorem dX0_init_67 : decode cX0_init 67 = .ok (.putfield 37, 3) := by decide +kernel
theorem dX0_init_70 : decode cX0_init 70 = .ok (.aload_n 0, 1) := by decide +kernel
theorem dX0_init_71 : decode cX0_init 71 = .ok (.iconst 0, 1) := by decide +kernel
theorem dX0_init_72 : decode cX0_init 72 = .ok (.putfield 40, 3) := by decide +kernel
theorem dX0_init_75 : decode cX0_init 75 = .ok (.return_, 1) := by decide +kernel
theorem dX0_addPerson_0 : decode cX0_addPerson 0 = .ok (.aload_n 0, 1) := by decide +kernel
theorem dX0_addPerson_1 : decode cX0_addPerson 1 = .ok (.getfield 33, 3) := by decide +kernel
theorem dX0_addPerson_4 : decode cX0_addPerson 4 = .ok (.bipush 8, 2) := by decide +kernel
theorem dX0_addPerson_6 : decode cX0_addPerson 6 = .ok (.if_icmp .ge 13, 3) := by decide +kernel
theorem dX0_addPerson_9 : decode cX0_addPerson 9 = .ok (.iload_n 1, 1) := by decide +kernel
theorem dX0_addPerson_10 : decode cX0_addPerson 10 = .ok (.ifCond .lt 9, 3) := by decide +kernel
theorem dX0_addPerson_13 : decode cX0_addPerson 13 = .ok (.iload_n 1, 1) := by decide +kernel
theorem dX0_addPerson_14 : decode cX0_addPerson 14 = .ok (.ldc 43, 2) := by decide +kernel
theorem dX0_addPerson_16 : decode cX0_addPerson 16 = .ok (.if_icmp .le 5, 3) := by decide +kernel
theorem dX0_addPerson_19 : decode cX0_addPerson 19 = .ok (.iconst (-1), 1) := by decide +kernel
theorem dX0_addPerson_20 : decode cX0_addPerson 20 = .ok (.ireturn, 1) := by decide +kernel
theorem dX0_addPerson_21 : decode cX0_addPerson 21 = .ok (.aload_n 0, 1) := by decide +kernel
theorem dX0_addPerson_22 : decode cX0_addPerson 22 = .ok (.getfield 9, 3) := by decide +kernel
theorem dX0_addPerson_25 : decode cX0_addPerson 25 = .ok (.aload_n 0, 1) := by decide +kernel
theorem dX0_addPerson_26 : decode cX0_addPerson 26 = .ok (.getfield 33, 3) := by decide +kernel
theorem dX0_addPerson_29 : decode cX0_addPerson 29 = .ok (.iload_n 1, 1) := by decide +kernel
theorem dX0_addPerson_30 : decode cX0_addPerson 30 = .ok (.invokestatic 44, 3) := by decide +kernel
theorem dX0_addPerson_33 : decode cX0_addPerson 33 = .ok (.aload_n 0, 1) := by decide +kernel
theorem dX0_addPerson_34 : decode cX0_addPerson 34 = .ok (.dup, 1) := by decide +kernel
theorem dX0_addPerson_35 : decode cX0_addPerson 35 = .ok (.getfield 33, 3) := by decide +kernel
theorem dX0_addPerson_38 : decode cX0_addPerson 38 = .ok (.iconst 1, 1) := by decide +kernel
theorem dX0_addPerson_39 : decode cX0_addPerson 39 = .ok (.iadd, 1) := by decide +kernel
theorem dX0_addPerson_40 : decode cX0_addPerson 40 = .ok (.putfield 33, 3) := by decide +kernel
theorem dX0_addPerson_43 : decode cX0_addPerson 43 = .ok (.aload_n 0, 1) := by decide +kernel
theorem dX0_addPerson_44 : decode cX0_addPerson 44 = .ok (.getfield 33, 3) := by decide +kernel
theorem dX0_addPerson_47 : decode cX0_addPerson 47 = .ok (.iconst 1, 1) := by decide +kernel
theorem dX0_addPerson_48 : decode cX0_addPerson 48 = .ok (.isub, 1) := by decide +kernel
theorem dX0_addPerson_49 : decode cX0_addPerson 49 = .ok (.ireturn, 1) := by decide +kernel
theorem dX0_tell_0 : decode cX0_tell 0 = .ok (.aload_n 0, 1) := by decide +kernel
theorem dX0_tell_1 : decode cX0_tell 1 = .ok (.getfield 37, 3) := by decide +kernel
theorem dX0_tell_4 : decode cX0_tell 4 = .ok (.bipush 120, 2) := by decide +kernel
theorem dX0_tell_6 : decode cX0_tell 6 = .ok (.if_icmp .lt 5, 3) := by decide +kernel
theorem dX0_tell_9 : decode cX0_tell 9 = .ok (.iconst (-1), 1) := by decide +kernel
theorem dX0_tell_10 : decode cX0_tell 10 = .ok (.ireturn, 1) := by decide +kernel
theorem dX0_tell_11 : decode cX0_tell 11 = .ok (.aload_n 0, 1) := by decide +kernel
theorem dX0_tell_12 : decode cX0_tell 12 = .ok (.getfield 15, 3) := by decide +kernel
theorem dX0_tell_15 : decode cX0_tell 15 = .ok (.aload_n 0, 1) := by decide +kernel
theorem dX0_tell_16 : decode cX0_tell 16 = .ok (.getfield 37, 3) := by decide +kernel
theorem dX0_tell_19 : decode cX0_tell 19 = .ok (.iload_n 1, 1) := by decide +kernel
theorem dX0_tell_20 : decode cX0_tell 20 = .ok (.invokestatic 44, 3) := by decide +kernel
theorem dX0_tell_23 : decode cX0_tell 23 = .ok (.aload_n 0, 1) := by decide +kernel
theorem dX0_tell_24 : decode cX0_tell 24 = .ok (.getfield 18, 3) := by decide +kernel
theorem dX0_tell_27 : decode cX0_tell 27 = .ok (.aload_n 0, 1) := by decide +kernel
theorem dX0_tell_28 : decode cX0_tell 28 = .ok (.getfield 37, 3) := by decide +kernel
theorem dX0_tell_31 : decode cX0_tell 31 = .ok (.iload_n 2, 1) := by decide +kernel
theorem dX0_tell_32 : decode cX0_tell 32 = .ok (.invokestatic 44, 3) := by decide +kernel
theorem dX0_tell_35 : decode cX0_tell 35 = .ok (.aload_n 0, 1) := by decide +kernel
theorem dX0_tell_36 : decode cX0_tell 36 = .ok (.getfield 21, 3) := by decide +kernel
theorem dX0_tell_39 : decode cX0_tell 39 = .ok (.aload_n 0, 1) := by decide +kernel
theorem dX0_tell_40 : decode cX0_tell 40 = .ok (.getfield 37, 3) := by decide +kernel
theorem dX0_tell_43 : decode cX0_tell 43 = .ok (.iload_n 3, 1) := by decide +kernel
theorem dX0_tell_44 : decode cX0_tell 44 = .ok (.invokestatic 44, 3) := by decide +kernel
theorem dX0_tell_47 : decode cX0_tell 47 = .ok (.aload_n 0, 1) := by decide +kernel
theorem dX0_tell_48 : decode cX0_tell 48 = .ok (.getfield 24, 3) := by decide +kernel
theorem dX0_tell_51 : decode cX0_tell 51 = .ok (.aload_n 0, 1) := by decide +kernel
theorem dX0_tell_52 : decode cX0_tell 52 = .ok (.getfield 37, 3) := by decide +kernel
theorem dX0_tell_55 : decode cX0_tell 55 = .ok (.iload 4, 2) := by decide +kernel
theorem dX0_tell_57 : decode cX0_tell 57 = .ok (.invokestatic 44, 3) := by decide +kernel
theorem dX0_tell_60 : decode cX0_tell 60 = .ok (.aload_n 0, 1) := by decide +kernel
theorem dX0_tell_61 : decode cX0_tell 61 = .ok (.getfield 27, 3) := by decide +kernel
theorem dX0_tell_64 : decode cX0_tell 64 = .ok (.aload_n 0, 1) := by decide +kernel
theorem dX0_tell_65 : decode cX0_tell 65 = .ok (.getfield 37, 3) := by decide +kernel
theorem dX0_tell_68 : decode cX0_tell 68 = .ok (.iload 5, 2) := by decide +kernel
theorem dX0_tell_70 : decode cX0_tell 70 = .ok (.invokestatic 44, 3) := by decide +kernel
theorem dX0_tell_73 : decode cX0_tell 73 = .ok (.aload_n 0, 1) := by decide +kernel
theorem dX0_tell_74 : decode cX0_tell 74 = .ok (.getfield 30, 3) := by decide +kernel
theorem dX0_tell_77 : decode cX0_tell 77 = .ok (.aload_n 0, 1) := by decide +kernel
theorem dX0_tell_78 : decode cX0_tell 78 = .ok (.getfield 37, 3) := by decide +kernel
theorem dX0_tell_81 : decode cX0_tell 81 = .ok (.iload 6, 2) := by decide +kernel
theorem dX0_tell_83 : decode cX0_tell 83 = .ok (.invokestatic 44, 3) := by decide +kernel
theorem dX0_tell_86 : decode cX0_tell 86 = .ok (.aload_n 0, 1) := by decide +kernel
theorem dX0_tell_87 : decode cX0_tell 87 = .ok (.dup, 1) := by decide +kernel
theorem dX0_tell_88 : decode cX0_tell 88 = .ok (.getfield 40, 3) := by decide +kernel
theorem dX0_tell_91 : decode cX0_tell 91 = .ok (.iload_n 1, 1) := by decide +kernel
theorem dX0_tell_92 : decode cX0_tell 92 = .ok (.iconst 2, 1) := by decide +kernel
theorem dX0_tell_93 : decode cX0_tell 93 = .ok (.if_icmp .gt 7, 3) := by decide +kernel
theorem dX0_tell_96 : decode cX0_tell 96 = .ok (.iconst 1, 1) := by decide +kernel
theorem dX0_tell_97 : decode cX0_tell 97 = .ok (.goto 4, 3) := by decide +kernel
theorem dX0_tell_100 : decode cX0_tell 100 = .ok (.iconst 0, 1) := by decide +kernel
theorem dX0_tell_101 : decode cX0_tell 101 = .ok (.iadd, 1) := by decide +kernel
theorem dX0_tell_102 : decode cX0_tell 102 = .ok (.putfield 40, 3) := by decide +kernel
theorem dX0_tell_105 : decode cX0_tell 105 = .ok (.aload_n 0, 1) := by decide +kernel
theorem dX0_tell_106 : decode cX0_tell 106 = .ok (.dup, 1) := by decide +kernel
theorem dX0_tell_107 : decode cX0_tell 107 = .ok (.getfield 37, 3) := by decide +kernel
theorem dX0_tell_110 : decode cX0_tell 110 = .ok (.iconst 1, 1) := by decide +kernel
theorem dX0_tell_111 : decode cX0_tell 111 = .ok (.iadd, 1) := by decide +kernel
theorem dX0_tell_112 : decode cX0_tell 112 = .ok (.putfield 37, 3) := by decide +kernel
theorem dX0_tell_115 : decode cX0_tell 115 = .ok (.aload_n 0, 1) := by decide +kernel
theorem dX0_tell_116 : decode cX0_tell 116 = .ok (.getfield 37, 3) := by decide +kernel
theorem dX0_tell_119 : decode cX0_tell 119 = .ok (.iconst 1, 1) := by decide +kernel
theorem dX0_tell_120 : decode cX0_tell 120 = .ok (.isub, 1) := by decide +kernel
theorem dX0_tell_121 : decode cX0_tell 121 = .ok (.ireturn, 1) := by decide +kernel
theorem dX0_hasPerson_0 : decode cX0_hasPerson 0 = .ok (.iload_n 1, 1) := by decide +kernel
theorem dX0_hasPerson_1 : decode cX0_hasPerson 1 = .ok (.ifCond .lt 15, 3) := by decide +kernel
theorem dX0_hasPerson_4 : decode cX0_hasPerson 4 = .ok (.iload_n 1, 1) := by decide +kernel
theorem dX0_hasPerson_5 : decode cX0_hasPerson 5 = .ok (.aload_n 0, 1) := by decide +kernel
theorem dX0_hasPerson_6 : decode cX0_hasPerson 6 = .ok (.getfield 33, 3) := by decide +kernel
theorem dX0_hasPerson_9 : decode cX0_hasPerson 9 = .ok (.if_icmp .ge 7, 3) := by decide +kernel
theorem dX0_hasPerson_12 : decode cX0_hasPerson 12 = .ok (.iconst 1, 1) := by decide +kernel
theorem dX0_hasPerson_13 : decode cX0_hasPerson 13 = .ok (.goto 4, 3) := by decide +kernel
theorem dX0_hasPerson_16 : decode cX0_hasPerson 16 = .ok (.iconst 0, 1) := by decide +kernel
theorem dX0_hasPerson_17 : decode cX0_hasPerson 17 = .ok (.ireturn, 1) := by decide +kernel
theorem dX0_hasFirst_0 : decode cX0_hasFirst 0 = .ok (.iload_n 1, 1) := by decide +kernel
theorem dX0_hasFirst_1 : decode cX0_hasFirst 1 = .ok (.ifCond .lt 15, 3) := by decide +kernel
theorem dX0_hasFirst_4 : decode cX0_hasFirst 4 = .ok (.iload_n 1, 1) := by decide +kernel
theorem dX0_hasFirst_5 : decode cX0_hasFirst 5 = .ok (.aload_n 0, 1) := by decide +kernel
theorem dX0_hasFirst_6 : decode cX0_hasFirst 6 = .ok (.getfield 37, 3) := by decide +kernel
theorem dX0_hasFirst_9 : decode cX0_hasFirst 9 = .ok (.if_icmp .gt 7, 3) := by decide +kernel
theorem dX0_hasFirst_12 : decode cX0_hasFirst 12 = .ok (.iconst 1, 1) := by decide +kernel
theorem dX0_hasFirst_13 : decode cX0_hasFirst 13 = .ok (.goto 4, 3) := by decide +kernel
theorem dX0_hasFirst_16 : decode cX0_hasFirst 16 = .ok (.iconst 0, 1) := by decide +kernel
theorem dX0_hasFirst_17 : decode cX0_hasFirst 17 = .ok (.ireturn, 1) := by decide +kernel
theorem dX0_kindOf_0 : decode cX0_kindOf 0 = .ok (.iload_n 1, 1) := by decide +kernel
theorem dX0_kindOf_1 : decode cX0_kindOf 1 = .ok (.ifCond .lt 22, 3) := by decide +kernel
theorem dX0_kindOf_4 : decode cX0_kindOf 4 = .ok (.iload_n 1, 1) := by decide +kernel
theorem dX0_kindOf_5 : decode cX0_kindOf 5 = .ok (.aload_n 0, 1) := by decide +kernel
theorem dX0_kindOf_6 : decode cX0_kindOf 6 = .ok (.getfield 37, 3) := by decide +kernel
theorem dX0_kindOf_9 : decode cX0_kindOf 9 = .ok (.if_icmp .ge 14, 3) := by decide +kernel
theorem dX0_kindOf_12 : decode cX0_kindOf 12 = .ok (.aload_n 0, 1) := by decide +kernel
theorem dX0_kindOf_13 : decode cX0_kindOf 13 = .ok (.getfield 15, 3) := by decide +kernel
theorem dX0_kindOf_16 : decode cX0_kindOf 16 = .ok (.iload_n 1, 1) := by decide +kernel
theorem dX0_kindOf_17 : decode cX0_kindOf 17 = .ok (.invokestatic 48, 3) := by decide +kernel
theorem dX0_kindOf_20 : decode cX0_kindOf 20 = .ok (.goto 4, 3) := by decide +kernel
theorem dX0_kindOf_23 : decode cX0_kindOf 23 = .ok (.iconst (-1), 1) := by decide +kernel
theorem dX0_kindOf_24 : decode cX0_kindOf 24 = .ok (.ireturn, 1) := by decide +kernel
theorem dX0_isPaper_0 : decode cX0_isPaper 0 = .ok (.aload_n 0, 1) := by decide +kernel
theorem dX0_isPaper_1 : decode cX0_isPaper 1 = .ok (.iload_n 1, 1) := by decide +kernel
theorem dX0_isPaper_2 : decode cX0_isPaper 2 = .ok (.invokevirtual 52, 3) := by decide +kernel
theorem dX0_isPaper_5 : decode cX0_isPaper 5 = .ok (.istore_n 2, 1) := by decide +kernel
theorem dX0_isPaper_6 : decode cX0_isPaper 6 = .ok (.iload_n 2, 1) := by decide +kernel
theorem dX0_isPaper_7 : decode cX0_isPaper 7 = .ok (.ifCond .lt 12, 3) := by decide +kernel
theorem dX0_isPaper_10 : decode cX0_isPaper 10 = .ok (.iload_n 2, 1) := by decide +kernel
theorem dX0_isPaper_11 : decode cX0_isPaper 11 = .ok (.iconst 2, 1) := by decide +kernel
theorem dX0_isPaper_12 : decode cX0_isPaper 12 = .ok (.if_icmp .gt 7, 3) := by decide +kernel
theorem dX0_isPaper_15 : decode cX0_isPaper 15 = .ok (.iconst 1, 1) := by decide +kernel
theorem dX0_isPaper_16 : decode cX0_isPaper 16 = .ok (.goto 4, 3) := by decide +kernel
theorem dX0_isPaper_19 : decode cX0_isPaper 19 = .ok (.iconst 0, 1) := by decide +kernel
theorem dX0_isPaper_20 : decode cX0_isPaper 20 = .ok (.ireturn, 1) := by decide +kernel
theorem dX0_madeOn_0 : decode cX0_madeOn 0 = .ok (.aload_n 0, 1) := by decide +kernel
theorem dX0_madeOn_1 : decode cX0_madeOn 1 = .ok (.getfield 18, 3) := by decide +kernel
theorem dX0_madeOn_4 : decode cX0_madeOn 4 = .ok (.iload_n 1, 1) := by decide +kernel
theorem dX0_madeOn_5 : decode cX0_madeOn 5 = .ok (.invokestatic 48, 3) := by decide +kernel
theorem dX0_madeOn_8 : decode cX0_madeOn 8 = .ok (.ireturn, 1) := by decide +kernel
theorem dX0_oneOf_0 : decode cX0_oneOf 0 = .ok (.aload_n 0, 1) := by decide +kernel
theorem dX0_oneOf_1 : decode cX0_oneOf 1 = .ok (.getfield 21, 3) := by decide +kernel
theorem dX0_oneOf_4 : decode cX0_oneOf 4 = .ok (.iload_n 1, 1) := by decide +kernel
theorem dX0_oneOf_5 : decode cX0_oneOf 5 = .ok (.invokestatic 48, 3) := by decide +kernel
theorem dX0_oneOf_8 : decode cX0_oneOf 8 = .ok (.ireturn, 1) := by decide +kernel
theorem dX0_thingOf_0 : decode cX0_thingOf 0 = .ok (.aload_n 0, 1) := by decide +kernel
theorem dX0_thingOf_1 : decode cX0_thingOf 1 = .ok (.getfield 24, 3) := by decide +kernel
theorem dX0_thingOf_4 : decode cX0_thingOf 4 = .ok (.iload_n 1, 1) := by decide +kernel
theorem dX0_thingOf_5 : decode cX0_thingOf 5 = .ok (.invokestatic 48, 3) := by decide +kernel
theorem dX0_thingOf_8 : decode cX0_thingOf 8 = .ok (.ireturn, 1) := by decide +kernel
theorem dX0_dayOf_0 : decode cX0_dayOf 0 = .ok (.aload_n 0, 1) := by decide +kernel
theorem dX0_dayOf_1 : decode cX0_dayOf 1 = .ok (.getfield 27, 3) := by decide +kernel
theorem dX0_dayOf_4 : decode cX0_dayOf 4 = .ok (.iload_n 1, 1) := by decide +kernel
theorem dX0_dayOf_5 : decode cX0_dayOf 5 = .ok (.invokestatic 48, 3) := by decide +kernel
theorem dX0_dayOf_8 : decode cX0_dayOf 8 = .ok (.ireturn, 1) := by decide +kernel
theorem dX0_otherOf_0 : decode cX0_otherOf 0 = .ok (.aload_n 0, 1) := by decide +kernel
theorem dX0_otherOf_1 : decode cX0_otherOf 1 = .ok (.getfield 30, 3) := by decide +kernel
theorem dX0_otherOf_4 : decode cX0_otherOf 4 = .ok (.iload_n 1, 1) := by decide +kernel
theorem dX0_otherOf_5 : decode cX0_otherOf 5 = .ok (.invokestatic 48, 3) := by decide +kernel
theorem dX0_otherOf_8 : decode cX0_otherOf 8 = .ok (.ireturn, 1) := by decide +kernel
theorem dX0_livedAhead_0 : decode cX0_livedAhead 0 = .ok (.aload_n 0, 1) := by decide +kernel
theorem dX0_livedAhead_1 : decode cX0_livedAhead 1 = .ok (.getfield 9, 3) := by decide +kernel
theorem dX0_livedAhead_4 : decode cX0_livedAhead 4 = .ok (.iload_n 1, 1) := by decide +kernel
theorem dX0_livedAhead_5 : decode cX0_livedAhead 5 = .ok (.invokestatic 48, 3) := by decide +kernel
theorem dX0_livedAhead_8 : decode cX0_livedAhead 8 = .ok (.ireturn, 1) := by decide +kernel
theorem dX0_isFeast_0 : decode cX0_isFeast 0 = .ok (.iload_n 2, 1) := by decide +kernel
theorem dX0_isFeast_1 : decode cX0_isFeast 1 = .ok (.iconst 1, 1) := by decide +kernel
theorem dX0_isFeast_2 : decode cX0_isFeast 2 = .ok (.isub, 1) := by decide +kernel
theorem dX0_isFeast_3 : decode cX0_isFeast 3 = .ok (.istore_n 3, 1) := by decide +kernel
theorem dX0_isFeast_4 : decode cX0_isFeast 4 = .ok (.iload_n 3, 1) := by decide +kernel
theorem dX0_isFeast_5 : decode cX0_isFeast 5 = .ok (.ifCond .lt 42, 3) := by decide +kernel
theorem dX0_isFeast_8 : decode cX0_isFeast 8 = .ok (.aload_n 0, 1) := by decide +kernel
theorem dX0_isFeast_9 : decode cX0_isFeast 9 = .ok (.iload_n 3, 1) := by decide +kernel
theorem dX0_isFeast_10 : decode cX0_isFeast 10 = .ok (.invokevirtual 52, 3) := by decide +kernel
theorem dX0_isFeast_13 : decode cX0_isFeast 13 = .ok (.iconst 4, 1) := by decide +kernel
theorem dX0_isFeast_14 : decode cX0_isFeast 14 = .ok (.if_icmp .ne 27, 3) := by decide +kernel
theorem dX0_isFeast_17 : decode cX0_isFeast 17 = .ok (.aload_n 0, 1) := by decide +kernel
theorem dX0_isFeast_18 : decode cX0_isFeast 18 = .ok (.iload_n 3, 1) := by decide +kernel
theorem dX0_isFeast_19 : decode cX0_isFeast 19 = .ok (.invokevirtual 56, 3) := by decide +kernel
theorem dX0_isFeast_22 : decode cX0_isFeast 22 = .ok (.iload_n 1, 1) := by decide +kernel
theorem dX0_isFeast_23 : decode cX0_isFeast 23 = .ok (.if_icmp .ne 18, 3) := by decide +kernel
theorem dX0_isFeast_26 : decode cX0_isFeast 26 = .ok (.aload_n 0, 1) := by decide +kernel
theorem dX0_isFeast_27 : decode cX0_isFeast 27 = .ok (.iload_n 3, 1) := by decide +kernel
theorem dX0_isFeast_28 : decode cX0_isFeast 28 = .ok (.invokevirtual 59, 3) := by decide +kernel
theorem dX0_isFeast_31 : decode cX0_isFeast 31 = .ok (.iconst 1, 1) := by decide +kernel
theorem dX0_isFeast_32 : decode cX0_isFeast 32 = .ok (.if_icmp .ne 7, 3) := by decide +kernel
theorem dX0_isFeast_35 : decode cX0_isFeast 35 = .ok (.iconst 1, 1) := by decide +kernel
theorem dX0_isFeast_36 : decode cX0_isFeast 36 = .ok (.goto 4, 3) := by decide +kernel
theorem dX0_isFeast_39 : decode cX0_isFeast 39 = .ok (.iconst 0, 1) := by decide +kernel
theorem dX0_isFeast_40 : decode cX0_isFeast 40 = .ok (.ireturn, 1) := by decide +kernel
theorem dX0_isFeast_41 : decode cX0_isFeast 41 = .ok (.iinc 3 (-1), 3) := by decide +kernel
theorem dX0_isFeast_44 : decode cX0_isFeast 44 = .ok (.goto (-40), 3) := by decide +kernel
theorem dX0_isFeast_47 : decode cX0_isFeast 47 = .ok (.iconst 0, 1) := by decide +kernel
theorem dX0_isFeast_48 : decode cX0_isFeast 48 = .ok (.ireturn, 1) := by decide +kernel
theorem dX0_personCount_0 : decode cX0_personCount 0 = .ok (.aload_n 0, 1) := by decide +kernel
theorem dX0_personCount_1 : decode cX0_personCount 1 = .ok (.getfield 33, 3) := by decide +kernel
theorem dX0_personCount_4 : decode cX0_personCount 4 = .ok (.ireturn, 1) := by decide +kernel
theorem dX0_factCount_0 : decode cX0_factCount 0 = .ok (.aload_n 0, 1) := by decide +kernel
theorem dX0_factCount_1 : decode cX0_factCount 1 = .ok (.getfield 37, 3) := by decide +kernel
theorem dX0_factCount_4 : decode cX0_factCount 4 = .ok (.ireturn, 1) := by decide +kernel
theorem dX0_paperCount_0 : decode cX0_paperCount 0 = .ok (.aload_n 0, 1) := by decide +kernel
theorem dX0_paperCount_1 : decode cX0_paperCount 1 = .ok (.getfield 40, 3) := by decide +kernel
theorem dX0_paperCount_4 : decode cX0_paperCount 4 = .ok (.ireturn, 1) := by decide +kernel
theorem dX1_init_0 : decode cX1_init 0 = .ok (.aload_n 0, 1) := by decide +kernel
theorem dX1_init_1 : decode cX1_init 1 = .ok (.invokespecial 3, 3) := by decide +kernel
theorem dX1_init_4 : decode cX1_init 4 = .ok (.aload_n 0, 1) := by decide +kernel
theorem dX1_init_5 : decode cX1_init 5 = .ok (.bipush 120, 2) := by decide +kernel
theorem dX1_init_7 : decode cX1_init 7 = .ok (.newarray .int, 2) := by decide +kernel
theorem dX1_init_9 : decode cX1_init 9 = .ok (.putfield 9, 3) := by decide +kernel
theorem dX1_init_12 : decode cX1_init 12 = .ok (.aload_n 0, 1) := by decide +kernel
theorem dX1_init_13 : decode cX1_init 13 = .ok (.bipush 120, 2) := by decide +kernel
theorem dX1_init_15 : decode cX1_init 15 = .ok (.newarray .int, 2) := by decide +kernel
theorem dX1_init_17 : decode cX1_init 17 = .ok (.putfield 15, 3) := by decide +kernel
theorem dX1_init_20 : decode cX1_init 20 = .ok (.aload_n 0, 1) := by decide +kernel
theorem dX1_init_21 : decode cX1_init 21 = .ok (.bipush 120, 2) := by decide +kernel
theorem dX1_init_23 : decode cX1_init 23 = .ok (.newarray .int, 2) := by decide +kernel
theorem dX1_init_25 : decode cX1_init 25 = .ok (.putfield 18, 3) := by decide +kernel
theorem dX1_init_28 : decode cX1_init 28 = .ok (.aload_n 0, 1) := by decide +kernel
theorem dX1_init_29 : decode cX1_init 29 = .ok (.bipush 120, 2) := by decide +kernel
theorem dX1_init_31 : decode cX1_init 31 = .ok (.newarray .int, 2) := by decide +kernel
theorem dX1_init_33 : decode cX1_init 33 = .ok (.putfield 21, 3) := by decide +kernel
theorem dX1_init_36 : decode cX1_init 36 = .ok (.aload_n 0, 1) := by decide +kernel
theorem dX1_init_37 : decode cX1_init 37 = .ok (.bipush 120, 2) := by decide +kernel
theorem dX1_init_39 : decode cX1_init 39 = .ok (.newarray .int, 2) := by decide +kernel
theorem dX1_init_41 : decode cX1_init 41 = .ok (.putfield 24, 3) := by decide +kernel
theorem dX1_init_44 : decode cX1_init 44 = .ok (.aload_n 0, 1) := by decide +kernel
theorem dX1_init_45 : decode cX1_init 45 = .ok (.bipush 120, 2) := by decide +kernel
theorem dX1_init_47 : decode cX1_init 47 = .ok (.newarray .int, 2) := by decide +kernel
theorem dX1_init_49 : decode cX1_init 49 = .ok (.putfield 27, 3) := by decide +kernel
theorem dX1_init_52 : decode cX1_init 52 = .ok (.aload_n 0, 1) := by decide +kernel
theorem dX1_init_53 : decode cX1_init 53 = .ok (.sipush 7744, 3) := by decide +kernel
theorem dX1_init_56 : decode cX1_init 56 = .ok (.newarray .int, 2) := by decide +kernel
theorem dX1_init_58 : decode cX1_init 58 = .ok (.putfield 30, 3) := by decide +kernel
theorem dX1_init_61 : decode cX1_init 61 = .ok (.aload_n 0, 1) := by decide +kernel
theorem dX1_init_62 : decode cX1_init 62 = .ok (.bipush 9, 2) := by decide +kernel
theorem dX1_init_64 : decode cX1_init 64 = .ok (.newarray .int, 2) := by decide +kernel
theorem dX1_init_66 : decode cX1_init 66 = .ok (.putfield 33, 3) := by decide +kernel
theorem dX1_init_69 : decode cX1_init 69 = .ok (.aload_n 0, 1) := by decide +kernel
theorem dX1_init_70 : decode cX1_init 70 = .ok (.bipush 8, 2) := by decide +kernel
theorem dX1_init_72 : decode cX1_init 72 = .ok (.newarray .int, 2) := by decide +kernel
theorem dX1_init_74 : decode cX1_init 74 = .ok (.putfield 36, 3) := by decide +kernel
theorem dX1_init_77 : decode cX1_init 77 = .ok (.aload_n 0, 1) := by decide +kernel
theorem dX1_init_78 : decode cX1_init 78 = .ok (.iconst (-1), 1) := by decide +kernel
theorem dX1_init_79 : decode cX1_init 79 = .ok (.putfield 39, 3) := by decide +kernel
theorem dX1_init_82 : decode cX1_init 82 = .ok (.aload_n 0, 1) := by decide +kernel
theorem dX1_init_83 : decode cX1_init 83 = .ok (.iconst (-1), 1) := by decide +kernel
theorem dX1_init_84 : decode cX1_init 84 = .ok (.putfield 43, 3) := by decide +kernel
theorem dX1_init_87 : decode cX1_init 87 = .ok (.aload_n 0, 1) := by decide +kernel
theorem dX1_init_88 : decode cX1_init 88 = .ok (.iconst 0, 1) := by decide +kernel
theorem dX1_init_89 : decode cX1_init 89 = .ok (.putfield 46, 3) := by decide +kernel
theorem dX1_init_92 : decode cX1_init 92 = .ok (.aload_n 0, 1) := by decide +kernel
theorem dX1_init_93 : decode cX1_init 93 = .ok (.aload_n 1, 1) := by decide +kernel
theorem dX1_init_94 : decode cX1_init 94 = .ok (.putfield 49, 3) := by decide +kernel
theorem dX1_init_97 : decode cX1_init 97 = .ok (.aload_n 0, 1) := by decide +kernel
theorem dX1_init_98 : decode cX1_init 98 = .ok (.aload_n 2, 1) := by decide +kernel
theorem dX1_init_99 : decode cX1_init 99 = .ok (.putfield 53, 3) := by decide +kernel
theorem dX1_init_102 : decode cX1_init 102 = .ok (.return_, 1) := by decide +kernel
theorem dX1_isOf_0 : decode cX1_isOf 0 = .ok (.aload_n 0, 1) := by decide +kernel
theorem dX1_isOf_1 : decode cX1_isOf 1 = .ok (.getfield 39, 3) := by decide +kernel
theorem dX1_isOf_4 : decode cX1_isOf 4 = .ok (.iload_n 1, 1) := by decide +kernel
theorem dX1_isOf_5 : decode cX1_isOf 5 = .ok (.if_icmp .ne 15, 3) := by decide +kernel
theorem dX1_isOf_8 : decode cX1_isOf 8 = .ok (.aload_n 0, 1) := by decide +kernel
theorem dX1_isOf_9 : decode cX1_isOf 9 = .ok (.getfield 43, 3) := by decide +kernel
theorem dX1_isOf_12 : decode cX1_isOf 12 = .ok (.iload_n 2, 1) := by decide +kernel
theorem dX1_isOf_13 : decode cX1_isOf 13 = .ok (.if_icmp .ne 7, 3) := by decide +kernel
theorem dX1_isOf_16 : decode cX1_isOf 16 = .ok (.iconst 1, 1) := by decide +kernel
theorem dX1_isOf_17 : decode cX1_isOf 17 = .ok (.goto 4, 3) := by decide +kernel
theorem dX1_isOf_20 : decode cX1_isOf 20 = .ok (.iconst 0, 1) := by decide +kernel
theorem dX1_isOf_21 : decode cX1_isOf 21 = .ok (.ireturn, 1) := by decide +kernel
theorem dX1_learn_0 : decode cX1_learn 0 = .ok (.aload_n 0, 1) := by decide +kernel
theorem dX1_learn_1 : decode cX1_learn 1 = .ok (.iload_n 1, 1) := by decide +kernel
theorem dX1_learn_2 : decode cX1_learn 2 = .ok (.putfield 39, 3) := by decide +kernel
theorem dX1_learn_5 : decode cX1_learn 5 = .ok (.aload_n 0, 1) := by decide +kernel
theorem dX1_learn_6 : decode cX1_learn 6 = .ok (.iload_n 2, 1) := by decide +kernel
theorem dX1_learn_7 : decode cX1_learn 7 = .ok (.putfield 43, 3) := by decide +kernel
theorem dX1_learn_10 : decode cX1_learn 10 = .ok (.aload_n 0, 1) := by decide +kernel
theorem dX1_learn_11 : decode cX1_learn 11 = .ok (.invokevirtual 57, 3) := by decide +kernel
theorem dX1_learn_14 : decode cX1_learn 14 = .ok (.aload_n 0, 1) := by decide +kernel
theorem dX1_learn_15 : decode cX1_learn 15 = .ok (.invokevirtual 60, 3) := by decide +kernel
theorem dX1_learn_18 : decode cX1_learn 18 = .ok (.iconst 0, 1) := by decide +kernel
theorem dX1_learn_19 : decode cX1_learn 19 = .ok (.istore 4, 2) := by decide +kernel
theorem dX1_learn_21 : decode cX1_learn 21 = .ok (.iload 4, 2) := by decide +kernel
theorem dX1_learn_23 : decode cX1_learn 23 = .ok (.aload_n 0, 1) := by decide +kernel
theorem dX1_learn_24 : decode cX1_learn 24 = .ok (.getfield 46, 3) := by decide +kernel
theorem dX1_learn_27 : decode cX1_learn 27 = .ok (.if_icmp .ge 124, 3) := by decide +kernel
theorem dX1_learn_30 : decode cX1_learn 30 = .ok (.aload_n 0, 1) := by decide +kernel
theorem dX1_learn_31 : decode cX1_learn 31 = .ok (.getfield 18, 3) := by decide +kernel
theorem dX1_learn_34 : decode cX1_learn 34 = .ok (.iload 4, 2) := by decide +kernel
theorem dX1_learn_36 : decode cX1_learn 36 = .ok (.invokestatic 63, 3) := by decide +kernel
theorem dX1_learn_39 : decode cX1_learn 39 = .ok (.istore 5, 2) := by decide +kernel
theorem dX1_learn_41 : decode cX1_learn 41 = .ok (.aload_n 0, 1) := by decide +kernel
theorem dX1_learn_42 : decode cX1_learn 42 = .ok (.iload 4, 2) := by decide +kernel
theorem dX1_learn_44 : decode cX1_learn 44 = .ok (.iload 5, 2) := by decide +kernel
theorem dX1_learn_46 : decode cX1_learn 46 = .ok (.aload_n 3, 1) := by decide +kernel
theorem dX1_learn_47 : decode cX1_learn 47 = .ok (.invokevirtual 67, 3) := by decide +kernel
theorem dX1_learn_50 : decode cX1_learn 50 = .ok (.istore 6, 2) := by decide +kernel
theorem dX1_learn_52 : decode cX1_learn 52 = .ok (.aload_n 0, 1) := by decide +kernel
theorem dX1_learn_53 : decode cX1_learn 53 = .ok (.getfield 9, 3) := by decide +kernel
theorem dX1_learn_56 : decode cX1_learn 56 = .ok (.iload 5, 2) := by decide +kernel
theorem dX1_learn_58 : decode cX1_learn 58 = .ok (.iload 6, 2) := by decide +kernel
theorem dX1_learn_60 : decode cX1_learn 60 = .ok (.invokestatic 71, 3) := by decide +kernel
theorem dX1_learn_63 : decode cX1_learn 63 = .ok (.aload_n 0, 1) := by decide +kernel
theorem dX1_learn_64 : decode cX1_learn 64 = .ok (.getfield 21, 3) := by decide +kernel
theorem dX1_learn_67 : decode cX1_learn 67 = .ok (.iload 4, 2) := by decide +kernel
theorem dX1_learn_69 : decode cX1_learn 69 = .ok (.iload 6, 2) := by decide +kernel
theorem dX1_learn_71 : decode cX1_learn 71 = .ok (.ifCond .ne 12, 3) := by decide +kernel
theorem dX1_learn_74 : decode cX1_learn 74 = .ok (.aload_n 0, 1) := by decide +kernel
theorem dX1_learn_75 : decode cX1_learn 75 = .ok (.iload 5, 2) := by decide +kernel
theorem dX1_learn_77 : decode cX1_learn 77 = .ok (.invokevirtual 75, 3) := by decide +kernel
theorem dX1_learn_80 : decode cX1_learn 80 = .ok (.goto 4, 3) := by decide +kernel
theorem dX1_learn_83 : decode cX1_learn 83 = .ok (.iconst (-1), 1) := by decide +kernel
theorem dX1_learn_84 : decode cX1_learn 84 = .ok (.invokestatic 71, 3) := by decide +kernel
theorem dX1_learn_87 : decode cX1_learn 87 = .ok (.aload_n 0, 1) := by decide +kernel
theorem dX1_learn_88 : decode cX1_learn 88 = .ok (.getfield 24, 3) := by decide +kernel
theorem dX1_learn_91 : decode cX1_learn 91 = .ok (.iload 4, 2) := by decide +kernel
theorem dX1_learn_93 : decode cX1_learn 93 = .ok (.aload_n 0, 1) := by decide +kernel
theorem dX1_learn_94 : decode cX1_learn 94 = .ok (.getfield 49, 3) := by decide +kernel
theorem dX1_learn_97 : decode cX1_learn 97 = .ok (.iload 5, 2) := by decide +kernel
theorem dX1_learn_99 : decode cX1_learn 99 = .ok (.invokevirtual 79, 3) := by decide +kernel
theorem dX1_learn_102 : decode cX1_learn 102 = .ok (.invokestatic 71, 3) := by decide +kernel
theorem dX1_learn_105 : decode cX1_learn 105 = .ok (.aload_n 0, 1) := by decide +kernel
theorem dX1_learn_106 : decode cX1_learn 106 = .ok (.getfield 27, 3) := by decide +kernel
theorem dX1_learn_109 : decode cX1_learn 109 = .ok (.iload 4, 2) := by decide +kernel
theorem dX1_learn_111 : decode cX1_learn 111 = .ok (.aload_n 0, 1) := by decide +kernel
theorem dX1_learn_112 : decode cX1_learn 112 = .ok (.getfield 49, 3) := by decide +kernel
theorem dX1_learn_115 : decode cX1_learn 115 = .ok (.iload 5, 2) := by decide +kernel
theorem dX1_learn_117 : decode cX1_learn 117 = .ok (.invokevirtual 84, 3) := by decide +kernel
theorem dX1_learn_120 : decode cX1_learn 120 = .ok (.invokestatic 71, 3) := by decide +kernel
theorem dX1_learn_123 : decode cX1_learn 123 = .ok (.aload_n 0, 1) := by decide +kernel
theorem dX1_learn_124 : decode cX1_learn 124 = .ok (.iload 4, 2) := by decide +kernel
theorem dX1_learn_126 : decode cX1_learn 126 = .ok (.invokevirtual 87, 3) := by decide +kernel
theorem dX1_learn_129 : decode cX1_learn 129 = .ok (.iload 6, 2) := by decide +kernel
theorem dX1_learn_131 : decode cX1_learn 131 = .ok (.ifCond .ne 14, 3) := by decide +kernel
theorem dX1_learn_134 : decode cX1_learn 134 = .ok (.aload_n 0, 1) := by decide +kernel
theorem dX1_learn_135 : decode cX1_learn 135 = .ok (.iload 4, 2) := by decide +kernel
theorem dX1_learn_137 : decode cX1_learn 137 = .ok (.iconst 1, 1) := by decide +kernel
theorem dX1_learn_138 : decode cX1_learn 138 = .ok (.iadd, 1) := by decide +kernel
theorem dX1_learn_139 : decode cX1_learn 139 = .ok (.iload 5, 2) := by decide +kernel
theorem dX1_learn_141 : decode cX1_learn 141 = .ok (.aload_n 3, 1) := by decide +kernel
theorem dX1_learn_142 : decode cX1_learn 142 = .ok (.invokevirtual 91, 3) := by decide +kernel
theorem dX1_learn_145 : decode cX1_learn 145 = .ok (.iinc 4 1, 3) := by decide +kernel
theorem dX1_learn_148 : decode cX1_learn 148 = .ok (.goto (-127), 3) := by decide +kernel
theorem dX1_learn_151 : decode cX1_learn 151 = .ok (.return_, 1) := by decide +kernel
theorem dX1_reasonOf_0 : decode cX1_reasonOf 0 = .ok (.aload_n 0, 1) := by decide +kernel
theorem dX1_reasonOf_1 : decode cX1_reasonOf 1 = .ok (.getfield 9, 3) := by decide +kernel
theorem dX1_reasonOf_4 : decode cX1_reasonOf 4 = .ok (.iload_n 1, 1) := by decide +kernel
theorem dX1_reasonOf_5 : decode cX1_reasonOf 5 = .ok (.invokestatic 63, 3) := by decide +kernel
theorem dX1_reasonOf_8 : decode cX1_reasonOf 8 = .ok (.ireturn, 1) := by decide +kernel
theorem dX1_growsRule_0 : decode cX1_growsRule 0 = .ok (.aload_n 0, 1) := by decide +kernel
theorem dX1_growsRule_1 : decode cX1_growsRule 1 = .ok (.iload_n 1, 1) := by decide +kernel
theorem dX1_growsRule_2 : decode cX1_growsRule 2 = .ok (.invokevirtual 95, 3) := by decide +kernel
theorem dX1_growsRule_5 : decode cX1_growsRule 5 = .ok (.ifCond .eq 5, 3) := by decide +kernel
theorem dX1_growsRule_8 : decode cX1_growsRule 8 = .ok (.iconst (-1), 1) := by decide +kernel
theorem dX1_growsRule_9 : decode cX1_growsRule 9 = .ok (.ireturn, 1) := by decide +kernel
theorem dX1_growsRule_10 : decode cX1_growsRule 10 = .ok (.aload_n 0, 1) := by decide +kernel
theorem dX1_growsRule_11 : decode cX1_growsRule 11 = .ok (.getfield 15, 3) := by decide +kernel
theorem dX1_growsRule_14 : decode cX1_growsRule 14 = .ok (.iload_n 1, 1) := by decide +kernel
theorem dX1_growsRule_15 : decode cX1_growsRule 15 = .ok (.invokestatic 63, 3) := by decide +kernel
theorem dX1_growsRule_18 : decode cX1_growsRule 18 = .ok (.istore_n 2, 1) := by decide +kernel
theorem dX1_growsRule_19 : decode cX1_growsRule 19 = .ok (.iload_n 2, 1) := by decide +kernel
theorem dX1_growsRule_20 : decode cX1_growsRule 20 = .ok (.iconst (-1), 1) := by decide +kernel
theorem dX1_growsRule_21 : decode cX1_growsRule 21 = .ok (.if_icmp .ne 8, 3) := by decide +kernel
theorem dX1_growsRule_24 : decode cX1_growsRule 24 = .ok (.bipush (-2), 2) := by decide +kernel
theorem dX1_growsRule_26 : decode cX1_growsRule 26 = .ok (.goto 4, 3) := by decide +kernel
theorem dX1_growsRule_29 : decode cX1_growsRule 29 = .ok (.iload_n 2, 1) := by decide +kernel
theorem dX1_growsRule_30 : decode cX1_growsRule 30 = .ok (.ireturn, 1) := by decide +kernel
theorem dX1_banRule_0 : decode cX1_banRule 0 = .ok (.aload_n 0, 1) := by decide +kernel
theorem dX1_banRule_1 : decode cX1_banRule 1 = .ok (.iload_n 1, 1) := by decide +kernel
theorem dX1_banRule_2 : decode cX1_banRule 2 = .ok (.invokevirtual 95, 3) := by decide +kernel
theorem dX1_banRule_5 : decode cX1_banRule 5 = .ok (.iconst 4, 1) := by decide +kernel
theorem dX1_banRule_6 : decode cX1_banRule 6 = .ok (.if_icmp .ne 14, 3) := by decide +kernel
theorem dX1_banRule_9 : decode cX1_banRule 9 = .ok (.aload_n 0, 1) := by decide +kernel
theorem dX1_banRule_10 : decode cX1_banRule 10 = .ok (.getfield 15, 3) := by decide +kernel
theorem dX1_banRule_13 : decode cX1_banRule 13 = .ok (.iload_n 1, 1) := by decide +kernel
theorem dX1_banRule_14 : decode cX1_banRule 14 = .ok (.invokestatic 63, 3) := by decide +kernel
theorem dX1_banRule_17 : decode cX1_banRule 17 = .ok (.goto 4, 3) := by decide +kernel
theorem dX1_banRule_20 : decode cX1_banRule 20 = .ok (.iconst (-1), 1) := by decide +kernel
theorem dX1_banRule_21 : decode cX1_banRule 21 = .ok (.ireturn, 1) := by decide +kernel
theorem dX1_holderOf_0 : decode cX1_holderOf 0 = .ok (.aload_n 0, 1) := by decide +kernel
theorem dX1_holderOf_1 : decode cX1_holderOf 1 = .ok (.aload_n 0, 1) := by decide +kernel
theorem dX1_holderOf_2 : decode cX1_holderOf 2 = .ok (.getfield 46, 3) := by decide +kernel
theorem dX1_holderOf_5 : decode cX1_holderOf 5 = .ok (.iload_n 1, 1) := by decide +kernel
theorem dX1_holderOf_6 : decode cX1_holderOf 6 = .ok (.iload_n 2, 1) := by decide +kernel
theorem dX1_holderOf_7 : decode cX1_holderOf 7 = .ok (.invokestatic 98, 3) := by decide +kernel
theorem dX1_holderOf_10 : decode cX1_holderOf 10 = .ok (.iload_n 1, 1) := by decide +kernel
theorem dX1_holderOf_11 : decode cX1_holderOf 11 = .ok (.invokevirtual 102, 3) := by decide +kernel
theorem dX1_holderOf_14 : decode cX1_holderOf 14 = .ok (.ireturn, 1) := by decide +kernel
theorem dX1_linkOf_0 : decode cX1_linkOf 0 = .ok (.iload_n 1, 1) := by decide +kernel
theorem dX1_linkOf_1 : decode cX1_linkOf 1 = .ok (.istore 4, 2) := by decide +kernel
theorem dX1_linkOf_3 : decode cX1_linkOf 3 = .ok (.iconst 0, 1) := by decide +kernel
theorem dX1_linkOf_4 : decode cX1_linkOf 4 = .ok (.istore 5, 2) := by decide +kernel
theorem dX1_linkOf_6 : decode cX1_linkOf 6 = .ok (.iconst 0, 1) := by decide +kernel
theorem dX1_linkOf_7 : decode cX1_linkOf 7 = .ok (.istore 6, 2) := by decide +kernel
theorem dX1_linkOf_9 : decode cX1_linkOf 9 = .ok (.iload 6, 2) := by decide +kernel
theorem dX1_linkOf_11 : decode cX1_linkOf 11 = .ok (.aload_n 0, 1) := by decide +kernel
theorem dX1_linkOf_12 : decode cX1_linkOf 12 = .ok (.getfield 46, 3) := by decide +kernel
theorem dX1_linkOf_15 : decode cX1_linkOf 15 = .ok (.if_icmp .ge 46, 3) := by decide +kernel
theorem dX1_linkOf_18 : decode cX1_linkOf 18 = .ok (.iload 5, 2) := by decide +kernel
theorem dX1_linkOf_20 : decode cX1_linkOf 20 = .ok (.iload_n 3, 1) := by decide +kernel
theorem dX1_linkOf_21 : decode cX1_linkOf 21 = .ok (.if_icmp .ge 40, 3) := by decide +kernel
theorem dX1_linkOf_24 : decode cX1_linkOf 24 = .ok (.aload_n 0, 1) := by decide +kernel
theorem dX1_linkOf_25 : decode cX1_linkOf 25 = .ok (.getfield 21, 3) := by decide +kernel
theorem dX1_linkOf_28 : decode cX1_linkOf 28 = .ok (.iload 6, 2) := by decide +kernel
theorem dX1_linkOf_30 : decode cX1_linkOf 30 = .ok (.invokestatic 63, 3) := by decide +kernel
theorem dX1_linkOf_33 : decode cX1_linkOf 33 = .ok (.iload_n 1, 1) := by decide +kernel
theorem dX1_linkOf_34 : decode cX1_linkOf 34 = .ok (.iload_n 2, 1) := by decide +kernel
theorem dX1_linkOf_35 : decode cX1_linkOf 35 = .ok (.invokestatic 98, 3) := by decide +kernel
theorem dX1_linkOf_38 : decode cX1_linkOf 38 = .ok (.if_icmp .ne 17, 3) := by decide +kernel
theorem dX1_linkOf_41 : decode cX1_linkOf 41 = .ok (.aload_n 0, 1) := by decide +kernel
theorem dX1_linkOf_42 : decode cX1_linkOf 42 = .ok (.getfield 27, 3) := by decide +kernel
theorem dX1_linkOf_45 : decode cX1_linkOf 45 = .ok (.iload 6, 2) := by decide +kernel
theorem dX1_linkOf_47 : decode cX1_linkOf 47 = .ok (.invokestatic 63, 3) := by decide +kernel
theorem dX1_linkOf_50 : decode cX1_linkOf 50 = .ok (.istore 4, 2) := by decide +kernel
theorem dX1_linkOf_52 : decode cX1_linkOf 52 = .ok (.iinc 5 1, 3) := by decide +kernel
theorem dX1_linkOf_55 : decode cX1_linkOf 55 = .ok (.iinc 6 1, 3) := by decide +kernel
theorem dX1_linkOf_58 : decode cX1_linkOf 58 = .ok (.goto (-49), 3) := by decide +kernel
theorem dX1_linkOf_61 : decode cX1_linkOf 61 = .ok (.iload 5, 2) := by decide +kernel
theorem dX1_linkOf_63 : decode cX1_linkOf 63 = .ok (.iload_n 3, 1) := by decide +kernel
theorem dX1_linkOf_64 : decode cX1_linkOf 64 = .ok (.if_icmp .ne 8, 3) := by decide +kernel
theorem dX1_linkOf_67 : decode cX1_linkOf 67 = .ok (.iload 4, 2) := by decide +kernel
theorem dX1_linkOf_69 : decode cX1_linkOf 69 = .ok (.goto 4, 3) := by decide +kernel
theorem dX1_linkOf_72 : decode cX1_linkOf 72 = .ok (.iconst (-1), 1) := by decide +kernel
theorem dX1_linkOf_73 : decode cX1_linkOf 73 = .ok (.ireturn, 1) := by decide +kernel
theorem dX1_timesAwake_0 : decode cX1_timesAwake 0 = .ok (.iconst 1, 1) := by decide +kernel
theorem dX1_timesAwake_1 : decode cX1_timesAwake 1 = .ok (.aload_n 0, 1) := by decide +kernel
theorem dX1_timesAwake_2 : decode cX1_timesAwake 2 = .ok (.aload_n 0, 1) := by decide +kernel
theorem dX1_timesAwake_3 : decode cX1_timesAwake 3 = .ok (.getfield 46, 3) := by decide +kernel
theorem dX1_timesAwake_6 : decode cX1_timesAwake 6 = .ok (.iload_n 1, 1) := by decide +kernel
theorem dX1_timesAwake_7 : decode cX1_timesAwake 7 = .ok (.iload_n 2, 1) := by decide +kernel
theorem dX1_timesAwake_8 : decode cX1_timesAwake 8 = .ok (.iload_n 2, 1) := by decide +kernel
theorem dX1_timesAwake_9 : decode cX1_timesAwake 9 = .ok (.invokevirtual 106, 3) := by decide +kernel
theorem dX1_timesAwake_12 : decode cX1_timesAwake 12 = .ok (.iadd, 1) := by decide +kernel
theorem dX1_timesAwake_13 : decode cX1_timesAwake 13 = .ok (.ireturn, 1) := by decide +kernel
theorem dX1_ageOf_0 : decode cX1_ageOf 0 = .ok (.aload_n 0, 1) := by decide +kernel
theorem dX1_ageOf_1 : decode cX1_ageOf 1 = .ok (.aload_n 0, 1) := by decide +kernel
theorem dX1_ageOf_2 : decode cX1_ageOf 2 = .ok (.getfield 46, 3) := by decide +kernel
theorem dX1_ageOf_5 : decode cX1_ageOf 5 = .ok (.iload_n 1, 1) := by decide +kernel
theorem dX1_ageOf_6 : decode cX1_ageOf 6 = .ok (.iload_n 2, 1) := by decide +kernel
theorem dX1_ageOf_7 : decode cX1_ageOf 7 = .ok (.invokevirtual 110, 3) := by decide +kernel
theorem dX1_ageOf_10 : decode cX1_ageOf 10 = .ok (.ireturn, 1) := by decide +kernel
theorem dX1_papersUpTo_0 : decode cX1_papersUpTo 0 = .ok (.iconst 0, 1) := by decide +kernel
theorem dX1_papersUpTo_1 : decode cX1_papersUpTo 1 = .ok (.istore_n 2, 1) := by decide +kernel
theorem dX1_papersUpTo_2 : decode cX1_papersUpTo 2 = .ok (.iload_n 2, 1) := by decide +kernel
theorem dX1_papersUpTo_3 : decode cX1_papersUpTo 3 = .ok (.aload_n 0, 1) := by decide +kernel
theorem dX1_papersUpTo_4 : decode cX1_papersUpTo 4 = .ok (.getfield 46, 3) := by decide +kernel
theorem dX1_papersUpTo_7 : decode cX1_papersUpTo 7 = .ok (.if_icmp .ge 28, 3) := by decide +kernel
theorem dX1_papersUpTo_10 : decode cX1_papersUpTo 10 = .ok (.aload_n 0, 1) := by decide +kernel
theorem dX1_papersUpTo_11 : decode cX1_papersUpTo 11 = .ok (.getfield 49, 3) := by decide +kernel
theorem dX1_papersUpTo_14 : decode cX1_papersUpTo 14 = .ok (.aload_n 0, 1) := by decide +kernel
theorem dX1_papersUpTo_15 : decode cX1_papersUpTo 15 = .ok (.getfield 18, 3) := by decide +kernel
theorem dX1_papersUpTo_18 : decode cX1_papersUpTo 18 = .ok (.iload_n 2, 1) := by decide +kernel
theorem dX1_papersUpTo_19 : decode cX1_papersUpTo 19 = .ok (.invokestatic 63, 3) := by decide +kernel
theorem dX1_papersUpTo_22 : decode cX1_papersUpTo 22 = .ok (.invokevirtual 113, 3) := by decide +kernel
theorem dX1_papersUpTo_25 : decode cX1_papersUpTo 25 = .ok (.iload_n 1, 1) := by decide +kernel
theorem dX1_papersUpTo_26 : decode cX1_papersUpTo 26 = .ok (.if_icmp .gt 9, 3) := by decide +kernel
theorem dX1_papersUpTo_29 : decode cX1_papersUpTo 29 = .ok (.iinc 2 1, 3) := by decide +kernel
theorem dX1_papersUpTo_32 : decode cX1_papersUpTo 32 = .ok (.goto (-30), 3) := by decide +kernel
theorem dX1_papersUpTo_35 : decode cX1_papersUpTo 35 = .ok (.iload_n 2, 1) := by decide +kernel
theorem dX1_papersUpTo_36 : decode cX1_papersUpTo 36 = .ok (.ireturn, 1) := by decide +kernel
theorem dX1_debt_0 : decode cX1_debt 0 = .ok (.aload_n 0, 1) := by decide +kernel
theorem dX1_debt_1 : decode cX1_debt 1 = .ok (.getfield 30, 3) := by decide +kernel
theorem dX1_debt_4 : decode cX1_debt 4 = .ok (.iload_n 1, 1) := by decide +kernel
theorem dX1_debt_5 : decode cX1_debt 5 = .ok (.iload_n 2, 1) := by decide +kernel
theorem dX1_debt_6 : decode cX1_debt 6 = .ok (.iload_n 3, 1) := by decide +kernel
theorem dX1_debt_7 : decode cX1_debt 7 = .ok (.invokestatic 116, 3) := by decide +kernel
theorem dX1_debt_10 : decode cX1_debt 10 = .ok (.invokestatic 63, 3) := by decide +kernel
theorem dX1_debt_13 : decode cX1_debt 13 = .ok (.ireturn, 1) := by decide +kernel
theorem dX1_owedBy_0 : decode cX1_owedBy 0 = .ok (.iconst 0, 1) := by decide +kernel
theorem dX1_owedBy_1 : decode cX1_owedBy 1 = .ok (.istore_n 3, 1) := by decide +kernel
theorem dX1_owedBy_2 : decode cX1_owedBy 2 = .ok (.iconst 0, 1) := by decide +kernel
theorem dX1_owedBy_3 : decode cX1_owedBy 3 = .ok (.istore 4, 2) := by decide +kernel
theorem dX1_owedBy_5 : decode cX1_owedBy 5 = .ok (.iload 4, 2) := by decide +kernel
theorem dX1_owedBy_7 : decode cX1_owedBy 7 = .ok (.bipush 8, 2) := by decide +kernel
theorem dX1_owedBy_9 : decode cX1_owedBy 9 = .ok (.if_icmp .ge 20, 3) := by decide +kernel
theorem dX1_owedBy_12 : decode cX1_owedBy 12 = .ok (.iload_n 3, 1) := by decide +kernel
theorem dX1_owedBy_13 : decode cX1_owedBy 13 = .ok (.aload_n 0, 1) := by decide +kernel
theorem dX1_owedBy_14 : decode cX1_owedBy 14 = .ok (.iload_n 1, 1) := by decide +kernel
theorem dX1_owedBy_15 : decode cX1_owedBy 15 = .ok (.iload_n 2, 1) := by decide +kernel
theorem dX1_owedBy_16 : decode cX1_owedBy 16 = .ok (.iload 4, 2) := by decide +kernel
theorem dX1_owedBy_18 : decode cX1_owedBy 18 = .ok (.invokevirtual 119, 3) := by decide +kernel
theorem dX1_owedBy_21 : decode cX1_owedBy 21 = .ok (.iadd, 1) := by decide +kernel
theorem dX1_owedBy_22 : decode cX1_owedBy 22 = .ok (.istore_n 3, 1) := by decide +kernel
theorem dX1_owedBy_23 : decode cX1_owedBy 23 = .ok (.iinc 4 1, 3) := by decide +kernel
theorem dX1_owedBy_26 : decode cX1_owedBy 26 = .ok (.goto (-21), 3) := by decide +kernel
theorem dX1_owedBy_29 : decode cX1_owedBy 29 = .ok (.iload_n 3, 1) := by decide +kernel
theorem dX1_owedBy_30 : decode cX1_owedBy 30 = .ok (.ireturn, 1) := by decide +kernel
theorem dX1_owedTo_0 : decode cX1_owedTo 0 = .ok (.iconst 0, 1) := by decide +kernel
theorem dX1_owedTo_1 : decode cX1_owedTo 1 = .ok (.istore_n 3, 1) := by decide +kernel
theorem dX1_owedTo_2 : decode cX1_owedTo 2 = .ok (.iconst 0, 1) := by decide +kernel
theorem dX1_owedTo_3 : decode cX1_owedTo 3 = .ok (.istore 4, 2) := by decide +kernel
theorem dX1_owedTo_5 : decode cX1_owedTo 5 = .ok (.iload 4, 2) := by decide +kernel
theorem dX1_owedTo_7 : decode cX1_owedTo 7 = .ok (.bipush 8, 2) := by decide +kernel
theorem dX1_owedTo_9 : decode cX1_owedTo 9 = .ok (.if_icmp .ge 20, 3) := by decide +kernel
theorem dX1_owedTo_12 : decode cX1_owedTo 12 = .ok (.iload_n 3, 1) := by decide +kernel
theorem dX1_owedTo_13 : decode cX1_owedTo 13 = .ok (.aload_n 0, 1) := by decide +kernel
theorem dX1_owedTo_14 : decode cX1_owedTo 14 = .ok (.iload_n 1, 1) := by decide +kernel
theorem dX1_owedTo_15 : decode cX1_owedTo 15 = .ok (.iload 4, 2) := by decide +kernel
theorem dX1_owedTo_17 : decode cX1_owedTo 17 = .ok (.iload_n 2, 1) := by decide +kernel
theorem dX1_owedTo_18 : decode cX1_owedTo 18 = .ok (.invokevirtual 119, 3) := by decide +kernel
theorem dX1_owedTo_21 : decode cX1_owedTo 21 = .ok (.iadd, 1) := by decide +kernel
theorem dX1_owedTo_22 : decode cX1_owedTo 22 = .ok (.istore_n 3, 1) := by decide +kernel
theorem dX1_owedTo_23 : decode cX1_owedTo 23 = .ok (.iinc 4 1, 3) := by decide +kernel
theorem dX1_owedTo_26 : decode cX1_owedTo 26 = .ok (.goto (-21), 3) := by decide +kernel
theorem dX1_owedTo_29 : decode cX1_owedTo 29 = .ok (.iload_n 3, 1) := by decide +kernel
theorem dX1_owedTo_30 : decode cX1_owedTo 30 = .ok (.ireturn, 1) := by decide +kernel
theorem dX1_firstRing_0 : decode cX1_firstRing 0 = .ok (.aload_n 0, 1) := by decide +kernel
theorem dX1_firstRing_1 : decode cX1_firstRing 1 = .ok (.getfield 53, 3) := by decide +kernel
theorem dX1_firstRing_4 : decode cX1_firstRing 4 = .ok (.aload_n 0, 1) := by decide +kernel
theorem dX1_firstRing_5 : decode cX1_firstRing 5 = .ok (.getfield 30, 3) := by decide +kernel
theorem dX1_firstRing_8 : decode cX1_firstRing 8 = .ok (.aload_n 0, 1) := by decide +kernel
theorem dX1_firstRing_9 : decode cX1_firstRing 9 = .ok (.iload_n 1, 1) := by decide +kernel
theorem dX1_firstRing_10 : decode cX1_firstRing 10 = .ok (.invokevirtual 122, 3) := by decide +kernel
theorem dX1_firstRing_13 : decode cX1_firstRing 13 = .ok (.bipush 64, 2) := by decide +kernel
theorem dX1_firstRing_15 : decode cX1_firstRing 15 = .ok (.imul, 1) := by decide +kernel
theorem dX1_firstRing_16 : decode cX1_firstRing 16 = .ok (.invokevirtual 125, 3) := by decide +kernel
theorem dX1_firstRing_19 : decode cX1_firstRing 19 = .ok (.aload_n 0, 1) := by decide +kernel
theorem dX1_firstRing_20 : decode cX1_firstRing 20 = .ok (.getfield 53, 3) := by decide +kernel
theorem dX1_firstRing_23 : decode cX1_firstRing 23 = .ok (.invokevirtual 131, 3) := by decide +kernel
theorem dX1_firstRing_26 : decode cX1_firstRing 26 = .ok (.pop, 1) := by decide +kernel
theorem dX1_firstRing_27 : decode cX1_firstRing 27 = .ok (.aload_n 0, 1) := by decide +kernel
theorem dX1_firstRing_28 : decode cX1_firstRing 28 = .ok (.getfield 53, 3) := by decide +kernel
theorem dX1_firstRing_31 : decode cX1_firstRing 31 = .ok (.areturn, 1) := by decide +kernel
theorem dX1_leftByMeeting_0 : decode cX1_leftByMeeting 0 = .ok (.aload_n 0, 1) := by decide +kernel
theorem dX1_leftByMeeting_1 : decode cX1_leftByMeeting 1 = .ok (.getfield 53, 3) := by decide +kernel
theorem dX1_leftByMeeting_4 : decode cX1_leftByMeeting 4 = .ok (.aload_n 0, 1) := by decide +kernel
theorem dX1_leftByMeeting_5 : decode cX1_leftByMeeting 5 = .ok (.getfield 30, 3) := by decide +kernel
theorem dX1_leftByMeeting_8 : decode cX1_leftByMeeting 8 = .ok (.aload_n 0, 1) := by decide +kernel
theorem dX1_leftByMeeting_9 : decode cX1_leftByMeeting 9 = .ok (.iload_n 1, 1) := by decide +kernel
theorem dX1_leftByMeeting_10 : decode cX1_leftByMeeting 10 = .ok (.invokevirtual 122, 3) := by decide +kernel
theorem dX1_leftByMeeting_13 : decode cX1_leftByMeeting 13 = .ok (.bipush 64, 2) := by decide +kernel
theorem dX1_leftByMeeting_15 : decode cX1_leftByMeeting 15 = .ok (.imul, 1) := by decide +kernel
theorem dX1_leftByMeeting_16 : decode cX1_leftByMeeting 16 = .ok (.invokevirtual 125, 3) := by decide +kernel
theorem dX1_leftByMeeting_19 : decode cX1_leftByMeeting 19 = .ok (.aload_n 0, 1) := by decide +kernel
theorem dX1_leftByMeeting_20 : decode cX1_leftByMeeting 20 = .ok (.getfield 53, 3) := by decide +kernel
theorem dX1_leftByMeeting_23 : decode cX1_leftByMeeting 23 = .ok (.invokevirtual 135, 3) := by decide +kernel
theorem dX1_leftByMeeting_26 : decode cX1_leftByMeeting 26 = .ok (.aload_n 0, 1) := by decide +kernel
theorem dX1_leftByMeeting_27 : decode cX1_leftByMeeting 27 = .ok (.getfield 53, 3) := by decide +kernel
theorem dX1_leftByMeeting_30 : decode cX1_leftByMeeting 30 = .ok (.invokevirtual 138, 3) := by decide +kernel
theorem dX1_leftByMeeting_33 : decode cX1_leftByMeeting 33 = .ok (.ireturn, 1) := by decide +kernel
theorem dX1_seenCounts_0 : decode cX1_seenCounts 0 = .ok (.aload_n 0, 1) := by decide +kernel
theorem dX1_seenCounts_1 : decode cX1_seenCounts 1 = .ok (.getfield 49, 3) := by decide +kernel
theorem dX1_seenCounts_4 : decode cX1_seenCounts 4 = .ok (.iload_n 1, 1) := by decide +kernel
theorem dX1_seenCounts_5 : decode cX1_seenCounts 5 = .ok (.invokevirtual 79, 3) := by decide +kernel
theorem dX1_seenCounts_8 : decode cX1_seenCounts 8 = .ok (.istore_n 2, 1) := by decide +kernel
theorem dX1_seenCounts_9 : decode cX1_seenCounts 9 = .ok (.iload_n 2, 1) := by decide +kernel
theorem dX1_seenCounts_10 : decode cX1_seenCounts 10 = .ok (.aload_n 0, 1) := by decide +kernel
theorem dX1_seenCounts_11 : decode cX1_seenCounts 11 = .ok (.getfield 49, 3) := by decide +kernel
theorem dX1_seenCounts_14 : decode cX1_seenCounts 14 = .ok (.iload_n 1, 1) := by decide +kernel
theorem dX1_seenCounts_15 : decode cX1_seenCounts 15 = .ok (.invokevirtual 84, 3) := by decide +kernel
theorem dX1_seenCounts_18 : decode cX1_seenCounts 18 = .ok (.if_icmp .eq 23, 3) := by decide +kernel
theorem dX1_seenCounts_21 : decode cX1_seenCounts 21 = .ok (.aload_n 0, 1) := by decide +kernel
theorem dX1_seenCounts_22 : decode cX1_seenCounts 22 = .ok (.iload_n 2, 1) := by decide +kernel
theorem dX1_seenCounts_23 : decode cX1_seenCounts 23 = .ok (.aload_n 0, 1) := by decide +kernel
theorem dX1_seenCounts_24 : decode cX1_seenCounts 24 = .ok (.getfield 49, 3) := by decide +kernel
theorem dX1_seenCounts_27 : decode cX1_seenCounts 27 = .ok (.iload_n 1, 1) := by decide +kernel
theorem dX1_seenCounts_28 : decode cX1_seenCounts 28 = .ok (.invokevirtual 142, 3) := by decide +kernel
theorem dX1_seenCounts_31 : decode cX1_seenCounts 31 = .ok (.invokevirtual 145, 3) := by decide +kernel
theorem dX1_seenCounts_34 : decode cX1_seenCounts 34 = .ok (.ifCond .le 7, 3) := by decide +kernel
theorem dX1_seenCounts_37 : decode cX1_seenCounts 37 = .ok (.iconst 1, 1) := by decide +kernel
theorem dX1_seenCounts_38 : decode cX1_seenCounts 38 = .ok (.goto 4, 3) := by decide +kernel
theorem dX1_seenCounts_41 : decode cX1_seenCounts 41 = .ok (.iconst 0, 1) := by decide +kernel
theorem dX1_seenCounts_42 : decode cX1_seenCounts 42 = .ok (.ireturn, 1) := by decide +kernel
theorem dX1_doerOf_0 : decode cX1_doerOf 0 = .ok (.aload_n 0, 1) := by decide +kernel
theorem dX1_doerOf_1 : decode cX1_doerOf 1 = .ok (.iload_n 1, 1) := by decide +kernel
theorem dX1_doerOf_2 : decode cX1_doerOf 2 = .ok (.iload_n 2, 1) := by decide +kernel
theorem dX1_doerOf_3 : decode cX1_doerOf 3 = .ok (.invokevirtual 148, 3) := by decide +kernel
theorem dX1_doerOf_6 : decode cX1_doerOf 6 = .ok (.iconst 0, 1) := by decide +kernel
theorem dX1_doerOf_7 : decode cX1_doerOf 7 = .ok (.istore_n 3, 1) := by decide +kernel
theorem dX1_doerOf_8 : decode cX1_doerOf 8 = .ok (.iconst (-1), 1) := by decide +kernel
theorem dX1_doerOf_9 : decode cX1_doerOf 9 = .ok (.istore 4, 2) := by decide +kernel
theorem dX1_doerOf_11 : decode cX1_doerOf 11 = .ok (.iconst 0, 1) := by decide +kernel
theorem dX1_doerOf_12 : decode cX1_doerOf 12 = .ok (.istore 5, 2) := by decide +kernel
theorem dX1_doerOf_14 : decode cX1_doerOf 14 = .ok (.iload 5, 2) := by decide +kernel
theorem dX1_doerOf_16 : decode cX1_doerOf 16 = .ok (.bipush 8, 2) := by decide +kernel
theorem dX1_doerOf_18 : decode cX1_doerOf 18 = .ok (.if_icmp .ge 58, 3) := by decide +kernel
theorem dX1_doerOf_21 : decode cX1_doerOf 21 = .ok (.aload_n 0, 1) := by decide +kernel
theorem dX1_doerOf_22 : decode cX1_doerOf 22 = .ok (.getfield 36, 3) := by decide +kernel
theorem dX1_doerOf_25 : decode cX1_doerOf 25 = .ok (.iload 5, 2) := by decide +kernel
theorem dX1_doerOf_27 : decode cX1_doerOf 27 = .ok (.invokestatic 63, 3) := by decide +kernel
theorem dX1_doerOf_30 : decode cX1_doerOf 30 = .ok (.istore 6, 2) := by decide +kernel
theorem dX1_doerOf_32 : decode cX1_doerOf 32 = .ok (.iload 6, 2) := by decide +kernel
theorem dX1_doerOf_34 : decode cX1_doerOf 34 = .ok (.ifCond .le 36, 3) := by decide +kernel
theorem dX1_doerOf_37 : decode cX1_doerOf 37 = .ok (.iload 6, 2) := by decide +kernel
theorem dX1_doerOf_39 : decode cX1_doerOf 39 = .ok (.iload_n 3, 1) := by decide +kernel
theorem dX1_doerOf_40 : decode cX1_doerOf 40 = .ok (.if_icmp .lt 30, 3) := by decide +kernel
theorem dX1_doerOf_43 : decode cX1_doerOf 43 = .ok (.aload_n 0, 1) := by decide +kernel
theorem dX1_doerOf_44 : decode cX1_doerOf 44 = .ok (.iload 5, 2) := by decide +kernel
theorem dX1_doerOf_46 : decode cX1_doerOf 46 = .ok (.iload_n 2, 1) := by decide +kernel
theorem dX1_doerOf_47 : decode cX1_doerOf 47 = .ok (.invokevirtual 145, 3) := by decide +kernel
theorem dX1_doerOf_50 : decode cX1_doerOf 50 = .ok (.ifCond .le 20, 3) := by decide +kernel
theorem dX1_doerOf_53 : decode cX1_doerOf 53 = .ok (.iload 6, 2) := by decide +kernel
theorem dX1_doerOf_55 : decode cX1_doerOf 55 = .ok (.iload_n 3, 1) := by decide +kernel
theorem dX1_doerOf_56 : decode cX1_doerOf 56 = .ok (.if_icmp .ne 7, 3) := by decide +kernel
theorem dX1_doerOf_59 : decode cX1_doerOf 59 = .ok (.iconst (-1), 1) := by decide +kernel
theorem dX1_doerOf_60 : decode cX1_doerOf 60 = .ok (.goto 5, 3) := by decide +kernel
theorem dX1_doerOf_63 : decode cX1_doerOf 63 = .ok (.iload 5, 2) := by decide +kernel
theorem dX1_doerOf_65 : decode cX1_doerOf 65 = .ok (.istore 4, 2) := by decide +kernel
theorem dX1_doerOf_67 : decode cX1_doerOf 67 = .ok (.iload 6, 2) := by decide +kernel
theorem dX1_doerOf_69 : decode cX1_doerOf 69 = .ok (.istore_n 3, 1) := by decide +kernel
theorem dX1_doerOf_70 : decode cX1_doerOf 70 = .ok (.iinc 5 1, 3) := by decide +kernel
theorem dX1_doerOf_73 : decode cX1_doerOf 73 = .ok (.goto (-59), 3) := by decide +kernel
theorem dX1_doerOf_76 : decode cX1_doerOf 76 = .ok (.iload 4, 2) := by decide +kernel
theorem dX1_doerOf_78 : decode cX1_doerOf 78 = .ok (.ireturn, 1) := by decide +kernel
theorem dX1_countVotes_0 : decode cX1_countVotes 0 = .ok (.aload_n 0, 1) := by decide +kernel
theorem dX1_countVotes_1 : decode cX1_countVotes 1 = .ok (.getfield 36, 3) := by decide +kernel
theorem dX1_countVotes_4 : decode cX1_countVotes 4 = .ok (.iconst 0, 1) := by decide +kernel
theorem dX1_countVotes_5 : decode cX1_countVotes 5 = .ok (.invokestatic 152, 3) := by decide +kernel
theorem dX1_countVotes_8 : decode cX1_countVotes 8 = .ok (.iconst 0, 1) := by decide +kernel
theorem dX1_countVotes_9 : decode cX1_countVotes 9 = .ok (.istore_n 3, 1) := by decide +kernel
theorem dX1_countVotes_10 : decode cX1_countVotes 10 = .ok (.iload_n 3, 1) := by decide +kernel
theorem dX1_countVotes_11 : decode cX1_countVotes 11 = .ok (.bipush 8, 2) := by decide +kernel
theorem dX1_countVotes_13 : decode cX1_countVotes 13 = .ok (.if_icmp .ge 64, 3) := by decide +kernel
theorem dX1_countVotes_16 : decode cX1_countVotes 16 = .ok (.aload_n 0, 1) := by decide +kernel
theorem dX1_countVotes_17 : decode cX1_countVotes 17 = .ok (.iload_n 3, 1) := by decide +kernel
theorem dX1_countVotes_18 : decode cX1_countVotes 18 = .ok (.iload_n 1, 1) := by decide +kernel
theorem dX1_countVotes_19 : decode cX1_countVotes 19 = .ok (.iload_n 2, 1) := by decide +kernel
theorem dX1_countVotes_20 : decode cX1_countVotes 20 = .ok (.invokevirtual 157, 3) := by decide +kernel
theorem dX1_countVotes_23 : decode cX1_countVotes 23 = .ok (.istore 4, 2) := by decide +kernel
theorem dX1_countVotes_25 : decode cX1_countVotes 25 = .ok (.iload 4, 2) := by decide +kernel
theorem dX1_countVotes_27 : decode cX1_countVotes 27 = .ok (.iconst (-1), 1) := by decide +kernel
theorem dX1_countVotes_28 : decode cX1_countVotes 28 = .ok (.if_icmp .eq 43, 3) := by decide +kernel
theorem dX1_countVotes_31 : decode cX1_countVotes 31 = .ok (.aload_n 0, 1) := by decide +kernel
theorem dX1_countVotes_32 : decode cX1_countVotes 32 = .ok (.iload 4, 2) := by decide +kernel
theorem dX1_countVotes_34 : decode cX1_countVotes 34 = .ok (.invokevirtual 160, 3) := by decide +kernel
theorem dX1_countVotes_37 : decode cX1_countVotes 37 = .ok (.ifCond .eq 34, 3) := by decide +kernel
theorem dX1_countVotes_40 : decode cX1_countVotes 40 = .ok (.aload_n 0, 1) := by decide +kernel
theorem dX1_countVotes_41 : decode cX1_countVotes 41 = .ok (.getfield 49, 3) := by decide +kernel
theorem dX1_countVotes_44 : decode cX1_countVotes 44 = .ok (.iload 4, 2) := by decide +kernel
theorem dX1_countVotes_46 : decode cX1_countVotes 46 = .ok (.invokevirtual 84, 3) := by decide +kernel
theorem dX1_countVotes_49 : decode cX1_countVotes 49 = .ok (.istore 5, 2) := by decide +kernel
theorem dX1_countVotes_51 : decode cX1_countVotes 51 = .ok (.aload_n 0, 1) := by decide +kernel
theorem dX1_countVotes_52 : decode cX1_countVotes 52 = .ok (.getfield 36, 3) := by decide +kernel
theorem dX1_countVotes_55 : decode cX1_countVotes 55 = .ok (.iload 5, 2) := by decide +kernel
theorem dX1_countVotes_57 : decode cX1_countVotes 57 = .ok (.aload_n 0, 1) := by decide +kernel
theorem dX1_countVotes_58 : decode cX1_countVotes 58 = .ok (.getfield 36, 3) := by decide +kernel
theorem dX1_countVotes_61 : decode cX1_countVotes 61 = .ok (.iload 5, 2) := by decide +kernel
theorem dX1_countVotes_63 : decode cX1_countVotes 63 = .ok (.invokestatic 63, 3) := by decide +kernel
theorem dX1_countVotes_66 : decode cX1_countVotes 66 = .ok (.iconst 1, 1) := by decide +kernel
theorem dX1_countVotes_67 : decode cX1_countVotes 67 = .ok (.iadd, 1) := by decide +kernel
theorem dX1_countVotes_68 : decode cX1_countVotes 68 = .ok (.invokestatic 71, 3) := by decide +kernel
theorem dX1_countVotes_71 : decode cX1_countVotes 71 = .ok (.iinc 3 1, 3) := by decide +kernel
theorem dX1_countVotes_74 : decode cX1_countVotes 74 = .ok (.goto (-64), 3) := by decide +kernel
theorem dX1_countVotes_77 : decode cX1_countVotes 77 = .ok (.return_, 1) := by decide +kernel
theorem dX1_lastSaid_0 : decode cX1_lastSaid 0 = .ok (.aload_n 0, 1) := by decide +kernel
theorem dX1_lastSaid_1 : decode cX1_lastSaid 1 = .ok (.getfield 39, 3) := by decide +kernel
theorem dX1_lastSaid_4 : decode cX1_lastSaid 4 = .ok (.iconst 1, 1) := by decide +kernel
theorem dX1_lastSaid_5 : decode cX1_lastSaid 5 = .ok (.isub, 1) := by decide +kernel
theorem dX1_lastSaid_6 : decode cX1_lastSaid 6 = .ok (.istore 4, 2) := by decide +kernel
theorem dX1_lastSaid_8 : decode cX1_lastSaid 8 = .ok (.iload 4, 2) := by decide +kernel
theorem dX1_lastSaid_10 : decode cX1_lastSaid 10 = .ok (.ifCond .lt 64, 3) := by decide +kernel
theorem dX1_lastSaid_13 : decode cX1_lastSaid 13 = .ok (.aload_n 0, 1) := by decide +kernel
theorem dX1_lastSaid_14 : decode cX1_lastSaid 14 = .ok (.getfield 49, 3) := by decide +kernel
theorem dX1_lastSaid_17 : decode cX1_lastSaid 17 = .ok (.iload 4, 2) := by decide +kernel
theorem dX1_lastSaid_19 : decode cX1_lastSaid 19 = .ok (.invokevirtual 164, 3) := by decide +kernel
theorem dX1_lastSaid_22 : decode cX1_lastSaid 22 = .ok (.iconst 5, 1) := by decide +kernel
theorem dX1_lastSaid_23 : decode cX1_lastSaid 23 = .ok (.if_icmp .ne 45, 3) := by decide +kernel
theorem dX1_lastSaid_26 : decode cX1_lastSaid 26 = .ok (.aload_n 0, 1) := by decide +kernel
theorem dX1_lastSaid_27 : decode cX1_lastSaid 27 = .ok (.getfield 49, 3) := by decide +kernel
theorem dX1_lastSaid_30 : decode cX1_lastSaid 30 = .ok (.iload 4, 2) := by decide +kernel
theorem dX1_lastSaid_32 : decode cX1_lastSaid 32 = .ok (.invokevirtual 79, 3) := by decide +kernel
theorem dX1_lastSaid_35 : decode cX1_lastSaid 35 = .ok (.iload_n 1, 1) := by decide +kernel
theorem dX1_lastSaid_36 : decode cX1_lastSaid 36 = .ok (.if_icmp .ne 32, 3) := by decide +kernel
theorem dX1_lastSaid_39 : decode cX1_lastSaid 39 = .ok (.aload_n 0, 1) := by decide +kernel
theorem dX1_lastSaid_40 : decode cX1_lastSaid 40 = .ok (.getfield 49, 3) := by decide +kernel
theorem dX1_lastSaid_43 : decode cX1_lastSaid 43 = .ok (.iload 4, 2) := by decide +kernel
theorem dX1_lastSaid_45 : decode cX1_lastSaid 45 = .ok (.invokevirtual 167, 3) := by decide +kernel
theorem dX1_lastSaid_48 : decode cX1_lastSaid 48 = .ok (.iload_n 2, 1) := by decide +kernel
theorem dX1_lastSaid_49 : decode cX1_lastSaid 49 = .ok (.if_icmp .ne 19, 3) := by decide +kernel
theorem dX1_lastSaid_52 : decode cX1_lastSaid 52 = .ok (.aload_n 0, 1) := by decide +kernel
theorem dX1_lastSaid_53 : decode cX1_lastSaid 53 = .ok (.getfield 49, 3) := by decide +kernel
theorem dX1_lastSaid_56 : decode cX1_lastSaid 56 = .ok (.iload 4, 2) := by decide +kernel
theorem dX1_lastSaid_58 : decode cX1_lastSaid 58 = .ok (.invokevirtual 142, 3) := by decide +kernel
theorem dX1_lastSaid_61 : decode cX1_lastSaid 61 = .ok (.iload_n 3, 1) := by decide +kernel
theorem dX1_lastSaid_62 : decode cX1_lastSaid 62 = .ok (.if_icmp .ne 6, 3) := by decide +kernel
theorem dX1_lastSaid_65 : decode cX1_lastSaid 65 = .ok (.iload 4, 2) := by decide +kernel
theorem dX1_lastSaid_67 : decode cX1_lastSaid 67 = .ok (.ireturn, 1) := by decide +kernel
theorem dX1_lastSaid_68 : decode cX1_lastSaid 68 = .ok (.iinc 4 (-1), 3) := by decide +kernel
theorem dX1_lastSaid_71 : decode cX1_lastSaid 71 = .ok (.goto (-63), 3) := by decide +kernel
theorem dX1_lastSaid_74 : decode cX1_lastSaid 74 = .ok (.iconst (-1), 1) := by decide +kernel
theorem dX1_lastSaid_75 : decode cX1_lastSaid 75 = .ok (.ireturn, 1) := by decide +kernel
theorem dX1_arrange_0 : decode cX1_arrange 0 = .ok (.aload_n 0, 1) := by decide +kernel
theorem dX1_arrange_1 : decode cX1_arrange 1 = .ok (.iconst 0, 1) := by decide +kernel
theorem dX1_arrange_2 : decode cX1_arrange 2 = .ok (.putfield 46, 3) := by decide +kernel
theorem dX1_arrange_5 : decode cX1_arrange 5 = .ok (.iconst 0, 1) := by decide +kernel
theorem dX1_arrange_6 : decode cX1_arrange 6 = .ok (.istore_n 1, 1) := by decide +kernel
theorem dX1_arrange_7 : decode cX1_arrange 7 = .ok (.iload_n 1, 1) := by decide +kernel
theorem dX1_arrange_8 : decode cX1_arrange 8 = .ok (.aload_n 0, 1) := by decide +kernel
theorem dX1_arrange_9 : decode cX1_arrange 9 = .ok (.getfield 39, 3) := by decide +kernel
theorem dX1_arrange_12 : decode cX1_arrange 12 = .ok (.if_icmp .ge 100, 3) := by decide +kernel
theorem dX1_arrange_15 : decode cX1_arrange 15 = .ok (.aload_n 0, 1) := by decide +kernel
theorem dX1_arrange_16 : decode cX1_arrange 16 = .ok (.getfield 49, 3) := by decide +kernel
theorem dX1_arrange_19 : decode cX1_arrange 19 = .ok (.iload_n 1, 1) := by decide +kernel
theorem dX1_arrange_20 : decode cX1_arrange 20 = .ok (.invokevirtual 170, 3) := by decide +kernel
theorem dX1_arrange_23 : decode cX1_arrange 23 = .ok (.ifCond .eq 83, 3) := by decide +kernel
theorem dX1_arrange_26 : decode cX1_arrange 26 = .ok (.aload_n 0, 1) := by decide +kernel
theorem dX1_arrange_27 : decode cX1_arrange 27 = .ok (.getfield 46, 3) := by decide +kernel
theorem dX1_arrange_30 : decode cX1_arrange 30 = .ok (.istore_n 2, 1) := by decide +kernel
theorem dX1_arrange_31 : decode cX1_arrange 31 = .ok (.iload_n 2, 1) := by decide +kernel
theorem dX1_arrange_32 : decode cX1_arrange 32 = .ok (.ifCond .le 55, 3) := by decide +kernel
theorem dX1_arrange_35 : decode cX1_arrange 35 = .ok (.aload_n 0, 1) := by decide +kernel
theorem dX1_arrange_36 : decode cX1_arrange 36 = .ok (.getfield 49, 3) := by decide +kernel
theorem dX1_arrange_39 : decode cX1_arrange 39 = .ok (.aload_n 0, 1) := by decide +kernel
theorem dX1_arrange_40 : decode cX1_arrange 40 = .ok (.getfield 18, 3) := by decide +kernel
theorem dX1_arrange_43 : decode cX1_arrange 43 = .ok (.iload_n 2, 1) := by decide +kernel
theorem dX1_arrange_44 : decode cX1_arrange 44 = .ok (.iconst 1, 1) := by decide +kernel
theorem dX1_arrange_45 : decode cX1_arrange 45 = .ok (.isub, 1) := by decide +kernel
theorem dX1_arrange_46 : decode cX1_arrange 46 = .ok (.invokestatic 63, 3) := by decide +kernel
theorem dX1_arrange_49 : decode cX1_arrange 49 = .ok (.invokevirtual 113, 3) := by decide +kernel
theorem dX1_arrange_52 : decode cX1_arrange 52 = .ok (.aload_n 0, 1) := by decide +kernel
theorem dX1_arrange_53 : decode cX1_arrange 53 = .ok (.getfield 49, 3) := by decide +kernel
theorem dX1_arrange_56 : decode cX1_arrange 56 = .ok (.iload_n 1, 1) := by decide +kernel
theorem dX1_arrange_57 : decode cX1_arrange 57 = .ok (.invokevirtual 113, 3) := by decide +kernel
theorem dX1_arrange_60 : decode cX1_arrange 60 = .ok (.if_icmp .le 27, 3) := by decide +kernel
theorem dX1_arrange_63 : decode cX1_arrange 63 = .ok (.aload_n 0, 1) := by decide +kernel
theorem dX1_arrange_64 : decode cX1_arrange 64 = .ok (.getfield 18, 3) := by decide +kernel
theorem dX1_arrange_67 : decode cX1_arrange 67 = .ok (.iload_n 2, 1) := by decide +kernel
theorem dX1_arrange_68 : decode cX1_arrange 68 = .ok (.aload_n 0, 1) := by decide +kernel
theorem dX1_arrange_69 : decode cX1_arrange 69 = .ok (.getfield 18, 3) := by decide +kernel
theorem dX1_arrange_72 : decode cX1_arrange 72 = .ok (.iload_n 2, 1) := by decide +kernel
theorem dX1_arrange_73 : decode cX1_arrange 73 = .ok (.iconst 1, 1) := by decide +kernel
theorem dX1_arrange_74 : decode cX1_arrange 74 = .ok (.isub, 1) := by decide +kernel
theorem dX1_arrange_75 : decode cX1_arrange 75 = .ok (.invokestatic 63, 3) := by decide +kernel
theorem dX1_arrange_78 : decode cX1_arrange 78 = .ok (.invokestatic 71, 3) := by decide +kernel
theorem dX1_arrange_81 : decode cX1_arrange 81 = .ok (.iinc 2 (-1), 3) := by decide +kernel
theorem dX1_arrange_84 : decode cX1_arrange 84 = .ok (.goto (-53), 3) := by decide +kernel
theorem dX1_arrange_87 : decode cX1_arrange 87 = .ok (.aload_n 0, 1) := by decide +kernel
theorem dX1_arrange_88 : decode cX1_arrange 88 = .ok (.getfield 18, 3) := by decide +kernel
theorem dX1_arrange_91 : decode cX1_arrange 91 = .ok (.iload_n 2, 1) := by decide +kernel
theorem dX1_arrange_92 : decode cX1_arrange 92 = .ok (.iload_n 1, 1) := by decide +kernel
theorem dX1_arrange_93 : decode cX1_arrange 93 = .ok (.invokestatic 71, 3) := by decide +kernel
theorem dX1_arrange_96 : decode cX1_arrange 96 = .ok (.aload_n 0, 1) := by decide +kernel
theorem dX1_arrange_97 : decode cX1_arrange 97 = .ok (.dup, 1) := by decide +kernel
theorem dX1_arrange_98 : decode cX1_arrange 98 = .ok (.getfield 46, 3) := by decide +kernel
theorem dX1_arrange_101 : decode cX1_arrange 101 = .ok (.iconst 1, 1) := by decide +kernel
theorem dX1_arrange_102 : decode cX1_arrange 102 = .ok (.iadd, 1) := by decide +kernel
theorem dX1_arrange_103 : decode cX1_arrange 103 = .ok (.putfield 46, 3) := by decide +kernel
theorem dX1_arrange_106 : decode cX1_arrange 106 = .ok (.iinc 1 1, 3) := by decide +kernel
theorem dX1_arrange_109 : decode cX1_arrange 109 = .ok (.goto (-102), 3) := by decide +kernel
theorem dX1_arrange_112 : decode cX1_arrange 112 = .ok (.return_, 1) := by decide +kernel
theorem dX1_markForged_0 : decode cX1_markForged 0 = .ok (.aload_n 0, 1) := by decide +kernel
theorem dX1_markForged_1 : decode cX1_markForged 1 = .ok (.getfield 9, 3) := by decide +kernel
theorem dX1_markForged_4 : decode cX1_markForged 4 = .ok (.iconst 0, 1) := by decide +kernel
theorem dX1_markForged_5 : decode cX1_markForged 5 = .ok (.invokestatic 152, 3) := by decide +kernel
theorem dX1_markForged_8 : decode cX1_markForged 8 = .ok (.iconst 0, 1) := by decide +kernel
theorem dX1_markForged_9 : decode cX1_markForged 9 = .ok (.istore_n 1, 1) := by decide +kernel
theorem dX1_markForged_10 : decode cX1_markForged 10 = .ok (.iload_n 1, 1) := by decide +kernel
theorem dX1_markForged_11 : decode cX1_markForged 11 = .ok (.aload_n 0, 1) := by decide +kernel
theorem dX1_markForged_12 : decode cX1_markForged 12 = .ok (.getfield 39, 3) := by decide +kernel
theorem dX1_markForged_15 : decode cX1_markForged 15 = .ok (.if_icmp .ge 37, 3) := by decide +kernel
theorem dX1_markForged_18 : decode cX1_markForged 18 = .ok (.aload_n 0, 1) := by decide +kernel
theorem dX1_markForged_19 : decode cX1_markForged 19 = .ok (.getfield 49, 3) := by decide +kernel
theorem dX1_markForged_22 : decode cX1_markForged 22 = .ok (.iload_n 1, 1) := by decide +kernel
theorem dX1_markForged_23 : decode cX1_markForged 23 = .ok (.invokevirtual 164, 3) := by decide +kernel
theorem dX1_markForged_26 : decode cX1_markForged 26 = .ok (.iconst 3, 1) := by decide +kernel
theorem dX1_markForged_27 : decode cX1_markForged 27 = .ok (.if_icmp .ne 19, 3) := by decide +kernel
theorem dX1_markForged_30 : decode cX1_markForged 30 = .ok (.aload_n 0, 1) := by decide +kernel
theorem dX1_markForged_31 : decode cX1_markForged 31 = .ok (.getfield 9, 3) := by decide +kernel
theorem dX1_markForged_34 : decode cX1_markForged 34 = .ok (.aload_n 0, 1) := by decide +kernel
theorem dX1_markForged_35 : decode cX1_markForged 35 = .ok (.getfield 49, 3) := by decide +kernel
theorem dX1_markForged_38 : decode cX1_markForged 38 = .ok (.iload_n 1, 1) := by decide +kernel
theorem dX1_markForged_39 : decode cX1_markForged 39 = .ok (.invokevirtual 167, 3) := by decide +kernel
theorem dX1_markForged_42 : decode cX1_markForged 42 = .ok (.iconst 1, 1) := by decide +kernel
theorem dX1_markForged_43 : decode cX1_markForged 43 = .ok (.invokestatic 71, 3) := by decide +kernel
theorem dX1_markForged_46 : decode cX1_markForged 46 = .ok (.iinc 1 1, 3) := by decide +kernel
theorem dX1_markForged_49 : decode cX1_markForged 49 = .ok (.goto (-39), 3) := by decide +kernel
theorem dX1_markForged_52 : decode cX1_markForged 52 = .ok (.return_, 1) := by decide +kernel
theorem dX1_copyDebts_0 : decode cX1_copyDebts 0 = .ok (.iload_n 1, 1) := by decide +kernel
theorem dX1_copyDebts_1 : decode cX1_copyDebts 1 = .ok (.ifCond .lt 32, 3) := by decide +kernel
theorem dX1_copyDebts_4 : decode cX1_copyDebts 4 = .ok (.iload_n 1, 1) := by decide +kernel
theorem dX1_copyDebts_5 : decode cX1_copyDebts 5 = .ok (.bipush 120, 2) := by decide +kernel
theorem dX1_copyDebts_7 : decode cX1_copyDebts 7 = .ok (.if_icmp .ge 26, 3) := by decide +kernel
theorem dX1_copyDebts_10 : decode cX1_copyDebts 10 = .ok (.aload_n 0, 1) := by decide +kernel
theorem dX1_copyDebts_11 : decode cX1_copyDebts 11 = .ok (.getfield 30, 3) := by decide +kernel
theorem dX1_copyDebts_14 : decode cX1_copyDebts 14 = .ok (.iload_n 1, 1) := by decide +kernel
theorem dX1_copyDebts_15 : decode cX1_copyDebts 15 = .ok (.bipush 64, 2) := by decide +kernel
theorem dX1_copyDebts_17 : decode cX1_copyDebts 17 = .ok (.imul, 1) := by decide +kernel
theorem dX1_copyDebts_18 : decode cX1_copyDebts 18 = .ok (.aload_n 0, 1) := by decide +kernel
theorem dX1_copyDebts_19 : decode cX1_copyDebts 19 = .ok (.getfield 30, 3) := by decide +kernel
theorem dX1_copyDebts_22 : decode cX1_copyDebts 22 = .ok (.iload_n 1, 1) := by decide +kernel
theorem dX1_copyDebts_23 : decode cX1_copyDebts 23 = .ok (.iconst 1, 1) := by decide +kernel
theorem dX1_copyDebts_24 : decode cX1_copyDebts 24 = .ok (.iadd, 1) := by decide +kernel
theorem dX1_copyDebts_25 : decode cX1_copyDebts 25 = .ok (.bipush 64, 2) := by decide +kernel
theorem dX1_copyDebts_27 : decode cX1_copyDebts 27 = .ok (.imul, 1) := by decide +kernel
theorem dX1_copyDebts_28 : decode cX1_copyDebts 28 = .ok (.bipush 64, 2) := by decide +kernel
theorem dX1_copyDebts_30 : decode cX1_copyDebts 30 = .ok (.invokestatic 173, 3) := by decide +kernel
theorem dX1_copyDebts_33 : decode cX1_copyDebts 33 = .ok (.return_, 1) := by decide +kernel
theorem dX1_whyVoid_0 : decode cX1_whyVoid 0 = .ok (.aload_n 0, 1) := by decide +kernel
theorem dX1_whyVoid_1 : decode cX1_whyVoid 1 = .ok (.iload_n 2, 1) := by decide +kernel
theorem dX1_whyVoid_2 : decode cX1_whyVoid 2 = .ok (.invokevirtual 95, 3) := by decide +kernel
theorem dX1_whyVoid_5 : decode cX1_whyVoid 5 = .ok (.iconst 1, 1) := by decide +kernel
theorem dX1_whyVoid_6 : decode cX1_whyVoid 6 = .ok (.if_icmp .ne 5, 3) := by decide +kernel
theorem dX1_whyVoid_9 : decode cX1_whyVoid 9 = .ok (.iconst 1, 1) := by decide +kernel
theorem dX1_whyVoid_10 : decode cX1_whyVoid 10 = .ok (.ireturn, 1) := by decide +kernel
theorem dX1_whyVoid_11 : decode cX1_whyVoid 11 = .ok (.aload_n 0, 1) := by decide +kernel
theorem dX1_whyVoid_12 : decode cX1_whyVoid 12 = .ok (.getfield 49, 3) := by decide +kernel
theorem dX1_whyVoid_15 : decode cX1_whyVoid 15 = .ok (.iload_n 2, 1) := by decide +kernel
theorem dX1_whyVoid_16 : decode cX1_whyVoid 16 = .ok (.invokevirtual 164, 3) := by decide +kernel
theorem dX1_whyVoid_19 : decode cX1_whyVoid 19 = .ok (.iconst 2, 1) := by decide +kernel
theorem dX1_whyVoid_20 : decode cX1_whyVoid 20 = .ok (.if_icmp .ne 5, 3) := by decide +kernel
theorem dX1_whyVoid_23 : decode cX1_whyVoid 23 = .ok (.iconst 0, 1) := by decide +kernel
theorem dX1_whyVoid_24 : decode cX1_whyVoid 24 = .ok (.ireturn, 1) := by decide +kernel
theorem dX1_whyVoid_25 : decode cX1_whyVoid 25 = .ok (.aload_n 0, 1) := by decide +kernel
theorem dX1_whyVoid_26 : decode cX1_whyVoid 26 = .ok (.iload_n 1, 1) := by decide +kernel
theorem dX1_whyVoid_27 : decode cX1_whyVoid 27 = .ok (.aload_n 0, 1) := by decide +kernel
theorem dX1_whyVoid_28 : decode cX1_whyVoid 28 = .ok (.iload_n 2, 1) := by decide +kernel
theorem dX1_whyVoid_29 : decode cX1_whyVoid 29 = .ok (.invokevirtual 75, 3) := by decide +kernel
theorem dX1_whyVoid_32 : decode cX1_whyVoid 32 = .ok (.aload_n 0, 1) := by decide +kernel
theorem dX1_whyVoid_33 : decode cX1_whyVoid 33 = .ok (.getfield 49, 3) := by decide +kernel
theorem dX1_whyVoid_36 : decode cX1_whyVoid 36 = .ok (.iload_n 2, 1) := by decide +kernel
theorem dX1_whyVoid_37 : decode cX1_whyVoid 37 = .ok (.invokevirtual 167, 3) := by decide +kernel
theorem dX1_whyVoid_40 : decode cX1_whyVoid 40 = .ok (.invokevirtual 102, 3) := by decide +kernel
theorem dX1_whyVoid_43 : decode cX1_whyVoid 43 = .ok (.aload_n 0, 1) := by decide +kernel
theorem dX1_whyVoid_44 : decode cX1_whyVoid 44 = .ok (.getfield 49, 3) := by decide +kernel
theorem dX1_whyVoid_47 : decode cX1_whyVoid 47 = .ok (.iload_n 2, 1) := by decide +kernel
theorem dX1_whyVoid_48 : decode cX1_whyVoid 48 = .ok (.invokevirtual 79, 3) := by decide +kernel
theorem dX1_whyVoid_51 : decode cX1_whyVoid 51 = .ok (.if_icmp .eq 5, 3) := by decide +kernel
theorem dX1_whyVoid_54 : decode cX1_whyVoid 54 = .ok (.iconst 2, 1) := by decide +kernel
theorem dX1_whyVoid_55 : decode cX1_whyVoid 55 = .ok (.ireturn, 1) := by decide +kernel
theorem dX1_whyVoid_56 : decode cX1_whyVoid 56 = .ok (.aload_n 0, 1) := by decide +kernel
theorem dX1_whyVoid_57 : decode cX1_whyVoid 57 = .ok (.getfield 49, 3) := by decide +kernel
theorem dX1_whyVoid_60 : decode cX1_whyVoid 60 = .ok (.iload_n 2, 1) := by decide +kernel
theorem dX1_whyVoid_61 : decode cX1_whyVoid 61 = .ok (.invokevirtual 142, 3) := by decide +kernel
theorem dX1_whyVoid_64 : decode cX1_whyVoid 64 = .ok (.aload_n 0, 1) := by decide +kernel
theorem dX1_whyVoid_65 : decode cX1_whyVoid 65 = .ok (.getfield 49, 3) := by decide +kernel
theorem dX1_whyVoid_68 : decode cX1_whyVoid 68 = .ok (.iload_n 2, 1) := by decide +kernel
theorem dX1_whyVoid_69 : decode cX1_whyVoid 69 = .ok (.invokevirtual 113, 3) := by decide +kernel
theorem dX1_whyVoid_72 : decode cX1_whyVoid 72 = .ok (.if_icmp .gt 5, 3) := by decide +kernel
theorem dX1_whyVoid_75 : decode cX1_whyVoid 75 = .ok (.iconst 3, 1) := by decide +kernel
theorem dX1_whyVoid_76 : decode cX1_whyVoid 76 = .ok (.ireturn, 1) := by decide +kernel
theorem dX1_whyVoid_77 : decode cX1_whyVoid 77 = .ok (.aload_n 0, 1) := by decide +kernel
theorem dX1_whyVoid_78 : decode cX1_whyVoid 78 = .ok (.getfield 49, 3) := by decide +kernel
theorem dX1_whyVoid_81 : decode cX1_whyVoid 81 = .ok (.iload_n 2, 1) := by decide +kernel
theorem dX1_whyVoid_82 : decode cX1_whyVoid 82 = .ok (.invokevirtual 164, 3) := by decide +kernel
theorem dX1_whyVoid_85 : decode cX1_whyVoid 85 = .ok (.iconst 1, 1) := by decide +kernel
theorem dX1_whyVoid_86 : decode cX1_whyVoid 86 = .ok (.if_icmp .ne 33, 3) := by decide +kernel
theorem dX1_whyVoid_89 : decode cX1_whyVoid 89 = .ok (.aload_n 0, 1) := by decide +kernel
theorem dX1_whyVoid_90 : decode cX1_whyVoid 90 = .ok (.iload_n 1, 1) := by decide +kernel
theorem dX1_whyVoid_91 : decode cX1_whyVoid 91 = .ok (.aload_n 0, 1) := by decide +kernel
theorem dX1_whyVoid_92 : decode cX1_whyVoid 92 = .ok (.getfield 49, 3) := by decide +kernel
theorem dX1_whyVoid_95 : decode cX1_whyVoid 95 = .ok (.iload_n 2, 1) := by decide +kernel
theorem dX1_whyVoid_96 : decode cX1_whyVoid 96 = .ok (.invokevirtual 79, 3) := by decide +kernel
theorem dX1_whyVoid_99 : decode cX1_whyVoid 99 = .ok (.aload_n 0, 1) := by decide +kernel
theorem dX1_whyVoid_100 : decode cX1_whyVoid 100 = .ok (.getfield 49, 3) := by decide +kernel
theorem dX1_whyVoid_103 : decode cX1_whyVoid 103 = .ok (.iload_n 2, 1) := by decide +kernel
theorem dX1_whyVoid_104 : decode cX1_whyVoid 104 = .ok (.invokevirtual 84, 3) := by decide +kernel
theorem dX1_whyVoid_107 : decode cX1_whyVoid 107 = .ok (.invokevirtual 119, 3) := by decide +kernel
theorem dX1_whyVoid_110 : decode cX1_whyVoid 110 = .ok (.ifCond .ne 7, 3) := by decide +kernel
theorem dX1_whyVoid_113 : decode cX1_whyVoid 113 = .ok (.iconst 5, 1) := by decide +kernel
theorem dX1_whyVoid_114 : decode cX1_whyVoid 114 = .ok (.goto 4, 3) := by decide +kernel
theorem dX1_whyVoid_117 : decode cX1_whyVoid 117 = .ok (.iconst 0, 1) := by decide +kernel
theorem dX1_whyVoid_118 : decode cX1_whyVoid 118 = .ok (.ireturn, 1) := by decide +kernel
theorem dX1_whyVoid_119 : decode cX1_whyVoid 119 = .ok (.aload_n 0, 1) := by decide +kernel
theorem dX1_whyVoid_120 : decode cX1_whyVoid 120 = .ok (.iload_n 1, 1) := by decide +kernel
theorem dX1_whyVoid_121 : decode cX1_whyVoid 121 = .ok (.iload_n 2, 1) := by decide +kernel
theorem dX1_whyVoid_122 : decode cX1_whyVoid 122 = .ok (.invokevirtual 179, 3) := by decide +kernel
theorem dX1_whyVoid_125 : decode cX1_whyVoid 125 = .ok (.aload_n 3, 1) := by decide +kernel
theorem dX1_whyVoid_126 : decode cX1_whyVoid 126 = .ok (.iconst 0, 1) := by decide +kernel
theorem dX1_whyVoid_127 : decode cX1_whyVoid 127 = .ok (.aload_n 0, 1) := by decide +kernel
theorem dX1_whyVoid_128 : decode cX1_whyVoid 128 = .ok (.getfield 33, 3) := by decide +kernel
theorem dX1_whyVoid_131 : decode cX1_whyVoid 131 = .ok (.invokevirtual 182, 3) := by decide +kernel
theorem dX1_whyVoid_134 : decode cX1_whyVoid 134 = .ok (.istore 4, 2) := by decide +kernel
theorem dX1_whyVoid_136 : decode cX1_whyVoid 136 = .ok (.aload_n 0, 1) := by decide +kernel
theorem dX1_whyVoid_137 : decode cX1_whyVoid 137 = .ok (.getfield 15, 3) := by decide +kernel
theorem dX1_whyVoid_140 : decode cX1_whyVoid 140 = .ok (.iload_n 2, 1) := by decide +kernel
theorem dX1_whyVoid_141 : decode cX1_whyVoid 141 = .ok (.iload 4, 2) := by decide +kernel
theorem dX1_whyVoid_143 : decode cX1_whyVoid 143 = .ok (.invokestatic 71, 3) := by decide +kernel
theorem dX1_whyVoid_146 : decode cX1_whyVoid 146 = .ok (.iload 4, 2) := by decide +kernel
theorem dX1_whyVoid_148 : decode cX1_whyVoid 148 = .ok (.iconst (-1), 1) := by decide +kernel
theorem dX1_whyVoid_149 : decode cX1_whyVoid 149 = .ok (.if_icmp .ne 7, 3) := by decide +kernel
theorem dX1_whyVoid_152 : decode cX1_whyVoid 152 = .ok (.iconst 0, 1) := by decide +kernel
theorem dX1_whyVoid_153 : decode cX1_whyVoid 153 = .ok (.goto 4, 3) := by decide +kernel
theorem dX1_whyVoid_156 : decode cX1_whyVoid 156 = .ok (.iconst 4, 1) := by decide +kernel
theorem dX1_whyVoid_157 : decode cX1_whyVoid 157 = .ok (.ireturn, 1) := by decide +kernel
theorem dX1_setVars_0 : decode cX1_setVars 0 = .ok (.aload_n 0, 1) := by decide +kernel
theorem dX1_setVars_1 : decode cX1_setVars 1 = .ok (.getfield 49, 3) := by decide +kernel
theorem dX1_setVars_4 : decode cX1_setVars 4 = .ok (.iload_n 2, 1) := by decide +kernel
theorem dX1_setVars_5 : decode cX1_setVars 5 = .ok (.invokevirtual 79, 3) := by decide +kernel
theorem dX1_setVars_8 : decode cX1_setVars 8 = .ok (.istore_n 3, 1) := by decide +kernel
theorem dX1_setVars_9 : decode cX1_setVars 9 = .ok (.aload_n 0, 1) := by decide +kernel
theorem dX1_setVars_10 : decode cX1_setVars 10 = .ok (.getfield 49, 3) := by decide +kernel
theorem dX1_setVars_13 : decode cX1_setVars 13 = .ok (.iload_n 2, 1) := by decide +kernel
theorem dX1_setVars_14 : decode cX1_setVars 14 = .ok (.invokevirtual 84, 3) := by decide +kernel
theorem dX1_setVars_17 : decode cX1_setVars 17 = .ok (.istore 4, 2) := by decide +kernel
theorem dX1_setVars_19 : decode cX1_setVars 19 = .ok (.aload_n 0, 1) := by decide +kernel
theorem dX1_setVars_20 : decode cX1_setVars 20 = .ok (.getfield 49, 3) := by decide +kernel
theorem dX1_setVars_23 : decode cX1_setVars 23 = .ok (.iload_n 2, 1) := by decide +kernel
theorem dX1_setVars_24 : decode cX1_setVars 24 = .ok (.invokevirtual 113, 3) := by decide +kernel
theorem dX1_setVars_27 : decode cX1_setVars 27 = .ok (.istore 5, 2) := by decide +kernel
theorem dX1_setVars_29 : decode cX1_setVars 29 = .ok (.aload_n 0, 1) := by decide +kernel
theorem dX1_setVars_30 : decode cX1_setVars 30 = .ok (.getfield 49, 3) := by decide +kernel
theorem dX1_setVars_33 : decode cX1_setVars 33 = .ok (.iload_n 2, 1) := by decide +kernel
theorem dX1_setVars_34 : decode cX1_setVars 34 = .ok (.invokevirtual 142, 3) := by decide +kernel
theorem dX1_setVars_37 : decode cX1_setVars 37 = .ok (.istore 6, 2) := by decide +kernel
theorem dX1_setVars_39 : decode cX1_setVars 39 = .ok (.aload_n 0, 1) := by decide +kernel
theorem dX1_setVars_40 : decode cX1_setVars 40 = .ok (.getfield 33, 3) := by decide +kernel
theorem dX1_setVars_43 : decode cX1_setVars 43 = .ok (.iconst 0, 1) := by decide +kernel
theorem dX1_setVars_44 : decode cX1_setVars 44 = .ok (.iload_n 3, 1) := by decide +kernel
theorem dX1_setVars_45 : decode cX1_setVars 45 = .ok (.invokestatic 71, 3) := by decide +kernel
theorem dX1_setVars_48 : decode cX1_setVars 48 = .ok (.aload_n 0, 1) := by decide +kernel
theorem dX1_setVars_49 : decode cX1_setVars 49 = .ok (.getfield 33, 3) := by decide +kernel
theorem dX1_setVars_52 : decode cX1_setVars 52 = .ok (.iconst 1, 1) := by decide +kernel
theorem dX1_setVars_53 : decode cX1_setVars 53 = .ok (.iload 4, 2) := by decide +kernel
theorem dX1_setVars_55 : decode cX1_setVars 55 = .ok (.invokestatic 71, 3) := by decide +kernel
theorem dX1_setVars_58 : decode cX1_setVars 58 = .ok (.aload_n 0, 1) := by decide +kernel
theorem dX1_setVars_59 : decode cX1_setVars 59 = .ok (.getfield 33, 3) := by decide +kernel
theorem dX1_setVars_62 : decode cX1_setVars 62 = .ok (.iconst 2, 1) := by decide +kernel
theorem dX1_setVars_63 : decode cX1_setVars 63 = .ok (.aload_n 0, 1) := by decide +kernel
theorem dX1_setVars_64 : decode cX1_setVars 64 = .ok (.getfield 49, 3) := by decide +kernel
theorem dX1_setVars_67 : decode cX1_setVars 67 = .ok (.iload 6, 2) := by decide +kernel
theorem dX1_setVars_69 : decode cX1_setVars 69 = .ok (.aload_n 0, 1) := by decide +kernel
theorem dX1_setVars_70 : decode cX1_setVars 70 = .ok (.getfield 39, 3) := by decide +kernel
theorem dX1_setVars_73 : decode cX1_setVars 73 = .ok (.invokevirtual 188, 3) := by decide +kernel
theorem dX1_setVars_76 : decode cX1_setVars 76 = .ok (.ifCond .eq 7, 3) := by decide +kernel
theorem dX1_setVars_79 : decode cX1_setVars 79 = .ok (.iconst 1, 1) := by decide +kernel
theorem dX1_setVars_80 : decode cX1_setVars 80 = .ok (.goto 4, 3) := by decide +kernel
theorem dX1_setVars_83 : decode cX1_setVars 83 = .ok (.iconst 0, 1) := by decide +kernel
theorem dX1_setVars_84 : decode cX1_setVars 84 = .ok (.invokestatic 71, 3) := by decide +kernel
theorem dX1_setVars_87 : decode cX1_setVars 87 = .ok (.aload_n 0, 1) := by decide +kernel
theorem dX1_setVars_88 : decode cX1_setVars 88 = .ok (.getfield 33, 3) := by decide +kernel
theorem dX1_setVars_91 : decode cX1_setVars 91 = .ok (.iconst 3, 1) := by decide +kernel
theorem dX1_setVars_92 : decode cX1_setVars 92 = .ok (.iload 6, 2) := by decide +kernel
theorem dX1_setVars_94 : decode cX1_setVars 94 = .ok (.iload 5, 2) := by decide +kernel
theorem dX1_setVars_96 : decode cX1_setVars 96 = .ok (.isub, 1) := by decide +kernel
theorem dX1_setVars_97 : decode cX1_setVars 97 = .ok (.invokestatic 71, 3) := by decide +kernel
theorem dX1_setVars_100 : decode cX1_setVars 100 = .ok (.aload_n 0, 1) := by decide +kernel
theorem dX1_setVars_101 : decode cX1_setVars 101 = .ok (.getfield 33, 3) := by decide +kernel
theorem dX1_setVars_104 : decode cX1_setVars 104 = .ok (.iconst 4, 1) := by decide +kernel
theorem dX1_setVars_105 : decode cX1_setVars 105 = .ok (.aload_n 0, 1) := by decide +kernel
theorem dX1_setVars_106 : decode cX1_setVars 106 = .ok (.iload_n 1, 1) := by decide +kernel
theorem dX1_setVars_107 : decode cX1_setVars 107 = .ok (.aload_n 0, 1) := by decide +kernel
theorem dX1_setVars_108 : decode cX1_setVars 108 = .ok (.iload_n 2, 1) := by decide +kernel
theorem dX1_setVars_109 : decode cX1_setVars 109 = .ok (.invokevirtual 75, 3) := by decide +kernel
theorem dX1_setVars_112 : decode cX1_setVars 112 = .ok (.invokevirtual 192, 3) := by decide +kernel
theorem dX1_setVars_115 : decode cX1_setVars 115 = .ok (.invokestatic 71, 3) := by decide +kernel
theorem dX1_setVars_118 : decode cX1_setVars 118 = .ok (.aload_n 0, 1) := by decide +kernel
theorem dX1_setVars_119 : decode cX1_setVars 119 = .ok (.getfield 33, 3) := by decide +kernel
theorem dX1_setVars_122 : decode cX1_setVars 122 = .ok (.iconst 5, 1) := by decide +kernel
theorem dX1_setVars_123 : decode cX1_setVars 123 = .ok (.aload_n 0, 1) := by decide +kernel
theorem dX1_setVars_124 : decode cX1_setVars 124 = .ok (.getfield 49, 3) := by decide +kernel
theorem dX1_setVars_127 : decode cX1_setVars 127 = .ok (.iload_n 2, 1) := by decide +kernel
theorem dX1_setVars_128 : decode cX1_setVars 128 = .ok (.invokevirtual 167, 3) := by decide +kernel
theorem dX1_setVars_131 : decode cX1_setVars 131 = .ok (.iload_n 3, 1) := by decide +kernel
theorem dX1_setVars_132 : decode cX1_setVars 132 = .ok (.if_icmp .ne 7, 3) := by decide +kernel
theorem dX1_setVars_135 : decode cX1_setVars 135 = .ok (.iconst 1, 1) := by decide +kernel
theorem dX1_setVars_136 : decode cX1_setVars 136 = .ok (.goto 4, 3) := by decide +kernel
theorem dX1_setVars_139 : decode cX1_setVars 139 = .ok (.iconst 0, 1) := by decide +kernel
theorem dX1_setVars_140 : decode cX1_setVars 140 = .ok (.invokestatic 71, 3) := by decide +kernel
theorem dX1_setVars_143 : decode cX1_setVars 143 = .ok (.aload_n 0, 1) := by decide +kernel
theorem dX1_setVars_144 : decode cX1_setVars 144 = .ok (.getfield 33, 3) := by decide +kernel
theorem dX1_setVars_147 : decode cX1_setVars 147 = .ok (.bipush 6, 2) := by decide +kernel
theorem dX1_setVars_149 : decode cX1_setVars 149 = .ok (.aload_n 0, 1) := by decide +kernel
theorem dX1_setVars_150 : decode cX1_setVars 150 = .ok (.iload_n 1, 1) := by decide +kernel
theorem dX1_setVars_151 : decode cX1_setVars 151 = .ok (.iload 4, 2) := by decide +kernel
theorem dX1_setVars_153 : decode cX1_setVars 153 = .ok (.iload_n 3, 1) := by decide +kernel
theorem dX1_setVars_154 : decode cX1_setVars 154 = .ok (.invokevirtual 119, 3) := by decide +kernel
theorem dX1_setVars_157 : decode cX1_setVars 157 = .ok (.invokestatic 71, 3) := by decide +kernel
theorem dX1_setVars_160 : decode cX1_setVars 160 = .ok (.aload_n 0, 1) := by decide +kernel
theorem dX1_setVars_161 : decode cX1_setVars 161 = .ok (.getfield 33, 3) := by decide +kernel
theorem dX1_setVars_164 : decode cX1_setVars 164 = .ok (.bipush 7, 2) := by decide +kernel
theorem dX1_setVars_166 : decode cX1_setVars 166 = .ok (.aload_n 0, 1) := by decide +kernel
theorem dX1_setVars_167 : decode cX1_setVars 167 = .ok (.iload_n 1, 1) := by decide +kernel
theorem dX1_setVars_168 : decode cX1_setVars 168 = .ok (.iload 4, 2) := by decide +kernel
theorem dX1_setVars_170 : decode cX1_setVars 170 = .ok (.invokevirtual 195, 3) := by decide +kernel
theorem dX1_setVars_173 : decode cX1_setVars 173 = .ok (.invokestatic 71, 3) := by decide +kernel
theorem dX1_setVars_176 : decode cX1_setVars 176 = .ok (.aload_n 0, 1) := by decide +kernel
theorem dX1_setVars_177 : decode cX1_setVars 177 = .ok (.getfield 33, 3) := by decide +kernel
theorem dX1_setVars_180 : decode cX1_setVars 180 = .ok (.bipush 8, 2) := by decide +kernel
theorem dX1_setVars_182 : decode cX1_setVars 182 = .ok (.aload_n 0, 1) := by decide +kernel
theorem dX1_setVars_183 : decode cX1_setVars 183 = .ok (.iload_n 1, 1) := by decide +kernel
theorem dX1_setVars_184 : decode cX1_setVars 184 = .ok (.iload 4, 2) := by decide +kernel
theorem dX1_setVars_186 : decode cX1_setVars 186 = .ok (.iload 5, 2) := by decide +kernel
theorem dX1_setVars_188 : decode cX1_setVars 188 = .ok (.invokevirtual 110, 3) := by decide +kernel
theorem dX1_setVars_191 : decode cX1_setVars 191 = .ok (.invokestatic 71, 3) := by decide +kernel
theorem dX1_setVars_194 : decode cX1_setVars 194 = .ok (.return_, 1) := by decide +kernel
theorem dX1_follow_0 : decode cX1_follow 0 = .ok (.aload_n 0, 1) := by decide +kernel
theorem dX1_follow_1 : decode cX1_follow 1 = .ok (.getfield 49, 3) := by decide +kernel
theorem dX1_follow_4 : decode cX1_follow 4 = .ok (.iload_n 2, 1) := by decide +kernel
theorem dX1_follow_5 : decode cX1_follow 5 = .ok (.invokevirtual 79, 3) := by decide +kernel
theorem dX1_follow_8 : decode cX1_follow 8 = .ok (.istore 4, 2) := by decide +kernel
theorem dX1_follow_10 : decode cX1_follow 10 = .ok (.aload_n 0, 1) := by decide +kernel
theorem dX1_follow_11 : decode cX1_follow 11 = .ok (.getfield 49, 3) := by decide +kernel
theorem dX1_follow_14 : decode cX1_follow 14 = .ok (.iload_n 2, 1) := by decide +kernel
theorem dX1_follow_15 : decode cX1_follow 15 = .ok (.invokevirtual 84, 3) := by decide +kernel
theorem dX1_follow_18 : decode cX1_follow 18 = .ok (.istore 5, 2) := by decide +kernel
theorem dX1_follow_20 : decode cX1_follow 20 = .ok (.aload_n 0, 1) := by decide +kernel
theorem dX1_follow_21 : decode cX1_follow 21 = .ok (.getfield 49, 3) := by decide +kernel
theorem dX1_follow_24 : decode cX1_follow 24 = .ok (.iload_n 2, 1) := by decide +kernel
theorem dX1_follow_25 : decode cX1_follow 25 = .ok (.invokevirtual 164, 3) := by decide +kernel
theorem dX1_follow_28 : decode cX1_follow 28 = .ok (.lookupswitch 102 #[(1, 68), (2, 28)], 28) := by decide +kernel
theorem dX1_follow_56 : decode cX1_follow 56 = .ok (.aload_n 0, 1) := by decide +kernel
theorem dX1_follow_57 : decode cX1_follow 57 = .ok (.getfield 53, 3) := by decide +kernel
theorem dX1_follow_60 : decode cX1_follow 60 = .ok (.aload_n 0, 1) := by decide +kernel
theorem dX1_follow_61 : decode cX1_follow 61 = .ok (.getfield 30, 3) := by decide +kernel
theorem dX1_follow_64 : decode cX1_follow 64 = .ok (.iload_n 1, 1) := by decide +kernel
theorem dX1_follow_65 : decode cX1_follow 65 = .ok (.bipush 64, 2) := by decide +kernel
theorem dX1_follow_67 : decode cX1_follow 67 = .ok (.imul, 1) := by decide +kernel
theorem dX1_follow_68 : decode cX1_follow 68 = .ok (.invokevirtual 125, 3) := by decide +kernel
theorem dX1_follow_71 : decode cX1_follow 71 = .ok (.aload_n 0, 1) := by decide +kernel
theorem dX1_follow_72 : decode cX1_follow 72 = .ok (.getfield 53, 3) := by decide +kernel
theorem dX1_follow_75 : decode cX1_follow 75 = .ok (.invokevirtual 135, 3) := by decide +kernel
theorem dX1_follow_78 : decode cX1_follow 78 = .ok (.aload_n 0, 1) := by decide +kernel
theorem dX1_follow_79 : decode cX1_follow 79 = .ok (.getfield 53, 3) := by decide +kernel
theorem dX1_follow_82 : decode cX1_follow 82 = .ok (.aload_n 0, 1) := by decide +kernel
theorem dX1_follow_83 : decode cX1_follow 83 = .ok (.getfield 30, 3) := by decide +kernel
theorem dX1_follow_86 : decode cX1_follow 86 = .ok (.iload_n 1, 1) := by decide +kernel
theorem dX1_follow_87 : decode cX1_follow 87 = .ok (.bipush 64, 2) := by decide +kernel
theorem dX1_follow_89 : decode cX1_follow 89 = .ok (.imul, 1) := by decide +kernel
theorem dX1_follow_90 : decode cX1_follow 90 = .ok (.invokevirtual 198, 3) := by decide +kernel
theorem dX1_follow_93 : decode cX1_follow 93 = .ok (.goto 97, 3) := by decide +kernel
theorem dX1_follow_96 : decode cX1_follow 96 = .ok (.aload_n 0, 1) := by decide +kernel
theorem dX1_follow_97 : decode cX1_follow 97 = .ok (.getfield 30, 3) := by decide +kernel
theorem dX1_follow_100 : decode cX1_follow 100 = .ok (.iload_n 1, 1) := by decide +kernel
theorem dX1_follow_101 : decode cX1_follow 101 = .ok (.iload 4, 2) := by decide +kernel
theorem dX1_follow_103 : decode cX1_follow 103 = .ok (.iload 5, 2) := by decide +kernel
theorem dX1_follow_105 : decode cX1_follow 105 = .ok (.invokestatic 116, 3) := by decide +kernel
theorem dX1_follow_108 : decode cX1_follow 108 = .ok (.iconst 0, 1) := by decide +kernel
theorem dX1_follow_109 : decode cX1_follow 109 = .ok (.aload_n 0, 1) := by decide +kernel
theorem dX1_follow_110 : decode cX1_follow 110 = .ok (.iload_n 1, 1) := by decide +kernel
theorem dX1_follow_111 : decode cX1_follow 111 = .ok (.iload 4, 2) := by decide +kernel
theorem dX1_follow_113 : decode cX1_follow 113 = .ok (.iload 5, 2) := by decide +kernel
theorem dX1_follow_115 : decode cX1_follow 115 = .ok (.invokevirtual 119, 3) := by decide +kernel
theorem dX1_follow_118 : decode cX1_follow 118 = .ok (.bipush 10, 2) := by decide +kernel
theorem dX1_follow_120 : decode cX1_follow 120 = .ok (.isub, 1) := by decide +kernel
theorem dX1_follow_121 : decode cX1_follow 121 = .ok (.invokestatic 201, 3) := by decide +kernel
theorem dX1_follow_124 : decode cX1_follow 124 = .ok (.invokestatic 71, 3) := by decide +kernel
theorem dX1_follow_127 : decode cX1_follow 127 = .ok (.goto 63, 3) := by decide +kernel
theorem dX1_follow_130 : decode cX1_follow 130 = .ok (.aload_n 3, 1) := by decide +kernel
theorem dX1_follow_131 : decode cX1_follow 131 = .ok (.iconst 1, 1) := by decide +kernel
theorem dX1_follow_132 : decode cX1_follow 132 = .ok (.aload_n 0, 1) := by decide +kernel
theorem dX1_follow_133 : decode cX1_follow 133 = .ok (.getfield 33, 3) := by decide +kernel
theorem dX1_follow_136 : decode cX1_follow 136 = .ok (.invokevirtual 182, 3) := by decide +kernel
theorem dX1_follow_139 : decode cX1_follow 139 = .ok (.istore 6, 2) := by decide +kernel
theorem dX1_follow_141 : decode cX1_follow 141 = .ok (.aload_n 3, 1) := by decide +kernel
theorem dX1_follow_142 : decode cX1_follow 142 = .ok (.iload 6, 2) := by decide +kernel
theorem dX1_follow_144 : decode cX1_follow 144 = .ok (.aload_n 0, 1) := by decide +kernel
theorem dX1_follow_145 : decode cX1_follow 145 = .ok (.getfield 33, 3) := by decide +kernel
theorem dX1_follow_148 : decode cX1_follow 148 = .ok (.invokevirtual 206, 3) := by decide +kernel
theorem dX1_follow_151 : decode cX1_follow 151 = .ok (.istore 7, 2) := by decide +kernel
theorem dX1_follow_153 : decode cX1_follow 153 = .ok (.aload_n 0, 1) := by decide +kernel
theorem dX1_follow_154 : decode cX1_follow 154 = .ok (.getfield 15, 3) := by decide +kernel
theorem dX1_follow_157 : decode cX1_follow 157 = .ok (.iload_n 2, 1) := by decide +kernel
theorem dX1_follow_158 : decode cX1_follow 158 = .ok (.iload 6, 2) := by decide +kernel
theorem dX1_follow_160 : decode cX1_follow 160 = .ok (.invokestatic 71, 3) := by decide +kernel
theorem dX1_follow_163 : decode cX1_follow 163 = .ok (.aload_n 0, 1) := by decide +kernel
theorem dX1_follow_164 : decode cX1_follow 164 = .ok (.getfield 30, 3) := by decide +kernel
theorem dX1_follow_167 : decode cX1_follow 167 = .ok (.iload_n 1, 1) := by decide +kernel
theorem dX1_follow_168 : decode cX1_follow 168 = .ok (.iload 5, 2) := by decide +kernel
theorem dX1_follow_170 : decode cX1_follow 170 = .ok (.iload 4, 2) := by decide +kernel
theorem dX1_follow_172 : decode cX1_follow 172 = .ok (.invokestatic 116, 3) := by decide +kernel
theorem dX1_follow_175 : decode cX1_follow 175 = .ok (.aload_n 0, 1) := by decide +kernel
theorem dX1_follow_176 : decode cX1_follow 176 = .ok (.iload_n 1, 1) := by decide +kernel
theorem dX1_follow_177 : decode cX1_follow 177 = .ok (.iload 5, 2) := by decide +kernel
theorem dX1_follow_179 : decode cX1_follow 179 = .ok (.iload 4, 2) := by decide +kernel
theorem dX1_follow_181 : decode cX1_follow 181 = .ok (.invokevirtual 119, 3) := by decide +kernel
theorem dX1_follow_184 : decode cX1_follow 184 = .ok (.iload 7, 2) := by decide +kernel
theorem dX1_follow_186 : decode cX1_follow 186 = .ok (.iadd, 1) := by decide +kernel
theorem dX1_follow_187 : decode cX1_follow 187 = .ok (.invokestatic 71, 3) := by decide +kernel
theorem dX1_follow_190 : decode cX1_follow 190 = .ok (.return_, 1) := by decide +kernel
theorem dX1_holderBefore_0 : decode cX1_holderBefore 0 = .ok (.iload_n 1, 1) := by decide +kernel
theorem dX1_holderBefore_1 : decode cX1_holderBefore 1 = .ok (.iconst 1, 1) := by decide +kernel
theorem dX1_holderBefore_2 : decode cX1_holderBefore 2 = .ok (.isub, 1) := by decide +kernel
theorem dX1_holderBefore_3 : decode cX1_holderBefore 3 = .ok (.istore 4, 2) := by decide +kernel
theorem dX1_holderBefore_5 : decode cX1_holderBefore 5 = .ok (.iload 4, 2) := by decide +kernel
theorem dX1_holderBefore_7 : decode cX1_holderBefore 7 = .ok (.ifCond .lt 32, 3) := by decide +kernel
theorem dX1_holderBefore_10 : decode cX1_holderBefore 10 = .ok (.aload_n 0, 1) := by decide +kernel
theorem dX1_holderBefore_11 : decode cX1_holderBefore 11 = .ok (.getfield 21, 3) := by decide +kernel
theorem dX1_holderBefore_14 : decode cX1_holderBefore 14 = .ok (.iload 4, 2) := by decide +kernel
theorem dX1_holderBefore_16 : decode cX1_holderBefore 16 = .ok (.invokestatic 63, 3) := by decide +kernel
theorem dX1_holderBefore_19 : decode cX1_holderBefore 19 = .ok (.iload_n 2, 1) := by decide +kernel
theorem dX1_holderBefore_20 : decode cX1_holderBefore 20 = .ok (.if_icmp .ne 13, 3) := by decide +kernel
theorem dX1_holderBefore_23 : decode cX1_holderBefore 23 = .ok (.aload_n 0, 1) := by decide +kernel
theorem dX1_holderBefore_24 : decode cX1_holderBefore 24 = .ok (.getfield 27, 3) := by decide +kernel
theorem dX1_holderBefore_27 : decode cX1_holderBefore 27 = .ok (.iload 4, 2) := by decide +kernel
theorem dX1_holderBefore_29 : decode cX1_holderBefore 29 = .ok (.invokestatic 63, 3) := by decide +kernel
theorem dX1_holderBefore_32 : decode cX1_holderBefore 32 = .ok (.ireturn, 1) := by decide +kernel
theorem dX1_holderBefore_33 : decode cX1_holderBefore 33 = .ok (.iinc 4 (-1), 3) := by decide +kernel
theorem dX1_holderBefore_36 : decode cX1_holderBefore 36 = .ok (.goto (-31), 3) := by decide +kernel
theorem dX1_holderBefore_39 : decode cX1_holderBefore 39 = .ok (.iload_n 3, 1) := by decide +kernel
theorem dX1_holderBefore_40 : decode cX1_holderBefore 40 = .ok (.ireturn, 1) := by decide +kernel
theorem dX1_timesGivenBefore_0 : decode cX1_timesGivenBefore 0 = .ok (.iconst 0, 1) := by decide +kernel
theorem dX1_timesGivenBefore_1 : decode cX1_timesGivenBefore 1 = .ok (.istore_n 3, 1) := by decide +kernel
theorem dX1_timesGivenBefore_2 : decode cX1_timesGivenBefore 2 = .ok (.iconst 0, 1) := by decide +kernel
theorem dX1_timesGivenBefore_3 : decode cX1_timesGivenBefore 3 = .ok (.istore 4, 2) := by decide +kernel
theorem dX1_timesGivenBefore_5 : decode cX1_timesGivenBefore 5 = .ok (.iload 4, 2) := by decide +kernel
theorem dX1_timesGivenBefore_7 : decode cX1_timesGivenBefore 7 = .ok (.iload_n 1, 1) := by decide +kernel
theorem dX1_timesGivenBefore_8 : decode cX1_timesGivenBefore 8 = .ok (.if_icmp .ge 30, 3) := by decide +kernel
theorem dX1_timesGivenBefore_11 : decode cX1_timesGivenBefore 11 = .ok (.iload_n 3, 1) := by decide +kernel
theorem dX1_timesGivenBefore_12 : decode cX1_timesGivenBefore 12 = .ok (.aload_n 0, 1) := by decide +kernel
theorem dX1_timesGivenBefore_13 : decode cX1_timesGivenBefore 13 = .ok (.getfield 21, 3) := by decide +kernel
theorem dX1_timesGivenBefore_16 : decode cX1_timesGivenBefore 16 = .ok (.iload 4, 2) := by decide +kernel
theorem dX1_timesGivenBefore_18 : decode cX1_timesGivenBefore 18 = .ok (.invokestatic 63, 3) := by decide +kernel
theorem dX1_timesGivenBefore_21 : decode cX1_timesGivenBefore 21 = .ok (.iload_n 2, 1) := by decide +kernel
theorem dX1_timesGivenBefore_22 : decode cX1_timesGivenBefore 22 = .ok (.if_icmp .ne 7, 3) := by decide +kernel
theorem dX1_timesGivenBefore_25 : decode cX1_timesGivenBefore 25 = .ok (.iconst 1, 1) := by decide +kernel
theorem dX1_timesGivenBefore_26 : decode cX1_timesGivenBefore 26 = .ok (.goto 4, 3) := by decide +kernel
theorem dX1_timesGivenBefore_29 : decode cX1_timesGivenBefore 29 = .ok (.iconst 0, 1) := by decide +kernel
theorem dX1_timesGivenBefore_30 : decode cX1_timesGivenBefore 30 = .ok (.iadd, 1) := by decide +kernel
theorem dX1_timesGivenBefore_31 : decode cX1_timesGivenBefore 31 = .ok (.istore_n 3, 1) := by decide +kernel
theorem dX1_timesGivenBefore_32 : decode cX1_timesGivenBefore 32 = .ok (.iinc 4 1, 3) := by decide +kernel
theorem dX1_timesGivenBefore_35 : decode cX1_timesGivenBefore 35 = .ok (.goto (-30), 3) := by decide +kernel
theorem dX1_timesGivenBefore_38 : decode cX1_timesGivenBefore 38 = .ok (.iload_n 3, 1) := by decide +kernel
theorem dX1_timesGivenBefore_39 : decode cX1_timesGivenBefore 39 = .ok (.ireturn, 1) := by decide +kernel
theorem dX1_ageBefore_0 : decode cX1_ageBefore 0 = .ok (.aload_n 0, 1) := by decide +kernel
theorem dX1_ageBefore_1 : decode cX1_ageBefore 1 = .ok (.getfield 49, 3) := by decide +kernel
theorem dX1_ageBefore_4 : decode cX1_ageBefore 4 = .ok (.iload_n 2, 1) := by decide +kernel
theorem dX1_ageBefore_5 : decode cX1_ageBefore 5 = .ok (.invokevirtual 210, 3) := by decide +kernel
theorem dX1_ageBefore_8 : decode cX1_ageBefore 8 = .ok (.iload_n 3, 1) := by decide +kernel
theorem dX1_ageBefore_9 : decode cX1_ageBefore 9 = .ok (.iadd, 1) := by decide +kernel
theorem dX1_ageBefore_10 : decode cX1_ageBefore 10 = .ok (.iconst 1, 1) := by decide +kernel
theorem dX1_ageBefore_11 : decode cX1_ageBefore 11 = .ok (.iadd, 1) := by decide +kernel
theorem dX1_ageBefore_12 : decode cX1_ageBefore 12 = .ok (.aload_n 0, 1) := by decide +kernel
theorem dX1_ageBefore_13 : decode cX1_ageBefore 13 = .ok (.iload_n 1, 1) := by decide +kernel
theorem dX1_ageBefore_14 : decode cX1_ageBefore 14 = .ok (.iload_n 2, 1) := by decide +kernel
theorem dX1_ageBefore_15 : decode cX1_ageBefore 15 = .ok (.iconst 0, 1) := by decide +kernel
theorem dX1_ageBefore_16 : decode cX1_ageBefore 16 = .ok (.iload_n 3, 1) := by decide +kernel
theorem dX1_ageBefore_17 : decode cX1_ageBefore 17 = .ok (.invokevirtual 106, 3) := by decide +kernel
theorem dX1_ageBefore_20 : decode cX1_ageBefore 20 = .ok (.iadd, 1) := by decide +kernel
theorem dX1_ageBefore_21 : decode cX1_ageBefore 21 = .ok (.ireturn, 1) := by decide +kernel
theorem dX1_gained_0 : decode cX1_gained 0 = .ok (.iconst 0, 1) := by decide +kernel
theorem dX1_gained_1 : decode cX1_gained 1 = .ok (.istore 5, 2) := by decide +kernel
theorem dX1_gained_3 : decode cX1_gained 3 = .ok (.iconst 0, 1) := by decide +kernel
theorem dX1_gained_4 : decode cX1_gained 4 = .ok (.istore 6, 2) := by decide +kernel
theorem dX1_gained_6 : decode cX1_gained 6 = .ok (.iload 6, 2) := by decide +kernel
theorem dX1_gained_8 : decode cX1_gained 8 = .ok (.iload_n 1, 1) := by decide +kernel
theorem dX1_gained_9 : decode cX1_gained 9 = .ok (.if_icmp .ge 93, 3) := by decide +kernel
theorem dX1_gained_12 : decode cX1_gained 12 = .ok (.aload_n 0, 1) := by decide +kernel
theorem dX1_gained_13 : decode cX1_gained 13 = .ok (.getfield 21, 3) := by decide +kernel
theorem dX1_gained_16 : decode cX1_gained 16 = .ok (.iload 6, 2) := by decide +kernel
theorem dX1_gained_18 : decode cX1_gained 18 = .ok (.invokestatic 63, 3) := by decide +kernel
theorem dX1_gained_21 : decode cX1_gained 21 = .ok (.istore 7, 2) := by decide +kernel
theorem dX1_gained_23 : decode cX1_gained 23 = .ok (.iload 7, 2) := by decide +kernel
theorem dX1_gained_25 : decode cX1_gained 25 = .ok (.sipush 400, 3) := by decide +kernel
theorem dX1_gained_28 : decode cX1_gained 28 = .ok (.irem, 1) := by decide +kernel
theorem dX1_gained_29 : decode cX1_gained 29 = .ok (.istore 8, 2) := by decide +kernel
theorem dX1_gained_31 : decode cX1_gained 31 = .ok (.iload 7, 2) := by decide +kernel
theorem dX1_gained_33 : decode cX1_gained 33 = .ok (.iconst (-1), 1) := by decide +kernel
theorem dX1_gained_34 : decode cX1_gained 34 = .ok (.if_icmp .eq 62, 3) := by decide +kernel
theorem dX1_gained_37 : decode cX1_gained 37 = .ok (.iload 8, 2) := by decide +kernel
theorem dX1_gained_39 : decode cX1_gained 39 = .ok (.iload_n 3, 1) := by decide +kernel
theorem dX1_gained_40 : decode cX1_gained 40 = .ok (.if_icmp .lt 56, 3) := by decide +kernel
theorem dX1_gained_43 : decode cX1_gained 43 = .ok (.iload 8, 2) := by decide +kernel
theorem dX1_gained_45 : decode cX1_gained 45 = .ok (.iload 4, 2) := by decide +kernel
theorem dX1_gained_47 : decode cX1_gained 47 = .ok (.if_icmp .gt 49, 3) := by decide +kernel
theorem dX1_gained_50 : decode cX1_gained 50 = .ok (.iload 5, 2) := by decide +kernel
theorem dX1_gained_52 : decode cX1_gained 52 = .ok (.aload_n 0, 1) := by decide +kernel
theorem dX1_gained_53 : decode cX1_gained 53 = .ok (.getfield 27, 3) := by decide +kernel
theorem dX1_gained_56 : decode cX1_gained 56 = .ok (.iload 6, 2) := by decide +kernel
theorem dX1_gained_58 : decode cX1_gained 58 = .ok (.invokestatic 63, 3) := by decide +kernel
theorem dX1_gained_61 : decode cX1_gained 61 = .ok (.iload_n 2, 1) := by decide +kernel
theorem dX1_gained_62 : decode cX1_gained 62 = .ok (.if_icmp .ne 7, 3) := by decide +kernel
theorem dX1_gained_65 : decode cX1_gained 65 = .ok (.iconst 1, 1) := by decide +kernel
theorem dX1_gained_66 : decode cX1_gained 66 = .ok (.goto 4, 3) := by decide +kernel
theorem dX1_gained_69 : decode cX1_gained 69 = .ok (.iconst 0, 1) := by decide +kernel
theorem dX1_gained_70 : decode cX1_gained 70 = .ok (.iadd, 1) := by decide +kernel
theorem dX1_gained_71 : decode cX1_gained 71 = .ok (.istore 5, 2) := by decide +kernel
theorem dX1_gained_73 : decode cX1_gained 73 = .ok (.iload 5, 2) := by decide +kernel
theorem dX1_gained_75 : decode cX1_gained 75 = .ok (.aload_n 0, 1) := by decide +kernel
theorem dX1_gained_76 : decode cX1_gained 76 = .ok (.getfield 24, 3) := by decide +kernel
theorem dX1_gained_79 : decode cX1_gained 79 = .ok (.iload 6, 2) := by decide +kernel
theorem dX1_gained_81 : decode cX1_gained 81 = .ok (.invokestatic 63, 3) := by decide +kernel
theorem dX1_gained_84 : decode cX1_gained 84 = .ok (.iload_n 2, 1) := by decide +kernel
theorem dX1_gained_85 : decode cX1_gained 85 = .ok (.if_icmp .ne 7, 3) := by decide +kernel
theorem dX1_gained_88 : decode cX1_gained 88 = .ok (.iconst 1, 1) := by decide +kernel
theorem dX1_gained_89 : decode cX1_gained 89 = .ok (.goto 4, 3) := by decide +kernel
theorem dX1_gained_92 : decode cX1_gained 92 = .ok (.iconst 0, 1) := by decide +kernel
theorem dX1_gained_93 : decode cX1_gained 93 = .ok (.isub, 1) := by decide +kernel
theorem dX1_gained_94 : decode cX1_gained 94 = .ok (.istore 5, 2) := by decide +kernel
theorem dX1_gained_96 : decode cX1_gained 96 = .ok (.iinc 6 1, 3) := by decide +kernel
theorem dX1_gained_99 : decode cX1_gained 99 = .ok (.goto (-93), 3) := by decide +kernel
theorem dX1_gained_102 : decode cX1_gained 102 = .ok (.iload 5, 2) := by decide +kernel
theorem dX1_gained_104 : decode cX1_gained 104 = .ok (.ireturn, 1) := by decide +kernel
theorem dX1_leafOf_0 : decode cX1_leafOf 0 = .ok (.aload_n 0, 1) := by decide +kernel
theorem dX1_leafOf_1 : decode cX1_leafOf 1 = .ok (.getfield 49, 3) := by decide +kernel
theorem dX1_leafOf_4 : decode cX1_leafOf 4 = .ok (.iload_n 1, 1) := by decide +kernel
theorem dX1_leafOf_5 : decode cX1_leafOf 5 = .ok (.invokevirtual 164, 3) := by decide +kernel
theorem dX1_leafOf_8 : decode cX1_leafOf 8 = .ok (.iconst 2, 1) := by decide +kernel
theorem dX1_leafOf_9 : decode cX1_leafOf 9 = .ok (.if_icmp .ne 7, 3) := by decide +kernel
theorem dX1_leafOf_12 : decode cX1_leafOf 12 = .ok (.iconst 1, 1) := by decide +kernel
theorem dX1_leafOf_13 : decode cX1_leafOf 13 = .ok (.goto 4, 3) := by decide +kernel
theorem dX1_leafOf_16 : decode cX1_leafOf 16 = .ok (.iconst 0, 1) := by decide +kernel
theorem dX1_leafOf_17 : decode cX1_leafOf 17 = .ok (.istore_n 2, 1) := by decide +kernel
theorem dX1_leafOf_18 : decode cX1_leafOf 18 = .ok (.iload_n 2, 1) := by decide +kernel
theorem dX1_leafOf_19 : decode cX1_leafOf 19 = .ok (.ifCond .eq 7, 3) := by decide +kernel
theorem dX1_leafOf_22 : decode cX1_leafOf 22 = .ok (.iconst (-1), 1) := by decide +kernel
theorem dX1_leafOf_23 : decode cX1_leafOf 23 = .ok (.goto 22, 3) := by decide +kernel
theorem dX1_leafOf_26 : decode cX1_leafOf 26 = .ok (.aload_n 0, 1) := by decide +kernel
theorem dX1_leafOf_27 : decode cX1_leafOf 27 = .ok (.getfield 49, 3) := by decide +kernel
theorem dX1_leafOf_30 : decode cX1_leafOf 30 = .ok (.iload_n 1, 1) := by decide +kernel
theorem dX1_leafOf_31 : decode cX1_leafOf 31 = .ok (.invokevirtual 167, 3) := by decide +kernel
theorem dX1_leafOf_34 : decode cX1_leafOf 34 = .ok (.aload_n 0, 1) := by decide +kernel
theorem dX1_leafOf_35 : decode cX1_leafOf 35 = .ok (.getfield 49, 3) := by decide +kernel
theorem dX1_leafOf_38 : decode cX1_leafOf 38 = .ok (.iload_n 1, 1) := by decide +kernel
theorem dX1_leafOf_39 : decode cX1_leafOf 39 = .ok (.invokevirtual 142, 3) := by decide +kernel
theorem dX1_leafOf_42 : decode cX1_leafOf 42 = .ok (.invokestatic 98, 3) := by decide +kernel
theorem dX1_leafOf_45 : decode cX1_leafOf 45 = .ok (.ireturn, 1) := by decide +kernel
theorem dX1_leaf_0 : decode cX1_leaf 0 = .ok (.iload_n 0, 1) := by decide +kernel
theorem dX1_leaf_1 : decode cX1_leaf 1 = .ok (.sipush 400, 3) := by decide +kernel
theorem dX1_leaf_4 : decode cX1_leaf 4 = .ok (.imul, 1) := by decide +kernel
theorem dX1_leaf_5 : decode cX1_leaf 5 = .ok (.iload_n 1, 1) := by decide +kernel
theorem dX1_leaf_6 : decode cX1_leaf 6 = .ok (.iadd, 1) := by decide +kernel
theorem dX1_leaf_7 : decode cX1_leaf 7 = .ok (.ireturn, 1) := by decide +kernel
theorem dX1_cell_0 : decode cX1_cell 0 = .ok (.iload_n 0, 1) := by decide +kernel
theorem dX1_cell_1 : decode cX1_cell 1 = .ok (.bipush 64, 2) := by decide +kernel
theorem dX1_cell_3 : decode cX1_cell 3 = .ok (.imul, 1) := by decide +kernel
theorem dX1_cell_4 : decode cX1_cell 4 = .ok (.iload_n 1, 1) := by decide +kernel
theorem dX1_cell_5 : decode cX1_cell 5 = .ok (.bipush 8, 2) := by decide +kernel
theorem dX1_cell_7 : decode cX1_cell 7 = .ok (.imul, 1) := by decide +kernel
theorem dX1_cell_8 : decode cX1_cell 8 = .ok (.iadd, 1) := by decide +kernel
theorem dX1_cell_9 : decode cX1_cell 9 = .ok (.iload_n 2, 1) := by decide +kernel
theorem dX1_cell_10 : decode cX1_cell 10 = .ok (.iadd, 1) := by decide +kernel
theorem dX1_cell_11 : decode cX1_cell 11 = .ok (.ireturn, 1) := by decide +kernel
theorem dX2_init_0 : decode cX2_init 0 = .ok (.aload_n 0, 1) := by decide +kernel
theorem dX2_init_1 : decode cX2_init 1 = .ok (.invokespecial 3, 3) := by decide +kernel
theorem dX2_init_4 : decode cX2_init 4 = .ok (.aload_n 0, 1) := by decide +kernel
theorem dX2_init_5 : decode cX2_init 5 = .ok (.sipush 400, 3) := by decide +kernel
theorem dX2_init_8 : decode cX2_init 8 = .ok (.newarray .int, 2) := by decide +kernel
theorem dX2_init_10 : decode cX2_init 10 = .ok (.putfield 9, 3) := by decide +kernel
theorem dX2_init_13 : decode cX2_init 13 = .ok (.aload_n 0, 1) := by decide +kernel
theorem dX2_init_14 : decode cX2_init 14 = .ok (.sipush 400, 3) := by decide +kernel
theorem dX2_init_17 : decode cX2_init 17 = .ok (.newarray .int, 2) := by decide +kernel
theorem dX2_init_19 : decode cX2_init 19 = .ok (.putfield 15, 3) := by decide +kernel
theorem dX2_init_22 : decode cX2_init 22 = .ok (.aload_n 0, 1) := by decide +kernel
theorem dX2_init_23 : decode cX2_init 23 = .ok (.bipush 16, 2) := by decide +kernel
theorem dX2_init_25 : decode cX2_init 25 = .ok (.newarray .boolean, 2) := by decide +kernel
theorem dX2_init_27 : decode cX2_init 27 = .ok (.putfield 18, 3) := by decide +kernel
theorem dX2_init_30 : decode cX2_init 30 = .ok (.aload_n 0, 1) := by decide +kernel
theorem dX2_init_31 : decode cX2_init 31 = .ok (.bipush 16, 2) := by decide +kernel
theorem dX2_init_33 : decode cX2_init 33 = .ok (.newarray .int, 2) := by decide +kernel
theorem dX2_init_35 : decode cX2_init 35 = .ok (.putfield 22, 3) := by decide +kernel
theorem dX2_init_38 : decode cX2_init 38 = .ok (.aload_n 0, 1) := by decide +kernel
theorem dX2_init_39 : decode cX2_init 39 = .ok (.bipush 16, 2) := by decide +kernel
theorem dX2_init_41 : decode cX2_init 41 = .ok (.newarray .int, 2) := by decide +kernel
theorem dX2_init_43 : decode cX2_init 43 = .ok (.putfield 25, 3) := by decide +kernel
theorem dX2_init_46 : decode cX2_init 46 = .ok (.aload_n 0, 1) := by decide +kernel
theorem dX2_init_47 : decode cX2_init 47 = .ok (.bipush 16, 2) := by decide +kernel
theorem dX2_init_49 : decode cX2_init 49 = .ok (.newarray .int, 2) := by decide +kernel
theorem dX2_init_51 : decode cX2_init 51 = .ok (.putfield 28, 3) := by decide +kernel
theorem dX2_init_54 : decode cX2_init 54 = .ok (.aload_n 0, 1) := by decide +kernel
theorem dX2_init_55 : decode cX2_init 55 = .ok (.sipush 400, 3) := by decide +kernel
theorem dX2_init_58 : decode cX2_init 58 = .ok (.newarray .int, 2) := by decide +kernel
theorem dX2_init_60 : decode cX2_init 60 = .ok (.putfield 31, 3) := by decide +kernel
theorem dX2_init_63 : decode cX2_init 63 = .ok (.aload_n 0, 1) := by decide +kernel
theorem dX2_init_64 : decode cX2_init 64 = .ok (.iconst 0, 1) := by decide +kernel
theorem dX2_init_65 : decode cX2_init 65 = .ok (.putfield 34, 3) := by decide +kernel
theorem dX2_init_68 : decode cX2_init 68 = .ok (.aload_n 0, 1) := by decide +kernel
theorem dX2_init_69 : decode cX2_init 69 = .ok (.iconst 0, 1) := by decide +kernel
theorem dX2_init_70 : decode cX2_init 70 = .ok (.putfield 38, 3) := by decide +kernel
theorem dX2_init_73 : decode cX2_init 73 = .ok (.return_, 1) := by decide +kernel
theorem dX2_clear_0 : decode cX2_clear 0 = .ok (.aload_n 0, 1) := by decide +kernel
theorem dX2_clear_1 : decode cX2_clear 1 = .ok (.iconst 0, 1) := by decide +kernel
theorem dX2_clear_2 : decode cX2_clear 2 = .ok (.putfield 34, 3) := by decide +kernel
theorem dX2_clear_5 : decode cX2_clear 5 = .ok (.aload_n 0, 1) := by decide +kernel
theorem dX2_clear_6 : decode cX2_clear 6 = .ok (.iconst 0, 1) := by decide +kernel
theorem dX2_clear_7 : decode cX2_clear 7 = .ok (.putfield 38, 3) := by decide +kernel
theorem dX2_clear_10 : decode cX2_clear 10 = .ok (.return_, 1) := by decide +kernel
theorem dX2_ruleCount_0 : decode cX2_ruleCount 0 = .ok (.aload_n 0, 1) := by decide +kernel
theorem dX2_ruleCount_1 : decode cX2_ruleCount 1 = .ok (.getfield 38, 3) := by decide +kernel
theorem dX2_ruleCount_4 : decode cX2_ruleCount 4 = .ok (.ireturn, 1) := by decide +kernel
theorem dX2_begin_0 : decode cX2_begin 0 = .ok (.aload_n 0, 1) := by decide +kernel
theorem dX2_begin_1 : decode cX2_begin 1 = .ok (.getfield 38, 3) := by decide +kernel
theorem dX2_begin_4 : decode cX2_begin 4 = .ok (.bipush 16, 2) := by decide +kernel
theorem dX2_begin_6 : decode cX2_begin 6 = .ok (.if_icmp .ge 36, 3) := by decide +kernel
theorem dX2_begin_9 : decode cX2_begin 9 = .ok (.aload_n 0, 1) := by decide +kernel
theorem dX2_begin_10 : decode cX2_begin 10 = .ok (.getfield 18, 3) := by decide +kernel
theorem dX2_begin_13 : decode cX2_begin 13 = .ok (.aload_n 0, 1) := by decide +kernel
theorem dX2_begin_14 : decode cX2_begin 14 = .ok (.getfield 38, 3) := by decide +kernel
theorem dX2_begin_17 : decode cX2_begin 17 = .ok (.iload_n 1, 1) := by decide +kernel
theorem dX2_begin_18 : decode cX2_begin 18 = .ok (.bastore, 1) := by decide +kernel
theorem dX2_begin_19 : decode cX2_begin 19 = .ok (.aload_n 0, 1) := by decide +kernel
theorem dX2_begin_20 : decode cX2_begin 20 = .ok (.getfield 22, 3) := by decide +kernel
theorem dX2_begin_23 : decode cX2_begin 23 = .ok (.aload_n 0, 1) := by decide +kernel
theorem dX2_begin_24 : decode cX2_begin 24 = .ok (.getfield 38, 3) := by decide +kernel
theorem dX2_begin_27 : decode cX2_begin 27 = .ok (.aload_n 0, 1) := by decide +kernel
theorem dX2_begin_28 : decode cX2_begin 28 = .ok (.getfield 34, 3) := by decide +kernel
theorem dX2_begin_31 : decode cX2_begin 31 = .ok (.iastore, 1) := by decide +kernel
theorem dX2_begin_32 : decode cX2_begin 32 = .ok (.aload_n 0, 1) := by decide +kernel
theorem dX2_begin_33 : decode cX2_begin 33 = .ok (.dup, 1) := by decide +kernel
theorem dX2_begin_34 : decode cX2_begin 34 = .ok (.getfield 38, 3) := by decide +kernel
theorem dX2_begin_37 : decode cX2_begin 37 = .ok (.iconst 1, 1) := by decide +kernel
theorem dX2_begin_38 : decode cX2_begin 38 = .ok (.iadd, 1) := by decide +kernel
theorem dX2_begin_39 : decode cX2_begin 39 = .ok (.putfield 38, 3) := by decide +kernel
theorem dX2_begin_42 : decode cX2_begin 42 = .ok (.return_, 1) := by decide +kernel
theorem dX2_beginCondition_0 : decode cX2_beginCondition 0 = .ok (.aload_n 0, 1) := by decide +kernel
theorem dX2_beginCondition_1 : decode cX2_beginCondition 1 = .ok (.getfield 25, 3) := by decide +kernel
theorem dX2_beginCondition_4 : decode cX2_beginCondition 4 = .ok (.aload_n 0, 1) := by decide +kernel
theorem dX2_beginCondition_5 : decode cX2_beginCondition 5 = .ok (.getfield 38, 3) := by decide +kernel
theorem dX2_beginCondition_8 : decode cX2_beginCondition 8 = .ok (.iconst 1, 1) := by decide +kernel
theorem dX2_beginCondition_9 : decode cX2_beginCondition 9 = .ok (.isub, 1) := by decide +kernel
theorem dX2_beginCondition_10 : decode cX2_beginCondition 10 = .ok (.aload_n 0, 1) := by decide +kernel
theorem dX2_beginCondition_11 : decode cX2_beginCondition 11 = .ok (.getfield 34, 3) := by decide +kernel
theorem dX2_beginCondition_14 : decode cX2_beginCondition 14 = .ok (.invokestatic 41, 3) := by decide +kernel
theorem dX2_beginCondition_17 : decode cX2_beginCondition 17 = .ok (.return_, 1) := by decide +kernel
theorem dX2_end_0 : decode cX2_end 0 = .ok (.aload_n 0, 1) := by decide +kernel
theorem dX2_end_1 : decode cX2_end 1 = .ok (.getfield 28, 3) := by decide +kernel
theorem dX2_end_4 : decode cX2_end 4 = .ok (.aload_n 0, 1) := by decide +kernel
theorem dX2_end_5 : decode cX2_end 5 = .ok (.getfield 38, 3) := by decide +kernel
theorem dX2_end_8 : decode cX2_end 8 = .ok (.iconst 1, 1) := by decide +kernel
theorem dX2_end_9 : decode cX2_end 9 = .ok (.isub, 1) := by decide +kernel
theorem dX2_end_10 : decode cX2_end 10 = .ok (.aload_n 0, 1) := by decide +kernel
theorem dX2_end_11 : decode cX2_end 11 = .ok (.getfield 34, 3) := by decide +kernel
theorem dX2_end_14 : decode cX2_end 14 = .ok (.invokestatic 41, 3) := by decide +kernel
theorem dX2_end_17 : decode cX2_end 17 = .ok (.return_, 1) := by decide +kernel
theorem dX2_add_0 : decode cX2_add 0 = .ok (.aload_n 0, 1) := by decide +kernel
theorem dX2_add_1 : decode cX2_add 1 = .ok (.getfield 9, 3) := by decide +kernel
theorem dX2_add_4 : decode cX2_add 4 = .ok (.aload_n 0, 1) := by decide +kernel
theorem dX2_add_5 : decode cX2_add 5 = .ok (.getfield 34, 3) := by decide +kernel
theorem dX2_add_8 : decode cX2_add 8 = .ok (.iload_n 1, 1) := by decide +kernel
theorem dX2_add_9 : decode cX2_add 9 = .ok (.invokestatic 41, 3) := by decide +kernel
theorem dX2_add_12 : decode cX2_add 12 = .ok (.aload_n 0, 1) := by decide +kernel
theorem dX2_add_13 : decode cX2_add 13 = .ok (.getfield 15, 3) := by decide +kernel
theorem dX2_add_16 : decode cX2_add 16 = .ok (.aload_n 0, 1) := by decide +kernel
theorem dX2_add_17 : decode cX2_add 17 = .ok (.getfield 34, 3) := by decide +kernel
theorem dX2_add_20 : decode cX2_add 20 = .ok (.iload_n 2, 1) := by decide +kernel
theorem dX2_add_21 : decode cX2_add 21 = .ok (.invokestatic 41, 3) := by decide +kernel
theorem dX2_add_24 : decode cX2_add 24 = .ok (.aload_n 0, 1) := by decide +kernel
theorem dX2_add_25 : decode cX2_add 25 = .ok (.dup, 1) := by decide +kernel
theorem dX2_add_26 : decode cX2_add 26 = .ok (.getfield 34, 3) := by decide +kernel
theorem dX2_add_29 : decode cX2_add 29 = .ok (.iconst 1, 1) := by decide +kernel
theorem dX2_add_30 : decode cX2_add 30 = .ok (.iadd, 1) := by decide +kernel
theorem dX2_add_31 : decode cX2_add 31 = .ok (.putfield 34, 3) := by decide +kernel
theorem dX2_add_34 : decode cX2_add 34 = .ok (.return_, 1) := by decide +kernel
theorem dX2_firstThatHolds_0 : decode cX2_firstThatHolds 0 = .ok (.iconst 0, 1) := by decide +kernel
theorem dX2_firstThatHolds_1 : decode cX2_firstThatHolds 1 = .ok (.istore_n 3, 1) := by decide +kernel
theorem dX2_firstThatHolds_2 : decode cX2_firstThatHolds 2 = .ok (.iload_n 3, 1) := by decide +kernel
theorem dX2_firstThatHolds_3 : decode cX2_firstThatHolds 3 = .ok (.aload_n 0, 1) := by decide +kernel
theorem dX2_firstThatHolds_4 : decode cX2_firstThatHolds 4 = .ok (.getfield 38, 3) := by decide +kernel
theorem dX2_firstThatHolds_7 : decode cX2_firstThatHolds 7 = .ok (.if_icmp .ge 36, 3) := by decide +kernel
theorem dX2_firstThatHolds_10 : decode cX2_firstThatHolds 10 = .ok (.iload_n 3, 1) := by decide +kernel
theorem dX2_firstThatHolds_11 : decode cX2_firstThatHolds 11 = .ok (.bipush 16, 2) := by decide +kernel
theorem dX2_firstThatHolds_13 : decode cX2_firstThatHolds 13 = .ok (.if_icmp .ge 30, 3) := by decide +kernel
theorem dX2_firstThatHolds_16 : decode cX2_firstThatHolds 16 = .ok (.aload_n 0, 1) := by decide +kernel
theorem dX2_firstThatHolds_17 : decode cX2_firstThatHolds 17 = .ok (.getfield 18, 3) := by decide +kernel
theorem dX2_firstThatHolds_20 : decode cX2_firstThatHolds 20 = .ok (.iload_n 3, 1) := by decide +kernel
theorem dX2_firstThatHolds_21 : decode cX2_firstThatHolds 21 = .ok (.baload, 1) := by decide +kernel
theorem dX2_firstThatHolds_22 : decode cX2_firstThatHolds 22 = .ok (.iload_n 1, 1) := by decide +kernel
theorem dX2_firstThatHolds_23 : decode cX2_firstThatHolds 23 = .ok (.if_icmp .ne 14, 3) := by decide +kernel
theorem dX2_firstThatHolds_26 : decode cX2_firstThatHolds 26 = .ok (.aload_n 0, 1) := by decide +kernel
theorem dX2_firstThatHolds_27 : decode cX2_firstThatHolds 27 = .ok (.iload_n 3, 1) := by decide +kernel
theorem dX2_firstThatHolds_28 : decode cX2_firstThatHolds 28 = .ok (.aload_n 2, 1) := by decide +kernel
theorem dX2_firstThatHolds_29 : decode cX2_firstThatHolds 29 = .ok (.invokevirtual 45, 3) := by decide +kernel
theorem dX2_firstThatHolds_32 : decode cX2_firstThatHolds 32 = .ok (.ifCond .eq 5, 3) := by decide +kernel
theorem dX2_firstThatHolds_35 : decode cX2_firstThatHolds 35 = .ok (.iload_n 3, 1) := by decide +kernel
theorem dX2_firstThatHolds_36 : decode cX2_firstThatHolds 36 = .ok (.ireturn, 1) := by decide +kernel
theorem dX2_firstThatHolds_37 : decode cX2_firstThatHolds 37 = .ok (.iinc 3 1, 3) := by decide +kernel
theorem dX2_firstThatHolds_40 : decode cX2_firstThatHolds 40 = .ok (.goto (-38), 3) := by decide +kernel
theorem dX2_firstThatHolds_43 : decode cX2_firstThatHolds 43 = .ok (.iconst (-1), 1) := by decide +kernel
theorem dX2_firstThatHolds_44 : decode cX2_firstThatHolds 44 = .ok (.ireturn, 1) := by decide +kernel
theorem dX2_growth_0 : decode cX2_growth 0 = .ok (.iload_n 1, 1) := by decide +kernel
theorem dX2_growth_1 : decode cX2_growth 1 = .ok (.iconst (-1), 1) := by decide +kernel
theorem dX2_growth_2 : decode cX2_growth 2 = .ok (.if_icmp .ne 6, 3) := by decide +kernel
theorem dX2_growth_5 : decode cX2_growth 5 = .ok (.bipush 11, 2) := by decide +kernel
theorem dX2_growth_7 : decode cX2_growth 7 = .ok (.ireturn, 1) := by decide +kernel
theorem dX2_growth_8 : decode cX2_growth 8 = .ok (.aload_n 0, 1) := by decide +kernel
theorem dX2_growth_9 : decode cX2_growth 9 = .ok (.aload_n 0, 1) := by decide +kernel
theorem dX2_growth_10 : decode cX2_growth 10 = .ok (.getfield 22, 3) := by decide +kernel
theorem dX2_growth_13 : decode cX2_growth 13 = .ok (.iload_n 1, 1) := by decide +kernel
theorem dX2_growth_14 : decode cX2_growth 14 = .ok (.invokestatic 49, 3) := by decide +kernel
theorem dX2_growth_17 : decode cX2_growth 17 = .ok (.aload_n 0, 1) := by decide +kernel
theorem dX2_growth_18 : decode cX2_growth 18 = .ok (.getfield 25, 3) := by decide +kernel
theorem dX2_growth_21 : decode cX2_growth 21 = .ok (.iload_n 1, 1) := by decide +kernel
theorem dX2_growth_22 : decode cX2_growth 22 = .ok (.invokestatic 49, 3) := by decide +kernel
theorem dX2_growth_25 : decode cX2_growth 25 = .ok (.aload_n 2, 1) := by decide +kernel
theorem dX2_growth_26 : decode cX2_growth 26 = .ok (.invokevirtual 53, 3) := by decide +kernel
theorem dX2_growth_29 : decode cX2_growth 29 = .ok (.istore_n 3, 1) := by decide +kernel
theorem dX2_growth_30 : decode cX2_growth 30 = .ok (.iconst 0, 1) := by decide +kernel
theorem dX2_growth_31 : decode cX2_growth 31 = .ok (.bipush 100, 2) := by decide +kernel
theorem dX2_growth_33 : decode cX2_growth 33 = .ok (.iload_n 3, 1) := by decide +kernel
theorem dX2_growth_34 : decode cX2_growth 34 = .ok (.invokestatic 57, 3) := by decide +kernel
theorem dX2_growth_37 : decode cX2_growth 37 = .ok (.invokestatic 63, 3) := by decide +kernel
theorem dX2_growth_40 : decode cX2_growth 40 = .ok (.ireturn, 1) := by decide +kernel
theorem dX2_holds_0 : decode cX2_holds 0 = .ok (.aload_n 0, 1) := by decide +kernel
theorem dX2_holds_1 : decode cX2_holds 1 = .ok (.getfield 25, 3) := by decide +kernel
theorem dX2_holds_4 : decode cX2_holds 4 = .ok (.iload_n 1, 1) := by decide +kernel
theorem dX2_holds_5 : decode cX2_holds 5 = .ok (.invokestatic 49, 3) := by decide +kernel
theorem dX2_holds_8 : decode cX2_holds 8 = .ok (.istore_n 3, 1) := by decide +kernel
theorem dX2_holds_9 : decode cX2_holds 9 = .ok (.aload_n 0, 1) := by decide +kernel
theorem dX2_holds_10 : decode cX2_holds 10 = .ok (.getfield 28, 3) := by decide +kernel
theorem dX2_holds_13 : decode cX2_holds 13 = .ok (.iload_n 1, 1) := by decide +kernel
theorem dX2_holds_14 : decode cX2_holds 14 = .ok (.invokestatic 49, 3) := by decide +kernel
theorem dX2_holds_17 : decode cX2_holds 17 = .ok (.istore 4, 2) := by decide +kernel
theorem dX2_holds_19 : decode cX2_holds 19 = .ok (.iload_n 3, 1) := by decide +kernel
theorem dX2_holds_20 : decode cX2_holds 20 = .ok (.iload 4, 2) := by decide +kernel
theorem dX2_holds_22 : decode cX2_holds 22 = .ok (.if_icmp .eq 14, 3) := by decide +kernel
theorem dX2_holds_25 : decode cX2_holds 25 = .ok (.aload_n 0, 1) := by decide +kernel
theorem dX2_holds_26 : decode cX2_holds 26 = .ok (.iload_n 3, 1) := by decide +kernel
theorem dX2_holds_27 : decode cX2_holds 27 = .ok (.iload 4, 2) := by decide +kernel
theorem dX2_holds_29 : decode cX2_holds 29 = .ok (.aload_n 2, 1) := by decide +kernel
theorem dX2_holds_30 : decode cX2_holds 30 = .ok (.invokevirtual 53, 3) := by decide +kernel
theorem dX2_holds_33 : decode cX2_holds 33 = .ok (.ifCond .eq 7, 3) := by decide +kernel
theorem dX2_holds_36 : decode cX2_holds 36 = .ok (.iconst 1, 1) := by decide +kernel
theorem dX2_holds_37 : decode cX2_holds 37 = .ok (.goto 4, 3) := by decide +kernel
theorem dX2_holds_40 : decode cX2_holds 40 = .ok (.iconst 0, 1) := by decide +kernel
theorem dX2_holds_41 : decode cX2_holds 41 = .ok (.ireturn, 1) := by decide +kernel
theorem dX2_worth_0 : decode cX2_worth 0 = .ok (.iconst 0, 1) := by decide +kernel
theorem dX2_worth_1 : decode cX2_worth 1 = .ok (.istore 4, 2) := by decide +kernel
theorem dX2_worth_3 : decode cX2_worth 3 = .ok (.iload_n 1, 1) := by decide +kernel
theorem dX2_worth_4 : decode cX2_worth 4 = .ok (.istore 5, 2) := by decide +kernel
theorem dX2_worth_6 : decode cX2_worth 6 = .ok (.iload 5, 2) := by decide +kernel
theorem dX2_worth_8 : decode cX2_worth 8 = .ok (.iload_n 2, 1) := by decide +kernel
theorem dX2_worth_9 : decode cX2_worth 9 = .ok (.if_icmp .ge 123, 3) := by decide +kernel
theorem dX2_worth_12 : decode cX2_worth 12 = .ok (.aload_n 0, 1) := by decide +kernel
theorem dX2_worth_13 : decode cX2_worth 13 = .ok (.getfield 9, 3) := by decide +kernel
theorem dX2_worth_16 : decode cX2_worth 16 = .ok (.iload 5, 2) := by decide +kernel
theorem dX2_worth_18 : decode cX2_worth 18 = .ok (.invokestatic 49, 3) := by decide +kernel
theorem dX2_worth_21 : decode cX2_worth 21 = .ok (.istore 6, 2) := by decide +kernel
theorem dX2_worth_23 : decode cX2_worth 23 = .ok (.iload 6, 2) := by decide +kernel
theorem dX2_worth_25 : decode cX2_worth 25 = .ok (.bipush 6, 2) := by decide +kernel
theorem dX2_worth_27 : decode cX2_worth 27 = .ok (.if_icmp .eq 9, 3) := by decide +kernel
theorem dX2_worth_30 : decode cX2_worth 30 = .ok (.iload 6, 2) := by decide +kernel
theorem dX2_worth_32 : decode cX2_worth 32 = .ok (.iconst 5, 1) := by decide +kernel
theorem dX2_worth_33 : decode cX2_worth 33 = .ok (.if_icmp .ne 50, 3) := by decide +kernel
theorem dX2_worth_36 : decode cX2_worth 36 = .ok (.aload_n 0, 1) := by decide +kernel
theorem dX2_worth_37 : decode cX2_worth 37 = .ok (.getfield 31, 3) := by decide +kernel
theorem dX2_worth_40 : decode cX2_worth 40 = .ok (.iload 4, 2) := by decide +kernel
theorem dX2_worth_42 : decode cX2_worth 42 = .ok (.iload 6, 2) := by decide +kernel
theorem dX2_worth_44 : decode cX2_worth 44 = .ok (.bipush 6, 2) := by decide +kernel
theorem dX2_worth_46 : decode cX2_worth 46 = .ok (.if_icmp .ne 15, 3) := by decide +kernel
theorem dX2_worth_49 : decode cX2_worth 49 = .ok (.aload_n 0, 1) := by decide +kernel
theorem dX2_worth_50 : decode cX2_worth 50 = .ok (.getfield 15, 3) := by decide +kernel
theorem dX2_worth_53 : decode cX2_worth 53 = .ok (.iload 5, 2) := by decide +kernel
theorem dX2_worth_55 : decode cX2_worth 55 = .ok (.invokestatic 49, 3) := by decide +kernel
theorem dX2_worth_58 : decode cX2_worth 58 = .ok (.goto 16, 3) := by decide +kernel
theorem dX2_worth_61 : decode cX2_worth 61 = .ok (.aload_n 3, 1) := by decide +kernel
theorem dX2_worth_62 : decode cX2_worth 62 = .ok (.aload_n 0, 1) := by decide +kernel
theorem dX2_worth_63 : decode cX2_worth 63 = .ok (.getfield 15, 3) := by decide +kernel
theorem dX2_worth_66 : decode cX2_worth 66 = .ok (.iload 5, 2) := by decide +kernel
theorem dX2_worth_68 : decode cX2_worth 68 = .ok (.invokestatic 49, 3) := by decide +kernel
theorem dX2_worth_71 : decode cX2_worth 71 = .ok (.invokestatic 49, 3) := by decide +kernel
theorem dX2_worth_74 : decode cX2_worth 74 = .ok (.invokestatic 41, 3) := by decide +kernel
theorem dX2_worth_77 : decode cX2_worth 77 = .ok (.iinc 4 1, 3) := by decide +kernel
theorem dX2_worth_80 : decode cX2_worth 80 = .ok (.goto 46, 3) := by decide +kernel
theorem dX2_worth_83 : decode cX2_worth 83 = .ok (.iinc 4 (-1), 3) := by decide +kernel
theorem dX2_worth_86 : decode cX2_worth 86 = .ok (.iload 6, 2) := by decide +kernel
theorem dX2_worth_88 : decode cX2_worth 88 = .ok (.aload_n 0, 1) := by decide +kernel
theorem dX2_worth_89 : decode cX2_worth 89 = .ok (.getfield 31, 3) := by decide +kernel
theorem dX2_worth_92 : decode cX2_worth 92 = .ok (.iload 4, 2) := by decide +kernel
theorem dX2_worth_94 : decode cX2_worth 94 = .ok (.iconst 1, 1) := by decide +kernel
theorem dX2_worth_95 : decode cX2_worth 95 = .ok (.isub, 1) := by decide +kernel
theorem dX2_worth_96 : decode cX2_worth 96 = .ok (.invokestatic 49, 3) := by decide +kernel
theorem dX2_worth_99 : decode cX2_worth 99 = .ok (.aload_n 0, 1) := by decide +kernel
theorem dX2_worth_100 : decode cX2_worth 100 = .ok (.getfield 31, 3) := by decide +kernel
theorem dX2_worth_103 : decode cX2_worth 103 = .ok (.iload 4, 2) := by decide +kernel
theorem dX2_worth_105 : decode cX2_worth 105 = .ok (.invokestatic 49, 3) := by decide +kernel
theorem dX2_worth_108 : decode cX2_worth 108 = .ok (.invokestatic 66, 3) := by decide +kernel
theorem dX2_worth_111 : decode cX2_worth 111 = .ok (.istore 7, 2) := by decide +kernel
theorem dX2_worth_113 : decode cX2_worth 113 = .ok (.aload_n 0, 1) := by decide +kernel
theorem dX2_worth_114 : decode cX2_worth 114 = .ok (.getfield 31, 3) := by decide +kernel
theorem dX2_worth_117 : decode cX2_worth 117 = .ok (.iload 4, 2) := by decide +kernel
theorem dX2_worth_119 : decode cX2_worth 119 = .ok (.iconst 1, 1) := by decide +kernel
theorem dX2_worth_120 : decode cX2_worth 120 = .ok (.isub, 1) := by decide +kernel
theorem dX2_worth_121 : decode cX2_worth 121 = .ok (.iload 7, 2) := by decide +kernel
theorem dX2_worth_123 : decode cX2_worth 123 = .ok (.invokestatic 41, 3) := by decide +kernel
theorem dX2_worth_126 : decode cX2_worth 126 = .ok (.iinc 5 1, 3) := by decide +kernel
theorem dX2_worth_129 : decode cX2_worth 129 = .ok (.goto (-123), 3) := by decide +kernel
theorem dX2_worth_132 : decode cX2_worth 132 = .ok (.aload_n 0, 1) := by decide +kernel
theorem dX2_worth_133 : decode cX2_worth 133 = .ok (.getfield 31, 3) := by decide +kernel
theorem dX2_worth_136 : decode cX2_worth 136 = .ok (.iconst 0, 1) := by decide +kernel
theorem dX2_worth_137 : decode cX2_worth 137 = .ok (.invokestatic 49, 3) := by decide +kernel
theorem dX2_worth_140 : decode cX2_worth 140 = .ok (.ireturn, 1) := by decide +kernel
theorem dX2_join_0 : decode cX2_join 0 = .ok (.iload_n 0, 1) := by decide +kernel
theorem dX2_join_1 : decode cX2_join 1 = .ok (.tableswitch 119 4 14 #[115, 119, 119, 119, 59, 63, 67, 71, 82, 93, 104], 59) := by decide +kernel
theorem dX2_join_60 : decode cX2_join 60 = .ok (.iload_n 1, 1) := by decide +kernel
theorem dX2_join_61 : decode cX2_join 61 = .ok (.iload_n 2, 1) := by decide +kernel
theorem dX2_join_62 : decode cX2_join 62 = .ok (.iadd, 1) := by decide +kernel
theorem dX2_join_63 : decode cX2_join 63 = .ok (.ireturn, 1) := by decide +kernel
theorem dX2_join_64 : decode cX2_join 64 = .ok (.iload_n 1, 1) := by decide +kernel
theorem dX2_join_65 : decode cX2_join 65 = .ok (.iload_n 2, 1) := by decide +kernel
theorem dX2_join_66 : decode cX2_join 66 = .ok (.isub, 1) := by decide +kernel
theorem dX2_join_67 : decode cX2_join 67 = .ok (.ireturn, 1) := by decide +kernel
theorem dX2_join_68 : decode cX2_join 68 = .ok (.iload_n 1, 1) := by decide +kernel
theorem dX2_join_69 : decode cX2_join 69 = .ok (.iload_n 2, 1) := by decide +kernel
theorem dX2_join_70 : decode cX2_join 70 = .ok (.imul, 1) := by decide +kernel
theorem dX2_join_71 : decode cX2_join 71 = .ok (.ireturn, 1) := by decide +kernel
theorem dX2_join_72 : decode cX2_join 72 = .ok (.iload_n 1, 1) := by decide +kernel
theorem dX2_join_73 : decode cX2_join 73 = .ok (.iload_n 2, 1) := by decide +kernel
theorem dX2_join_74 : decode cX2_join 74 = .ok (.if_icmp .ne 7, 3) := by decide +kernel
theorem dX2_join_77 : decode cX2_join 77 = .ok (.iconst 1, 1) := by decide +kernel
theorem dX2_join_78 : decode cX2_join 78 = .ok (.goto 4, 3) := by decide +kernel
theorem dX2_join_81 : decode cX2_join 81 = .ok (.iconst 0, 1) := by decide +kernel
theorem dX2_join_82 : decode cX2_join 82 = .ok (.ireturn, 1) := by decide +kernel
theorem dX2_join_83 : decode cX2_join 83 = .ok (.iload_n 1, 1) := by decide +kernel
theorem dX2_join_84 : decode cX2_join 84 = .ok (.iload_n 2, 1) := by decide +kernel
theorem dX2_join_85 : decode cX2_join 85 = .ok (.if_icmp .eq 7, 3) := by decide +kernel
theorem dX2_join_88 : decode cX2_join 88 = .ok (.iconst 1, 1) := by decide +kernel
theorem dX2_join_89 : decode cX2_join 89 = .ok (.goto 4, 3) := by decide +kernel
theorem dX2_join_92 : decode cX2_join 92 = .ok (.iconst 0, 1) := by decide +kernel
theorem dX2_join_93 : decode cX2_join 93 = .ok (.ireturn, 1) := by decide +kernel
theorem dX2_join_94 : decode cX2_join 94 = .ok (.iload_n 1, 1) := by decide +kernel
theorem dX2_join_95 : decode cX2_join 95 = .ok (.iload_n 2, 1) := by decide +kernel
theorem dX2_join_96 : decode cX2_join 96 = .ok (.if_icmp .ge 7, 3) := by decide +kernel
theorem dX2_join_99 : decode cX2_join 99 = .ok (.iconst 1, 1) := by decide +kernel
theorem dX2_join_100 : decode cX2_join 100 = .ok (.goto 4, 3) := by decide +kernel
theorem dX2_join_103 : decode cX2_join 103 = .ok (.iconst 0, 1) := by decide +kernel
theorem dX2_join_104 : decode cX2_join 104 = .ok (.ireturn, 1) := by decide +kernel
theorem dX2_join_105 : decode cX2_join 105 = .ok (.iload_n 1, 1) := by decide +kernel
theorem dX2_join_106 : decode cX2_join 106 = .ok (.iload_n 2, 1) := by decide +kernel
theorem dX2_join_107 : decode cX2_join 107 = .ok (.if_icmp .gt 7, 3) := by decide +kernel
theorem dX2_join_110 : decode cX2_join 110 = .ok (.iconst 1, 1) := by decide +kernel
theorem dX2_join_111 : decode cX2_join 111 = .ok (.goto 4, 3) := by decide +kernel
theorem dX2_join_114 : decode cX2_join 114 = .ok (.iconst 0, 1) := by decide +kernel
theorem dX2_join_115 : decode cX2_join 115 = .ok (.ireturn, 1) := by decide +kernel
theorem dX2_join_116 : decode cX2_join 116 = .ok (.iload_n 1, 1) := by decide +kernel
theorem dX2_join_117 : decode cX2_join 117 = .ok (.iload_n 2, 1) := by decide +kernel
theorem dX2_join_118 : decode cX2_join 118 = .ok (.iand, 1) := by decide +kernel
theorem dX2_join_119 : decode cX2_join 119 = .ok (.ireturn, 1) := by decide +kernel
theorem dX2_join_120 : decode cX2_join 120 = .ok (.iload_n 1, 1) := by decide +kernel
theorem dX2_join_121 : decode cX2_join 121 = .ok (.iload_n 2, 1) := by decide +kernel
theorem dX2_join_122 : decode cX2_join 122 = .ok (.ior, 1) := by decide +kernel
theorem dX2_join_123 : decode cX2_join 123 = .ok (.ireturn, 1) := by decide +kernel
theorem dX3_init_0 : decode cX3_init 0 = .ok (.aload_n 0, 1) := by decide +kernel
theorem dX3_init_1 : decode cX3_init 1 = .ok (.invokespecial 3, 3) := by decide +kernel
theorem dX3_init_4 : decode cX3_init 4 = .ok (.aload_n 0, 1) := by decide +kernel
theorem dX3_init_5 : decode cX3_init 5 = .ok (.iconst 0, 1) := by decide +kernel
theorem dX3_init_6 : decode cX3_init 6 = .ok (.putfield 9, 3) := by decide +kernel
theorem dX3_init_9 : decode cX3_init 9 = .ok (.aload_n 0, 1) := by decide +kernel
theorem dX3_init_10 : decode cX3_init 10 = .ok (.bipush 17, 2) := by decide +kernel
theorem dX3_init_12 : decode cX3_init 12 = .ok (.putfield 15, 3) := by decide +kernel
theorem dX3_init_15 : decode cX3_init 15 = .ok (.aload_n 0, 1) := by decide +kernel
theorem dX3_init_16 : decode cX3_init 16 = .ok (.iconst 0, 1) := by decide +kernel
theorem dX3_init_17 : decode cX3_init 17 = .ok (.putfield 18, 3) := by decide +kernel
theorem dX3_init_20 : decode cX3_init 20 = .ok (.aload_n 0, 1) := by decide +kernel
theorem dX3_init_21 : decode cX3_init 21 = .ok (.iconst 0, 1) := by decide +kernel
theorem dX3_init_22 : decode cX3_init 22 = .ok (.newarray .int, 2) := by decide +kernel
theorem dX3_init_24 : decode cX3_init 24 = .ok (.putfield 21, 3) := by decide +kernel
theorem dX3_init_27 : decode cX3_init 27 = .ok (.aload_n 0, 1) := by decide +kernel
theorem dX3_init_28 : decode cX3_init 28 = .ok (.iconst 0, 1) := by decide +kernel
theorem dX3_init_29 : decode cX3_init 29 = .ok (.putfield 25, 3) := by decide +kernel
theorem dX3_init_32 : decode cX3_init 32 = .ok (.aload_n 0, 1) := by decide +kernel
theorem dX3_init_33 : decode cX3_init 33 = .ok (.iconst 0, 1) := by decide +kernel
theorem dX3_init_34 : decode cX3_init 34 = .ok (.putfield 28, 3) := by decide +kernel
theorem dX3_init_37 : decode cX3_init 37 = .ok (.return_, 1) := by decide +kernel
theorem dX3_open_0 : decode cX3_open 0 = .ok (.aload_n 0, 1) := by decide +kernel
theorem dX3_open_1 : decode cX3_open 1 = .ok (.aload_n 1, 1) := by decide +kernel
theorem dX3_open_2 : decode cX3_open 2 = .ok (.putfield 21, 3) := by decide +kernel
theorem dX3_open_5 : decode cX3_open 5 = .ok (.aload_n 0, 1) := by decide +kernel
theorem dX3_open_6 : decode cX3_open 6 = .ok (.iload_n 2, 1) := by decide +kernel
theorem dX3_open_7 : decode cX3_open 7 = .ok (.aload_n 1, 1) := by decide +kernel
theorem dX3_open_8 : decode cX3_open 8 = .ok (.arraylength, 1) := by decide +kernel
theorem dX3_open_9 : decode cX3_open 9 = .ok (.invokestatic 31, 3) := by decide +kernel
theorem dX3_open_12 : decode cX3_open 12 = .ok (.putfield 25, 3) := by decide +kernel
theorem dX3_open_15 : decode cX3_open 15 = .ok (.aload_n 0, 1) := by decide +kernel
theorem dX3_open_16 : decode cX3_open 16 = .ok (.iconst 0, 1) := by decide +kernel
theorem dX3_open_17 : decode cX3_open 17 = .ok (.putfield 28, 3) := by decide +kernel
theorem dX3_open_20 : decode cX3_open 20 = .ok (.return_, 1) := by decide +kernel
theorem dX3_cutToken_0 : decode cX3_cutToken 0 = .ok (.aload_n 0, 1) := by decide +kernel
theorem dX3_cutToken_1 : decode cX3_cutToken 1 = .ok (.getfield 28, 3) := by decide +kernel
theorem dX3_cutToken_4 : decode cX3_cutToken 4 = .ok (.aload_n 0, 1) := by decide +kernel
theorem dX3_cutToken_5 : decode cX3_cutToken 5 = .ok (.getfield 25, 3) := by decide +kernel
theorem dX3_cutToken_8 : decode cX3_cutToken 8 = .ok (.if_icmp .ge 30, 3) := by decide +kernel
theorem dX3_cutToken_11 : decode cX3_cutToken 11 = .ok (.aload_n 0, 1) := by decide +kernel
theorem dX3_cutToken_12 : decode cX3_cutToken 12 = .ok (.aload_n 0, 1) := by decide +kernel
theorem dX3_cutToken_13 : decode cX3_cutToken 13 = .ok (.getfield 28, 3) := by decide +kernel
theorem dX3_cutToken_16 : decode cX3_cutToken 16 = .ok (.invokevirtual 37, 3) := by decide +kernel
theorem dX3_cutToken_19 : decode cX3_cutToken 19 = .ok (.invokestatic 41, 3) := by decide +kernel
theorem dX3_cutToken_22 : decode cX3_cutToken 22 = .ok (.ifCond .eq 16, 3) := by decide +kernel
theorem dX3_cutToken_25 : decode cX3_cutToken 25 = .ok (.aload_n 0, 1) := by decide +kernel
theorem dX3_cutToken_26 : decode cX3_cutToken 26 = .ok (.dup, 1) := by decide +kernel
theorem dX3_cutToken_27 : decode cX3_cutToken 27 = .ok (.getfield 28, 3) := by decide +kernel
theorem dX3_cutToken_30 : decode cX3_cutToken 30 = .ok (.iconst 1, 1) := by decide +kernel
theorem dX3_cutToken_31 : decode cX3_cutToken 31 = .ok (.iadd, 1) := by decide +kernel
theorem dX3_cutToken_32 : decode cX3_cutToken 32 = .ok (.putfield 28, 3) := by decide +kernel
theorem dX3_cutToken_35 : decode cX3_cutToken 35 = .ok (.goto (-35), 3) := by decide +kernel
theorem dX3_cutToken_38 : decode cX3_cutToken 38 = .ok (.aload_n 0, 1) := by decide +kernel
theorem dX3_cutToken_39 : decode cX3_cutToken 39 = .ok (.aload_n 0, 1) := by decide +kernel
theorem dX3_cutToken_40 : decode cX3_cutToken 40 = .ok (.getfield 28, 3) := by decide +kernel
theorem dX3_cutToken_43 : decode cX3_cutToken 43 = .ok (.putfield 9, 3) := by decide +kernel
theorem dX3_cutToken_46 : decode cX3_cutToken 46 = .ok (.aload_n 0, 1) := by decide +kernel
theorem dX3_cutToken_47 : decode cX3_cutToken 47 = .ok (.iconst 0, 1) := by decide +kernel
theorem dX3_cutToken_48 : decode cX3_cutToken 48 = .ok (.putfield 18, 3) := by decide +kernel
theorem dX3_cutToken_51 : decode cX3_cutToken 51 = .ok (.aload_n 0, 1) := by decide +kernel
theorem dX3_cutToken_52 : decode cX3_cutToken 52 = .ok (.aload_n 0, 1) := by decide +kernel
theorem dX3_cutToken_53 : decode cX3_cutToken 53 = .ok (.getfield 9, 3) := by decide +kernel
theorem dX3_cutToken_56 : decode cX3_cutToken 56 = .ok (.invokevirtual 37, 3) := by decide +kernel
theorem dX3_cutToken_59 : decode cX3_cutToken 59 = .ok (.istore_n 1, 1) := by decide +kernel
theorem dX3_cutToken_60 : decode cX3_cutToken 60 = .ok (.iload_n 1, 1) := by decide +kernel
theorem dX3_cutToken_61 : decode cX3_cutToken 61 = .ok (.iconst (-1), 1) := by decide +kernel
theorem dX3_cutToken_62 : decode cX3_cutToken 62 = .ok (.if_icmp .ne 12, 3) := by decide +kernel
theorem dX3_cutToken_65 : decode cX3_cutToken 65 = .ok (.aload_n 0, 1) := by decide +kernel
theorem dX3_cutToken_66 : decode cX3_cutToken 66 = .ok (.bipush 17, 2) := by decide +kernel
theorem dX3_cutToken_68 : decode cX3_cutToken 68 = .ok (.putfield 15, 3) := by decide +kernel
theorem dX3_cutToken_71 : decode cX3_cutToken 71 = .ok (.goto 48, 3) := by decide +kernel
theorem dX3_cutToken_74 : decode cX3_cutToken 74 = .ok (.iload_n 1, 1) := by decide +kernel
theorem dX3_cutToken_75 : decode cX3_cutToken 75 = .ok (.invokestatic 45, 3) := by decide +kernel
theorem dX3_cutToken_78 : decode cX3_cutToken 78 = .ok (.ifCond .eq 14, 3) := by decide +kernel
theorem dX3_cutToken_81 : decode cX3_cutToken 81 = .ok (.aload_n 0, 1) := by decide +kernel
theorem dX3_cutToken_82 : decode cX3_cutToken 82 = .ok (.aload_n 0, 1) := by decide +kernel
theorem dX3_cutToken_83 : decode cX3_cutToken 83 = .ok (.invokevirtual 48, 3) := by decide +kernel
theorem dX3_cutToken_86 : decode cX3_cutToken 86 = .ok (.putfield 15, 3) := by decide +kernel
theorem dX3_cutToken_89 : decode cX3_cutToken 89 = .ok (.goto 30, 3) := by decide +kernel
theorem dX3_cutToken_92 : decode cX3_cutToken 92 = .ok (.iload_n 1, 1) := by decide +kernel
theorem dX3_cutToken_93 : decode cX3_cutToken 93 = .ok (.invokestatic 52, 3) := by decide +kernel
theorem dX3_cutToken_96 : decode cX3_cutToken 96 = .ok (.ifCond .eq 14, 3) := by decide +kernel
theorem dX3_cutToken_99 : decode cX3_cutToken 99 = .ok (.aload_n 0, 1) := by decide +kernel
theorem dX3_cutToken_100 : decode cX3_cutToken 100 = .ok (.aload_n 0, 1) := by decide +kernel
theorem dX3_cutToken_101 : decode cX3_cutToken 101 = .ok (.invokevirtual 55, 3) := by decide +kernel
theorem dX3_cutToken_104 : decode cX3_cutToken 104 = .ok (.putfield 15, 3) := by decide +kernel
theorem dX3_cutToken_107 : decode cX3_cutToken 107 = .ok (.goto 12, 3) := by decide +kernel
theorem dX3_cutToken_110 : decode cX3_cutToken 110 = .ok (.aload_n 0, 1) := by decide +kernel
theorem dX3_cutToken_111 : decode cX3_cutToken 111 = .ok (.aload_n 0, 1) := by decide +kernel
theorem dX3_cutToken_112 : decode cX3_cutToken 112 = .ok (.iload_n 1, 1) := by decide +kernel
theorem dX3_cutToken_113 : decode cX3_cutToken 113 = .ok (.invokevirtual 58, 3) := by decide +kernel
theorem dX3_cutToken_116 : decode cX3_cutToken 116 = .ok (.putfield 15, 3) := by decide +kernel
theorem dX3_cutToken_119 : decode cX3_cutToken 119 = .ok (.return_, 1) := by decide +kernel
theorem dX3_byteAt_0 : decode cX3_byteAt 0 = .ok (.iload_n 1, 1) := by decide +kernel
theorem dX3_byteAt_1 : decode cX3_byteAt 1 = .ok (.aload_n 0, 1) := by decide +kernel
theorem dX3_byteAt_2 : decode cX3_byteAt 2 = .ok (.getfield 25, 3) := by decide +kernel
theorem dX3_byteAt_5 : decode cX3_byteAt 5 = .ok (.if_icmp .ge 14, 3) := by decide +kernel
theorem dX3_byteAt_8 : decode cX3_byteAt 8 = .ok (.aload_n 0, 1) := by decide +kernel
theorem dX3_byteAt_9 : decode cX3_byteAt 9 = .ok (.getfield 21, 3) := by decide +kernel
theorem dX3_byteAt_12 : decode cX3_byteAt 12 = .ok (.iload_n 1, 1) := by decide +kernel
theorem dX3_byteAt_13 : decode cX3_byteAt 13 = .ok (.invokestatic 61, 3) := by decide +kernel
theorem dX3_byteAt_16 : decode cX3_byteAt 16 = .ok (.goto 4, 3) := by decide +kernel
theorem dX3_byteAt_19 : decode cX3_byteAt 19 = .ok (.iconst (-1), 1) := by decide +kernel
theorem dX3_byteAt_20 : decode cX3_byteAt 20 = .ok (.ireturn, 1) := by decide +kernel
theorem dX3_cutWord_0 : decode cX3_cutWord 0 = .ok (.aload_n 0, 1) := by decide +kernel
theorem dX3_cutWord_1 : decode cX3_cutWord 1 = .ok (.getfield 28, 3) := by decide +kernel
theorem dX3_cutWord_4 : decode cX3_cutWord 4 = .ok (.aload_n 0, 1) := by decide +kernel
theorem dX3_cutWord_5 : decode cX3_cutWord 5 = .ok (.getfield 25, 3) := by decide +kernel
theorem dX3_cutWord_8 : decode cX3_cutWord 8 = .ok (.if_icmp .ge 30, 3) := by decide +kernel
theorem dX3_cutWord_11 : decode cX3_cutWord 11 = .ok (.aload_n 0, 1) := by decide +kernel
theorem dX3_cutWord_12 : decode cX3_cutWord 12 = .ok (.aload_n 0, 1) := by decide +kernel
theorem dX3_cutWord_13 : decode cX3_cutWord 13 = .ok (.getfield 28, 3) := by decide +kernel
theorem dX3_cutWord_16 : decode cX3_cutWord 16 = .ok (.invokevirtual 37, 3) := by decide +kernel
theorem dX3_cutWord_19 : decode cX3_cutWord 19 = .ok (.invokestatic 45, 3) := by decide +kernel
theorem dX3_cutWord_22 : decode cX3_cutWord 22 = .ok (.ifCond .eq 16, 3) := by decide +kernel
theorem dX3_cutWord_25 : decode cX3_cutWord 25 = .ok (.aload_n 0, 1) := by decide +kernel
theorem dX3_cutWord_26 : decode cX3_cutWord 26 = .ok (.dup, 1) := by decide +kernel
theorem dX3_cutWord_27 : decode cX3_cutWord 27 = .ok (.getfield 28, 3) := by decide +kernel
theorem dX3_cutWord_30 : decode cX3_cutWord 30 = .ok (.iconst 1, 1) := by decide +kernel
theorem dX3_cutWord_31 : decode cX3_cutWord 31 = .ok (.iadd, 1) := by decide +kernel
theorem dX3_cutWord_32 : decode cX3_cutWord 32 = .ok (.putfield 28, 3) := by decide +kernel
theorem dX3_cutWord_35 : decode cX3_cutWord 35 = .ok (.goto (-35), 3) := by decide +kernel
theorem dX3_cutWord_38 : decode cX3_cutWord 38 = .ok (.iconst 0, 1) := by decide +kernel
theorem dX3_cutWord_39 : decode cX3_cutWord 39 = .ok (.istore_n 1, 1) := by decide +kernel
theorem dX3_cutWord_40 : decode cX3_cutWord 40 = .ok (.iload_n 1, 1) := by decide +kernel
theorem dX3_cutWord_41 : decode cX3_cutWord 41 = .ok (.bipush 14, 2) := by decide +kernel
theorem dX3_cutWord_43 : decode cX3_cutWord 43 = .ok (.if_icmp .ge 34, 3) := by decide +kernel
theorem dX3_cutWord_46 : decode cX3_cutWord 46 = .ok (.aload_n 0, 1) := by decide +kernel
theorem dX3_cutWord_47 : decode cX3_cutWord 47 = .ok (.iload_n 1, 1) := by decide +kernel
theorem dX3_cutWord_48 : decode cX3_cutWord 48 = .ok (.invokevirtual 65, 3) := by decide +kernel
theorem dX3_cutWord_51 : decode cX3_cutWord 51 = .ok (.ifCond .eq 20, 3) := by decide +kernel
theorem dX3_cutWord_54 : decode cX3_cutWord 54 = .ok (.aload_n 0, 1) := by decide +kernel
theorem dX3_cutWord_55 : decode cX3_cutWord 55 = .ok (.iconst 0, 1) := by decide +kernel
theorem dX3_cutWord_56 : decode cX3_cutWord 56 = .ok (.iload_n 1, 1) := by decide +kernel
theorem dX3_cutWord_57 : decode cX3_cutWord 57 = .ok (.iconst 5, 1) := by decide +kernel
theorem dX3_cutWord_58 : decode cX3_cutWord 58 = .ok (.isub, 1) := by decide +kernel
theorem dX3_cutWord_59 : decode cX3_cutWord 59 = .ok (.invokestatic 68, 3) := by decide +kernel
theorem dX3_cutWord_62 : decode cX3_cutWord 62 = .ok (.putfield 18, 3) := by decide +kernel
theorem dX3_cutWord_65 : decode cX3_cutWord 65 = .ok (.iload_n 1, 1) := by decide +kernel
theorem dX3_cutWord_66 : decode cX3_cutWord 66 = .ok (.iconst 5, 1) := by decide +kernel
theorem dX3_cutWord_67 : decode cX3_cutWord 67 = .ok (.invokestatic 31, 3) := by decide +kernel
theorem dX3_cutWord_70 : decode cX3_cutWord 70 = .ok (.ireturn, 1) := by decide +kernel
theorem dX3_cutWord_71 : decode cX3_cutWord 71 = .ok (.iinc 1 1, 3) := by decide +kernel
theorem dX3_cutWord_74 : decode cX3_cutWord 74 = .ok (.goto (-34), 3) := by decide +kernel
theorem dX3_cutWord_77 : decode cX3_cutWord 77 = .ok (.bipush 18, 2) := by decide +kernel
theorem dX3_cutWord_79 : decode cX3_cutWord 79 = .ok (.ireturn, 1) := by decide +kernel
theorem dX3_isWord_0 : decode cX3_isWord 0 = .ok (.aload_n 0, 1) := by decide +kernel
theorem dX3_isWord_1 : decode cX3_isWord 1 = .ok (.getfield 28, 3) := by decide +kernel
theorem dX3_isWord_4 : decode cX3_isWord 4 = .ok (.aload_n 0, 1) := by decide +kernel
theorem dX3_isWord_5 : decode cX3_isWord 5 = .ok (.getfield 9, 3) := by decide +kernel
theorem dX3_isWord_8 : decode cX3_isWord 8 = .ok (.isub, 1) := by decide +kernel
theorem dX3_isWord_9 : decode cX3_isWord 9 = .ok (.iconst 5, 1) := by decide +kernel
theorem dX3_isWord_10 : decode cX3_isWord 10 = .ok (.if_icmp .le 5, 3) := by decide +kernel
theorem dX3_isWord_13 : decode cX3_isWord 13 = .ok (.iconst 0, 1) := by decide +kernel
theorem dX3_isWord_14 : decode cX3_isWord 14 = .ok (.ireturn, 1) := by decide +kernel
theorem dX3_isWord_15 : decode cX3_isWord 15 = .ok (.iconst 0, 1) := by decide +kernel
theorem dX3_isWord_16 : decode cX3_isWord 16 = .ok (.istore_n 2, 1) := by decide +kernel
theorem dX3_isWord_17 : decode cX3_isWord 17 = .ok (.iload_n 2, 1) := by decide +kernel
theorem dX3_isWord_18 : decode cX3_isWord 18 = .ok (.iconst 5, 1) := by decide +kernel
theorem dX3_isWord_19 : decode cX3_isWord 19 = .ok (.if_icmp .ge 67, 3) := by decide +kernel
theorem dX3_isWord_22 : decode cX3_isWord 22 = .ok (.iload_n 1, 1) := by decide +kernel
theorem dX3_isWord_23 : decode cX3_isWord 23 = .ok (.iconst 5, 1) := by decide +kernel
theorem dX3_isWord_24 : decode cX3_isWord 24 = .ok (.imul, 1) := by decide +kernel
theorem dX3_isWord_25 : decode cX3_isWord 25 = .ok (.iload_n 2, 1) := by decide +kernel
theorem dX3_isWord_26 : decode cX3_isWord 26 = .ok (.iadd, 1) := by decide +kernel
theorem dX3_isWord_27 : decode cX3_isWord 27 = .ok (.istore_n 3, 1) := by decide +kernel
theorem dX3_isWord_28 : decode cX3_isWord 28 = .ok (.aload_n 0, 1) := by decide +kernel
theorem dX3_isWord_29 : decode cX3_isWord 29 = .ok (.getfield 9, 3) := by decide +kernel
theorem dX3_isWord_32 : decode cX3_isWord 32 = .ok (.iload_n 2, 1) := by decide +kernel
theorem dX3_isWord_33 : decode cX3_isWord 33 = .ok (.iadd, 1) := by decide +kernel
theorem dX3_isWord_34 : decode cX3_isWord 34 = .ok (.aload_n 0, 1) := by decide +kernel
theorem dX3_isWord_35 : decode cX3_isWord 35 = .ok (.getfield 28, 3) := by decide +kernel
theorem dX3_isWord_38 : decode cX3_isWord 38 = .ok (.if_icmp .ge 16, 3) := by decide +kernel
theorem dX3_isWord_41 : decode cX3_isWord 41 = .ok (.aload_n 0, 1) := by decide +kernel
theorem dX3_isWord_42 : decode cX3_isWord 42 = .ok (.aload_n 0, 1) := by decide +kernel
theorem dX3_isWord_43 : decode cX3_isWord 43 = .ok (.getfield 9, 3) := by decide +kernel
theorem dX3_isWord_46 : decode cX3_isWord 46 = .ok (.iload_n 2, 1) := by decide +kernel
theorem dX3_isWord_47 : decode cX3_isWord 47 = .ok (.iadd, 1) := by decide +kernel
theorem dX3_isWord_48 : decode cX3_isWord 48 = .ok (.invokevirtual 37, 3) := by decide +kernel
theorem dX3_isWord_51 : decode cX3_isWord 51 = .ok (.goto 5, 3) := by decide +kernel
theorem dX3_isWord_54 : decode cX3_isWord 54 = .ok (.bipush 32, 2) := by decide +kernel
theorem dX3_isWord_56 : decode cX3_isWord 56 = .ok (.istore 4, 2) := by decide +kernel
theorem dX3_isWord_58 : decode cX3_isWord 58 = .ok (.iload_n 3, 1) := by decide +kernel
theorem dX3_isWord_59 : decode cX3_isWord 59 = .ok (.ldc 71, 2) := by decide +kernel
theorem dX3_isWord_61 : decode cX3_isWord 61 = .ok (.invokevirtual 73, 3) := by decide +kernel
theorem dX3_isWord_64 : decode cX3_isWord 64 = .ok (.if_icmp .ge 14, 3) := by decide +kernel
theorem dX3_isWord_67 : decode cX3_isWord 67 = .ok (.ldc 71, 2) := by decide +kernel
theorem dX3_isWord_69 : decode cX3_isWord 69 = .ok (.iload_n 3, 1) := by decide +kernel
theorem dX3_isWord_70 : decode cX3_isWord 70 = .ok (.invokevirtual 77, 3) := by decide +kernel
theorem dX3_isWord_73 : decode cX3_isWord 73 = .ok (.iload 4, 2) := by decide +kernel
theorem dX3_isWord_75 : decode cX3_isWord 75 = .ok (.if_icmp .eq 5, 3) := by decide +kernel
theorem dX3_isWord_78 : decode cX3_isWord 78 = .ok (.iconst 0, 1) := by decide +kernel
theorem dX3_isWord_79 : decode cX3_isWord 79 = .ok (.ireturn, 1) := by decide +kernel
theorem dX3_isWord_80 : decode cX3_isWord 80 = .ok (.iinc 2 1, 3) := by decide +kernel
theorem dX3_isWord_83 : decode cX3_isWord 83 = .ok (.goto (-66), 3) := by decide +kernel
theorem dX3_isWord_86 : decode cX3_isWord 86 = .ok (.iconst 1, 1) := by decide +kernel
theorem dX3_isWord_87 : decode cX3_isWord 87 = .ok (.ireturn, 1) := by decide +kernel
theorem dX3_cutInt_0 : decode cX3_cutInt 0 = .ok (.aload_n 0, 1) := by decide +kernel
theorem dX3_cutInt_1 : decode cX3_cutInt 1 = .ok (.getfield 28, 3) := by decide +kernel
theorem dX3_cutInt_4 : decode cX3_cutInt 4 = .ok (.aload_n 0, 1) := by decide +kernel
theorem dX3_cutInt_5 : decode cX3_cutInt 5 = .ok (.getfield 25, 3) := by decide +kernel
theorem dX3_cutInt_8 : decode cX3_cutInt 8 = .ok (.if_icmp .ge 53, 3) := by decide +kernel
theorem dX3_cutInt_11 : decode cX3_cutInt 11 = .ok (.aload_n 0, 1) := by decide +kernel
theorem dX3_cutInt_12 : decode cX3_cutInt 12 = .ok (.aload_n 0, 1) := by decide +kernel
theorem dX3_cutInt_13 : decode cX3_cutInt 13 = .ok (.getfield 28, 3) := by decide +kernel
theorem dX3_cutInt_16 : decode cX3_cutInt 16 = .ok (.invokevirtual 37, 3) := by decide +kernel
theorem dX3_cutInt_19 : decode cX3_cutInt 19 = .ok (.invokestatic 52, 3) := by decide +kernel
theorem dX3_cutInt_22 : decode cX3_cutInt 22 = .ok (.ifCond .eq 39, 3) := by decide +kernel
theorem dX3_cutInt_25 : decode cX3_cutInt 25 = .ok (.aload_n 0, 1) := by decide +kernel
theorem dX3_cutInt_26 : decode cX3_cutInt 26 = .ok (.aload_n 0, 1) := by decide +kernel
theorem dX3_cutInt_27 : decode cX3_cutInt 27 = .ok (.getfield 18, 3) := by decide +kernel
theorem dX3_cutInt_30 : decode cX3_cutInt 30 = .ok (.bipush 10, 2) := by decide +kernel
theorem dX3_cutInt_32 : decode cX3_cutInt 32 = .ok (.imul, 1) := by decide +kernel
theorem dX3_cutInt_33 : decode cX3_cutInt 33 = .ok (.aload_n 0, 1) := by decide +kernel
theorem dX3_cutInt_34 : decode cX3_cutInt 34 = .ok (.aload_n 0, 1) := by decide +kernel
theorem dX3_cutInt_35 : decode cX3_cutInt 35 = .ok (.getfield 28, 3) := by decide +kernel
theorem dX3_cutInt_38 : decode cX3_cutInt 38 = .ok (.invokevirtual 37, 3) := by decide +kernel
theorem dX3_cutInt_41 : decode cX3_cutInt 41 = .ok (.iadd, 1) := by decide +kernel
theorem dX3_cutInt_42 : decode cX3_cutInt 42 = .ok (.bipush 48, 2) := by decide +kernel
theorem dX3_cutInt_44 : decode cX3_cutInt 44 = .ok (.isub, 1) := by decide +kernel
theorem dX3_cutInt_45 : decode cX3_cutInt 45 = .ok (.putfield 18, 3) := by decide +kernel
theorem dX3_cutInt_48 : decode cX3_cutInt 48 = .ok (.aload_n 0, 1) := by decide +kernel
theorem dX3_cutInt_49 : decode cX3_cutInt 49 = .ok (.dup, 1) := by decide +kernel
theorem dX3_cutInt_50 : decode cX3_cutInt 50 = .ok (.getfield 28, 3) := by decide +kernel
theorem dX3_cutInt_53 : decode cX3_cutInt 53 = .ok (.iconst 1, 1) := by decide +kernel
theorem dX3_cutInt_54 : decode cX3_cutInt 54 = .ok (.iadd, 1) := by decide +kernel
theorem dX3_cutInt_55 : decode cX3_cutInt 55 = .ok (.putfield 28, 3) := by decide +kernel
theorem dX3_cutInt_58 : decode cX3_cutInt 58 = .ok (.goto (-58), 3) := by decide +kernel
theorem dX3_cutInt_61 : decode cX3_cutInt 61 = .ok (.aload_n 0, 1) := by decide +kernel
theorem dX3_cutInt_62 : decode cX3_cutInt 62 = .ok (.getfield 28, 3) := by decide +kernel
theorem dX3_cutInt_65 : decode cX3_cutInt 65 = .ok (.aload_n 0, 1) := by decide +kernel
theorem dX3_cutInt_66 : decode cX3_cutInt 66 = .ok (.getfield 9, 3) := by decide +kernel
theorem dX3_cutInt_69 : decode cX3_cutInt 69 = .ok (.isub, 1) := by decide +kernel
theorem dX3_cutInt_70 : decode cX3_cutInt 70 = .ok (.iconst 4, 1) := by decide +kernel
theorem dX3_cutInt_71 : decode cX3_cutInt 71 = .ok (.if_icmp .le 8, 3) := by decide +kernel
theorem dX3_cutInt_74 : decode cX3_cutInt 74 = .ok (.bipush 18, 2) := by decide +kernel
theorem dX3_cutInt_76 : decode cX3_cutInt 76 = .ok (.goto 5, 3) := by decide +kernel
theorem dX3_cutInt_79 : decode cX3_cutInt 79 = .ok (.bipush 6, 2) := by decide +kernel
theorem dX3_cutInt_81 : decode cX3_cutInt 81 = .ok (.ireturn, 1) := by decide +kernel
theorem dX3_cutSign_0 : decode cX3_cutSign 0 = .ok (.aload_n 0, 1) := by decide +kernel
theorem dX3_cutSign_1 : decode cX3_cutSign 1 = .ok (.dup, 1) := by decide +kernel
theorem dX3_cutSign_2 : decode cX3_cutSign 2 = .ok (.getfield 28, 3) := by decide +kernel
theorem dX3_cutSign_5 : decode cX3_cutSign 5 = .ok (.iconst 1, 1) := by decide +kernel
theorem dX3_cutSign_6 : decode cX3_cutSign 6 = .ok (.iadd, 1) := by decide +kernel
theorem dX3_cutSign_7 : decode cX3_cutSign 7 = .ok (.putfield 28, 3) := by decide +kernel
theorem dX3_cutSign_10 : decode cX3_cutSign 10 = .ok (.iload_n 1, 1) := by decide +kernel
theorem dX3_cutSign_11 : decode cX3_cutSign 11 = .ok (.tableswitch 174 33 61 #[156, 174, 174, 174, 174, 174, 174, 141, 144, 138, 132, 174, 135, 174, 174, 174, 174, 174, 174, 174, 174, 174, 174, 174, 174, 174, 129, 165, 147], 129) := by decide +kernel
theorem dX3_cutSign_140 : decode cX3_cutSign 140 = .ok (.bipush 7, 2) := by decide +kernel
theorem dX3_cutSign_142 : decode cX3_cutSign 142 = .ok (.ireturn, 1) := by decide +kernel
theorem dX3_cutSign_143 : decode cX3_cutSign 143 = .ok (.bipush 8, 2) := by decide +kernel
theorem dX3_cutSign_145 : decode cX3_cutSign 145 = .ok (.ireturn, 1) := by decide +kernel
theorem dX3_cutSign_146 : decode cX3_cutSign 146 = .ok (.bipush 9, 2) := by decide +kernel
theorem dX3_cutSign_148 : decode cX3_cutSign 148 = .ok (.ireturn, 1) := by decide +kernel
theorem dX3_cutSign_149 : decode cX3_cutSign 149 = .ok (.bipush 10, 2) := by decide +kernel
theorem dX3_cutSign_151 : decode cX3_cutSign 151 = .ok (.ireturn, 1) := by decide +kernel
theorem dX3_cutSign_152 : decode cX3_cutSign 152 = .ok (.bipush 15, 2) := by decide +kernel
theorem dX3_cutSign_154 : decode cX3_cutSign 154 = .ok (.ireturn, 1) := by decide +kernel
theorem dX3_cutSign_155 : decode cX3_cutSign 155 = .ok (.bipush 16, 2) := by decide +kernel
theorem dX3_cutSign_157 : decode cX3_cutSign 157 = .ok (.ireturn, 1) := by decide +kernel
theorem dX3_cutSign_158 : decode cX3_cutSign 158 = .ok (.aload_n 0, 1) := by decide +kernel
theorem dX3_cutSign_159 : decode cX3_cutSign 159 = .ok (.bipush 11, 2) := by decide +kernel
theorem dX3_cutSign_161 : decode cX3_cutSign 161 = .ok (.bipush 18, 2) := by decide +kernel
theorem dX3_cutSign_163 : decode cX3_cutSign 163 = .ok (.invokevirtual 81, 3) := by decide +kernel
theorem dX3_cutSign_166 : decode cX3_cutSign 166 = .ok (.ireturn, 1) := by decide +kernel
theorem dX3_cutSign_167 : decode cX3_cutSign 167 = .ok (.aload_n 0, 1) := by decide +kernel
theorem dX3_cutSign_168 : decode cX3_cutSign 168 = .ok (.bipush 12, 2) := by decide +kernel
theorem dX3_cutSign_170 : decode cX3_cutSign 170 = .ok (.bipush 18, 2) := by decide +kernel
theorem dX3_cutSign_172 : decode cX3_cutSign 172 = .ok (.invokevirtual 81, 3) := by decide +kernel
theorem dX3_cutSign_175 : decode cX3_cutSign 175 = .ok (.ireturn, 1) := by decide +kernel
theorem dX3_cutSign_176 : decode cX3_cutSign 176 = .ok (.aload_n 0, 1) := by decide +kernel
theorem dX3_cutSign_177 : decode cX3_cutSign 177 = .ok (.bipush 14, 2) := by decide +kernel
theorem dX3_cutSign_179 : decode cX3_cutSign 179 = .ok (.bipush 13, 2) := by decide +kernel
theorem dX3_cutSign_181 : decode cX3_cutSign 181 = .ok (.invokevirtual 81, 3) := by decide +kernel
theorem dX3_cutSign_184 : decode cX3_cutSign 184 = .ok (.ireturn, 1) := by decide +kernel
theorem dX3_cutSign_185 : decode cX3_cutSign 185 = .ok (.bipush 18, 2) := by decide +kernel
theorem dX3_cutSign_187 : decode cX3_cutSign 187 = .ok (.ireturn, 1) := by decide +kernel
theorem dX3_cutEqualSign_0 : decode cX3_cutEqualSign 0 = .ok (.aload_n 0, 1) := by decide +kernel
theorem dX3_cutEqualSign_1 : decode cX3_cutEqualSign 1 = .ok (.aload_n 0, 1) := by decide +kernel
theorem dX3_cutEqualSign_2 : decode cX3_cutEqualSign 2 = .ok (.getfield 28, 3) := by decide +kernel
theorem dX3_cutEqualSign_5 : decode cX3_cutEqualSign 5 = .ok (.invokevirtual 37, 3) := by decide +kernel
theorem dX3_cutEqualSign_8 : decode cX3_cutEqualSign 8 = .ok (.bipush 61, 2) := by decide +kernel
theorem dX3_cutEqualSign_10 : decode cX3_cutEqualSign 10 = .ok (.if_icmp .eq 5, 3) := by decide +kernel
theorem dX3_cutEqualSign_13 : decode cX3_cutEqualSign 13 = .ok (.iload_n 2, 1) := by decide +kernel
theorem dX3_cutEqualSign_14 : decode cX3_cutEqualSign 14 = .ok (.ireturn, 1) := by decide +kernel
theorem dX3_cutEqualSign_15 : decode cX3_cutEqualSign 15 = .ok (.aload_n 0, 1) := by decide +kernel
theorem dX3_cutEqualSign_16 : decode cX3_cutEqualSign 16 = .ok (.dup, 1) := by decide +kernel
theorem dX3_cutEqualSign_17 : decode cX3_cutEqualSign 17 = .ok (.getfield 28, 3) := by decide +kernel
theorem dX3_cutEqualSign_20 : decode cX3_cutEqualSign 20 = .ok (.iconst 1, 1) := by decide +kernel
theorem dX3_cutEqualSign_21 : decode cX3_cutEqualSign 21 = .ok (.iadd, 1) := by decide +kernel
theorem dX3_cutEqualSign_22 : decode cX3_cutEqualSign 22 = .ok (.putfield 28, 3) := by decide +kernel
theorem dX3_cutEqualSign_25 : decode cX3_cutEqualSign 25 = .ok (.iload_n 1, 1) := by decide +kernel
theorem dX3_cutEqualSign_26 : decode cX3_cutEqualSign 26 = .ok (.ireturn, 1) := by decide +kernel
theorem dX3_isBlank_0 : decode cX3_isBlank 0 = .ok (.iload_n 0, 1) := by decide +kernel
theorem dX3_isBlank_1 : decode cX3_isBlank 1 = .ok (.bipush 9, 2) := by decide +kernel
theorem dX3_isBlank_3 : decode cX3_isBlank 3 = .ok (.if_icmp .eq 21, 3) := by decide +kernel
theorem dX3_isBlank_6 : decode cX3_isBlank 6 = .ok (.iload_n 0, 1) := by decide +kernel
theorem dX3_isBlank_7 : decode cX3_isBlank 7 = .ok (.bipush 10, 2) := by decide +kernel
theorem dX3_isBlank_9 : decode cX3_isBlank 9 = .ok (.if_icmp .eq 15, 3) := by decide +kernel
theorem dX3_isBlank_12 : decode cX3_isBlank 12 = .ok (.iload_n 0, 1) := by decide +kernel
theorem dX3_isBlank_13 : decode cX3_isBlank 13 = .ok (.bipush 13, 2) := by decide +kernel
theorem dX3_isBlank_15 : decode cX3_isBlank 15 = .ok (.if_icmp .eq 9, 3) := by decide +kernel
theorem dX3_isBlank_18 : decode cX3_isBlank 18 = .ok (.iload_n 0, 1) := by decide +kernel
theorem dX3_isBlank_19 : decode cX3_isBlank 19 = .ok (.bipush 32, 2) := by decide +kernel
theorem dX3_isBlank_21 : decode cX3_isBlank 21 = .ok (.if_icmp .ne 7, 3) := by decide +kernel
theorem dX3_isBlank_24 : decode cX3_isBlank 24 = .ok (.iconst 1, 1) := by decide +kernel
theorem dX3_isBlank_25 : decode cX3_isBlank 25 = .ok (.goto 4, 3) := by decide +kernel
theorem dX3_isBlank_28 : decode cX3_isBlank 28 = .ok (.iconst 0, 1) := by decide +kernel
theorem dX3_isBlank_29 : decode cX3_isBlank 29 = .ok (.ireturn, 1) := by decide +kernel
theorem dX3_isLetter_0 : decode cX3_isLetter 0 = .ok (.iload_n 0, 1) := by decide +kernel
theorem dX3_isLetter_1 : decode cX3_isLetter 1 = .ok (.bipush 97, 2) := by decide +kernel
theorem dX3_isLetter_3 : decode cX3_isLetter 3 = .ok (.if_icmp .lt 13, 3) := by decide +kernel
theorem dX3_isLetter_6 : decode cX3_isLetter 6 = .ok (.iload_n 0, 1) := by decide +kernel
theorem dX3_isLetter_7 : decode cX3_isLetter 7 = .ok (.bipush 122, 2) := by decide +kernel
theorem dX3_isLetter_9 : decode cX3_isLetter 9 = .ok (.if_icmp .gt 7, 3) := by decide +kernel
theorem dX3_isLetter_12 : decode cX3_isLetter 12 = .ok (.iconst 1, 1) := by decide +kernel
theorem dX3_isLetter_13 : decode cX3_isLetter 13 = .ok (.goto 4, 3) := by decide +kernel
theorem dX3_isLetter_16 : decode cX3_isLetter 16 = .ok (.iconst 0, 1) := by decide +kernel
theorem dX3_isLetter_17 : decode cX3_isLetter 17 = .ok (.ireturn, 1) := by decide +kernel
theorem dX3_isDigit_0 : decode cX3_isDigit 0 = .ok (.iload_n 0, 1) := by decide +kernel
theorem dX3_isDigit_1 : decode cX3_isDigit 1 = .ok (.bipush 48, 2) := by decide +kernel
theorem dX3_isDigit_3 : decode cX3_isDigit 3 = .ok (.if_icmp .lt 13, 3) := by decide +kernel
theorem dX3_isDigit_6 : decode cX3_isDigit 6 = .ok (.iload_n 0, 1) := by decide +kernel
theorem dX3_isDigit_7 : decode cX3_isDigit 7 = .ok (.bipush 57, 2) := by decide +kernel
theorem dX3_isDigit_9 : decode cX3_isDigit 9 = .ok (.if_icmp .gt 7, 3) := by decide +kernel
theorem dX3_isDigit_12 : decode cX3_isDigit 12 = .ok (.iconst 1, 1) := by decide +kernel
theorem dX3_isDigit_13 : decode cX3_isDigit 13 = .ok (.goto 4, 3) := by decide +kernel
theorem dX3_isDigit_16 : decode cX3_isDigit 16 = .ok (.iconst 0, 1) := by decide +kernel
theorem dX3_isDigit_17 : decode cX3_isDigit 17 = .ok (.ireturn, 1) := by decide +kernel
theorem dX4_init_0 : decode cX4_init 0 = .ok (.aload_n 0, 1) := by decide +kernel
theorem dX4_init_1 : decode cX4_init 1 = .ok (.invokespecial 3, 3) := by decide +kernel
theorem dX4_init_4 : decode cX4_init 4 = .ok (.aload_n 0, 1) := by decide +kernel
theorem dX4_init_5 : decode cX4_init 5 = .ok (.new 9, 3) := by decide +kernel
theorem dX4_init_8 : decode cX4_init 8 = .ok (.dup, 1) := by decide +kernel
theorem dX4_init_9 : decode cX4_init 9 = .ok (.invokespecial 11, 3) := by decide +kernel
theorem dX4_init_12 : decode cX4_init 12 = .ok (.putfield 12, 3) := by decide +kernel
theorem dX4_init_15 : decode cX4_init 15 = .ok (.aload_n 0, 1) := by decide +kernel
theorem dX4_init_16 : decode cX4_init 16 = .ok (.sipush 400, 3) := by decide +kernel
theorem dX4_init_19 : decode cX4_init 19 = .ok (.newarray .int, 2) := by decide +kernel
theorem dX4_init_21 : decode cX4_init 21 = .ok (.putfield 18, 3) := by decide +kernel
theorem dX4_init_24 : decode cX4_init 24 = .ok (.aload_n 0, 1) := by decide +kernel
theorem dX4_init_25 : decode cX4_init 25 = .ok (.iconst 0, 1) := by decide +kernel
theorem dX4_init_26 : decode cX4_init 26 = .ok (.putfield 22, 3) := by decide +kernel
theorem dX4_init_29 : decode cX4_init 29 = .ok (.aload_n 0, 1) := by decide +kernel
theorem dX4_init_30 : decode cX4_init 30 = .ok (.iconst 0, 1) := by decide +kernel
theorem dX4_init_31 : decode cX4_init 31 = .ok (.putfield 26, 3) := by decide +kernel
theorem dX4_init_34 : decode cX4_init 34 = .ok (.aload_n 0, 1) := by decide +kernel
theorem dX4_init_35 : decode cX4_init 35 = .ok (.iconst 0, 1) := by decide +kernel
theorem dX4_init_36 : decode cX4_init 36 = .ok (.putfield 29, 3) := by decide +kernel
theorem dX4_init_39 : decode cX4_init 39 = .ok (.aload_n 0, 1) := by decide +kernel
theorem dX4_init_40 : decode cX4_init 40 = .ok (.iconst 0, 1) := by decide +kernel
theorem dX4_init_41 : decode cX4_init 41 = .ok (.putfield 32, 3) := by decide +kernel
theorem dX4_init_44 : decode cX4_init 44 = .ok (.aload_n 0, 1) := by decide +kernel
theorem dX4_init_45 : decode cX4_init 45 = .ok (.iconst 0, 1) := by decide +kernel
theorem dX4_init_46 : decode cX4_init 46 = .ok (.putfield 35, 3) := by decide +kernel
theorem dX4_init_49 : decode cX4_init 49 = .ok (.aload_n 0, 1) := by decide +kernel
theorem dX4_init_50 : decode cX4_init 50 = .ok (.iconst 0, 1) := by decide +kernel
theorem dX4_init_51 : decode cX4_init 51 = .ok (.putfield 38, 3) := by decide +kernel
theorem dX4_init_54 : decode cX4_init 54 = .ok (.aload_n 0, 1) := by decide +kernel
theorem dX4_init_55 : decode cX4_init 55 = .ok (.aload_n 1, 1) := by decide +kernel
theorem dX4_init_56 : decode cX4_init 56 = .ok (.putfield 41, 3) := by decide +kernel
theorem dX4_init_59 : decode cX4_init 59 = .ok (.return_, 1) := by decide +kernel
theorem dX4_readText_0 : decode cX4_readText 0 = .ok (.aload_n 0, 1) := by decide +kernel
theorem dX4_readText_1 : decode cX4_readText 1 = .ok (.getfield 12, 3) := by decide +kernel
theorem dX4_readText_4 : decode cX4_readText 4 = .ok (.aload_n 1, 1) := by decide +kernel
theorem dX4_readText_5 : decode cX4_readText 5 = .ok (.iload_n 2, 1) := by decide +kernel
theorem dX4_readText_6 : decode cX4_readText 6 = .ok (.invokevirtual 45, 3) := by decide +kernel
theorem dX4_readText_9 : decode cX4_readText 9 = .ok (.aload_n 0, 1) := by decide +kernel
theorem dX4_readText_10 : decode cX4_readText 10 = .ok (.aload_n 3, 1) := by decide +kernel
theorem dX4_readText_11 : decode cX4_readText 11 = .ok (.putfield 41, 3) := by decide +kernel
theorem dX4_readText_14 : decode cX4_readText 14 = .ok (.aload_n 0, 1) := by decide +kernel
theorem dX4_readText_15 : decode cX4_readText 15 = .ok (.getfield 41, 3) := by decide +kernel
theorem dX4_readText_18 : decode cX4_readText 18 = .ok (.invokevirtual 49, 3) := by decide +kernel
theorem dX4_readText_21 : decode cX4_readText 21 = .ok (.aload_n 0, 1) := by decide +kernel
theorem dX4_readText_22 : decode cX4_readText 22 = .ok (.iconst 0, 1) := by decide +kernel
theorem dX4_readText_23 : decode cX4_readText 23 = .ok (.putfield 22, 3) := by decide +kernel
theorem dX4_readText_26 : decode cX4_readText 26 = .ok (.aload_n 0, 1) := by decide +kernel
theorem dX4_readText_27 : decode cX4_readText 27 = .ok (.iconst 0, 1) := by decide +kernel
theorem dX4_readText_28 : decode cX4_readText 28 = .ok (.putfield 26, 3) := by decide +kernel
theorem dX4_readText_31 : decode cX4_readText 31 = .ok (.aload_n 0, 1) := by decide +kernel
theorem dX4_readText_32 : decode cX4_readText 32 = .ok (.iconst 0, 1) := by decide +kernel
theorem dX4_readText_33 : decode cX4_readText 33 = .ok (.putfield 32, 3) := by decide +kernel
theorem dX4_readText_36 : decode cX4_readText 36 = .ok (.aload_n 0, 1) := by decide +kernel
theorem dX4_readText_37 : decode cX4_readText 37 = .ok (.iconst 0, 1) := by decide +kernel
theorem dX4_readText_38 : decode cX4_readText 38 = .ok (.putfield 35, 3) := by decide +kernel
theorem dX4_readText_41 : decode cX4_readText 41 = .ok (.aload_n 0, 1) := by decide +kernel
theorem dX4_readText_42 : decode cX4_readText 42 = .ok (.iconst 0, 1) := by decide +kernel
theorem dX4_readText_43 : decode cX4_readText 43 = .ok (.putfield 38, 3) := by decide +kernel
theorem dX4_readText_46 : decode cX4_readText 46 = .ok (.iconst 0, 1) := by decide +kernel
theorem dX4_readText_47 : decode cX4_readText 47 = .ok (.istore 4, 2) := by decide +kernel
theorem dX4_readText_49 : decode cX4_readText 49 = .ok (.iload 4, 2) := by decide +kernel
theorem dX4_readText_51 : decode cX4_readText 51 = .ok (.iload_n 2, 1) := by decide +kernel
theorem dX4_readText_52 : decode cX4_readText 52 = .ok (.if_icmp .gt 64, 3) := by decide +kernel
theorem dX4_readText_55 : decode cX4_readText 55 = .ok (.aload_n 0, 1) := by decide +kernel
theorem dX4_readText_56 : decode cX4_readText 56 = .ok (.getfield 38, 3) := by decide +kernel
theorem dX4_readText_59 : decode cX4_readText 59 = .ok (.ifCond .ne 57, 3) := by decide +kernel
theorem dX4_readText_62 : decode cX4_readText 62 = .ok (.aload_n 0, 1) := by decide +kernel
theorem dX4_readText_63 : decode cX4_readText 63 = .ok (.getfield 12, 3) := by decide +kernel
theorem dX4_readText_66 : decode cX4_readText 66 = .ok (.invokevirtual 54, 3) := by decide +kernel
theorem dX4_readText_69 : decode cX4_readText 69 = .ok (.aload_n 0, 1) := by decide +kernel
theorem dX4_readText_70 : decode cX4_readText 70 = .ok (.getfield 12, 3) := by decide +kernel
theorem dX4_readText_73 : decode cX4_readText 73 = .ok (.getfield 57, 3) := by decide +kernel
theorem dX4_readText_76 : decode cX4_readText 76 = .ok (.bipush 17, 2) := by decide +kernel
theorem dX4_readText_78 : decode cX4_readText 78 = .ok (.if_icmp .ne 13, 3) := by decide +kernel
theorem dX4_readText_81 : decode cX4_readText 81 = .ok (.aload_n 0, 1) := by decide +kernel
theorem dX4_readText_82 : decode cX4_readText 82 = .ok (.invokevirtual 60, 3) := by decide +kernel
theorem dX4_readText_85 : decode cX4_readText 85 = .ok (.ifCond .eq 6, 3) := by decide +kernel
theorem dX4_readText_88 : decode cX4_readText 88 = .ok (.goto 28, 3) := by decide +kernel
theorem dX4_readText_91 : decode cX4_readText 91 = .ok (.aload_n 0, 1) := by decide +kernel
theorem dX4_readText_92 : decode cX4_readText 92 = .ok (.aload_n 0, 1) := by decide +kernel
theorem dX4_readText_93 : decode cX4_readText 93 = .ok (.invokevirtual 64, 3) := by decide +kernel
theorem dX4_readText_96 : decode cX4_readText 96 = .ok (.putfield 38, 3) := by decide +kernel
theorem dX4_readText_99 : decode cX4_readText 99 = .ok (.aload_n 0, 1) := by decide +kernel
theorem dX4_readText_100 : decode cX4_readText 100 = .ok (.getfield 38, 3) := by decide +kernel
theorem dX4_readText_103 : decode cX4_readText 103 = .ok (.ifCond .ne 7, 3) := by decide +kernel
theorem dX4_readText_106 : decode cX4_readText 106 = .ok (.aload_n 0, 1) := by decide +kernel
theorem dX4_readText_107 : decode cX4_readText 107 = .ok (.invokevirtual 68, 3) := by decide +kernel
theorem dX4_readText_110 : decode cX4_readText 110 = .ok (.iinc 4 1, 3) := by decide +kernel
theorem dX4_readText_113 : decode cX4_readText 113 = .ok (.goto (-64), 3) := by decide +kernel
theorem dX4_readText_116 : decode cX4_readText 116 = .ok (.aload_n 0, 1) := by decide +kernel
theorem dX4_readText_117 : decode cX4_readText 117 = .ok (.getfield 38, 3) := by decide +kernel
theorem dX4_readText_120 : decode cX4_readText 120 = .ok (.ireturn, 1) := by decide +kernel
theorem dX4_placeOfFault_0 : decode cX4_placeOfFault 0 = .ok (.aload_n 0, 1) := by decide +kernel
theorem dX4_placeOfFault_1 : decode cX4_placeOfFault 1 = .ok (.getfield 38, 3) := by decide +kernel
theorem dX4_placeOfFault_4 : decode cX4_placeOfFault 4 = .ok (.ifCond .ne 7, 3) := by decide +kernel
theorem dX4_placeOfFault_7 : decode cX4_placeOfFault 7 = .ok (.iconst (-1), 1) := by decide +kernel
theorem dX4_placeOfFault_8 : decode cX4_placeOfFault 8 = .ok (.goto 10, 3) := by decide +kernel
theorem dX4_placeOfFault_11 : decode cX4_placeOfFault 11 = .ok (.aload_n 0, 1) := by decide +kernel
theorem dX4_placeOfFault_12 : decode cX4_placeOfFault 12 = .ok (.getfield 12, 3) := by decide +kernel
theorem dX4_placeOfFault_15 : decode cX4_placeOfFault 15 = .ok (.getfield 71, 3) := by decide +kernel
theorem dX4_placeOfFault_18 : decode cX4_placeOfFault 18 = .ok (.ireturn, 1) := by decide +kernel
theorem dX4_faultOfToken_0 : decode cX4_faultOfToken 0 = .ok (.aload_n 0, 1) := by decide +kernel
theorem dX4_faultOfToken_1 : decode cX4_faultOfToken 1 = .ok (.invokevirtual 60, 3) := by decide +kernel
theorem dX4_faultOfToken_4 : decode cX4_faultOfToken 4 = .ok (.ifCond .ne 5, 3) := by decide +kernel
theorem dX4_faultOfToken_7 : decode cX4_faultOfToken 7 = .ok (.iconst 1, 1) := by decide +kernel
theorem dX4_faultOfToken_8 : decode cX4_faultOfToken 8 = .ok (.ireturn, 1) := by decide +kernel
theorem dX4_faultOfToken_9 : decode cX4_faultOfToken 9 = .ok (.aload_n 0, 1) := by decide +kernel
theorem dX4_faultOfToken_10 : decode cX4_faultOfToken 10 = .ok (.invokevirtual 74, 3) := by decide +kernel
theorem dX4_faultOfToken_13 : decode cX4_faultOfToken 13 = .ok (.ifCond .eq 7, 3) := by decide +kernel
theorem dX4_faultOfToken_16 : decode cX4_faultOfToken 16 = .ok (.iconst 0, 1) := by decide +kernel
theorem dX4_faultOfToken_17 : decode cX4_faultOfToken 17 = .ok (.goto 4, 3) := by decide +kernel
theorem dX4_faultOfToken_20 : decode cX4_faultOfToken 20 = .ok (.iconst 2, 1) := by decide +kernel
theorem dX4_faultOfToken_21 : decode cX4_faultOfToken 21 = .ok (.ireturn, 1) := by decide +kernel
theorem dX4_fits_0 : decode cX4_fits 0 = .ok (.aload_n 0, 1) := by decide +kernel
theorem dX4_fits_1 : decode cX4_fits 1 = .ok (.getfield 12, 3) := by decide +kernel
theorem dX4_fits_4 : decode cX4_fits 4 = .ok (.getfield 57, 3) := by decide +kernel
theorem dX4_fits_7 : decode cX4_fits 7 = .ok (.istore_n 1, 1) := by decide +kernel
theorem dX4_fits_8 : decode cX4_fits 8 = .ok (.aload_n 0, 1) := by decide +kernel
theorem dX4_fits_9 : decode cX4_fits 9 = .ok (.getfield 26, 3) := by decide +kernel
theorem dX4_fits_12 : decode cX4_fits 12 = .ok (.tableswitch 83 0 2 #[28, 49, 60], 28) := by decide +kernel
theorem dX4_fits_40 : decode cX4_fits 40 = .ok (.iload_n 1, 1) := by decide +kernel
theorem dX4_fits_41 : decode cX4_fits 41 = .ok (.ifCond .eq 14, 3) := by decide +kernel
theorem dX4_fits_44 : decode cX4_fits 44 = .ok (.iload_n 1, 1) := by decide +kernel
theorem dX4_fits_45 : decode cX4_fits 45 = .ok (.iconst 2, 1) := by decide +kernel
theorem dX4_fits_46 : decode cX4_fits 46 = .ok (.if_icmp .eq 9, 3) := by decide +kernel
theorem dX4_fits_49 : decode cX4_fits 49 = .ok (.iload_n 1, 1) := by decide +kernel
theorem dX4_fits_50 : decode cX4_fits 50 = .ok (.bipush 17, 2) := by decide +kernel
theorem dX4_fits_52 : decode cX4_fits 52 = .ok (.if_icmp .ne 7, 3) := by decide +kernel
theorem dX4_fits_55 : decode cX4_fits 55 = .ok (.iconst 1, 1) := by decide +kernel
theorem dX4_fits_56 : decode cX4_fits 56 = .ok (.goto 4, 3) := by decide +kernel
theorem dX4_fits_59 : decode cX4_fits 59 = .ok (.iconst 0, 1) := by decide +kernel
theorem dX4_fits_60 : decode cX4_fits 60 = .ok (.ireturn, 1) := by decide +kernel
theorem dX4_fits_61 : decode cX4_fits 61 = .ok (.iload_n 1, 1) := by decide +kernel
theorem dX4_fits_62 : decode cX4_fits 62 = .ok (.iconst 1, 1) := by decide +kernel
theorem dX4_fits_63 : decode cX4_fits 63 = .ok (.if_icmp .ne 7, 3) := by decide +kernel
theorem dX4_fits_66 : decode cX4_fits 66 = .ok (.iconst 1, 1) := by decide +kernel
theorem dX4_fits_67 : decode cX4_fits 67 = .ok (.goto 4, 3) := by decide +kernel
theorem dX4_fits_70 : decode cX4_fits 70 = .ok (.iconst 0, 1) := by decide +kernel
theorem dX4_fits_71 : decode cX4_fits 71 = .ok (.ireturn, 1) := by decide +kernel
theorem dX4_fits_72 : decode cX4_fits 72 = .ok (.iload_n 1, 1) := by decide +kernel
theorem dX4_fits_73 : decode cX4_fits 73 = .ok (.bipush 6, 2) := by decide +kernel
theorem dX4_fits_75 : decode cX4_fits 75 = .ok (.if_icmp .eq 14, 3) := by decide +kernel
theorem dX4_fits_78 : decode cX4_fits 78 = .ok (.iload_n 1, 1) := by decide +kernel
theorem dX4_fits_79 : decode cX4_fits 79 = .ok (.iconst 5, 1) := by decide +kernel
theorem dX4_fits_80 : decode cX4_fits 80 = .ok (.if_icmp .eq 9, 3) := by decide +kernel
theorem dX4_fits_83 : decode cX4_fits 83 = .ok (.iload_n 1, 1) := by decide +kernel
theorem dX4_fits_84 : decode cX4_fits 84 = .ok (.bipush 15, 2) := by decide +kernel
theorem dX4_fits_86 : decode cX4_fits 86 = .ok (.if_icmp .ne 7, 3) := by decide +kernel
theorem dX4_fits_89 : decode cX4_fits 89 = .ok (.iconst 1, 1) := by decide +kernel
theorem dX4_fits_90 : decode cX4_fits 90 = .ok (.goto 4, 3) := by decide +kernel
theorem dX4_fits_93 : decode cX4_fits 93 = .ok (.iconst 0, 1) := by decide +kernel
theorem dX4_fits_94 : decode cX4_fits 94 = .ok (.ireturn, 1) := by decide +kernel
theorem dX4_fits_95 : decode cX4_fits 95 = .ok (.aload_n 0, 1) := by decide +kernel
theorem dX4_fits_96 : decode cX4_fits 96 = .ok (.iload_n 1, 1) := by decide +kernel
theorem dX4_fits_97 : decode cX4_fits 97 = .ok (.invokevirtual 77, 3) := by decide +kernel
theorem dX4_fits_100 : decode cX4_fits 100 = .ok (.ireturn, 1) := by decide +kernel
theorem dX4_fitsBehindUnit_0 : decode cX4_fitsBehindUnit 0 = .ok (.iload_n 1, 1) := by decide +kernel
theorem dX4_fitsBehindUnit_1 : decode cX4_fitsBehindUnit 1 = .ok (.bipush 8, 2) := by decide +kernel
theorem dX4_fitsBehindUnit_3 : decode cX4_fitsBehindUnit 3 = .ok (.if_icmp .eq 15, 3) := by decide +kernel
theorem dX4_fitsBehindUnit_6 : decode cX4_fitsBehindUnit 6 = .ok (.iload_n 1, 1) := by decide +kernel
theorem dX4_fitsBehindUnit_7 : decode cX4_fitsBehindUnit 7 = .ok (.bipush 9, 2) := by decide +kernel
theorem dX4_fitsBehindUnit_9 : decode cX4_fitsBehindUnit 9 = .ok (.if_icmp .eq 9, 3) := by decide +kernel
theorem dX4_fitsBehindUnit_12 : decode cX4_fitsBehindUnit 12 = .ok (.iload_n 1, 1) := by decide +kernel
theorem dX4_fitsBehindUnit_13 : decode cX4_fitsBehindUnit 13 = .ok (.bipush 10, 2) := by decide +kernel
theorem dX4_fitsBehindUnit_15 : decode cX4_fitsBehindUnit 15 = .ok (.if_icmp .ne 5, 3) := by decide +kernel
theorem dX4_fitsBehindUnit_18 : decode cX4_fitsBehindUnit 18 = .ok (.iconst 1, 1) := by decide +kernel
theorem dX4_fitsBehindUnit_19 : decode cX4_fitsBehindUnit 19 = .ok (.ireturn, 1) := by decide +kernel
theorem dX4_fitsBehindUnit_20 : decode cX4_fitsBehindUnit 20 = .ok (.aload_n 0, 1) := by decide +kernel
theorem dX4_fitsBehindUnit_21 : decode cX4_fitsBehindUnit 21 = .ok (.getfield 32, 3) := by decide +kernel
theorem dX4_fitsBehindUnit_24 : decode cX4_fitsBehindUnit 24 = .ok (.ifCond .le 15, 3) := by decide +kernel
theorem dX4_fitsBehindUnit_27 : decode cX4_fitsBehindUnit 27 = .ok (.iload_n 1, 1) := by decide +kernel
theorem dX4_fitsBehindUnit_28 : decode cX4_fitsBehindUnit 28 = .ok (.bipush 16, 2) := by decide +kernel
theorem dX4_fitsBehindUnit_30 : decode cX4_fitsBehindUnit 30 = .ok (.if_icmp .ne 7, 3) := by decide +kernel
theorem dX4_fitsBehindUnit_33 : decode cX4_fitsBehindUnit 33 = .ok (.iconst 1, 1) := by decide +kernel
theorem dX4_fitsBehindUnit_34 : decode cX4_fitsBehindUnit 34 = .ok (.goto 4, 3) := by decide +kernel
theorem dX4_fitsBehindUnit_37 : decode cX4_fitsBehindUnit 37 = .ok (.iconst 0, 1) := by decide +kernel
theorem dX4_fitsBehindUnit_38 : decode cX4_fitsBehindUnit 38 = .ok (.ireturn, 1) := by decide +kernel
theorem dX4_fitsBehindUnit_39 : decode cX4_fitsBehindUnit 39 = .ok (.aload_n 0, 1) := by decide +kernel
theorem dX4_fitsBehindUnit_40 : decode cX4_fitsBehindUnit 40 = .ok (.getfield 29, 3) := by decide +kernel
theorem dX4_fitsBehindUnit_43 : decode cX4_fitsBehindUnit 43 = .ok (.lookupswitch 47 #[(0, 25), (1, 42)], 25) := by decide +kernel
theorem dX4_fitsBehindUnit_68 : decode cX4_fitsBehindUnit 68 = .ok (.iload_n 1, 1) := by decide +kernel
theorem dX4_fitsBehindUnit_69 : decode cX4_fitsBehindUnit 69 = .ok (.iconst 1, 1) := by decide +kernel
theorem dX4_fitsBehindUnit_70 : decode cX4_fitsBehindUnit 70 = .ok (.if_icmp .eq 9, 3) := by decide +kernel
theorem dX4_fitsBehindUnit_73 : decode cX4_fitsBehindUnit 73 = .ok (.iload_n 1, 1) := by decide +kernel
theorem dX4_fitsBehindUnit_74 : decode cX4_fitsBehindUnit 74 = .ok (.bipush 7, 2) := by decide +kernel
theorem dX4_fitsBehindUnit_76 : decode cX4_fitsBehindUnit 76 = .ok (.if_icmp .ne 7, 3) := by decide +kernel
theorem dX4_fitsBehindUnit_79 : decode cX4_fitsBehindUnit 79 = .ok (.iconst 1, 1) := by decide +kernel
theorem dX4_fitsBehindUnit_80 : decode cX4_fitsBehindUnit 80 = .ok (.goto 4, 3) := by decide +kernel
theorem dX4_fitsBehindUnit_83 : decode cX4_fitsBehindUnit 83 = .ok (.iconst 0, 1) := by decide +kernel
theorem dX4_fitsBehindUnit_84 : decode cX4_fitsBehindUnit 84 = .ok (.ireturn, 1) := by decide +kernel
theorem dX4_fitsBehindUnit_85 : decode cX4_fitsBehindUnit 85 = .ok (.iload_n 1, 1) := by decide +kernel
theorem dX4_fitsBehindUnit_86 : decode cX4_fitsBehindUnit 86 = .ok (.invokestatic 81, 3) := by decide +kernel
theorem dX4_fitsBehindUnit_89 : decode cX4_fitsBehindUnit 89 = .ok (.ireturn, 1) := by decide +kernel
theorem dX4_fitsBehindUnit_90 : decode cX4_fitsBehindUnit 90 = .ok (.iload_n 1, 1) := by decide +kernel
theorem dX4_fitsBehindUnit_91 : decode cX4_fitsBehindUnit 91 = .ok (.iconst 4, 1) := by decide +kernel
theorem dX4_fitsBehindUnit_92 : decode cX4_fitsBehindUnit 92 = .ok (.if_icmp .eq 14, 3) := by decide +kernel
theorem dX4_fitsBehindUnit_95 : decode cX4_fitsBehindUnit 95 = .ok (.iload_n 1, 1) := by decide +kernel
theorem dX4_fitsBehindUnit_96 : decode cX4_fitsBehindUnit 96 = .ok (.iconst 3, 1) := by decide +kernel
theorem dX4_fitsBehindUnit_97 : decode cX4_fitsBehindUnit 97 = .ok (.if_icmp .eq 9, 3) := by decide +kernel
theorem dX4_fitsBehindUnit_100 : decode cX4_fitsBehindUnit 100 = .ok (.iload_n 1, 1) := by decide +kernel
theorem dX4_fitsBehindUnit_101 : decode cX4_fitsBehindUnit 101 = .ok (.bipush 7, 2) := by decide +kernel
theorem dX4_fitsBehindUnit_103 : decode cX4_fitsBehindUnit 103 = .ok (.if_icmp .ne 7, 3) := by decide +kernel
theorem dX4_fitsBehindUnit_106 : decode cX4_fitsBehindUnit 106 = .ok (.iconst 1, 1) := by decide +kernel
theorem dX4_fitsBehindUnit_107 : decode cX4_fitsBehindUnit 107 = .ok (.goto 4, 3) := by decide +kernel
theorem dX4_fitsBehindUnit_110 : decode cX4_fitsBehindUnit 110 = .ok (.iconst 0, 1) := by decide +kernel
theorem dX4_fitsBehindUnit_111 : decode cX4_fitsBehindUnit 111 = .ok (.ireturn, 1) := by decide +kernel
theorem dX4_hasRoom_0 : decode cX4_hasRoom 0 = .ok (.aload_n 0, 1) := by decide +kernel
theorem dX4_hasRoom_1 : decode cX4_hasRoom 1 = .ok (.getfield 26, 3) := by decide +kernel
theorem dX4_hasRoom_4 : decode cX4_hasRoom 4 = .ok (.ifCond .ne 17, 3) := by decide +kernel
theorem dX4_hasRoom_7 : decode cX4_hasRoom 7 = .ok (.aload_n 0, 1) := by decide +kernel
theorem dX4_hasRoom_8 : decode cX4_hasRoom 8 = .ok (.getfield 41, 3) := by decide +kernel
theorem dX4_hasRoom_11 : decode cX4_hasRoom 11 = .ok (.invokevirtual 84, 3) := by decide +kernel
theorem dX4_hasRoom_14 : decode cX4_hasRoom 14 = .ok (.bipush 16, 2) := by decide +kernel
theorem dX4_hasRoom_16 : decode cX4_hasRoom 16 = .ok (.if_icmp .lt 5, 3) := by decide +kernel
theorem dX4_hasRoom_19 : decode cX4_hasRoom 19 = .ok (.iconst 0, 1) := by decide +kernel
theorem dX4_hasRoom_20 : decode cX4_hasRoom 20 = .ok (.ireturn, 1) := by decide +kernel
theorem dX4_hasRoom_21 : decode cX4_hasRoom 21 = .ok (.aload_n 0, 1) := by decide +kernel
theorem dX4_hasRoom_22 : decode cX4_hasRoom 22 = .ok (.getfield 12, 3) := by decide +kernel
theorem dX4_hasRoom_25 : decode cX4_hasRoom 25 = .ok (.getfield 57, 3) := by decide +kernel
theorem dX4_hasRoom_28 : decode cX4_hasRoom 28 = .ok (.bipush 15, 2) := by decide +kernel
theorem dX4_hasRoom_30 : decode cX4_hasRoom 30 = .ok (.if_icmp .ne 14, 3) := by decide +kernel
theorem dX4_hasRoom_33 : decode cX4_hasRoom 33 = .ok (.aload_n 0, 1) := by decide +kernel
theorem dX4_hasRoom_34 : decode cX4_hasRoom 34 = .ok (.getfield 32, 3) := by decide +kernel
theorem dX4_hasRoom_37 : decode cX4_hasRoom 37 = .ok (.bipush 6, 2) := by decide +kernel
theorem dX4_hasRoom_39 : decode cX4_hasRoom 39 = .ok (.if_icmp .lt 5, 3) := by decide +kernel
theorem dX4_hasRoom_42 : decode cX4_hasRoom 42 = .ok (.iconst 0, 1) := by decide +kernel
theorem dX4_hasRoom_43 : decode cX4_hasRoom 43 = .ok (.ireturn, 1) := by decide +kernel
theorem dX4_hasRoom_44 : decode cX4_hasRoom 44 = .ok (.aload_n 0, 1) := by decide +kernel
theorem dX4_hasRoom_45 : decode cX4_hasRoom 45 = .ok (.getfield 35, 3) := by decide +kernel
theorem dX4_hasRoom_48 : decode cX4_hasRoom 48 = .ok (.sipush 400, 3) := by decide +kernel
theorem dX4_hasRoom_51 : decode cX4_hasRoom 51 = .ok (.if_icmp .ge 7, 3) := by decide +kernel
theorem dX4_hasRoom_54 : decode cX4_hasRoom 54 = .ok (.iconst 1, 1) := by decide +kernel
theorem dX4_hasRoom_55 : decode cX4_hasRoom 55 = .ok (.goto 4, 3) := by decide +kernel
theorem dX4_hasRoom_58 : decode cX4_hasRoom 58 = .ok (.iconst 0, 1) := by decide +kernel
theorem dX4_hasRoom_59 : decode cX4_hasRoom 59 = .ok (.ireturn, 1) := by decide +kernel
theorem dX4_take_0 : decode cX4_take 0 = .ok (.aload_n 0, 1) := by decide +kernel
theorem dX4_take_1 : decode cX4_take 1 = .ok (.dup, 1) := by decide +kernel
theorem dX4_take_2 : decode cX4_take 2 = .ok (.getfield 35, 3) := by decide +kernel
theorem dX4_take_5 : decode cX4_take 5 = .ok (.iconst 1, 1) := by decide +kernel
theorem dX4_take_6 : decode cX4_take 6 = .ok (.iadd, 1) := by decide +kernel
theorem dX4_take_7 : decode cX4_take 7 = .ok (.putfield 35, 3) := by decide +kernel
theorem dX4_take_10 : decode cX4_take 10 = .ok (.aload_n 0, 1) := by decide +kernel
theorem dX4_take_11 : decode cX4_take 11 = .ok (.getfield 12, 3) := by decide +kernel
theorem dX4_take_14 : decode cX4_take 14 = .ok (.getfield 57, 3) := by decide +kernel
theorem dX4_take_17 : decode cX4_take 17 = .ok (.tableswitch 228 0 16 #[83, 120, 99, 228, 228, 199, 199, 145, 228, 228, 228, 228, 228, 228, 228, 152, 171], 83) := by decide +kernel
theorem dX4_take_100 : decode cX4_take 100 = .ok (.aload_n 0, 1) := by decide +kernel
theorem dX4_take_101 : decode cX4_take 101 = .ok (.getfield 41, 3) := by decide +kernel
theorem dX4_take_104 : decode cX4_take 104 = .ok (.iconst 0, 1) := by decide +kernel
theorem dX4_take_105 : decode cX4_take 105 = .ok (.invokevirtual 87, 3) := by decide +kernel
theorem dX4_take_108 : decode cX4_take 108 = .ok (.aload_n 0, 1) := by decide +kernel
theorem dX4_take_109 : decode cX4_take 109 = .ok (.iconst 1, 1) := by decide +kernel
theorem dX4_take_110 : decode cX4_take 110 = .ok (.putfield 26, 3) := by decide +kernel
theorem dX4_take_113 : decode cX4_take 113 = .ok (.goto 143, 3) := by decide +kernel
theorem dX4_take_116 : decode cX4_take 116 = .ok (.aload_n 0, 1) := by decide +kernel
theorem dX4_take_117 : decode cX4_take 117 = .ok (.getfield 41, 3) := by decide +kernel
theorem dX4_take_120 : decode cX4_take 120 = .ok (.iconst 1, 1) := by decide +kernel
theorem dX4_take_121 : decode cX4_take 121 = .ok (.invokevirtual 87, 3) := by decide +kernel
theorem dX4_take_124 : decode cX4_take 124 = .ok (.aload_n 0, 1) := by decide +kernel
theorem dX4_take_125 : decode cX4_take 125 = .ok (.iconst 0, 1) := by decide +kernel
theorem dX4_take_126 : decode cX4_take 126 = .ok (.putfield 29, 3) := by decide +kernel
theorem dX4_take_129 : decode cX4_take 129 = .ok (.aload_n 0, 1) := by decide +kernel
theorem dX4_take_130 : decode cX4_take 130 = .ok (.iconst 2, 1) := by decide +kernel
theorem dX4_take_131 : decode cX4_take 131 = .ok (.putfield 26, 3) := by decide +kernel
theorem dX4_take_134 : decode cX4_take 134 = .ok (.goto 122, 3) := by decide +kernel
theorem dX4_take_137 : decode cX4_take 137 = .ok (.aload_n 0, 1) := by decide +kernel
theorem dX4_take_138 : decode cX4_take 138 = .ok (.iconst 1, 1) := by decide +kernel
theorem dX4_take_139 : decode cX4_take 139 = .ok (.invokevirtual 91, 3) := by decide +kernel
theorem dX4_take_142 : decode cX4_take 142 = .ok (.aload_n 0, 1) := by decide +kernel
theorem dX4_take_143 : decode cX4_take 143 = .ok (.getfield 41, 3) := by decide +kernel
theorem dX4_take_146 : decode cX4_take 146 = .ok (.invokevirtual 95, 3) := by decide +kernel
theorem dX4_take_149 : decode cX4_take 149 = .ok (.aload_n 0, 1) := by decide +kernel
theorem dX4_take_150 : decode cX4_take 150 = .ok (.iconst 1, 1) := by decide +kernel
theorem dX4_take_151 : decode cX4_take 151 = .ok (.putfield 29, 3) := by decide +kernel
theorem dX4_take_154 : decode cX4_take 154 = .ok (.aload_n 0, 1) := by decide +kernel
theorem dX4_take_155 : decode cX4_take 155 = .ok (.iconst 2, 1) := by decide +kernel
theorem dX4_take_156 : decode cX4_take 156 = .ok (.putfield 26, 3) := by decide +kernel
theorem dX4_take_159 : decode cX4_take 159 = .ok (.goto 97, 3) := by decide +kernel
theorem dX4_take_162 : decode cX4_take 162 = .ok (.aload_n 0, 1) := by decide +kernel
theorem dX4_take_163 : decode cX4_take 163 = .ok (.invokevirtual 98, 3) := by decide +kernel
theorem dX4_take_166 : decode cX4_take 166 = .ok (.goto 90, 3) := by decide +kernel
theorem dX4_take_169 : decode cX4_take 169 = .ok (.aload_n 0, 1) := by decide +kernel
theorem dX4_take_170 : decode cX4_take 170 = .ok (.dup, 1) := by decide +kernel
theorem dX4_take_171 : decode cX4_take 171 = .ok (.getfield 32, 3) := by decide +kernel
theorem dX4_take_174 : decode cX4_take 174 = .ok (.iconst 1, 1) := by decide +kernel
theorem dX4_take_175 : decode cX4_take 175 = .ok (.iadd, 1) := by decide +kernel
theorem dX4_take_176 : decode cX4_take 176 = .ok (.putfield 32, 3) := by decide +kernel
theorem dX4_take_179 : decode cX4_take 179 = .ok (.aload_n 0, 1) := by decide +kernel
theorem dX4_take_180 : decode cX4_take 180 = .ok (.bipush 15, 2) := by decide +kernel
theorem dX4_take_182 : decode cX4_take 182 = .ok (.invokevirtual 101, 3) := by decide +kernel
theorem dX4_take_185 : decode cX4_take 185 = .ok (.goto 71, 3) := by decide +kernel
theorem dX4_take_188 : decode cX4_take 188 = .ok (.aload_n 0, 1) := by decide +kernel
theorem dX4_take_189 : decode cX4_take 189 = .ok (.iconst 1, 1) := by decide +kernel
theorem dX4_take_190 : decode cX4_take 190 = .ok (.invokevirtual 91, 3) := by decide +kernel
theorem dX4_take_193 : decode cX4_take 193 = .ok (.aload_n 0, 1) := by decide +kernel
theorem dX4_take_194 : decode cX4_take 194 = .ok (.dup, 1) := by decide +kernel
theorem dX4_take_195 : decode cX4_take 195 = .ok (.getfield 22, 3) := by decide +kernel
theorem dX4_take_198 : decode cX4_take 198 = .ok (.iconst 1, 1) := by decide +kernel
theorem dX4_take_199 : decode cX4_take 199 = .ok (.isub, 1) := by decide +kernel
theorem dX4_take_200 : decode cX4_take 200 = .ok (.putfield 22, 3) := by decide +kernel
theorem dX4_take_203 : decode cX4_take 203 = .ok (.aload_n 0, 1) := by decide +kernel
theorem dX4_take_204 : decode cX4_take 204 = .ok (.dup, 1) := by decide +kernel
theorem dX4_take_205 : decode cX4_take 205 = .ok (.getfield 32, 3) := by decide +kernel
theorem dX4_take_208 : decode cX4_take 208 = .ok (.iconst 1, 1) := by decide +kernel
theorem dX4_take_209 : decode cX4_take 209 = .ok (.isub, 1) := by decide +kernel
theorem dX4_take_210 : decode cX4_take 210 = .ok (.putfield 32, 3) := by decide +kernel
theorem dX4_take_213 : decode cX4_take 213 = .ok (.goto 43, 3) := by decide +kernel
theorem dX4_take_216 : decode cX4_take 216 = .ok (.aload_n 0, 1) := by decide +kernel
theorem dX4_take_217 : decode cX4_take 217 = .ok (.getfield 41, 3) := by decide +kernel
theorem dX4_take_220 : decode cX4_take 220 = .ok (.aload_n 0, 1) := by decide +kernel
theorem dX4_take_221 : decode cX4_take 221 = .ok (.getfield 12, 3) := by decide +kernel
theorem dX4_take_224 : decode cX4_take 224 = .ok (.getfield 57, 3) := by decide +kernel
theorem dX4_take_227 : decode cX4_take 227 = .ok (.aload_n 0, 1) := by decide +kernel
theorem dX4_take_228 : decode cX4_take 228 = .ok (.getfield 12, 3) := by decide +kernel
theorem dX4_take_231 : decode cX4_take 231 = .ok (.getfield 104, 3) := by decide +kernel
theorem dX4_take_234 : decode cX4_take 234 = .ok (.invokevirtual 107, 3) := by decide +kernel
theorem dX4_take_237 : decode cX4_take 237 = .ok (.aload_n 0, 1) := by decide +kernel
theorem dX4_take_238 : decode cX4_take 238 = .ok (.iconst 3, 1) := by decide +kernel
theorem dX4_take_239 : decode cX4_take 239 = .ok (.putfield 26, 3) := by decide +kernel
theorem dX4_take_242 : decode cX4_take 242 = .ok (.goto 14, 3) := by decide +kernel
theorem dX4_take_245 : decode cX4_take 245 = .ok (.aload_n 0, 1) := by decide +kernel
theorem dX4_take_246 : decode cX4_take 246 = .ok (.aload_n 0, 1) := by decide +kernel
theorem dX4_take_247 : decode cX4_take 247 = .ok (.getfield 12, 3) := by decide +kernel
theorem dX4_take_250 : decode cX4_take 250 = .ok (.getfield 57, 3) := by decide +kernel
theorem dX4_take_253 : decode cX4_take 253 = .ok (.invokevirtual 111, 3) := by decide +kernel
theorem dX4_take_256 : decode cX4_take 256 = .ok (.return_, 1) := by decide +kernel
theorem dX4_endRule_0 : decode cX4_endRule 0 = .ok (.aload_n 0, 1) := by decide +kernel
theorem dX4_endRule_1 : decode cX4_endRule 1 = .ok (.iconst 1, 1) := by decide +kernel
theorem dX4_endRule_2 : decode cX4_endRule 2 = .ok (.invokevirtual 91, 3) := by decide +kernel
theorem dX4_endRule_5 : decode cX4_endRule 5 = .ok (.aload_n 0, 1) := by decide +kernel
theorem dX4_endRule_6 : decode cX4_endRule 6 = .ok (.getfield 29, 3) := by decide +kernel
theorem dX4_endRule_9 : decode cX4_endRule 9 = .ok (.ifCond .ne 10, 3) := by decide +kernel
theorem dX4_endRule_12 : decode cX4_endRule 12 = .ok (.aload_n 0, 1) := by decide +kernel
theorem dX4_endRule_13 : decode cX4_endRule 13 = .ok (.getfield 41, 3) := by decide +kernel
theorem dX4_endRule_16 : decode cX4_endRule 16 = .ok (.invokevirtual 95, 3) := by decide +kernel
theorem dX4_endRule_19 : decode cX4_endRule 19 = .ok (.aload_n 0, 1) := by decide +kernel
theorem dX4_endRule_20 : decode cX4_endRule 20 = .ok (.getfield 41, 3) := by decide +kernel
theorem dX4_endRule_23 : decode cX4_endRule 23 = .ok (.invokevirtual 114, 3) := by decide +kernel
theorem dX4_endRule_26 : decode cX4_endRule 26 = .ok (.aload_n 0, 1) := by decide +kernel
theorem dX4_endRule_27 : decode cX4_endRule 27 = .ok (.iconst 0, 1) := by decide +kernel
theorem dX4_endRule_28 : decode cX4_endRule 28 = .ok (.putfield 26, 3) := by decide +kernel
theorem dX4_endRule_31 : decode cX4_endRule 31 = .ok (.return_, 1) := by decide +kernel
theorem dX4_takeOperator_0 : decode cX4_takeOperator 0 = .ok (.aload_n 0, 1) := by decide +kernel
theorem dX4_takeOperator_1 : decode cX4_takeOperator 1 = .ok (.iload_n 1, 1) := by decide +kernel
theorem dX4_takeOperator_2 : decode cX4_takeOperator 2 = .ok (.invokestatic 117, 3) := by decide +kernel
theorem dX4_takeOperator_5 : decode cX4_takeOperator 5 = .ok (.invokevirtual 91, 3) := by decide +kernel
theorem dX4_takeOperator_8 : decode cX4_takeOperator 8 = .ok (.aload_n 0, 1) := by decide +kernel
theorem dX4_takeOperator_9 : decode cX4_takeOperator 9 = .ok (.iload_n 1, 1) := by decide +kernel
theorem dX4_takeOperator_10 : decode cX4_takeOperator 10 = .ok (.invokevirtual 101, 3) := by decide +kernel
theorem dX4_takeOperator_13 : decode cX4_takeOperator 13 = .ok (.aload_n 0, 1) := by decide +kernel
theorem dX4_takeOperator_14 : decode cX4_takeOperator 14 = .ok (.iconst 2, 1) := by decide +kernel
theorem dX4_takeOperator_15 : decode cX4_takeOperator 15 = .ok (.putfield 26, 3) := by decide +kernel
theorem dX4_takeOperator_18 : decode cX4_takeOperator 18 = .ok (.iload_n 1, 1) := by decide +kernel
theorem dX4_takeOperator_19 : decode cX4_takeOperator 19 = .ok (.invokestatic 81, 3) := by decide +kernel
theorem dX4_takeOperator_22 : decode cX4_takeOperator 22 = .ok (.ifCond .eq 11, 3) := by decide +kernel
theorem dX4_takeOperator_25 : decode cX4_takeOperator 25 = .ok (.aload_n 0, 1) := by decide +kernel
theorem dX4_takeOperator_26 : decode cX4_takeOperator 26 = .ok (.iconst 2, 1) := by decide +kernel
theorem dX4_takeOperator_27 : decode cX4_takeOperator 27 = .ok (.putfield 29, 3) := by decide +kernel
theorem dX4_takeOperator_30 : decode cX4_takeOperator 30 = .ok (.goto 18, 3) := by decide +kernel
theorem dX4_takeOperator_33 : decode cX4_takeOperator 33 = .ok (.iload_n 1, 1) := by decide +kernel
theorem dX4_takeOperator_34 : decode cX4_takeOperator 34 = .ok (.iconst 4, 1) := by decide +kernel
theorem dX4_takeOperator_35 : decode cX4_takeOperator 35 = .ok (.if_icmp .eq 8, 3) := by decide +kernel
theorem dX4_takeOperator_38 : decode cX4_takeOperator 38 = .ok (.iload_n 1, 1) := by decide +kernel
theorem dX4_takeOperator_39 : decode cX4_takeOperator 39 = .ok (.iconst 3, 1) := by decide +kernel
theorem dX4_takeOperator_40 : decode cX4_takeOperator 40 = .ok (.if_icmp .ne 8, 3) := by decide +kernel
theorem dX4_takeOperator_43 : decode cX4_takeOperator 43 = .ok (.aload_n 0, 1) := by decide +kernel
theorem dX4_takeOperator_44 : decode cX4_takeOperator 44 = .ok (.iconst 1, 1) := by decide +kernel
theorem dX4_takeOperator_45 : decode cX4_takeOperator 45 = .ok (.putfield 29, 3) := by decide +kernel
theorem dX4_takeOperator_48 : decode cX4_takeOperator 48 = .ok (.return_, 1) := by decide +kernel
theorem dX4_push_0 : decode cX4_push 0 = .ok (.aload_n 0, 1) := by decide +kernel
theorem dX4_push_1 : decode cX4_push 1 = .ok (.getfield 18, 3) := by decide +kernel
theorem dX4_push_4 : decode cX4_push 4 = .ok (.aload_n 0, 1) := by decide +kernel
theorem dX4_push_5 : decode cX4_push 5 = .ok (.getfield 22, 3) := by decide +kernel
theorem dX4_push_8 : decode cX4_push 8 = .ok (.iload_n 1, 1) := by decide +kernel
theorem dX4_push_9 : decode cX4_push 9 = .ok (.invokestatic 121, 3) := by decide +kernel
theorem dX4_push_12 : decode cX4_push 12 = .ok (.aload_n 0, 1) := by decide +kernel
theorem dX4_push_13 : decode cX4_push 13 = .ok (.dup, 1) := by decide +kernel
theorem dX4_push_14 : decode cX4_push 14 = .ok (.getfield 22, 3) := by decide +kernel
theorem dX4_push_17 : decode cX4_push 17 = .ok (.iconst 1, 1) := by decide +kernel
theorem dX4_push_18 : decode cX4_push 18 = .ok (.iadd, 1) := by decide +kernel
theorem dX4_push_19 : decode cX4_push 19 = .ok (.putfield 22, 3) := by decide +kernel
theorem dX4_push_22 : decode cX4_push 22 = .ok (.return_, 1) := by decide +kernel
theorem dX4_settle_0 : decode cX4_settle 0 = .ok (.aload_n 0, 1) := by decide +kernel
theorem dX4_settle_1 : decode cX4_settle 1 = .ok (.getfield 22, 3) := by decide +kernel
theorem dX4_settle_4 : decode cX4_settle 4 = .ok (.ifCond .le 55, 3) := by decide +kernel
theorem dX4_settle_7 : decode cX4_settle 7 = .ok (.aload_n 0, 1) := by decide +kernel
theorem dX4_settle_8 : decode cX4_settle 8 = .ok (.getfield 18, 3) := by decide +kernel
theorem dX4_settle_11 : decode cX4_settle 11 = .ok (.aload_n 0, 1) := by decide +kernel
theorem dX4_settle_12 : decode cX4_settle 12 = .ok (.getfield 22, 3) := by decide +kernel
theorem dX4_settle_15 : decode cX4_settle 15 = .ok (.iconst 1, 1) := by decide +kernel
theorem dX4_settle_16 : decode cX4_settle 16 = .ok (.isub, 1) := by decide +kernel
theorem dX4_settle_17 : decode cX4_settle 17 = .ok (.invokestatic 125, 3) := by decide +kernel
theorem dX4_settle_20 : decode cX4_settle 20 = .ok (.invokestatic 117, 3) := by decide +kernel
theorem dX4_settle_23 : decode cX4_settle 23 = .ok (.iload_n 1, 1) := by decide +kernel
theorem dX4_settle_24 : decode cX4_settle 24 = .ok (.if_icmp .lt 35, 3) := by decide +kernel
theorem dX4_settle_27 : decode cX4_settle 27 = .ok (.aload_n 0, 1) := by decide +kernel
theorem dX4_settle_28 : decode cX4_settle 28 = .ok (.dup, 1) := by decide +kernel
theorem dX4_settle_29 : decode cX4_settle 29 = .ok (.getfield 22, 3) := by decide +kernel
theorem dX4_settle_32 : decode cX4_settle 32 = .ok (.iconst 1, 1) := by decide +kernel
theorem dX4_settle_33 : decode cX4_settle 33 = .ok (.isub, 1) := by decide +kernel
theorem dX4_settle_34 : decode cX4_settle 34 = .ok (.putfield 22, 3) := by decide +kernel
theorem dX4_settle_37 : decode cX4_settle 37 = .ok (.aload_n 0, 1) := by decide +kernel
theorem dX4_settle_38 : decode cX4_settle 38 = .ok (.getfield 41, 3) := by decide +kernel
theorem dX4_settle_41 : decode cX4_settle 41 = .ok (.aload_n 0, 1) := by decide +kernel
theorem dX4_settle_42 : decode cX4_settle 42 = .ok (.getfield 18, 3) := by decide +kernel
theorem dX4_settle_45 : decode cX4_settle 45 = .ok (.aload_n 0, 1) := by decide +kernel
theorem dX4_settle_46 : decode cX4_settle 46 = .ok (.getfield 22, 3) := by decide +kernel
theorem dX4_settle_49 : decode cX4_settle 49 = .ok (.invokestatic 125, 3) := by decide +kernel
theorem dX4_settle_52 : decode cX4_settle 52 = .ok (.iconst 0, 1) := by decide +kernel
theorem dX4_settle_53 : decode cX4_settle 53 = .ok (.invokevirtual 107, 3) := by decide +kernel
theorem dX4_settle_56 : decode cX4_settle 56 = .ok (.goto (-56), 3) := by decide +kernel
theorem dX4_settle_59 : decode cX4_settle 59 = .ok (.return_, 1) := by decide +kernel
theorem dX4_isRelation_0 : decode cX4_isRelation 0 = .ok (.iload_n 0, 1) := by decide +kernel
theorem dX4_isRelation_1 : decode cX4_isRelation 1 = .ok (.bipush 11, 2) := by decide +kernel
theorem dX4_isRelation_3 : decode cX4_isRelation 3 = .ok (.if_icmp .eq 21, 3) := by decide +kernel
theorem dX4_isRelation_6 : decode cX4_isRelation 6 = .ok (.iload_n 0, 1) := by decide +kernel
theorem dX4_isRelation_7 : decode cX4_isRelation 7 = .ok (.bipush 12, 2) := by decide +kernel
theorem dX4_isRelation_9 : decode cX4_isRelation 9 = .ok (.if_icmp .eq 15, 3) := by decide +kernel
theorem dX4_isRelation_12 : decode cX4_isRelation 12 = .ok (.iload_n 0, 1) := by decide +kernel
theorem dX4_isRelation_13 : decode cX4_isRelation 13 = .ok (.bipush 13, 2) := by decide +kernel
theorem dX4_isRelation_15 : decode cX4_isRelation 15 = .ok (.if_icmp .eq 9, 3) := by decide +kernel
theorem dX4_isRelation_18 : decode cX4_isRelation 18 = .ok (.iload_n 0, 1) := by decide +kernel
theorem dX4_isRelation_19 : decode cX4_isRelation 19 = .ok (.bipush 14, 2) := by decide +kernel
theorem dX4_isRelation_21 : decode cX4_isRelation 21 = .ok (.if_icmp .ne 7, 3) := by decide +kernel
theorem dX4_isRelation_24 : decode cX4_isRelation 24 = .ok (.iconst 1, 1) := by decide +kernel
theorem dX4_isRelation_25 : decode cX4_isRelation 25 = .ok (.goto 4, 3) := by decide +kernel
theorem dX4_isRelation_28 : decode cX4_isRelation 28 = .ok (.iconst 0, 1) := by decide +kernel
theorem dX4_isRelation_29 : decode cX4_isRelation 29 = .ok (.ireturn, 1) := by decide +kernel
theorem dX4_rank_0 : decode cX4_rank 0 = .ok (.iload_n 0, 1) := by decide +kernel
theorem dX4_rank_1 : decode cX4_rank 1 = .ok (.tableswitch 55 3 10 #[47, 49, 55, 55, 55, 51, 51, 53], 47) := by decide +kernel
theorem dX4_rank_48 : decode cX4_rank 48 = .ok (.iconst 1, 1) := by decide +kernel
theorem dX4_rank_49 : decode cX4_rank 49 = .ok (.ireturn, 1) := by decide +kernel
theorem dX4_rank_50 : decode cX4_rank 50 = .ok (.iconst 2, 1) := by decide +kernel
theorem dX4_rank_51 : decode cX4_rank 51 = .ok (.ireturn, 1) := by decide +kernel
theorem dX4_rank_52 : decode cX4_rank 52 = .ok (.iconst 4, 1) := by decide +kernel
theorem dX4_rank_53 : decode cX4_rank 53 = .ok (.ireturn, 1) := by decide +kernel
theorem dX4_rank_54 : decode cX4_rank 54 = .ok (.iconst 5, 1) := by decide +kernel
theorem dX4_rank_55 : decode cX4_rank 55 = .ok (.ireturn, 1) := by decide +kernel
theorem dX4_rank_56 : decode cX4_rank 56 = .ok (.iload_n 0, 1) := by decide +kernel
theorem dX4_rank_57 : decode cX4_rank 57 = .ok (.invokestatic 81, 3) := by decide +kernel
theorem dX4_rank_60 : decode cX4_rank 60 = .ok (.ifCond .eq 7, 3) := by decide +kernel
theorem dX4_rank_63 : decode cX4_rank 63 = .ok (.iconst 3, 1) := by decide +kernel
theorem dX4_rank_64 : decode cX4_rank 64 = .ok (.goto 4, 3) := by decide +kernel
theorem dX4_rank_67 : decode cX4_rank 67 = .ok (.iconst 0, 1) := by decide +kernel
theorem dX4_rank_68 : decode cX4_rank 68 = .ok (.ireturn, 1) := by decide +kernel
theorem dX5_init_0 : decode cX5_init 0 = .ok (.aload_n 0, 1) := by decide +kernel
theorem dX5_init_1 : decode cX5_init 1 = .ok (.invokespecial 3, 3) := by decide +kernel
theorem dX5_init_4 : decode cX5_init 4 = .ok (.aload_n 0, 1) := by decide +kernel
theorem dX5_init_5 : decode cX5_init 5 = .ok (.bipush 64, 2) := by decide +kernel
theorem dX5_init_7 : decode cX5_init 7 = .ok (.newarray .int, 2) := by decide +kernel
theorem dX5_init_9 : decode cX5_init 9 = .ok (.putfield 9, 3) := by decide +kernel
theorem dX5_init_12 : decode cX5_init 12 = .ok (.aload_n 0, 1) := by decide +kernel
theorem dX5_init_13 : decode cX5_init 13 = .ok (.bipush 8, 2) := by decide +kernel
theorem dX5_init_15 : decode cX5_init 15 = .ok (.newarray .int, 2) := by decide +kernel
theorem dX5_init_17 : decode cX5_init 17 = .ok (.putfield 15, 3) := by decide +kernel
theorem dX5_init_20 : decode cX5_init 20 = .ok (.aload_n 0, 1) := by decide +kernel
theorem dX5_init_21 : decode cX5_init 21 = .ok (.bipush 8, 2) := by decide +kernel
theorem dX5_init_23 : decode cX5_init 23 = .ok (.newarray .int, 2) := by decide +kernel
theorem dX5_init_25 : decode cX5_init 25 = .ok (.putfield 18, 3) := by decide +kernel
theorem dX5_init_28 : decode cX5_init 28 = .ok (.aload_n 0, 1) := by decide +kernel
theorem dX5_init_29 : decode cX5_init 29 = .ok (.iconst 0, 1) := by decide +kernel
theorem dX5_init_30 : decode cX5_init 30 = .ok (.putfield 21, 3) := by decide +kernel
theorem dX5_init_33 : decode cX5_init 33 = .ok (.aload_n 0, 1) := by decide +kernel
theorem dX5_init_34 : decode cX5_init 34 = .ok (.iconst 0, 1) := by decide +kernel
theorem dX5_init_35 : decode cX5_init 35 = .ok (.putfield 25, 3) := by decide +kernel
theorem dX5_init_38 : decode cX5_init 38 = .ok (.aload_n 0, 1) := by decide +kernel
theorem dX5_init_39 : decode cX5_init 39 = .ok (.iconst 0, 1) := by decide +kernel
theorem dX5_init_40 : decode cX5_init 40 = .ok (.putfield 28, 3) := by decide +kernel
theorem dX5_init_43 : decode cX5_init 43 = .ok (.aload_n 0, 1) := by decide +kernel
theorem dX5_init_44 : decode cX5_init 44 = .ok (.iconst 0, 1) := by decide +kernel
theorem dX5_init_45 : decode cX5_init 45 = .ok (.putfield 31, 3) := by decide +kernel
theorem dX5_init_48 : decode cX5_init 48 = .ok (.return_, 1) := by decide +kernel
theorem dX5_load_0 : decode cX5_load 0 = .ok (.iload_n 2, 1) := by decide +kernel
theorem dX5_load_1 : decode cX5_load 1 = .ok (.ifCond .lt 24, 3) := by decide +kernel
theorem dX5_load_4 : decode cX5_load 4 = .ok (.iload_n 2, 1) := by decide +kernel
theorem dX5_load_5 : decode cX5_load 5 = .ok (.bipush 64, 2) := by decide +kernel
theorem dX5_load_7 : decode cX5_load 7 = .ok (.iadd, 1) := by decide +kernel
theorem dX5_load_8 : decode cX5_load 8 = .ok (.aload_n 1, 1) := by decide +kernel
theorem dX5_load_9 : decode cX5_load 9 = .ok (.arraylength, 1) := by decide +kernel
theorem dX5_load_10 : decode cX5_load 10 = .ok (.if_icmp .gt 15, 3) := by decide +kernel
theorem dX5_load_13 : decode cX5_load 13 = .ok (.aload_n 1, 1) := by decide +kernel
theorem dX5_load_14 : decode cX5_load 14 = .ok (.iload_n 2, 1) := by decide +kernel
theorem dX5_load_15 : decode cX5_load 15 = .ok (.aload_n 0, 1) := by decide +kernel
theorem dX5_load_16 : decode cX5_load 16 = .ok (.getfield 9, 3) := by decide +kernel
theorem dX5_load_19 : decode cX5_load 19 = .ok (.iconst 0, 1) := by decide +kernel
theorem dX5_load_20 : decode cX5_load 20 = .ok (.bipush 64, 2) := by decide +kernel
theorem dX5_load_22 : decode cX5_load 22 = .ok (.invokestatic 34, 3) := by decide +kernel
theorem dX5_load_25 : decode cX5_load 25 = .ok (.return_, 1) := by decide +kernel
theorem dX5_store_0 : decode cX5_store 0 = .ok (.iload_n 2, 1) := by decide +kernel
theorem dX5_store_1 : decode cX5_store 1 = .ok (.ifCond .lt 24, 3) := by decide +kernel
theorem dX5_store_4 : decode cX5_store 4 = .ok (.iload_n 2, 1) := by decide +kernel
theorem dX5_store_5 : decode cX5_store 5 = .ok (.bipush 64, 2) := by decide +kernel
theorem dX5_store_7 : decode cX5_store 7 = .ok (.iadd, 1) := by decide +kernel
theorem dX5_store_8 : decode cX5_store 8 = .ok (.aload_n 1, 1) := by decide +kernel
theorem dX5_store_9 : decode cX5_store 9 = .ok (.arraylength, 1) := by decide +kernel
theorem dX5_store_10 : decode cX5_store 10 = .ok (.if_icmp .gt 15, 3) := by decide +kernel
theorem dX5_store_13 : decode cX5_store 13 = .ok (.aload_n 0, 1) := by decide +kernel
theorem dX5_store_14 : decode cX5_store 14 = .ok (.getfield 9, 3) := by decide +kernel
theorem dX5_store_17 : decode cX5_store 17 = .ok (.iconst 0, 1) := by decide +kernel
theorem dX5_store_18 : decode cX5_store 18 = .ok (.aload_n 1, 1) := by decide +kernel
theorem dX5_store_19 : decode cX5_store 19 = .ok (.iload_n 2, 1) := by decide +kernel
theorem dX5_store_20 : decode cX5_store 20 = .ok (.bipush 64, 2) := by decide +kernel
theorem dX5_store_22 : decode cX5_store 22 = .ok (.invokestatic 34, 3) := by decide +kernel
theorem dX5_store_25 : decode cX5_store 25 = .ok (.return_, 1) := by decide +kernel
theorem dX5_sumOfAll_0 : decode cX5_sumOfAll 0 = .ok (.iconst 0, 1) := by decide +kernel
theorem dX5_sumOfAll_1 : decode cX5_sumOfAll 1 = .ok (.istore_n 1, 1) := by decide +kernel
theorem dX5_sumOfAll_2 : decode cX5_sumOfAll 2 = .ok (.aload_n 0, 1) := by decide +kernel
theorem dX5_sumOfAll_3 : decode cX5_sumOfAll 3 = .ok (.getfield 9, 3) := by decide +kernel
theorem dX5_sumOfAll_6 : decode cX5_sumOfAll 6 = .ok (.astore_n 2, 1) := by decide +kernel
theorem dX5_sumOfAll_7 : decode cX5_sumOfAll 7 = .ok (.aload_n 2, 1) := by decide +kernel
theorem dX5_sumOfAll_8 : decode cX5_sumOfAll 8 = .ok (.arraylength, 1) := by decide +kernel
theorem dX5_sumOfAll_9 : decode cX5_sumOfAll 9 = .ok (.istore_n 3, 1) := by decide +kernel
theorem dX5_sumOfAll_10 : decode cX5_sumOfAll 10 = .ok (.iconst 0, 1) := by decide +kernel
theorem dX5_sumOfAll_11 : decode cX5_sumOfAll 11 = .ok (.istore 4, 2) := by decide +kernel
theorem dX5_sumOfAll_13 : decode cX5_sumOfAll 13 = .ok (.iload 4, 2) := by decide +kernel
theorem dX5_sumOfAll_15 : decode cX5_sumOfAll 15 = .ok (.iload_n 3, 1) := by decide +kernel
theorem dX5_sumOfAll_16 : decode cX5_sumOfAll 16 = .ok (.if_icmp .ge 20, 3) := by decide +kernel
theorem dX5_sumOfAll_19 : decode cX5_sumOfAll 19 = .ok (.aload_n 2, 1) := by decide +kernel
theorem dX5_sumOfAll_20 : decode cX5_sumOfAll 20 = .ok (.iload 4, 2) := by decide +kernel
theorem dX5_sumOfAll_22 : decode cX5_sumOfAll 22 = .ok (.iaload, 1) := by decide +kernel
theorem dX5_sumOfAll_23 : decode cX5_sumOfAll 23 = .ok (.istore 5, 2) := by decide +kernel
theorem dX5_sumOfAll_25 : decode cX5_sumOfAll 25 = .ok (.iload_n 1, 1) := by decide +kernel
theorem dX5_sumOfAll_26 : decode cX5_sumOfAll 26 = .ok (.iload 5, 2) := by decide +kernel
theorem dX5_sumOfAll_28 : decode cX5_sumOfAll 28 = .ok (.iadd, 1) := by decide +kernel
theorem dX5_sumOfAll_29 : decode cX5_sumOfAll 29 = .ok (.istore_n 1, 1) := by decide +kernel
theorem dX5_sumOfAll_30 : decode cX5_sumOfAll 30 = .ok (.iinc 4 1, 3) := by decide +kernel
theorem dX5_sumOfAll_33 : decode cX5_sumOfAll 33 = .ok (.goto (-20), 3) := by decide +kernel
theorem dX5_sumOfAll_36 : decode cX5_sumOfAll 36 = .ok (.iload_n 1, 1) := by decide +kernel
theorem dX5_sumOfAll_37 : decode cX5_sumOfAll 37 = .ok (.ireturn, 1) := by decide +kernel
theorem dX5_link_0 : decode cX5_link 0 = .ok (.iload_n 1, 1) := by decide +kernel
theorem dX5_link_1 : decode cX5_link 1 = .ok (.ifCond .lt 22, 3) := by decide +kernel
theorem dX5_link_4 : decode cX5_link 4 = .ok (.iload_n 1, 1) := by decide +kernel
theorem dX5_link_5 : decode cX5_link 5 = .ok (.aload_n 0, 1) := by decide +kernel
theorem dX5_link_6 : decode cX5_link 6 = .ok (.getfield 25, 3) := by decide +kernel
theorem dX5_link_9 : decode cX5_link 9 = .ok (.if_icmp .ge 14, 3) := by decide +kernel
theorem dX5_link_12 : decode cX5_link 12 = .ok (.aload_n 0, 1) := by decide +kernel
theorem dX5_link_13 : decode cX5_link 13 = .ok (.getfield 18, 3) := by decide +kernel
theorem dX5_link_16 : decode cX5_link 16 = .ok (.iload_n 1, 1) := by decide +kernel
theorem dX5_link_17 : decode cX5_link 17 = .ok (.invokestatic 40, 3) := by decide +kernel
theorem dX5_link_20 : decode cX5_link 20 = .ok (.goto 4, 3) := by decide +kernel
theorem dX5_link_23 : decode cX5_link 23 = .ok (.iconst (-1), 1) := by decide +kernel
theorem dX5_link_24 : decode cX5_link 24 = .ok (.ireturn, 1) := by decide +kernel
theorem dX5_meetAll_0 : decode cX5_meetAll 0 = .ok (.iconst 0, 1) := by decide +kernel
theorem dX5_meetAll_1 : decode cX5_meetAll 1 = .ok (.istore_n 1, 1) := by decide +kernel
theorem dX5_meetAll_2 : decode cX5_meetAll 2 = .ok (.iload_n 1, 1) := by decide +kernel
theorem dX5_meetAll_3 : decode cX5_meetAll 3 = .ok (.bipush 64, 2) := by decide +kernel
theorem dX5_meetAll_5 : decode cX5_meetAll 5 = .ok (.if_icmp .ge 102, 3) := by decide +kernel
theorem dX5_meetAll_8 : decode cX5_meetAll 8 = .ok (.aload_n 0, 1) := by decide +kernel
theorem dX5_meetAll_9 : decode cX5_meetAll 9 = .ok (.invokevirtual 44, 3) := by decide +kernel
theorem dX5_meetAll_12 : decode cX5_meetAll 12 = .ok (.ifCond .eq 95, 3) := by decide +kernel
theorem dX5_meetAll_15 : decode cX5_meetAll 15 = .ok (.iconst 0, 1) := by decide +kernel
theorem dX5_meetAll_16 : decode cX5_meetAll 16 = .ok (.istore_n 2, 1) := by decide +kernel
theorem dX5_meetAll_17 : decode cX5_meetAll 17 = .ok (.iload_n 2, 1) := by decide +kernel
theorem dX5_meetAll_18 : decode cX5_meetAll 18 = .ok (.aload_n 0, 1) := by decide +kernel
theorem dX5_meetAll_19 : decode cX5_meetAll 19 = .ok (.getfield 25, 3) := by decide +kernel
theorem dX5_meetAll_22 : decode cX5_meetAll 22 = .ok (.if_icmp .ge 79, 3) := by decide +kernel
theorem dX5_meetAll_25 : decode cX5_meetAll 25 = .ok (.iload_n 2, 1) := by decide +kernel
theorem dX5_meetAll_26 : decode cX5_meetAll 26 = .ok (.iconst 1, 1) := by decide +kernel
theorem dX5_meetAll_27 : decode cX5_meetAll 27 = .ok (.iadd, 1) := by decide +kernel
theorem dX5_meetAll_28 : decode cX5_meetAll 28 = .ok (.aload_n 0, 1) := by decide +kernel
theorem dX5_meetAll_29 : decode cX5_meetAll 29 = .ok (.getfield 25, 3) := by decide +kernel
theorem dX5_meetAll_32 : decode cX5_meetAll 32 = .ok (.if_icmp .ge 16, 3) := by decide +kernel
theorem dX5_meetAll_35 : decode cX5_meetAll 35 = .ok (.aload_n 0, 1) := by decide +kernel
theorem dX5_meetAll_36 : decode cX5_meetAll 36 = .ok (.getfield 18, 3) := by decide +kernel
theorem dX5_meetAll_39 : decode cX5_meetAll 39 = .ok (.iload_n 2, 1) := by decide +kernel
theorem dX5_meetAll_40 : decode cX5_meetAll 40 = .ok (.iconst 1, 1) := by decide +kernel
theorem dX5_meetAll_41 : decode cX5_meetAll 41 = .ok (.iadd, 1) := by decide +kernel
theorem dX5_meetAll_42 : decode cX5_meetAll 42 = .ok (.invokestatic 40, 3) := by decide +kernel
theorem dX5_meetAll_45 : decode cX5_meetAll 45 = .ok (.goto 11, 3) := by decide +kernel
theorem dX5_meetAll_48 : decode cX5_meetAll 48 = .ok (.aload_n 0, 1) := by decide +kernel
theorem dX5_meetAll_49 : decode cX5_meetAll 49 = .ok (.getfield 18, 3) := by decide +kernel
theorem dX5_meetAll_52 : decode cX5_meetAll 52 = .ok (.iconst 0, 1) := by decide +kernel
theorem dX5_meetAll_53 : decode cX5_meetAll 53 = .ok (.invokestatic 40, 3) := by decide +kernel
theorem dX5_meetAll_56 : decode cX5_meetAll 56 = .ok (.istore_n 3, 1) := by decide +kernel
theorem dX5_meetAll_57 : decode cX5_meetAll 57 = .ok (.aload_n 0, 1) := by decide +kernel
theorem dX5_meetAll_58 : decode cX5_meetAll 58 = .ok (.getfield 18, 3) := by decide +kernel
theorem dX5_meetAll_61 : decode cX5_meetAll 61 = .ok (.iload_n 2, 1) := by decide +kernel
theorem dX5_meetAll_62 : decode cX5_meetAll 62 = .ok (.invokestatic 40, 3) := by decide +kernel
theorem dX5_meetAll_65 : decode cX5_meetAll 65 = .ok (.bipush 8, 2) := by decide +kernel
theorem dX5_meetAll_67 : decode cX5_meetAll 67 = .ok (.imul, 1) := by decide +kernel
theorem dX5_meetAll_68 : decode cX5_meetAll 68 = .ok (.iload_n 3, 1) := by decide +kernel
theorem dX5_meetAll_69 : decode cX5_meetAll 69 = .ok (.iadd, 1) := by decide +kernel
theorem dX5_meetAll_70 : decode cX5_meetAll 70 = .ok (.istore 4, 2) := by decide +kernel
theorem dX5_meetAll_72 : decode cX5_meetAll 72 = .ok (.aload_n 0, 1) := by decide +kernel
theorem dX5_meetAll_73 : decode cX5_meetAll 73 = .ok (.getfield 9, 3) := by decide +kernel
theorem dX5_meetAll_76 : decode cX5_meetAll 76 = .ok (.iload 4, 2) := by decide +kernel
theorem dX5_meetAll_78 : decode cX5_meetAll 78 = .ok (.aload_n 0, 1) := by decide +kernel
theorem dX5_meetAll_79 : decode cX5_meetAll 79 = .ok (.getfield 9, 3) := by decide +kernel
theorem dX5_meetAll_82 : decode cX5_meetAll 82 = .ok (.iload 4, 2) := by decide +kernel
theorem dX5_meetAll_84 : decode cX5_meetAll 84 = .ok (.invokestatic 40, 3) := by decide +kernel
theorem dX5_meetAll_87 : decode cX5_meetAll 87 = .ok (.aload_n 0, 1) := by decide +kernel
theorem dX5_meetAll_88 : decode cX5_meetAll 88 = .ok (.getfield 28, 3) := by decide +kernel
theorem dX5_meetAll_91 : decode cX5_meetAll 91 = .ok (.isub, 1) := by decide +kernel
theorem dX5_meetAll_92 : decode cX5_meetAll 92 = .ok (.invokestatic 48, 3) := by decide +kernel
theorem dX5_meetAll_95 : decode cX5_meetAll 95 = .ok (.iinc 2 1, 3) := by decide +kernel
theorem dX5_meetAll_98 : decode cX5_meetAll 98 = .ok (.goto (-81), 3) := by decide +kernel
theorem dX5_meetAll_101 : decode cX5_meetAll 101 = .ok (.iinc 1 1, 3) := by decide +kernel
theorem dX5_meetAll_104 : decode cX5_meetAll 104 = .ok (.goto (-102), 3) := by decide +kernel
theorem dX5_meetAll_107 : decode cX5_meetAll 107 = .ok (.return_, 1) := by decide +kernel
theorem dX5_findFirst_0 : decode cX5_findFirst 0 = .ok (.aload_n 0, 1) := by decide +kernel
theorem dX5_findFirst_1 : decode cX5_findFirst 1 = .ok (.iconst 0, 1) := by decide +kernel
theorem dX5_findFirst_2 : decode cX5_findFirst 2 = .ok (.putfield 25, 3) := by decide +kernel
theorem dX5_findFirst_5 : decode cX5_findFirst 5 = .ok (.aload_n 0, 1) := by decide +kernel
theorem dX5_findFirst_6 : decode cX5_findFirst 6 = .ok (.iconst 0, 1) := by decide +kernel
theorem dX5_findFirst_7 : decode cX5_findFirst 7 = .ok (.putfield 28, 3) := by decide +kernel
theorem dX5_findFirst_10 : decode cX5_findFirst 10 = .ok (.aload_n 0, 1) := by decide +kernel
theorem dX5_findFirst_11 : decode cX5_findFirst 11 = .ok (.iconst 0, 1) := by decide +kernel
theorem dX5_findFirst_12 : decode cX5_findFirst 12 = .ok (.putfield 31, 3) := by decide +kernel
theorem dX5_findFirst_15 : decode cX5_findFirst 15 = .ok (.iconst 0, 1) := by decide +kernel
theorem dX5_findFirst_16 : decode cX5_findFirst 16 = .ok (.istore_n 1, 1) := by decide +kernel
theorem dX5_findFirst_17 : decode cX5_findFirst 17 = .ok (.iload_n 1, 1) := by decide +kernel
theorem dX5_findFirst_18 : decode cX5_findFirst 18 = .ok (.bipush 8, 2) := by decide +kernel
theorem dX5_findFirst_20 : decode cX5_findFirst 20 = .ok (.if_icmp .ge 33, 3) := by decide +kernel
theorem dX5_findFirst_23 : decode cX5_findFirst 23 = .ok (.aload_n 0, 1) := by decide +kernel
theorem dX5_findFirst_24 : decode cX5_findFirst 24 = .ok (.iload_n 1, 1) := by decide +kernel
theorem dX5_findFirst_25 : decode cX5_findFirst 25 = .ok (.putfield 21, 3) := by decide +kernel
theorem dX5_findFirst_28 : decode cX5_findFirst 28 = .ok (.aload_n 0, 1) := by decide +kernel
theorem dX5_findFirst_29 : decode cX5_findFirst 29 = .ok (.getfield 15, 3) := by decide +kernel
theorem dX5_findFirst_32 : decode cX5_findFirst 32 = .ok (.iconst 0, 1) := by decide +kernel
theorem dX5_findFirst_33 : decode cX5_findFirst 33 = .ok (.iload_n 1, 1) := by decide +kernel
theorem dX5_findFirst_34 : decode cX5_findFirst 34 = .ok (.invokestatic 48, 3) := by decide +kernel
theorem dX5_findFirst_37 : decode cX5_findFirst 37 = .ok (.aload_n 0, 1) := by decide +kernel
theorem dX5_findFirst_38 : decode cX5_findFirst 38 = .ok (.iconst 1, 1) := by decide +kernel
theorem dX5_findFirst_39 : decode cX5_findFirst 39 = .ok (.iconst 1, 1) := by decide +kernel
theorem dX5_findFirst_40 : decode cX5_findFirst 40 = .ok (.iload_n 1, 1) := by decide +kernel
theorem dX5_findFirst_41 : decode cX5_findFirst 41 = .ok (.ishl, 1) := by decide +kernel
theorem dX5_findFirst_42 : decode cX5_findFirst 42 = .ok (.ldc 54, 2) := by decide +kernel
theorem dX5_findFirst_44 : decode cX5_findFirst 44 = .ok (.invokevirtual 55, 3) := by decide +kernel
theorem dX5_findFirst_47 : decode cX5_findFirst 47 = .ok (.iinc 1 1, 3) := by decide +kernel
theorem dX5_findFirst_50 : decode cX5_findFirst 50 = .ok (.goto (-33), 3) := by decide +kernel
theorem dX5_findFirst_53 : decode cX5_findFirst 53 = .ok (.aload_n 0, 1) := by decide +kernel
theorem dX5_findFirst_54 : decode cX5_findFirst 54 = .ok (.getfield 25, 3) := by decide +kernel
theorem dX5_findFirst_57 : decode cX5_findFirst 57 = .ok (.ifCond .le 7, 3) := by decide +kernel
theorem dX5_findFirst_60 : decode cX5_findFirst 60 = .ok (.iconst 1, 1) := by decide +kernel
theorem dX5_findFirst_61 : decode cX5_findFirst 61 = .ok (.goto 4, 3) := by decide +kernel
theorem dX5_findFirst_64 : decode cX5_findFirst 64 = .ok (.iconst 0, 1) := by decide +kernel
theorem dX5_findFirst_65 : decode cX5_findFirst 65 = .ok (.ireturn, 1) := by decide +kernel
theorem dX5_walk_0 : decode cX5_walk 0 = .ok (.aload_n 0, 1) := by decide +kernel
theorem dX5_walk_1 : decode cX5_walk 1 = .ok (.getfield 15, 3) := by decide +kernel
theorem dX5_walk_4 : decode cX5_walk 4 = .ok (.iload_n 1, 1) := by decide +kernel
theorem dX5_walk_5 : decode cX5_walk 5 = .ok (.iconst 1, 1) := by decide +kernel
theorem dX5_walk_6 : decode cX5_walk 6 = .ok (.isub, 1) := by decide +kernel
theorem dX5_walk_7 : decode cX5_walk 7 = .ok (.invokestatic 40, 3) := by decide +kernel
theorem dX5_walk_10 : decode cX5_walk 10 = .ok (.istore 4, 2) := by decide +kernel
theorem dX5_walk_12 : decode cX5_walk 12 = .ok (.aload_n 0, 1) := by decide +kernel
theorem dX5_walk_13 : decode cX5_walk 13 = .ok (.getfield 9, 3) := by decide +kernel
theorem dX5_walk_16 : decode cX5_walk 16 = .ok (.iload 4, 2) := by decide +kernel
theorem dX5_walk_18 : decode cX5_walk 18 = .ok (.bipush 8, 2) := by decide +kernel
theorem dX5_walk_20 : decode cX5_walk 20 = .ok (.imul, 1) := by decide +kernel
theorem dX5_walk_21 : decode cX5_walk 21 = .ok (.aload_n 0, 1) := by decide +kernel
theorem dX5_walk_22 : decode cX5_walk 22 = .ok (.getfield 21, 3) := by decide +kernel
theorem dX5_walk_25 : decode cX5_walk 25 = .ok (.iadd, 1) := by decide +kernel
theorem dX5_walk_26 : decode cX5_walk 26 = .ok (.invokestatic 40, 3) := by decide +kernel
theorem dX5_walk_29 : decode cX5_walk 29 = .ok (.istore 5, 2) := by decide +kernel
theorem dX5_walk_31 : decode cX5_walk 31 = .ok (.iload 5, 2) := by decide +kernel
theorem dX5_walk_33 : decode cX5_walk 33 = .ok (.ifCond .le 14, 3) := by decide +kernel
theorem dX5_walk_36 : decode cX5_walk 36 = .ok (.aload_n 0, 1) := by decide +kernel
theorem dX5_walk_37 : decode cX5_walk 37 = .ok (.iload_n 1, 1) := by decide +kernel
theorem dX5_walk_38 : decode cX5_walk 38 = .ok (.iload_n 3, 1) := by decide +kernel
theorem dX5_walk_39 : decode cX5_walk 39 = .ok (.iload 5, 2) := by decide +kernel
theorem dX5_walk_41 : decode cX5_walk 41 = .ok (.invokestatic 59, 3) := by decide +kernel
theorem dX5_walk_44 : decode cX5_walk 44 = .ok (.invokevirtual 65, 3) := by decide +kernel
theorem dX5_walk_47 : decode cX5_walk 47 = .ok (.aload_n 0, 1) := by decide +kernel
theorem dX5_walk_48 : decode cX5_walk 48 = .ok (.getfield 21, 3) := by decide +kernel
theorem dX5_walk_51 : decode cX5_walk 51 = .ok (.iconst 1, 1) := by decide +kernel
theorem dX5_walk_52 : decode cX5_walk 52 = .ok (.iadd, 1) := by decide +kernel
theorem dX5_walk_53 : decode cX5_walk 53 = .ok (.istore 6, 2) := by decide +kernel
theorem dX5_walk_55 : decode cX5_walk 55 = .ok (.iload 6, 2) := by decide +kernel
theorem dX5_walk_57 : decode cX5_walk 57 = .ok (.bipush 8, 2) := by decide +kernel
theorem dX5_walk_59 : decode cX5_walk 59 = .ok (.if_icmp .ge 84, 3) := by decide +kernel
theorem dX5_walk_62 : decode cX5_walk 62 = .ok (.iload_n 1, 1) := by decide +kernel
theorem dX5_walk_63 : decode cX5_walk 63 = .ok (.bipush 8, 2) := by decide +kernel
theorem dX5_walk_65 : decode cX5_walk 65 = .ok (.if_icmp .ge 78, 3) := by decide +kernel
theorem dX5_walk_68 : decode cX5_walk 68 = .ok (.iload_n 3, 1) := by decide +kernel
theorem dX5_walk_69 : decode cX5_walk 69 = .ok (.aload_n 0, 1) := by decide +kernel
theorem dX5_walk_70 : decode cX5_walk 70 = .ok (.getfield 9, 3) := by decide +kernel
theorem dX5_walk_73 : decode cX5_walk 73 = .ok (.iload 4, 2) := by decide +kernel
theorem dX5_walk_75 : decode cX5_walk 75 = .ok (.bipush 8, 2) := by decide +kernel
theorem dX5_walk_77 : decode cX5_walk 77 = .ok (.imul, 1) := by decide +kernel
theorem dX5_walk_78 : decode cX5_walk 78 = .ok (.iload 6, 2) := by decide +kernel
theorem dX5_walk_80 : decode cX5_walk 80 = .ok (.iadd, 1) := by decide +kernel
theorem dX5_walk_81 : decode cX5_walk 81 = .ok (.invokestatic 40, 3) := by decide +kernel
theorem dX5_walk_84 : decode cX5_walk 84 = .ok (.invokestatic 59, 3) := by decide +kernel
theorem dX5_walk_87 : decode cX5_walk 87 = .ok (.istore 7, 2) := by decide +kernel
theorem dX5_walk_89 : decode cX5_walk 89 = .ok (.iload 7, 2) := by decide +kernel
theorem dX5_walk_91 : decode cX5_walk 91 = .ok (.ifCond .le 46, 3) := by decide +kernel
theorem dX5_walk_94 : decode cX5_walk 94 = .ok (.iload_n 2, 1) := by decide +kernel
theorem dX5_walk_95 : decode cX5_walk 95 = .ok (.iload 6, 2) := by decide +kernel
theorem dX5_walk_97 : decode cX5_walk 97 = .ok (.ishr, 1) := by decide +kernel
theorem dX5_walk_98 : decode cX5_walk 98 = .ok (.iconst 1, 1) := by decide +kernel
theorem dX5_walk_99 : decode cX5_walk 99 = .ok (.iand, 1) := by decide +kernel
theorem dX5_walk_100 : decode cX5_walk 100 = .ok (.ifCond .ne 37, 3) := by decide +kernel
theorem dX5_walk_103 : decode cX5_walk 103 = .ok (.aload_n 0, 1) := by decide +kernel
theorem dX5_walk_104 : decode cX5_walk 104 = .ok (.iload 7, 2) := by decide +kernel
theorem dX5_walk_106 : decode cX5_walk 106 = .ok (.invokevirtual 69, 3) := by decide +kernel
theorem dX5_walk_109 : decode cX5_walk 109 = .ok (.ifCond .eq 28, 3) := by decide +kernel
theorem dX5_walk_112 : decode cX5_walk 112 = .ok (.aload_n 0, 1) := by decide +kernel
theorem dX5_walk_113 : decode cX5_walk 113 = .ok (.getfield 15, 3) := by decide +kernel
theorem dX5_walk_116 : decode cX5_walk 116 = .ok (.iload_n 1, 1) := by decide +kernel
theorem dX5_walk_117 : decode cX5_walk 117 = .ok (.iload 6, 2) := by decide +kernel
theorem dX5_walk_119 : decode cX5_walk 119 = .ok (.invokestatic 48, 3) := by decide +kernel
theorem dX5_walk_122 : decode cX5_walk 122 = .ok (.aload_n 0, 1) := by decide +kernel
theorem dX5_walk_123 : decode cX5_walk 123 = .ok (.iload_n 1, 1) := by decide +kernel
theorem dX5_walk_124 : decode cX5_walk 124 = .ok (.iconst 1, 1) := by decide +kernel
theorem dX5_walk_125 : decode cX5_walk 125 = .ok (.iadd, 1) := by decide +kernel
theorem dX5_walk_126 : decode cX5_walk 126 = .ok (.iload_n 2, 1) := by decide +kernel
theorem dX5_walk_127 : decode cX5_walk 127 = .ok (.iconst 1, 1) := by decide +kernel
theorem dX5_walk_128 : decode cX5_walk 128 = .ok (.iload 6, 2) := by decide +kernel
theorem dX5_walk_130 : decode cX5_walk 130 = .ok (.ishl, 1) := by decide +kernel
theorem dX5_walk_131 : decode cX5_walk 131 = .ok (.ior, 1) := by decide +kernel
theorem dX5_walk_132 : decode cX5_walk 132 = .ok (.iload 7, 2) := by decide +kernel
theorem dX5_walk_134 : decode cX5_walk 134 = .ok (.invokevirtual 55, 3) := by decide +kernel
theorem dX5_walk_137 : decode cX5_walk 137 = .ok (.iinc 6 1, 3) := by decide +kernel
theorem dX5_walk_140 : decode cX5_walk 140 = .ok (.goto (-85), 3) := by decide +kernel
theorem dX5_walk_143 : decode cX5_walk 143 = .ok (.return_, 1) := by decide +kernel
theorem dX5_canWin_0 : decode cX5_canWin 0 = .ok (.bipush 8, 2) := by decide +kernel
theorem dX5_canWin_2 : decode cX5_canWin 2 = .ok (.aload_n 0, 1) := by decide +kernel
theorem dX5_canWin_3 : decode cX5_canWin 3 = .ok (.getfield 21, 3) := by decide +kernel
theorem dX5_canWin_6 : decode cX5_canWin 6 = .ok (.isub, 1) := by decide +kernel
theorem dX5_canWin_7 : decode cX5_canWin 7 = .ok (.istore_n 2, 1) := by decide +kernel
theorem dX5_canWin_8 : decode cX5_canWin 8 = .ok (.iload_n 2, 1) := by decide +kernel
theorem dX5_canWin_9 : decode cX5_canWin 9 = .ok (.iload_n 1, 1) := by decide +kernel
theorem dX5_canWin_10 : decode cX5_canWin 10 = .ok (.imul, 1) := by decide +kernel
theorem dX5_canWin_11 : decode cX5_canWin 11 = .ok (.istore_n 3, 1) := by decide +kernel
theorem dX5_canWin_12 : decode cX5_canWin 12 = .ok (.iload_n 3, 1) := by decide +kernel
theorem dX5_canWin_13 : decode cX5_canWin 13 = .ok (.aload_n 0, 1) := by decide +kernel
theorem dX5_canWin_14 : decode cX5_canWin 14 = .ok (.getfield 31, 3) := by decide +kernel
theorem dX5_canWin_17 : decode cX5_canWin 17 = .ok (.if_icmp .gt 19, 3) := by decide +kernel
theorem dX5_canWin_20 : decode cX5_canWin 20 = .ok (.iload_n 3, 1) := by decide +kernel
theorem dX5_canWin_21 : decode cX5_canWin 21 = .ok (.aload_n 0, 1) := by decide +kernel
theorem dX5_canWin_22 : decode cX5_canWin 22 = .ok (.getfield 31, 3) := by decide +kernel
theorem dX5_canWin_25 : decode cX5_canWin 25 = .ok (.if_icmp .ne 15, 3) := by decide +kernel
theorem dX5_canWin_28 : decode cX5_canWin 28 = .ok (.iload_n 2, 1) := by decide +kernel
theorem dX5_canWin_29 : decode cX5_canWin 29 = .ok (.aload_n 0, 1) := by decide +kernel
theorem dX5_canWin_30 : decode cX5_canWin 30 = .ok (.getfield 25, 3) := by decide +kernel
theorem dX5_canWin_33 : decode cX5_canWin 33 = .ok (.if_icmp .ge 7, 3) := by decide +kernel
theorem dX5_canWin_36 : decode cX5_canWin 36 = .ok (.iconst 1, 1) := by decide +kernel
theorem dX5_canWin_37 : decode cX5_canWin 37 = .ok (.goto 4, 3) := by decide +kernel
theorem dX5_canWin_40 : decode cX5_canWin 40 = .ok (.iconst 0, 1) := by decide +kernel
theorem dX5_canWin_41 : decode cX5_canWin 41 = .ok (.ireturn, 1) := by decide +kernel
theorem dX5_offer_0 : decode cX5_offer 0 = .ok (.iload_n 1, 1) := by decide +kernel
theorem dX5_offer_1 : decode cX5_offer 1 = .ok (.iload_n 2, 1) := by decide +kernel
theorem dX5_offer_2 : decode cX5_offer 2 = .ok (.imul, 1) := by decide +kernel
theorem dX5_offer_3 : decode cX5_offer 3 = .ok (.istore_n 3, 1) := by decide +kernel
theorem dX5_offer_4 : decode cX5_offer 4 = .ok (.iload_n 3, 1) := by decide +kernel
theorem dX5_offer_5 : decode cX5_offer 5 = .ok (.aload_n 0, 1) := by decide +kernel
theorem dX5_offer_6 : decode cX5_offer 6 = .ok (.getfield 31, 3) := by decide +kernel
theorem dX5_offer_9 : decode cX5_offer 9 = .ok (.if_icmp .gt 19, 3) := by decide +kernel
theorem dX5_offer_12 : decode cX5_offer 12 = .ok (.iload_n 3, 1) := by decide +kernel
theorem dX5_offer_13 : decode cX5_offer 13 = .ok (.aload_n 0, 1) := by decide +kernel
theorem dX5_offer_14 : decode cX5_offer 14 = .ok (.getfield 31, 3) := by decide +kernel
theorem dX5_offer_17 : decode cX5_offer 17 = .ok (.if_icmp .ne 41, 3) := by decide +kernel
theorem dX5_offer_20 : decode cX5_offer 20 = .ok (.iload_n 1, 1) := by decide +kernel
theorem dX5_offer_21 : decode cX5_offer 21 = .ok (.aload_n 0, 1) := by decide +kernel
theorem dX5_offer_22 : decode cX5_offer 22 = .ok (.getfield 25, 3) := by decide +kernel
theorem dX5_offer_25 : decode cX5_offer 25 = .ok (.if_icmp .ge 33, 3) := by decide +kernel
theorem dX5_offer_28 : decode cX5_offer 28 = .ok (.aload_n 0, 1) := by decide +kernel
theorem dX5_offer_29 : decode cX5_offer 29 = .ok (.iload_n 1, 1) := by decide +kernel
theorem dX5_offer_30 : decode cX5_offer 30 = .ok (.putfield 25, 3) := by decide +kernel
theorem dX5_offer_33 : decode cX5_offer 33 = .ok (.aload_n 0, 1) := by decide +kernel
theorem dX5_offer_34 : decode cX5_offer 34 = .ok (.iload_n 2, 1) := by decide +kernel
theorem dX5_offer_35 : decode cX5_offer 35 = .ok (.putfield 28, 3) := by decide +kernel
theorem dX5_offer_38 : decode cX5_offer 38 = .ok (.aload_n 0, 1) := by decide +kernel
theorem dX5_offer_39 : decode cX5_offer 39 = .ok (.iload_n 3, 1) := by decide +kernel
theorem dX5_offer_40 : decode cX5_offer 40 = .ok (.putfield 31, 3) := by decide +kernel
theorem dX5_offer_43 : decode cX5_offer 43 = .ok (.aload_n 0, 1) := by decide +kernel
theorem dX5_offer_44 : decode cX5_offer 44 = .ok (.getfield 15, 3) := by decide +kernel
theorem dX5_offer_47 : decode cX5_offer 47 = .ok (.iconst 0, 1) := by decide +kernel
theorem dX5_offer_48 : decode cX5_offer 48 = .ok (.aload_n 0, 1) := by decide +kernel
theorem dX5_offer_49 : decode cX5_offer 49 = .ok (.getfield 18, 3) := by decide +kernel
theorem dX5_offer_52 : decode cX5_offer 52 = .ok (.iconst 0, 1) := by decide +kernel
theorem dX5_offer_53 : decode cX5_offer 53 = .ok (.bipush 8, 2) := by decide +kernel
theorem dX5_offer_55 : decode cX5_offer 55 = .ok (.invokestatic 34, 3) := by decide +kernel
theorem dX5_offer_58 : decode cX5_offer 58 = .ok (.return_, 1) := by decide +kernel
theorem dX6_init_0 : decode cX6_init 0 = .ok (.aload_n 0, 1) := by decide +kernel
theorem dX6_init_1 : decode cX6_init 1 = .ok (.invokespecial 3, 3) := by decide +kernel
theorem dX6_init_4 : decode cX6_init 4 = .ok (.aload_n 0, 1) := by decide +kernel
theorem dX6_init_5 : decode cX6_init 5 = .ok (.new 9, 3) := by decide +kernel
theorem dX6_init_8 : decode cX6_init 8 = .ok (.dup, 1) := by decide +kernel
theorem dX6_init_9 : decode cX6_init 9 = .ok (.invokespecial 11, 3) := by decide +kernel
theorem dX6_init_12 : decode cX6_init 12 = .ok (.putfield 12, 3) := by decide +kernel
theorem dX6_init_15 : decode cX6_init 15 = .ok (.aload_n 0, 1) := by decide +kernel
theorem dX6_init_16 : decode cX6_init 16 = .ok (.sipush 2000, 3) := by decide +kernel
theorem dX6_init_19 : decode cX6_init 19 = .ok (.newarray .int, 2) := by decide +kernel
theorem dX6_init_21 : decode cX6_init 21 = .ok (.putfield 16, 3) := by decide +kernel
theorem dX6_init_24 : decode cX6_init 24 = .ok (.aload_n 0, 1) := by decide +kernel
theorem dX6_init_25 : decode cX6_init 25 = .ok (.iconst 0, 1) := by decide +kernel
theorem dX6_init_26 : decode cX6_init 26 = .ok (.putfield 20, 3) := by decide +kernel
theorem dX6_init_29 : decode cX6_init 29 = .ok (.aload_n 0, 1) := by decide +kernel
theorem dX6_init_30 : decode cX6_init 30 = .ok (.new 24, 3) := by decide +kernel
theorem dX6_init_33 : decode cX6_init 33 = .ok (.dup, 1) := by decide +kernel
theorem dX6_init_34 : decode cX6_init 34 = .ok (.invokespecial 26, 3) := by decide +kernel
theorem dX6_init_37 : decode cX6_init 37 = .ok (.putfield 27, 3) := by decide +kernel
theorem dX6_init_40 : decode cX6_init 40 = .ok (.aload_n 0, 1) := by decide +kernel
theorem dX6_init_41 : decode cX6_init 41 = .ok (.new 24, 3) := by decide +kernel
theorem dX6_init_44 : decode cX6_init 44 = .ok (.dup, 1) := by decide +kernel
theorem dX6_init_45 : decode cX6_init 45 = .ok (.invokespecial 26, 3) := by decide +kernel
theorem dX6_init_48 : decode cX6_init 48 = .ok (.putfield 31, 3) := by decide +kernel
theorem dX6_init_51 : decode cX6_init 51 = .ok (.aload_n 0, 1) := by decide +kernel
theorem dX6_init_52 : decode cX6_init 52 = .ok (.new 34, 3) := by decide +kernel
theorem dX6_init_55 : decode cX6_init 55 = .ok (.dup, 1) := by decide +kernel
theorem dX6_init_56 : decode cX6_init 56 = .ok (.aload_n 0, 1) := by decide +kernel
theorem dX6_init_57 : decode cX6_init 57 = .ok (.getfield 31, 3) := by decide +kernel
theorem dX6_init_60 : decode cX6_init 60 = .ok (.invokespecial 36, 3) := by decide +kernel
theorem dX6_init_63 : decode cX6_init 63 = .ok (.putfield 39, 3) := by decide +kernel
theorem dX6_init_66 : decode cX6_init 66 = .ok (.aload_n 0, 1) := by decide +kernel
theorem dX6_init_67 : decode cX6_init 67 = .ok (.iconst (-1), 1) := by decide +kernel
theorem dX6_init_68 : decode cX6_init 68 = .ok (.putfield 43, 3) := by decide +kernel
theorem dX6_init_71 : decode cX6_init 71 = .ok (.aload_n 0, 1) := by decide +kernel
theorem dX6_init_72 : decode cX6_init 72 = .ok (.iconst 0, 1) := by decide +kernel
theorem dX6_init_73 : decode cX6_init 73 = .ok (.putfield 46, 3) := by decide +kernel
theorem dX6_init_76 : decode cX6_init 76 = .ok (.aload_n 0, 1) := by decide +kernel
theorem dX6_init_77 : decode cX6_init 77 = .ok (.iconst 1, 1) := by decide +kernel
theorem dX6_init_78 : decode cX6_init 78 = .ok (.putfield 49, 3) := by decide +kernel
theorem dX6_init_81 : decode cX6_init 81 = .ok (.new 53, 3) := by decide +kernel
theorem dX6_init_84 : decode cX6_init 84 = .ok (.dup, 1) := by decide +kernel
theorem dX6_init_85 : decode cX6_init 85 = .ok (.invokespecial 55, 3) := by decide +kernel
theorem dX6_init_88 : decode cX6_init 88 = .ok (.astore_n 1, 1) := by decide +kernel
theorem dX6_init_89 : decode cX6_init 89 = .ok (.aload_n 0, 1) := by decide +kernel
theorem dX6_init_90 : decode cX6_init 90 = .ok (.new 56, 3) := by decide +kernel
theorem dX6_init_93 : decode cX6_init 93 = .ok (.dup, 1) := by decide +kernel
theorem dX6_init_94 : decode cX6_init 94 = .ok (.aload_n 0, 1) := by decide +kernel
theorem dX6_init_95 : decode cX6_init 95 = .ok (.getfield 12, 3) := by decide +kernel
theorem dX6_init_98 : decode cX6_init 98 = .ok (.aload_n 1, 1) := by decide +kernel
theorem dX6_init_99 : decode cX6_init 99 = .ok (.invokespecial 58, 3) := by decide +kernel
theorem dX6_init_102 : decode cX6_init 102 = .ok (.putfield 61, 3) := by decide +kernel
theorem dX6_init_105 : decode cX6_init 105 = .ok (.aload_n 0, 1) := by decide +kernel
theorem dX6_init_106 : decode cX6_init 106 = .ok (.new 56, 3) := by decide +kernel
theorem dX6_init_109 : decode cX6_init 109 = .ok (.dup, 1) := by decide +kernel
theorem dX6_init_110 : decode cX6_init 110 = .ok (.aload_n 0, 1) := by decide +kernel
theorem dX6_init_111 : decode cX6_init 111 = .ok (.getfield 12, 3) := by decide +kernel
theorem dX6_init_114 : decode cX6_init 114 = .ok (.aload_n 1, 1) := by decide +kernel
theorem dX6_init_115 : decode cX6_init 115 = .ok (.invokespecial 58, 3) := by decide +kernel
theorem dX6_init_118 : decode cX6_init 118 = .ok (.putfield 65, 3) := by decide +kernel
theorem dX6_init_121 : decode cX6_init 121 = .ok (.return_, 1) := by decide +kernel
theorem dX6_feed_0 : decode cX6_feed 0 = .ok (.aload_n 0, 1) := by decide +kernel
theorem dX6_feed_1 : decode cX6_feed 1 = .ok (.getfield 20, 3) := by decide +kernel
theorem dX6_feed_4 : decode cX6_feed 4 = .ok (.bipush 20, 2) := by decide +kernel
theorem dX6_feed_6 : decode cX6_feed 6 = .ok (.iadd, 1) := by decide +kernel
theorem dX6_feed_7 : decode cX6_feed 7 = .ok (.sipush 2000, 3) := by decide +kernel
theorem dX6_feed_10 : decode cX6_feed 10 = .ok (.if_icmp .le 5, 3) := by decide +kernel
theorem dX6_feed_13 : decode cX6_feed 13 = .ok (.iconst (-1), 1) := by decide +kernel
theorem dX6_feed_14 : decode cX6_feed 14 = .ok (.ireturn, 1) := by decide +kernel
theorem dX6_feed_15 : decode cX6_feed 15 = .ok (.aload_n 0, 1) := by decide +kernel
theorem dX6_feed_16 : decode cX6_feed 16 = .ok (.iload_n 1, 1) := by decide +kernel
theorem dX6_feed_17 : decode cX6_feed 17 = .ok (.invokevirtual 68, 3) := by decide +kernel
theorem dX6_feed_20 : decode cX6_feed 20 = .ok (.aload_n 0, 1) := by decide +kernel
theorem dX6_feed_21 : decode cX6_feed 21 = .ok (.iload_n 2, 1) := by decide +kernel
theorem dX6_feed_22 : decode cX6_feed 22 = .ok (.invokevirtual 68, 3) := by decide +kernel
theorem dX6_feed_25 : decode cX6_feed 25 = .ok (.aload_n 0, 1) := by decide +kernel
theorem dX6_feed_26 : decode cX6_feed 26 = .ok (.iload_n 3, 1) := by decide +kernel
theorem dX6_feed_27 : decode cX6_feed 27 = .ok (.invokevirtual 68, 3) := by decide +kernel
theorem dX6_feed_30 : decode cX6_feed 30 = .ok (.aload_n 0, 1) := by decide +kernel
theorem dX6_feed_31 : decode cX6_feed 31 = .ok (.iload 4, 2) := by decide +kernel
theorem dX6_feed_33 : decode cX6_feed 33 = .ok (.invokevirtual 68, 3) := by decide +kernel
theorem dX6_feed_36 : decode cX6_feed 36 = .ok (.aload_n 0, 1) := by decide +kernel
theorem dX6_feed_37 : decode cX6_feed 37 = .ok (.iload 5, 2) := by decide +kernel
theorem dX6_feed_39 : decode cX6_feed 39 = .ok (.invokevirtual 68, 3) := by decide +kernel
theorem dX6_feed_42 : decode cX6_feed 42 = .ok (.aload_n 0, 1) := by decide +kernel
theorem dX6_feed_43 : decode cX6_feed 43 = .ok (.getfield 20, 3) := by decide +kernel
theorem dX6_feed_46 : decode cX6_feed 46 = .ok (.ireturn, 1) := by decide +kernel
theorem dX6_back_0 : decode cX6_back 0 = .ok (.iload_n 1, 1) := by decide +kernel
theorem dX6_back_1 : decode cX6_back 1 = .ok (.ifCond .lt 11, 3) := by decide +kernel
theorem dX6_back_4 : decode cX6_back 4 = .ok (.iload_n 1, 1) := by decide +kernel
theorem dX6_back_5 : decode cX6_back 5 = .ok (.aload_n 0, 1) := by decide +kernel
theorem dX6_back_6 : decode cX6_back 6 = .ok (.getfield 20, 3) := by decide +kernel
theorem dX6_back_9 : decode cX6_back 9 = .ok (.if_icmp .le 5, 3) := by decide +kernel
theorem dX6_back_12 : decode cX6_back 12 = .ok (.iconst (-1), 1) := by decide +kernel
theorem dX6_back_13 : decode cX6_back 13 = .ok (.ireturn, 1) := by decide +kernel
theorem dX6_back_14 : decode cX6_back 14 = .ok (.aload_n 0, 1) := by decide +kernel
theorem dX6_back_15 : decode cX6_back 15 = .ok (.dup, 1) := by decide +kernel
theorem dX6_back_16 : decode cX6_back 16 = .ok (.getfield 20, 3) := by decide +kernel
theorem dX6_back_19 : decode cX6_back 19 = .ok (.iload_n 1, 1) := by decide +kernel
theorem dX6_back_20 : decode cX6_back 20 = .ok (.isub, 1) := by decide +kernel
theorem dX6_back_21 : decode cX6_back 21 = .ok (.putfield 20, 3) := by decide +kernel
theorem dX6_back_24 : decode cX6_back 24 = .ok (.aload_n 0, 1) := by decide +kernel
theorem dX6_back_25 : decode cX6_back 25 = .ok (.getfield 20, 3) := by decide +kernel
theorem dX6_back_28 : decode cX6_back 28 = .ok (.ireturn, 1) := by decide +kernel
theorem dX6_read_0 : decode cX6_read 0 = .ok (.aload_n 0, 1) := by decide +kernel
theorem dX6_read_1 : decode cX6_read 1 = .ok (.getfield 39, 3) := by decide +kernel
theorem dX6_read_4 : decode cX6_read 4 = .ok (.aload_n 0, 1) := by decide +kernel
theorem dX6_read_5 : decode cX6_read 5 = .ok (.getfield 16, 3) := by decide +kernel
theorem dX6_read_8 : decode cX6_read 8 = .ok (.aload_n 0, 1) := by decide +kernel
theorem dX6_read_9 : decode cX6_read 9 = .ok (.getfield 20, 3) := by decide +kernel
theorem dX6_read_12 : decode cX6_read 12 = .ok (.aload_n 0, 1) := by decide +kernel
theorem dX6_read_13 : decode cX6_read 13 = .ok (.getfield 31, 3) := by decide +kernel
theorem dX6_read_16 : decode cX6_read 16 = .ok (.invokevirtual 72, 3) := by decide +kernel
theorem dX6_read_19 : decode cX6_read 19 = .ok (.istore_n 1, 1) := by decide +kernel
theorem dX6_read_20 : decode cX6_read 20 = .ok (.aload_n 0, 1) := by decide +kernel
theorem dX6_read_21 : decode cX6_read 21 = .ok (.iconst 0, 1) := by decide +kernel
theorem dX6_read_22 : decode cX6_read 22 = .ok (.putfield 20, 3) := by decide +kernel
theorem dX6_read_25 : decode cX6_read 25 = .ok (.aload_n 0, 1) := by decide +kernel
theorem dX6_read_26 : decode cX6_read 26 = .ok (.aload_n 0, 1) := by decide +kernel
theorem dX6_read_27 : decode cX6_read 27 = .ok (.getfield 39, 3) := by decide +kernel
theorem dX6_read_30 : decode cX6_read 30 = .ok (.invokevirtual 76, 3) := by decide +kernel
theorem dX6_read_33 : decode cX6_read 33 = .ok (.putfield 43, 3) := by decide +kernel
theorem dX6_read_36 : decode cX6_read 36 = .ok (.iload_n 1, 1) := by decide +kernel
theorem dX6_read_37 : decode cX6_read 37 = .ok (.ifCond .ne 31, 3) := by decide +kernel
theorem dX6_read_40 : decode cX6_read 40 = .ok (.aload_n 0, 1) := by decide +kernel
theorem dX6_read_41 : decode cX6_read 41 = .ok (.getfield 27, 3) := by decide +kernel
theorem dX6_read_44 : decode cX6_read 44 = .ok (.astore_n 2, 1) := by decide +kernel
theorem dX6_read_45 : decode cX6_read 45 = .ok (.aload_n 0, 1) := by decide +kernel
theorem dX6_read_46 : decode cX6_read 46 = .ok (.aload_n 0, 1) := by decide +kernel
theorem dX6_read_47 : decode cX6_read 47 = .ok (.getfield 31, 3) := by decide +kernel
theorem dX6_read_50 : decode cX6_read 50 = .ok (.putfield 27, 3) := by decide +kernel
theorem dX6_read_53 : decode cX6_read 53 = .ok (.aload_n 0, 1) := by decide +kernel
theorem dX6_read_54 : decode cX6_read 54 = .ok (.aload_n 2, 1) := by decide +kernel
theorem dX6_read_55 : decode cX6_read 55 = .ok (.putfield 31, 3) := by decide +kernel
theorem dX6_read_58 : decode cX6_read 58 = .ok (.aload_n 0, 1) := by decide +kernel
theorem dX6_read_59 : decode cX6_read 59 = .ok (.dup, 1) := by decide +kernel
theorem dX6_read_60 : decode cX6_read 60 = .ok (.getfield 46, 3) := by decide +kernel
theorem dX6_read_63 : decode cX6_read 63 = .ok (.iconst 1, 1) := by decide +kernel
theorem dX6_read_64 : decode cX6_read 64 = .ok (.iadd, 1) := by decide +kernel
theorem dX6_read_65 : decode cX6_read 65 = .ok (.putfield 46, 3) := by decide +kernel
theorem dX6_read_68 : decode cX6_read 68 = .ok (.iload_n 1, 1) := by decide +kernel
theorem dX6_read_69 : decode cX6_read 69 = .ok (.ireturn, 1) := by decide +kernel
theorem dX6_place_0 : decode cX6_place 0 = .ok (.aload_n 0, 1) := by decide +kernel
theorem dX6_place_1 : decode cX6_place 1 = .ok (.getfield 43, 3) := by decide +kernel
theorem dX6_place_4 : decode cX6_place 4 = .ok (.ireturn, 1) := by decide +kernel
theorem dX6_person_0 : decode cX6_person 0 = .ok (.aload_n 0, 1) := by decide +kernel
theorem dX6_person_1 : decode cX6_person 1 = .ok (.getfield 12, 3) := by decide +kernel
theorem dX6_person_4 : decode cX6_person 4 = .ok (.iload_n 1, 1) := by decide +kernel
theorem dX6_person_5 : decode cX6_person 5 = .ok (.invokevirtual 80, 3) := by decide +kernel
theorem dX6_person_8 : decode cX6_person 8 = .ok (.ireturn, 1) := by decide +kernel
theorem dX6_loan_0 : decode cX6_loan 0 = .ok (.aload_n 0, 1) := by decide +kernel
theorem dX6_loan_1 : decode cX6_loan 1 = .ok (.iconst 0, 1) := by decide +kernel
theorem dX6_loan_2 : decode cX6_loan 2 = .ok (.iload_n 1, 1) := by decide +kernel
theorem dX6_loan_3 : decode cX6_loan 3 = .ok (.iload_n 2, 1) := by decide +kernel
theorem dX6_loan_4 : decode cX6_loan 4 = .ok (.iload_n 3, 1) := by decide +kernel
theorem dX6_loan_5 : decode cX6_loan 5 = .ok (.iload 4, 2) := by decide +kernel
theorem dX6_loan_7 : decode cX6_loan 7 = .ok (.iload 5, 2) := by decide +kernel
theorem dX6_loan_9 : decode cX6_loan 9 = .ok (.invokevirtual 84, 3) := by decide +kernel
theorem dX6_loan_12 : decode cX6_loan 12 = .ok (.ireturn, 1) := by decide +kernel
theorem dX6_pays_0 : decode cX6_pays 0 = .ok (.aload_n 0, 1) := by decide +kernel
theorem dX6_pays_1 : decode cX6_pays 1 = .ok (.iconst 1, 1) := by decide +kernel
theorem dX6_pays_2 : decode cX6_pays 2 = .ok (.iload_n 1, 1) := by decide +kernel
theorem dX6_pays_3 : decode cX6_pays 3 = .ok (.iload_n 2, 1) := by decide +kernel
theorem dX6_pays_4 : decode cX6_pays 4 = .ok (.iload_n 3, 1) := by decide +kernel
theorem dX6_pays_5 : decode cX6_pays 5 = .ok (.iload 4, 2) := by decide +kernel
theorem dX6_pays_7 : decode cX6_pays 7 = .ok (.iload 5, 2) := by decide +kernel
theorem dX6_pays_9 : decode cX6_pays 9 = .ok (.invokevirtual 84, 3) := by decide +kernel
theorem dX6_pays_12 : decode cX6_pays 12 = .ok (.ireturn, 1) := by decide +kernel
theorem dX6_meeting_0 : decode cX6_meeting 0 = .ok (.iload_n 1, 1) := by decide +kernel
theorem dX6_meeting_1 : decode cX6_meeting 1 = .ok (.invokestatic 88, 3) := by decide +kernel
theorem dX6_meeting_4 : decode cX6_meeting 4 = .ok (.ifCond .eq 19, 3) := by decide +kernel
theorem dX6_meeting_7 : decode cX6_meeting 7 = .ok (.aload_n 0, 1) := by decide +kernel
theorem dX6_meeting_8 : decode cX6_meeting 8 = .ok (.getfield 12, 3) := by decide +kernel
theorem dX6_meeting_11 : decode cX6_meeting 11 = .ok (.iconst 2, 1) := by decide +kernel
theorem dX6_meeting_12 : decode cX6_meeting 12 = .ok (.iload_n 1, 1) := by decide +kernel
theorem dX6_meeting_13 : decode cX6_meeting 13 = .ok (.iconst 0, 1) := by decide +kernel
theorem dX6_meeting_14 : decode cX6_meeting 14 = .ok (.iconst 0, 1) := by decide +kernel
theorem dX6_meeting_15 : decode cX6_meeting 15 = .ok (.iconst 0, 1) := by decide +kernel
theorem dX6_meeting_16 : decode cX6_meeting 16 = .ok (.iconst 0, 1) := by decide +kernel
theorem dX6_meeting_17 : decode cX6_meeting 17 = .ok (.invokevirtual 92, 3) := by decide +kernel
theorem dX6_meeting_20 : decode cX6_meeting 20 = .ok (.goto 4, 3) := by decide +kernel
theorem dX6_meeting_23 : decode cX6_meeting 23 = .ok (.iconst (-1), 1) := by decide +kernel
theorem dX6_meeting_24 : decode cX6_meeting 24 = .ok (.ireturn, 1) := by decide +kernel
theorem dX6_forged_0 : decode cX6_forged 0 = .ok (.aload_n 0, 1) := by decide +kernel
theorem dX6_forged_1 : decode cX6_forged 1 = .ok (.getfield 12, 3) := by decide +kernel
theorem dX6_forged_4 : decode cX6_forged 4 = .ok (.iload_n 1, 1) := by decide +kernel
theorem dX6_forged_5 : decode cX6_forged 5 = .ok (.invokevirtual 95, 3) := by decide +kernel
theorem dX6_forged_8 : decode cX6_forged 8 = .ok (.ifCond .eq 19, 3) := by decide +kernel
theorem dX6_forged_11 : decode cX6_forged 11 = .ok (.aload_n 0, 1) := by decide +kernel
theorem dX6_forged_12 : decode cX6_forged 12 = .ok (.getfield 12, 3) := by decide +kernel
theorem dX6_forged_15 : decode cX6_forged 15 = .ok (.iconst 3, 1) := by decide +kernel
theorem dX6_forged_16 : decode cX6_forged 16 = .ok (.iconst 0, 1) := by decide +kernel
theorem dX6_forged_17 : decode cX6_forged 17 = .ok (.iconst 0, 1) := by decide +kernel
theorem dX6_forged_18 : decode cX6_forged 18 = .ok (.iload_n 1, 1) := by decide +kernel
theorem dX6_forged_19 : decode cX6_forged 19 = .ok (.iconst 0, 1) := by decide +kernel
theorem dX6_forged_20 : decode cX6_forged 20 = .ok (.iconst 0, 1) := by decide +kernel
theorem dX6_forged_21 : decode cX6_forged 21 = .ok (.invokevirtual 92, 3) := by decide +kernel
theorem dX6_forged_24 : decode cX6_forged 24 = .ok (.goto 4, 3) := by decide +kernel
theorem dX6_forged_27 : decode cX6_forged 27 = .ok (.iconst (-1), 1) := by decide +kernel
theorem dX6_forged_28 : decode cX6_forged 28 = .ok (.ireturn, 1) := by decide +kernel
theorem dX6_feast_0 : decode cX6_feast 0 = .ok (.iload_n 1, 1) := by decide +kernel
theorem dX6_feast_1 : decode cX6_feast 1 = .ok (.invokestatic 88, 3) := by decide +kernel
theorem dX6_feast_4 : decode cX6_feast 4 = .ok (.ifCond .eq 27, 3) := by decide +kernel
theorem dX6_feast_7 : decode cX6_feast 7 = .ok (.aload_n 0, 1) := by decide +kernel
theorem dX6_feast_8 : decode cX6_feast 8 = .ok (.getfield 12, 3) := by decide +kernel
theorem dX6_feast_11 : decode cX6_feast 11 = .ok (.iconst 4, 1) := by decide +kernel
theorem dX6_feast_12 : decode cX6_feast 12 = .ok (.iconst 0, 1) := by decide +kernel
theorem dX6_feast_13 : decode cX6_feast 13 = .ok (.iconst 0, 1) := by decide +kernel
theorem dX6_feast_14 : decode cX6_feast 14 = .ok (.iload_n 2, 1) := by decide +kernel
theorem dX6_feast_15 : decode cX6_feast 15 = .ok (.ifCond .eq 7, 3) := by decide +kernel
theorem dX6_feast_18 : decode cX6_feast 18 = .ok (.iconst 1, 1) := by decide +kernel
theorem dX6_feast_19 : decode cX6_feast 19 = .ok (.goto 4, 3) := by decide +kernel
theorem dX6_feast_22 : decode cX6_feast 22 = .ok (.iconst 0, 1) := by decide +kernel
theorem dX6_feast_23 : decode cX6_feast 23 = .ok (.iload_n 1, 1) := by decide +kernel
theorem dX6_feast_24 : decode cX6_feast 24 = .ok (.iconst 0, 1) := by decide +kernel
theorem dX6_feast_25 : decode cX6_feast 25 = .ok (.invokevirtual 92, 3) := by decide +kernel
theorem dX6_feast_28 : decode cX6_feast 28 = .ok (.goto 4, 3) := by decide +kernel
theorem dX6_feast_31 : decode cX6_feast 31 = .ok (.iconst (-1), 1) := by decide +kernel
theorem dX6_feast_32 : decode cX6_feast 32 = .ok (.ireturn, 1) := by decide +kernel
theorem dX6_seen_0 : decode cX6_seen 0 = .ok (.aload_n 0, 1) := by decide +kernel
theorem dX6_seen_1 : decode cX6_seen 1 = .ok (.getfield 12, 3) := by decide +kernel
theorem dX6_seen_4 : decode cX6_seen 4 = .ok (.iload_n 1, 1) := by decide +kernel
theorem dX6_seen_5 : decode cX6_seen 5 = .ok (.invokevirtual 98, 3) := by decide +kernel
theorem dX6_seen_8 : decode cX6_seen 8 = .ok (.ifCond .eq 29, 3) := by decide +kernel
theorem dX6_seen_11 : decode cX6_seen 11 = .ok (.aload_n 0, 1) := by decide +kernel
theorem dX6_seen_12 : decode cX6_seen 12 = .ok (.getfield 12, 3) := by decide +kernel
theorem dX6_seen_15 : decode cX6_seen 15 = .ok (.iload_n 2, 1) := by decide +kernel
theorem dX6_seen_16 : decode cX6_seen 16 = .ok (.invokevirtual 98, 3) := by decide +kernel
theorem dX6_seen_19 : decode cX6_seen 19 = .ok (.ifCond .eq 18, 3) := by decide +kernel
theorem dX6_seen_22 : decode cX6_seen 22 = .ok (.iload_n 3, 1) := by decide +kernel
theorem dX6_seen_23 : decode cX6_seen 23 = .ok (.invokestatic 101, 3) := by decide +kernel
theorem dX6_seen_26 : decode cX6_seen 26 = .ok (.ifCond .eq 11, 3) := by decide +kernel
theorem dX6_seen_29 : decode cX6_seen 29 = .ok (.iload 4, 2) := by decide +kernel
theorem dX6_seen_31 : decode cX6_seen 31 = .ok (.invokestatic 88, 3) := by decide +kernel
theorem dX6_seen_34 : decode cX6_seen 34 = .ok (.ifCond .ne 5, 3) := by decide +kernel
theorem dX6_seen_37 : decode cX6_seen 37 = .ok (.iconst (-1), 1) := by decide +kernel
theorem dX6_seen_38 : decode cX6_seen 38 = .ok (.ireturn, 1) := by decide +kernel
theorem dX6_seen_39 : decode cX6_seen 39 = .ok (.aload_n 0, 1) := by decide +kernel
theorem dX6_seen_40 : decode cX6_seen 40 = .ok (.getfield 12, 3) := by decide +kernel
theorem dX6_seen_43 : decode cX6_seen 43 = .ok (.iconst 5, 1) := by decide +kernel
theorem dX6_seen_44 : decode cX6_seen 44 = .ok (.iconst 0, 1) := by decide +kernel
theorem dX6_seen_45 : decode cX6_seen 45 = .ok (.iload_n 1, 1) := by decide +kernel
theorem dX6_seen_46 : decode cX6_seen 46 = .ok (.iload_n 3, 1) := by decide +kernel
theorem dX6_seen_47 : decode cX6_seen 47 = .ok (.iload 4, 2) := by decide +kernel
theorem dX6_seen_49 : decode cX6_seen 49 = .ok (.iload_n 2, 1) := by decide +kernel
theorem dX6_seen_50 : decode cX6_seen 50 = .ok (.invokevirtual 92, 3) := by decide +kernel
theorem dX6_seen_53 : decode cX6_seen 53 = .ok (.ireturn, 1) := by decide +kernel
theorem dX6_isVoid_0 : decode cX6_isVoid 0 = .ok (.aload_n 0, 1) := by decide +kernel
theorem dX6_isVoid_1 : decode cX6_isVoid 1 = .ok (.iload_n 1, 1) := by decide +kernel
theorem dX6_isVoid_2 : decode cX6_isVoid 2 = .ok (.iload_n 2, 1) := by decide +kernel
theorem dX6_isVoid_3 : decode cX6_isVoid 3 = .ok (.invokevirtual 104, 3) := by decide +kernel
theorem dX6_isVoid_6 : decode cX6_isVoid 6 = .ok (.ifCond .eq 15, 3) := by decide +kernel
theorem dX6_isVoid_9 : decode cX6_isVoid 9 = .ok (.aload_n 0, 1) := by decide +kernel
theorem dX6_isVoid_10 : decode cX6_isVoid 10 = .ok (.iload_n 2, 1) := by decide +kernel
theorem dX6_isVoid_11 : decode cX6_isVoid 11 = .ok (.invokevirtual 108, 3) := by decide +kernel
theorem dX6_isVoid_14 : decode cX6_isVoid 14 = .ok (.iload_n 1, 1) := by decide +kernel
theorem dX6_isVoid_15 : decode cX6_isVoid 15 = .ok (.invokevirtual 112, 3) := by decide +kernel
theorem dX6_isVoid_18 : decode cX6_isVoid 18 = .ok (.goto 4, 3) := by decide +kernel
theorem dX6_isVoid_21 : decode cX6_isVoid 21 = .ok (.iconst (-1), 1) := by decide +kernel
theorem dX6_isVoid_22 : decode cX6_isVoid 22 = .ok (.ireturn, 1) := by decide +kernel
theorem dX6_holder_0 : decode cX6_holder 0 = .ok (.aload_n 0, 1) := by decide +kernel
theorem dX6_holder_1 : decode cX6_holder 1 = .ok (.iload_n 1, 1) := by decide +kernel
theorem dX6_holder_2 : decode cX6_holder 2 = .ok (.iload_n 2, 1) := by decide +kernel
theorem dX6_holder_3 : decode cX6_holder 3 = .ok (.invokevirtual 115, 3) := by decide +kernel
theorem dX6_holder_6 : decode cX6_holder 6 = .ok (.ifCond .eq 27, 3) := by decide +kernel
theorem dX6_holder_9 : decode cX6_holder 9 = .ok (.aload_n 0, 1) := by decide +kernel
theorem dX6_holder_10 : decode cX6_holder 10 = .ok (.getfield 12, 3) := by decide +kernel
theorem dX6_holder_13 : decode cX6_holder 13 = .ok (.iload_n 3, 1) := by decide +kernel
theorem dX6_holder_14 : decode cX6_holder 14 = .ok (.invokevirtual 118, 3) := by decide +kernel
theorem dX6_holder_17 : decode cX6_holder 17 = .ok (.ifCond .eq 16, 3) := by decide +kernel
theorem dX6_holder_20 : decode cX6_holder 20 = .ok (.aload_n 0, 1) := by decide +kernel
theorem dX6_holder_21 : decode cX6_holder 21 = .ok (.iload_n 3, 1) := by decide +kernel
theorem dX6_holder_22 : decode cX6_holder 22 = .ok (.invokevirtual 108, 3) := by decide +kernel
theorem dX6_holder_25 : decode cX6_holder 25 = .ok (.iload_n 1, 1) := by decide +kernel
theorem dX6_holder_26 : decode cX6_holder 26 = .ok (.iload_n 2, 1) := by decide +kernel
theorem dX6_holder_27 : decode cX6_holder 27 = .ok (.invokevirtual 121, 3) := by decide +kernel
theorem dX6_holder_30 : decode cX6_holder 30 = .ok (.goto 4, 3) := by decide +kernel
theorem dX6_holder_33 : decode cX6_holder 33 = .ok (.iconst (-1), 1) := by decide +kernel
theorem dX6_holder_34 : decode cX6_holder 34 = .ok (.ireturn, 1) := by decide +kernel
theorem dX6_chain_0 : decode cX6_chain 0 = .ok (.aload_n 0, 1) := by decide +kernel
theorem dX6_chain_1 : decode cX6_chain 1 = .ok (.iload_n 1, 1) := by decide +kernel
theorem dX6_chain_2 : decode cX6_chain 2 = .ok (.iload_n 2, 1) := by decide +kernel
theorem dX6_chain_3 : decode cX6_chain 3 = .ok (.invokevirtual 115, 3) := by decide +kernel
theorem dX6_chain_6 : decode cX6_chain 6 = .ok (.ifCond .eq 19, 3) := by decide +kernel
theorem dX6_chain_9 : decode cX6_chain 9 = .ok (.aload_n 0, 1) := by decide +kernel
theorem dX6_chain_10 : decode cX6_chain 10 = .ok (.getfield 12, 3) := by decide +kernel
theorem dX6_chain_13 : decode cX6_chain 13 = .ok (.iload 4, 2) := by decide +kernel
theorem dX6_chain_15 : decode cX6_chain 15 = .ok (.invokevirtual 118, 3) := by decide +kernel
theorem dX6_chain_18 : decode cX6_chain 18 = .ok (.ifCond .eq 7, 3) := by decide +kernel
theorem dX6_chain_21 : decode cX6_chain 21 = .ok (.iload_n 3, 1) := by decide +kernel
theorem dX6_chain_22 : decode cX6_chain 22 = .ok (.ifCond .ge 5, 3) := by decide +kernel
theorem dX6_chain_25 : decode cX6_chain 25 = .ok (.iconst (-1), 1) := by decide +kernel
theorem dX6_chain_26 : decode cX6_chain 26 = .ok (.ireturn, 1) := by decide +kernel
theorem dX6_chain_27 : decode cX6_chain 27 = .ok (.aload_n 0, 1) := by decide +kernel
theorem dX6_chain_28 : decode cX6_chain 28 = .ok (.iload 4, 2) := by decide +kernel
theorem dX6_chain_30 : decode cX6_chain 30 = .ok (.invokevirtual 108, 3) := by decide +kernel
theorem dX6_chain_33 : decode cX6_chain 33 = .ok (.iload_n 1, 1) := by decide +kernel
theorem dX6_chain_34 : decode cX6_chain 34 = .ok (.iload_n 2, 1) := by decide +kernel
theorem dX6_chain_35 : decode cX6_chain 35 = .ok (.iload_n 3, 1) := by decide +kernel
theorem dX6_chain_36 : decode cX6_chain 36 = .ok (.invokevirtual 125, 3) := by decide +kernel
theorem dX6_chain_39 : decode cX6_chain 39 = .ok (.ireturn, 1) := by decide +kernel
theorem dX6_awake_0 : decode cX6_awake 0 = .ok (.aload_n 0, 1) := by decide +kernel
theorem dX6_awake_1 : decode cX6_awake 1 = .ok (.iload_n 1, 1) := by decide +kernel
theorem dX6_awake_2 : decode cX6_awake 2 = .ok (.iload_n 2, 1) := by decide +kernel
theorem dX6_awake_3 : decode cX6_awake 3 = .ok (.invokevirtual 115, 3) := by decide +kernel
theorem dX6_awake_6 : decode cX6_awake 6 = .ok (.ifCond .eq 27, 3) := by decide +kernel
theorem dX6_awake_9 : decode cX6_awake 9 = .ok (.aload_n 0, 1) := by decide +kernel
theorem dX6_awake_10 : decode cX6_awake 10 = .ok (.getfield 12, 3) := by decide +kernel
theorem dX6_awake_13 : decode cX6_awake 13 = .ok (.iload_n 3, 1) := by decide +kernel
theorem dX6_awake_14 : decode cX6_awake 14 = .ok (.invokevirtual 118, 3) := by decide +kernel
theorem dX6_awake_17 : decode cX6_awake 17 = .ok (.ifCond .eq 16, 3) := by decide +kernel
theorem dX6_awake_20 : decode cX6_awake 20 = .ok (.aload_n 0, 1) := by decide +kernel
theorem dX6_awake_21 : decode cX6_awake 21 = .ok (.iload_n 3, 1) := by decide +kernel
theorem dX6_awake_22 : decode cX6_awake 22 = .ok (.invokevirtual 108, 3) := by decide +kernel
theorem dX6_awake_25 : decode cX6_awake 25 = .ok (.iload_n 1, 1) := by decide +kernel
theorem dX6_awake_26 : decode cX6_awake 26 = .ok (.iload_n 2, 1) := by decide +kernel
theorem dX6_awake_27 : decode cX6_awake 27 = .ok (.invokevirtual 129, 3) := by decide +kernel
theorem dX6_awake_30 : decode cX6_awake 30 = .ok (.goto 4, 3) := by decide +kernel
theorem dX6_awake_33 : decode cX6_awake 33 = .ok (.iconst (-1), 1) := by decide +kernel
theorem dX6_awake_34 : decode cX6_awake 34 = .ok (.ireturn, 1) := by decide +kernel
theorem dX6_age_0 : decode cX6_age 0 = .ok (.aload_n 0, 1) := by decide +kernel
theorem dX6_age_1 : decode cX6_age 1 = .ok (.iload_n 1, 1) := by decide +kernel
theorem dX6_age_2 : decode cX6_age 2 = .ok (.iload_n 2, 1) := by decide +kernel
theorem dX6_age_3 : decode cX6_age 3 = .ok (.invokevirtual 115, 3) := by decide +kernel
theorem dX6_age_6 : decode cX6_age 6 = .ok (.ifCond .eq 27, 3) := by decide +kernel
theorem dX6_age_9 : decode cX6_age 9 = .ok (.aload_n 0, 1) := by decide +kernel
theorem dX6_age_10 : decode cX6_age 10 = .ok (.getfield 12, 3) := by decide +kernel
theorem dX6_age_13 : decode cX6_age 13 = .ok (.iload_n 3, 1) := by decide +kernel
theorem dX6_age_14 : decode cX6_age 14 = .ok (.invokevirtual 118, 3) := by decide +kernel
theorem dX6_age_17 : decode cX6_age 17 = .ok (.ifCond .eq 16, 3) := by decide +kernel
theorem dX6_age_20 : decode cX6_age 20 = .ok (.aload_n 0, 1) := by decide +kernel
theorem dX6_age_21 : decode cX6_age 21 = .ok (.iload_n 3, 1) := by decide +kernel
theorem dX6_age_22 : decode cX6_age 22 = .ok (.invokevirtual 108, 3) := by decide +kernel
theorem dX6_age_25 : decode cX6_age 25 = .ok (.iload_n 1, 1) := by decide +kernel
theorem dX6_age_26 : decode cX6_age 26 = .ok (.iload_n 2, 1) := by decide +kernel
theorem dX6_age_27 : decode cX6_age 27 = .ok (.invokevirtual 132, 3) := by decide +kernel
theorem dX6_age_30 : decode cX6_age 30 = .ok (.goto 4, 3) := by decide +kernel
theorem dX6_age_33 : decode cX6_age 33 = .ok (.iconst (-1), 1) := by decide +kernel
theorem dX6_age_34 : decode cX6_age 34 = .ok (.ireturn, 1) := by decide +kernel
theorem dX6_owes_0 : decode cX6_owes 0 = .ok (.aload_n 0, 1) := by decide +kernel
theorem dX6_owes_1 : decode cX6_owes 1 = .ok (.iload_n 1, 1) := by decide +kernel
theorem dX6_owes_2 : decode cX6_owes 2 = .ok (.iload_n 3, 1) := by decide +kernel
theorem dX6_owes_3 : decode cX6_owes 3 = .ok (.invokevirtual 115, 3) := by decide +kernel
theorem dX6_owes_6 : decode cX6_owes 6 = .ok (.ifCond .eq 26, 3) := by decide +kernel
theorem dX6_owes_9 : decode cX6_owes 9 = .ok (.aload_n 0, 1) := by decide +kernel
theorem dX6_owes_10 : decode cX6_owes 10 = .ok (.getfield 12, 3) := by decide +kernel
theorem dX6_owes_13 : decode cX6_owes 13 = .ok (.iload_n 2, 1) := by decide +kernel
theorem dX6_owes_14 : decode cX6_owes 14 = .ok (.invokevirtual 98, 3) := by decide +kernel
theorem dX6_owes_17 : decode cX6_owes 17 = .ok (.ifCond .eq 15, 3) := by decide +kernel
theorem dX6_owes_20 : decode cX6_owes 20 = .ok (.aload_n 0, 1) := by decide +kernel
theorem dX6_owes_21 : decode cX6_owes 21 = .ok (.getfield 12, 3) := by decide +kernel
theorem dX6_owes_24 : decode cX6_owes 24 = .ok (.iload 4, 2) := by decide +kernel
theorem dX6_owes_26 : decode cX6_owes 26 = .ok (.invokevirtual 118, 3) := by decide +kernel
theorem dX6_owes_29 : decode cX6_owes 29 = .ok (.ifCond .ne 5, 3) := by decide +kernel
theorem dX6_owes_32 : decode cX6_owes 32 = .ok (.iconst (-1), 1) := by decide +kernel
theorem dX6_owes_33 : decode cX6_owes 33 = .ok (.ireturn, 1) := by decide +kernel
theorem dX6_owes_34 : decode cX6_owes 34 = .ok (.aload_n 0, 1) := by decide +kernel
theorem dX6_owes_35 : decode cX6_owes 35 = .ok (.iload 4, 2) := by decide +kernel
theorem dX6_owes_37 : decode cX6_owes 37 = .ok (.invokevirtual 108, 3) := by decide +kernel
theorem dX6_owes_40 : decode cX6_owes 40 = .ok (.astore 5, 2) := by decide +kernel
theorem dX6_owes_42 : decode cX6_owes 42 = .ok (.aload 5, 2) := by decide +kernel
theorem dX6_owes_44 : decode cX6_owes 44 = .ok (.aload 5, 2) := by decide +kernel
theorem dX6_owes_46 : decode cX6_owes 46 = .ok (.iload_n 3, 1) := by decide +kernel
theorem dX6_owes_47 : decode cX6_owes 47 = .ok (.invokevirtual 135, 3) := by decide +kernel
theorem dX6_owes_50 : decode cX6_owes 50 = .ok (.iload_n 1, 1) := by decide +kernel
theorem dX6_owes_51 : decode cX6_owes 51 = .ok (.iload_n 2, 1) := by decide +kernel
theorem dX6_owes_52 : decode cX6_owes 52 = .ok (.invokevirtual 138, 3) := by decide +kernel
theorem dX6_owes_55 : decode cX6_owes 55 = .ok (.ireturn, 1) := by decide +kernel
theorem dX6_net_0 : decode cX6_net 0 = .ok (.aload_n 0, 1) := by decide +kernel
theorem dX6_net_1 : decode cX6_net 1 = .ok (.iload_n 1, 1) := by decide +kernel
theorem dX6_net_2 : decode cX6_net 2 = .ok (.iload_n 2, 1) := by decide +kernel
theorem dX6_net_3 : decode cX6_net 3 = .ok (.invokevirtual 115, 3) := by decide +kernel
theorem dX6_net_6 : decode cX6_net 6 = .ok (.ifCond .eq 14, 3) := by decide +kernel
theorem dX6_net_9 : decode cX6_net 9 = .ok (.aload_n 0, 1) := by decide +kernel
theorem dX6_net_10 : decode cX6_net 10 = .ok (.getfield 12, 3) := by decide +kernel
theorem dX6_net_13 : decode cX6_net 13 = .ok (.iload_n 3, 1) := by decide +kernel
theorem dX6_net_14 : decode cX6_net 14 = .ok (.invokevirtual 118, 3) := by decide +kernel
theorem dX6_net_17 : decode cX6_net 17 = .ok (.ifCond .ne 5, 3) := by decide +kernel
theorem dX6_net_20 : decode cX6_net 20 = .ok (.iconst 0, 1) := by decide +kernel
theorem dX6_net_21 : decode cX6_net 21 = .ok (.ireturn, 1) := by decide +kernel
theorem dX6_net_22 : decode cX6_net 22 = .ok (.aload_n 0, 1) := by decide +kernel
theorem dX6_net_23 : decode cX6_net 23 = .ok (.iload_n 3, 1) := by decide +kernel
theorem dX6_net_24 : decode cX6_net 24 = .ok (.invokevirtual 108, 3) := by decide +kernel
theorem dX6_net_27 : decode cX6_net 27 = .ok (.astore 4, 2) := by decide +kernel
theorem dX6_net_29 : decode cX6_net 29 = .ok (.aload 4, 2) := by decide +kernel
theorem dX6_net_31 : decode cX6_net 31 = .ok (.iload_n 2, 1) := by decide +kernel
theorem dX6_net_32 : decode cX6_net 32 = .ok (.invokevirtual 135, 3) := by decide +kernel
theorem dX6_net_35 : decode cX6_net 35 = .ok (.istore 5, 2) := by decide +kernel
theorem dX6_net_37 : decode cX6_net 37 = .ok (.aload 4, 2) := by decide +kernel
theorem dX6_net_39 : decode cX6_net 39 = .ok (.iload 5, 2) := by decide +kernel
theorem dX6_net_41 : decode cX6_net 41 = .ok (.iload_n 1, 1) := by decide +kernel
theorem dX6_net_42 : decode cX6_net 42 = .ok (.invokevirtual 141, 3) := by decide +kernel
theorem dX6_net_45 : decode cX6_net 45 = .ok (.aload 4, 2) := by decide +kernel
theorem dX6_net_47 : decode cX6_net 47 = .ok (.iload 5, 2) := by decide +kernel
theorem dX6_net_49 : decode cX6_net 49 = .ok (.iload_n 1, 1) := by decide +kernel
theorem dX6_net_50 : decode cX6_net 50 = .ok (.invokevirtual 144, 3) := by decide +kernel
theorem dX6_net_53 : decode cX6_net 53 = .ok (.isub, 1) := by decide +kernel
theorem dX6_net_54 : decode cX6_net 54 = .ok (.ireturn, 1) := by decide +kernel
theorem dX6_ring_0 : decode cX6_ring 0 = .ok (.iload_n 1, 1) := by decide +kernel
theorem dX6_ring_1 : decode cX6_ring 1 = .ok (.invokestatic 88, 3) := by decide +kernel
theorem dX6_ring_4 : decode cX6_ring 4 = .ok (.ifCond .eq 30, 3) := by decide +kernel
theorem dX6_ring_7 : decode cX6_ring 7 = .ok (.aload_n 0, 1) := by decide +kernel
theorem dX6_ring_8 : decode cX6_ring 8 = .ok (.getfield 12, 3) := by decide +kernel
theorem dX6_ring_11 : decode cX6_ring 11 = .ok (.iload_n 2, 1) := by decide +kernel
theorem dX6_ring_12 : decode cX6_ring 12 = .ok (.invokevirtual 118, 3) := by decide +kernel
theorem dX6_ring_15 : decode cX6_ring 15 = .ok (.ifCond .eq 19, 3) := by decide +kernel
theorem dX6_ring_18 : decode cX6_ring 18 = .ok (.aload_n 0, 1) := by decide +kernel
theorem dX6_ring_19 : decode cX6_ring 19 = .ok (.iload_n 2, 1) := by decide +kernel
theorem dX6_ring_20 : decode cX6_ring 20 = .ok (.invokevirtual 108, 3) := by decide +kernel
theorem dX6_ring_23 : decode cX6_ring 23 = .ok (.iload_n 1, 1) := by decide +kernel
theorem dX6_ring_24 : decode cX6_ring 24 = .ok (.invokevirtual 147, 3) := by decide +kernel
theorem dX6_ring_27 : decode cX6_ring 27 = .ok (.iload_n 3, 1) := by decide +kernel
theorem dX6_ring_28 : decode cX6_ring 28 = .ok (.invokevirtual 151, 3) := by decide +kernel
theorem dX6_ring_31 : decode cX6_ring 31 = .ok (.goto 4, 3) := by decide +kernel
theorem dX6_ring_34 : decode cX6_ring 34 = .ok (.iconst (-1), 1) := by decide +kernel
theorem dX6_ring_35 : decode cX6_ring 35 = .ok (.ireturn, 1) := by decide +kernel
theorem dX6_leaves_0 : decode cX6_leaves 0 = .ok (.iload_n 1, 1) := by decide +kernel
theorem dX6_leaves_1 : decode cX6_leaves 1 = .ok (.invokestatic 88, 3) := by decide +kernel
theorem dX6_leaves_4 : decode cX6_leaves 4 = .ok (.ifCond .eq 26, 3) := by decide +kernel
theorem dX6_leaves_7 : decode cX6_leaves 7 = .ok (.aload_n 0, 1) := by decide +kernel
theorem dX6_leaves_8 : decode cX6_leaves 8 = .ok (.getfield 12, 3) := by decide +kernel
theorem dX6_leaves_11 : decode cX6_leaves 11 = .ok (.iload_n 2, 1) := by decide +kernel
theorem dX6_leaves_12 : decode cX6_leaves 12 = .ok (.invokevirtual 118, 3) := by decide +kernel
theorem dX6_leaves_15 : decode cX6_leaves 15 = .ok (.ifCond .eq 15, 3) := by decide +kernel
theorem dX6_leaves_18 : decode cX6_leaves 18 = .ok (.aload_n 0, 1) := by decide +kernel
theorem dX6_leaves_19 : decode cX6_leaves 19 = .ok (.iload_n 2, 1) := by decide +kernel
theorem dX6_leaves_20 : decode cX6_leaves 20 = .ok (.invokevirtual 108, 3) := by decide +kernel
theorem dX6_leaves_23 : decode cX6_leaves 23 = .ok (.iload_n 1, 1) := by decide +kernel
theorem dX6_leaves_24 : decode cX6_leaves 24 = .ok (.invokevirtual 154, 3) := by decide +kernel
theorem dX6_leaves_27 : decode cX6_leaves 27 = .ok (.goto 4, 3) := by decide +kernel
theorem dX6_leaves_30 : decode cX6_leaves 30 = .ok (.iconst (-1), 1) := by decide +kernel
theorem dX6_leaves_31 : decode cX6_leaves 31 = .ok (.ireturn, 1) := by decide +kernel
theorem dX6_grows_0 : decode cX6_grows 0 = .ok (.aload_n 0, 1) := by decide +kernel
theorem dX6_grows_1 : decode cX6_grows 1 = .ok (.iconst 0, 1) := by decide +kernel
theorem dX6_grows_2 : decode cX6_grows 2 = .ok (.iload_n 1, 1) := by decide +kernel
theorem dX6_grows_3 : decode cX6_grows 3 = .ok (.iload_n 2, 1) := by decide +kernel
theorem dX6_grows_4 : decode cX6_grows 4 = .ok (.invokevirtual 157, 3) := by decide +kernel
theorem dX6_grows_7 : decode cX6_grows 7 = .ok (.ifCond .eq 15, 3) := by decide +kernel
theorem dX6_grows_10 : decode cX6_grows 10 = .ok (.aload_n 0, 1) := by decide +kernel
theorem dX6_grows_11 : decode cX6_grows 11 = .ok (.iload_n 2, 1) := by decide +kernel
theorem dX6_grows_12 : decode cX6_grows 12 = .ok (.invokevirtual 108, 3) := by decide +kernel
theorem dX6_grows_15 : decode cX6_grows 15 = .ok (.iload_n 1, 1) := by decide +kernel
theorem dX6_grows_16 : decode cX6_grows 16 = .ok (.invokevirtual 161, 3) := by decide +kernel
theorem dX6_grows_19 : decode cX6_grows 19 = .ok (.goto 4, 3) := by decide +kernel
theorem dX6_grows_22 : decode cX6_grows 22 = .ok (.iconst (-1), 1) := by decide +kernel
theorem dX6_grows_23 : decode cX6_grows 23 = .ok (.ireturn, 1) := by decide +kernel
theorem dX6_ban_0 : decode cX6_ban 0 = .ok (.aload_n 0, 1) := by decide +kernel
theorem dX6_ban_1 : decode cX6_ban 1 = .ok (.iconst 0, 1) := by decide +kernel
theorem dX6_ban_2 : decode cX6_ban 2 = .ok (.iload_n 1, 1) := by decide +kernel
theorem dX6_ban_3 : decode cX6_ban 3 = .ok (.iload_n 2, 1) := by decide +kernel
theorem dX6_ban_4 : decode cX6_ban 4 = .ok (.invokevirtual 157, 3) := by decide +kernel
theorem dX6_ban_7 : decode cX6_ban 7 = .ok (.ifCond .eq 15, 3) := by decide +kernel
theorem dX6_ban_10 : decode cX6_ban 10 = .ok (.aload_n 0, 1) := by decide +kernel
theorem dX6_ban_11 : decode cX6_ban 11 = .ok (.iload_n 2, 1) := by decide +kernel
theorem dX6_ban_12 : decode cX6_ban 12 = .ok (.invokevirtual 108, 3) := by decide +kernel
theorem dX6_ban_15 : decode cX6_ban 15 = .ok (.iload_n 1, 1) := by decide +kernel
theorem dX6_ban_16 : decode cX6_ban 16 = .ok (.invokevirtual 164, 3) := by decide +kernel
theorem dX6_ban_19 : decode cX6_ban 19 = .ok (.goto 4, 3) := by decide +kernel
theorem dX6_ban_22 : decode cX6_ban 22 = .ok (.iconst (-1), 1) := by decide +kernel
theorem dX6_ban_23 : decode cX6_ban 23 = .ok (.ireturn, 1) := by decide +kernel
theorem dX6_counts_0 : decode cX6_counts 0 = .ok (.aload_n 0, 1) := by decide +kernel
theorem dX6_counts_1 : decode cX6_counts 1 = .ok (.iconst 5, 1) := by decide +kernel
theorem dX6_counts_2 : decode cX6_counts 2 = .ok (.iload_n 1, 1) := by decide +kernel
theorem dX6_counts_3 : decode cX6_counts 3 = .ok (.iload_n 2, 1) := by decide +kernel
theorem dX6_counts_4 : decode cX6_counts 4 = .ok (.invokevirtual 157, 3) := by decide +kernel
theorem dX6_counts_7 : decode cX6_counts 7 = .ok (.ifCond .ne 5, 3) := by decide +kernel
theorem dX6_counts_10 : decode cX6_counts 10 = .ok (.iconst (-1), 1) := by decide +kernel
theorem dX6_counts_11 : decode cX6_counts 11 = .ok (.ireturn, 1) := by decide +kernel
theorem dX6_counts_12 : decode cX6_counts 12 = .ok (.aload_n 0, 1) := by decide +kernel
theorem dX6_counts_13 : decode cX6_counts 13 = .ok (.iload_n 2, 1) := by decide +kernel
theorem dX6_counts_14 : decode cX6_counts 14 = .ok (.invokevirtual 108, 3) := by decide +kernel
theorem dX6_counts_17 : decode cX6_counts 17 = .ok (.iload_n 1, 1) := by decide +kernel
theorem dX6_counts_18 : decode cX6_counts 18 = .ok (.invokevirtual 167, 3) := by decide +kernel
theorem dX6_counts_21 : decode cX6_counts 21 = .ok (.ifCond .eq 7, 3) := by decide +kernel
theorem dX6_counts_24 : decode cX6_counts 24 = .ok (.iconst 1, 1) := by decide +kernel
theorem dX6_counts_25 : decode cX6_counts 25 = .ok (.goto 4, 3) := by decide +kernel
theorem dX6_counts_28 : decode cX6_counts 28 = .ok (.iconst 0, 1) := by decide +kernel
theorem dX6_counts_29 : decode cX6_counts 29 = .ok (.ireturn, 1) := by decide +kernel
theorem dX6_doer_0 : decode cX6_doer 0 = .ok (.iload_n 1, 1) := by decide +kernel
theorem dX6_doer_1 : decode cX6_doer 1 = .ok (.invokestatic 101, 3) := by decide +kernel
theorem dX6_doer_4 : decode cX6_doer 4 = .ok (.ifCond .eq 34, 3) := by decide +kernel
theorem dX6_doer_7 : decode cX6_doer 7 = .ok (.iload_n 2, 1) := by decide +kernel
theorem dX6_doer_8 : decode cX6_doer 8 = .ok (.invokestatic 88, 3) := by decide +kernel
theorem dX6_doer_11 : decode cX6_doer 11 = .ok (.ifCond .eq 27, 3) := by decide +kernel
theorem dX6_doer_14 : decode cX6_doer 14 = .ok (.aload_n 0, 1) := by decide +kernel
theorem dX6_doer_15 : decode cX6_doer 15 = .ok (.getfield 12, 3) := by decide +kernel
theorem dX6_doer_18 : decode cX6_doer 18 = .ok (.iload_n 3, 1) := by decide +kernel
theorem dX6_doer_19 : decode cX6_doer 19 = .ok (.invokevirtual 118, 3) := by decide +kernel
theorem dX6_doer_22 : decode cX6_doer 22 = .ok (.ifCond .eq 16, 3) := by decide +kernel
theorem dX6_doer_25 : decode cX6_doer 25 = .ok (.aload_n 0, 1) := by decide +kernel
theorem dX6_doer_26 : decode cX6_doer 26 = .ok (.iload_n 3, 1) := by decide +kernel
theorem dX6_doer_27 : decode cX6_doer 27 = .ok (.invokevirtual 108, 3) := by decide +kernel
theorem dX6_doer_30 : decode cX6_doer 30 = .ok (.iload_n 1, 1) := by decide +kernel
theorem dX6_doer_31 : decode cX6_doer 31 = .ok (.iload_n 2, 1) := by decide +kernel
theorem dX6_doer_32 : decode cX6_doer 32 = .ok (.invokevirtual 170, 3) := by decide +kernel
theorem dX6_doer_35 : decode cX6_doer 35 = .ok (.goto 4, 3) := by decide +kernel
theorem dX6_doer_38 : decode cX6_doer 38 = .ok (.iconst (-1), 1) := by decide +kernel
theorem dX6_doer_39 : decode cX6_doer 39 = .ok (.ireturn, 1) := by decide +kernel
theorem dX6_turned_0 : decode cX6_turned 0 = .ok (.aload_n 0, 1) := by decide +kernel
theorem dX6_turned_1 : decode cX6_turned 1 = .ok (.getfield 12, 3) := by decide +kernel
theorem dX6_turned_4 : decode cX6_turned 4 = .ok (.iload_n 1, 1) := by decide +kernel
theorem dX6_turned_5 : decode cX6_turned 5 = .ok (.invokevirtual 118, 3) := by decide +kernel
theorem dX6_turned_8 : decode cX6_turned 8 = .ok (.ifCond .eq 14, 3) := by decide +kernel
theorem dX6_turned_11 : decode cX6_turned 11 = .ok (.aload_n 0, 1) := by decide +kernel
theorem dX6_turned_12 : decode cX6_turned 12 = .ok (.getfield 12, 3) := by decide +kernel
theorem dX6_turned_15 : decode cX6_turned 15 = .ok (.iload_n 2, 1) := by decide +kernel
theorem dX6_turned_16 : decode cX6_turned 16 = .ok (.invokevirtual 118, 3) := by decide +kernel
theorem dX6_turned_19 : decode cX6_turned 19 = .ok (.ifCond .ne 5, 3) := by decide +kernel
theorem dX6_turned_22 : decode cX6_turned 22 = .ok (.iconst (-1), 1) := by decide +kernel
theorem dX6_turned_23 : decode cX6_turned 23 = .ok (.ireturn, 1) := by decide +kernel
theorem dX6_turned_24 : decode cX6_turned 24 = .ok (.aload_n 0, 1) := by decide +kernel
theorem dX6_turned_25 : decode cX6_turned 25 = .ok (.iload_n 1, 1) := by decide +kernel
theorem dX6_turned_26 : decode cX6_turned 26 = .ok (.invokevirtual 108, 3) := by decide +kernel
theorem dX6_turned_29 : decode cX6_turned 29 = .ok (.astore_n 3, 1) := by decide +kernel
theorem dX6_turned_30 : decode cX6_turned 30 = .ok (.aload_n 0, 1) := by decide +kernel
theorem dX6_turned_31 : decode cX6_turned 31 = .ok (.iload_n 2, 1) := by decide +kernel
theorem dX6_turned_32 : decode cX6_turned 32 = .ok (.invokevirtual 108, 3) := by decide +kernel
theorem dX6_turned_35 : decode cX6_turned 35 = .ok (.astore 4, 2) := by decide +kernel
theorem dX6_turned_37 : decode cX6_turned 37 = .ok (.iload_n 1, 1) := by decide +kernel
theorem dX6_turned_38 : decode cX6_turned 38 = .ok (.iload_n 2, 1) := by decide +kernel
theorem dX6_turned_39 : decode cX6_turned 39 = .ok (.invokestatic 173, 3) := by decide +kernel
theorem dX6_turned_42 : decode cX6_turned 42 = .ok (.istore 5, 2) := by decide +kernel
theorem dX6_turned_44 : decode cX6_turned 44 = .ok (.iconst 0, 1) := by decide +kernel
theorem dX6_turned_45 : decode cX6_turned 45 = .ok (.istore 6, 2) := by decide +kernel
theorem dX6_turned_47 : decode cX6_turned 47 = .ok (.iload 6, 2) := by decide +kernel
theorem dX6_turned_49 : decode cX6_turned 49 = .ok (.iload 5, 2) := by decide +kernel
theorem dX6_turned_51 : decode cX6_turned 51 = .ok (.if_icmp .ge 56, 3) := by decide +kernel
theorem dX6_turned_54 : decode cX6_turned 54 = .ok (.aload_n 0, 1) := by decide +kernel
theorem dX6_turned_55 : decode cX6_turned 55 = .ok (.getfield 12, 3) := by decide +kernel
theorem dX6_turned_58 : decode cX6_turned 58 = .ok (.iload 6, 2) := by decide +kernel
theorem dX6_turned_60 : decode cX6_turned 60 = .ok (.invokevirtual 95, 3) := by decide +kernel
theorem dX6_turned_63 : decode cX6_turned 63 = .ok (.ifCond .eq 38, 3) := by decide +kernel
theorem dX6_turned_66 : decode cX6_turned 66 = .ok (.aload_n 3, 1) := by decide +kernel
theorem dX6_turned_67 : decode cX6_turned 67 = .ok (.iload 6, 2) := by decide +kernel
theorem dX6_turned_69 : decode cX6_turned 69 = .ok (.invokevirtual 112, 3) := by decide +kernel
theorem dX6_turned_72 : decode cX6_turned 72 = .ok (.ifCond .ne 7, 3) := by decide +kernel
theorem dX6_turned_75 : decode cX6_turned 75 = .ok (.iconst 1, 1) := by decide +kernel
theorem dX6_turned_76 : decode cX6_turned 76 = .ok (.goto 4, 3) := by decide +kernel
theorem dX6_turned_79 : decode cX6_turned 79 = .ok (.iconst 0, 1) := by decide +kernel
theorem dX6_turned_80 : decode cX6_turned 80 = .ok (.aload 4, 2) := by decide +kernel
theorem dX6_turned_82 : decode cX6_turned 82 = .ok (.iload 6, 2) := by decide +kernel
theorem dX6_turned_84 : decode cX6_turned 84 = .ok (.invokevirtual 112, 3) := by decide +kernel
theorem dX6_turned_87 : decode cX6_turned 87 = .ok (.ifCond .ne 7, 3) := by decide +kernel
theorem dX6_turned_90 : decode cX6_turned 90 = .ok (.iconst 1, 1) := by decide +kernel
theorem dX6_turned_91 : decode cX6_turned 91 = .ok (.goto 4, 3) := by decide +kernel
theorem dX6_turned_94 : decode cX6_turned 94 = .ok (.iconst 0, 1) := by decide +kernel
theorem dX6_turned_95 : decode cX6_turned 95 = .ok (.if_icmp .eq 6, 3) := by decide +kernel
theorem dX6_turned_98 : decode cX6_turned 98 = .ok (.iload 6, 2) := by decide +kernel
theorem dX6_turned_100 : decode cX6_turned 100 = .ok (.ireturn, 1) := by decide +kernel
theorem dX6_turned_101 : decode cX6_turned 101 = .ok (.iinc 6 1, 3) := by decide +kernel
theorem dX6_turned_104 : decode cX6_turned 104 = .ok (.goto (-57), 3) := by decide +kernel
theorem dX6_turned_107 : decode cX6_turned 107 = .ok (.iconst (-1), 1) := by decide +kernel
theorem dX6_turned_108 : decode cX6_turned 108 = .ok (.ireturn, 1) := by decide +kernel
theorem dX6_count_0 : decode cX6_count 0 = .ok (.iload_n 1, 1) := by decide +kernel
theorem dX6_count_1 : decode cX6_count 1 = .ok (.tableswitch 72 0 4 #[35, 43, 51, 59, 67], 35) := by decide +kernel
theorem dX6_count_36 : decode cX6_count 36 = .ok (.aload_n 0, 1) := by decide +kernel
theorem dX6_count_37 : decode cX6_count 37 = .ok (.getfield 12, 3) := by decide +kernel
theorem dX6_count_40 : decode cX6_count 40 = .ok (.invokevirtual 178, 3) := by decide +kernel
theorem dX6_count_43 : decode cX6_count 43 = .ok (.ireturn, 1) := by decide +kernel
theorem dX6_count_44 : decode cX6_count 44 = .ok (.aload_n 0, 1) := by decide +kernel
theorem dX6_count_45 : decode cX6_count 45 = .ok (.getfield 12, 3) := by decide +kernel
theorem dX6_count_48 : decode cX6_count 48 = .ok (.invokevirtual 181, 3) := by decide +kernel
theorem dX6_count_51 : decode cX6_count 51 = .ok (.ireturn, 1) := by decide +kernel
theorem dX6_count_52 : decode cX6_count 52 = .ok (.aload_n 0, 1) := by decide +kernel
theorem dX6_count_53 : decode cX6_count 53 = .ok (.getfield 12, 3) := by decide +kernel
theorem dX6_count_56 : decode cX6_count 56 = .ok (.invokevirtual 184, 3) := by decide +kernel
theorem dX6_count_59 : decode cX6_count 59 = .ok (.ireturn, 1) := by decide +kernel
theorem dX6_count_60 : decode cX6_count 60 = .ok (.aload_n 0, 1) := by decide +kernel
theorem dX6_count_61 : decode cX6_count 61 = .ok (.getfield 27, 3) := by decide +kernel
theorem dX6_count_64 : decode cX6_count 64 = .ok (.invokevirtual 187, 3) := by decide +kernel
theorem dX6_count_67 : decode cX6_count 67 = .ok (.ireturn, 1) := by decide +kernel
theorem dX6_count_68 : decode cX6_count 68 = .ok (.aload_n 0, 1) := by decide +kernel
theorem dX6_count_69 : decode cX6_count 69 = .ok (.getfield 20, 3) := by decide +kernel
theorem dX6_count_72 : decode cX6_count 72 = .ok (.ireturn, 1) := by decide +kernel
theorem dX6_count_73 : decode cX6_count 73 = .ok (.iconst (-1), 1) := by decide +kernel
theorem dX6_count_74 : decode cX6_count 74 = .ok (.ireturn, 1) := by decide +kernel
theorem dX6_putBytes_0 : decode cX6_putBytes 0 = .ok (.bipush 24, 2) := by decide +kernel
theorem dX6_putBytes_2 : decode cX6_putBytes 2 = .ok (.istore_n 2, 1) := by decide +kernel
theorem dX6_putBytes_3 : decode cX6_putBytes 3 = .ok (.iload_n 2, 1) := by decide +kernel
theorem dX6_putBytes_4 : decode cX6_putBytes 4 = .ok (.ifCond .lt 37, 3) := by decide +kernel
theorem dX6_putBytes_7 : decode cX6_putBytes 7 = .ok (.aload_n 0, 1) := by decide +kernel
theorem dX6_putBytes_8 : decode cX6_putBytes 8 = .ok (.getfield 16, 3) := by decide +kernel
theorem dX6_putBytes_11 : decode cX6_putBytes 11 = .ok (.aload_n 0, 1) := by decide +kernel
theorem dX6_putBytes_12 : decode cX6_putBytes 12 = .ok (.getfield 20, 3) := by decide +kernel
theorem dX6_putBytes_15 : decode cX6_putBytes 15 = .ok (.iload_n 1, 1) := by decide +kernel
theorem dX6_putBytes_16 : decode cX6_putBytes 16 = .ok (.iload_n 2, 1) := by decide +kernel
theorem dX6_putBytes_17 : decode cX6_putBytes 17 = .ok (.ishr, 1) := by decide +kernel
theorem dX6_putBytes_18 : decode cX6_putBytes 18 = .ok (.sipush 255, 3) := by decide +kernel
theorem dX6_putBytes_21 : decode cX6_putBytes 21 = .ok (.iand, 1) := by decide +kernel
theorem dX6_putBytes_22 : decode cX6_putBytes 22 = .ok (.invokestatic 190, 3) := by decide +kernel
theorem dX6_putBytes_25 : decode cX6_putBytes 25 = .ok (.aload_n 0, 1) := by decide +kernel
theorem dX6_putBytes_26 : decode cX6_putBytes 26 = .ok (.dup, 1) := by decide +kernel
theorem dX6_putBytes_27 : decode cX6_putBytes 27 = .ok (.getfield 20, 3) := by decide +kernel
theorem dX6_putBytes_30 : decode cX6_putBytes 30 = .ok (.iconst 1, 1) := by decide +kernel
theorem dX6_putBytes_31 : decode cX6_putBytes 31 = .ok (.iadd, 1) := by decide +kernel
theorem dX6_putBytes_32 : decode cX6_putBytes 32 = .ok (.putfield 20, 3) := by decide +kernel
theorem dX6_putBytes_35 : decode cX6_putBytes 35 = .ok (.iinc 2 (-8), 3) := by decide +kernel
theorem dX6_putBytes_38 : decode cX6_putBytes 38 = .ok (.goto (-35), 3) := by decide +kernel
theorem dX6_putBytes_41 : decode cX6_putBytes 41 = .ok (.return_, 1) := by decide +kernel
theorem dX6_tellGift_0 : decode cX6_tellGift 0 = .ok (.iload_n 2, 1) := by decide +kernel
theorem dX6_tellGift_1 : decode cX6_tellGift 1 = .ok (.invokestatic 88, 3) := by decide +kernel
theorem dX6_tellGift_4 : decode cX6_tellGift 4 = .ok (.ifCond .eq 14, 3) := by decide +kernel
theorem dX6_tellGift_7 : decode cX6_tellGift 7 = .ok (.aload_n 0, 1) := by decide +kernel
theorem dX6_tellGift_8 : decode cX6_tellGift 8 = .ok (.iload 4, 2) := by decide +kernel
theorem dX6_tellGift_10 : decode cX6_tellGift 10 = .ok (.iload 5, 2) := by decide +kernel
theorem dX6_tellGift_12 : decode cX6_tellGift 12 = .ok (.invokevirtual 115, 3) := by decide +kernel
theorem dX6_tellGift_15 : decode cX6_tellGift 15 = .ok (.ifCond .ne 5, 3) := by decide +kernel
theorem dX6_tellGift_18 : decode cX6_tellGift 18 = .ok (.iconst (-1), 1) := by decide +kernel
theorem dX6_tellGift_19 : decode cX6_tellGift 19 = .ok (.ireturn, 1) := by decide +kernel
theorem dX6_tellGift_20 : decode cX6_tellGift 20 = .ok (.aload_n 0, 1) := by decide +kernel
theorem dX6_tellGift_21 : decode cX6_tellGift 21 = .ok (.getfield 12, 3) := by decide +kernel
theorem dX6_tellGift_24 : decode cX6_tellGift 24 = .ok (.iload_n 3, 1) := by decide +kernel
theorem dX6_tellGift_25 : decode cX6_tellGift 25 = .ok (.invokevirtual 98, 3) := by decide +kernel
theorem dX6_tellGift_28 : decode cX6_tellGift 28 = .ok (.ifCond .eq 21, 3) := by decide +kernel
theorem dX6_tellGift_31 : decode cX6_tellGift 31 = .ok (.aload_n 0, 1) := by decide +kernel
theorem dX6_tellGift_32 : decode cX6_tellGift 32 = .ok (.getfield 12, 3) := by decide +kernel
theorem dX6_tellGift_35 : decode cX6_tellGift 35 = .ok (.iload 6, 2) := by decide +kernel
theorem dX6_tellGift_37 : decode cX6_tellGift 37 = .ok (.invokevirtual 98, 3) := by decide +kernel
theorem dX6_tellGift_40 : decode cX6_tellGift 40 = .ok (.ifCond .eq 9, 3) := by decide +kernel
theorem dX6_tellGift_43 : decode cX6_tellGift 43 = .ok (.iload_n 3, 1) := by decide +kernel
theorem dX6_tellGift_44 : decode cX6_tellGift 44 = .ok (.iload 6, 2) := by decide +kernel
theorem dX6_tellGift_46 : decode cX6_tellGift 46 = .ok (.if_icmp .ne 5, 3) := by decide +kernel
theorem dX6_tellGift_49 : decode cX6_tellGift 49 = .ok (.iconst (-1), 1) := by decide +kernel
theorem dX6_tellGift_50 : decode cX6_tellGift 50 = .ok (.ireturn, 1) := by decide +kernel
theorem dX6_tellGift_51 : decode cX6_tellGift 51 = .ok (.aload_n 0, 1) := by decide +kernel
theorem dX6_tellGift_52 : decode cX6_tellGift 52 = .ok (.getfield 12, 3) := by decide +kernel
theorem dX6_tellGift_55 : decode cX6_tellGift 55 = .ok (.iload_n 1, 1) := by decide +kernel
theorem dX6_tellGift_56 : decode cX6_tellGift 56 = .ok (.iload_n 2, 1) := by decide +kernel
theorem dX6_tellGift_57 : decode cX6_tellGift 57 = .ok (.iload_n 3, 1) := by decide +kernel
theorem dX6_tellGift_58 : decode cX6_tellGift 58 = .ok (.iload 4, 2) := by decide +kernel
theorem dX6_tellGift_60 : decode cX6_tellGift 60 = .ok (.iload 5, 2) := by decide +kernel
theorem dX6_tellGift_62 : decode cX6_tellGift 62 = .ok (.iload 6, 2) := by decide +kernel
theorem dX6_tellGift_64 : decode cX6_tellGift 64 = .ok (.invokevirtual 92, 3) := by decide +kernel
theorem dX6_tellGift_67 : decode cX6_tellGift 67 = .ok (.ireturn, 1) := by decide +kernel
theorem dX6_isLeaf_0 : decode cX6_isLeaf 0 = .ok (.aload_n 0, 1) := by decide +kernel
theorem dX6_isLeaf_1 : decode cX6_isLeaf 1 = .ok (.getfield 12, 3) := by decide +kernel
theorem dX6_isLeaf_4 : decode cX6_isLeaf 4 = .ok (.iload_n 1, 1) := by decide +kernel
theorem dX6_isLeaf_5 : decode cX6_isLeaf 5 = .ok (.invokevirtual 98, 3) := by decide +kernel
theorem dX6_isLeaf_8 : decode cX6_isLeaf 8 = .ok (.ifCond .eq 14, 3) := by decide +kernel
theorem dX6_isLeaf_11 : decode cX6_isLeaf 11 = .ok (.iload_n 2, 1) := by decide +kernel
theorem dX6_isLeaf_12 : decode cX6_isLeaf 12 = .ok (.invokestatic 88, 3) := by decide +kernel
theorem dX6_isLeaf_15 : decode cX6_isLeaf 15 = .ok (.ifCond .eq 7, 3) := by decide +kernel
theorem dX6_isLeaf_18 : decode cX6_isLeaf 18 = .ok (.iconst 1, 1) := by decide +kernel
theorem dX6_isLeaf_19 : decode cX6_isLeaf 19 = .ok (.goto 4, 3) := by decide +kernel
theorem dX6_isLeaf_22 : decode cX6_isLeaf 22 = .ok (.iconst 0, 1) := by decide +kernel
theorem dX6_isLeaf_23 : decode cX6_isLeaf 23 = .ok (.ireturn, 1) := by decide +kernel
theorem dX6_isKnownPaper_0 : decode cX6_isKnownPaper 0 = .ok (.aload_n 0, 1) := by decide +kernel
theorem dX6_isKnownPaper_1 : decode cX6_isKnownPaper 1 = .ok (.getfield 12, 3) := by decide +kernel
theorem dX6_isKnownPaper_4 : decode cX6_isKnownPaper 4 = .ok (.iload_n 2, 1) := by decide +kernel
theorem dX6_isKnownPaper_5 : decode cX6_isKnownPaper 5 = .ok (.invokevirtual 118, 3) := by decide +kernel
theorem dX6_isKnownPaper_8 : decode cX6_isKnownPaper 8 = .ok (.ifCond .eq 23, 3) := by decide +kernel
theorem dX6_isKnownPaper_11 : decode cX6_isKnownPaper 11 = .ok (.iload_n 1, 1) := by decide +kernel
theorem dX6_isKnownPaper_12 : decode cX6_isKnownPaper 12 = .ok (.iload_n 2, 1) := by decide +kernel
theorem dX6_isKnownPaper_13 : decode cX6_isKnownPaper 13 = .ok (.if_icmp .ge 18, 3) := by decide +kernel
theorem dX6_isKnownPaper_16 : decode cX6_isKnownPaper 16 = .ok (.aload_n 0, 1) := by decide +kernel
theorem dX6_isKnownPaper_17 : decode cX6_isKnownPaper 17 = .ok (.getfield 12, 3) := by decide +kernel
theorem dX6_isKnownPaper_20 : decode cX6_isKnownPaper 20 = .ok (.iload_n 1, 1) := by decide +kernel
theorem dX6_isKnownPaper_21 : decode cX6_isKnownPaper 21 = .ok (.invokevirtual 95, 3) := by decide +kernel
theorem dX6_isKnownPaper_24 : decode cX6_isKnownPaper 24 = .ok (.ifCond .eq 7, 3) := by decide +kernel
theorem dX6_isKnownPaper_27 : decode cX6_isKnownPaper 27 = .ok (.iconst 1, 1) := by decide +kernel
theorem dX6_isKnownPaper_28 : decode cX6_isKnownPaper 28 = .ok (.goto 4, 3) := by decide +kernel
theorem dX6_isKnownPaper_31 : decode cX6_isKnownPaper 31 = .ok (.iconst 0, 1) := by decide +kernel
theorem dX6_isKnownPaper_32 : decode cX6_isKnownPaper 32 = .ok (.ireturn, 1) := by decide +kernel
theorem dX6_isKnownOf_0 : decode cX6_isKnownOf 0 = .ok (.aload_n 0, 1) := by decide +kernel
theorem dX6_isKnownOf_1 : decode cX6_isKnownOf 1 = .ok (.getfield 12, 3) := by decide +kernel
theorem dX6_isKnownOf_4 : decode cX6_isKnownOf 4 = .ok (.iload_n 3, 1) := by decide +kernel
theorem dX6_isKnownOf_5 : decode cX6_isKnownOf 5 = .ok (.invokevirtual 118, 3) := by decide +kernel
theorem dX6_isKnownOf_8 : decode cX6_isKnownOf 8 = .ok (.ifCond .eq 24, 3) := by decide +kernel
theorem dX6_isKnownOf_11 : decode cX6_isKnownOf 11 = .ok (.iload_n 2, 1) := by decide +kernel
theorem dX6_isKnownOf_12 : decode cX6_isKnownOf 12 = .ok (.iload_n 3, 1) := by decide +kernel
theorem dX6_isKnownOf_13 : decode cX6_isKnownOf 13 = .ok (.if_icmp .ge 19, 3) := by decide +kernel
theorem dX6_isKnownOf_16 : decode cX6_isKnownOf 16 = .ok (.aload_n 0, 1) := by decide +kernel
theorem dX6_isKnownOf_17 : decode cX6_isKnownOf 17 = .ok (.getfield 12, 3) := by decide +kernel
theorem dX6_isKnownOf_20 : decode cX6_isKnownOf 20 = .ok (.iload_n 2, 1) := by decide +kernel
theorem dX6_isKnownOf_21 : decode cX6_isKnownOf 21 = .ok (.invokevirtual 194, 3) := by decide +kernel
theorem dX6_isKnownOf_24 : decode cX6_isKnownOf 24 = .ok (.iload_n 1, 1) := by decide +kernel
theorem dX6_isKnownOf_25 : decode cX6_isKnownOf 25 = .ok (.if_icmp .ne 7, 3) := by decide +kernel
theorem dX6_isKnownOf_28 : decode cX6_isKnownOf 28 = .ok (.iconst 1, 1) := by decide +kernel
theorem dX6_isKnownOf_29 : decode cX6_isKnownOf 29 = .ok (.goto 4, 3) := by decide +kernel
theorem dX6_isKnownOf_32 : decode cX6_isKnownOf 32 = .ok (.iconst 0, 1) := by decide +kernel
theorem dX6_isKnownOf_33 : decode cX6_isKnownOf 33 = .ok (.ireturn, 1) := by decide +kernel
theorem dX6_knownBy_0 : decode cX6_knownBy 0 = .ok (.aload_n 0, 1) := by decide +kernel
theorem dX6_knownBy_1 : decode cX6_knownBy 1 = .ok (.getfield 61, 3) := by decide +kernel
theorem dX6_knownBy_4 : decode cX6_knownBy 4 = .ok (.iload_n 1, 1) := by decide +kernel
theorem dX6_knownBy_5 : decode cX6_knownBy 5 = .ok (.aload_n 0, 1) := by decide +kernel
theorem dX6_knownBy_6 : decode cX6_knownBy 6 = .ok (.getfield 46, 3) := by decide +kernel
theorem dX6_knownBy_9 : decode cX6_knownBy 9 = .ok (.invokevirtual 197, 3) := by decide +kernel
theorem dX6_knownBy_12 : decode cX6_knownBy 12 = .ok (.ifCond .eq 13, 3) := by decide +kernel
theorem dX6_knownBy_15 : decode cX6_knownBy 15 = .ok (.aload_n 0, 1) := by decide +kernel
theorem dX6_knownBy_16 : decode cX6_knownBy 16 = .ok (.iconst 0, 1) := by decide +kernel
theorem dX6_knownBy_17 : decode cX6_knownBy 17 = .ok (.putfield 49, 3) := by decide +kernel
theorem dX6_knownBy_20 : decode cX6_knownBy 20 = .ok (.aload_n 0, 1) := by decide +kernel
theorem dX6_knownBy_21 : decode cX6_knownBy 21 = .ok (.getfield 61, 3) := by decide +kernel
theorem dX6_knownBy_24 : decode cX6_knownBy 24 = .ok (.areturn, 1) := by decide +kernel
theorem dX6_knownBy_25 : decode cX6_knownBy 25 = .ok (.aload_n 0, 1) := by decide +kernel
theorem dX6_knownBy_26 : decode cX6_knownBy 26 = .ok (.getfield 65, 3) := by decide +kernel
theorem dX6_knownBy_29 : decode cX6_knownBy 29 = .ok (.iload_n 1, 1) := by decide +kernel
theorem dX6_knownBy_30 : decode cX6_knownBy 30 = .ok (.aload_n 0, 1) := by decide +kernel
theorem dX6_knownBy_31 : decode cX6_knownBy 31 = .ok (.getfield 46, 3) := by decide +kernel
theorem dX6_knownBy_34 : decode cX6_knownBy 34 = .ok (.invokevirtual 197, 3) := by decide +kernel
theorem dX6_knownBy_37 : decode cX6_knownBy 37 = .ok (.ifCond .eq 13, 3) := by decide +kernel
theorem dX6_knownBy_40 : decode cX6_knownBy 40 = .ok (.aload_n 0, 1) := by decide +kernel
theorem dX6_knownBy_41 : decode cX6_knownBy 41 = .ok (.iconst 1, 1) := by decide +kernel
theorem dX6_knownBy_42 : decode cX6_knownBy 42 = .ok (.putfield 49, 3) := by decide +kernel
theorem dX6_knownBy_45 : decode cX6_knownBy 45 = .ok (.aload_n 0, 1) := by decide +kernel
theorem dX6_knownBy_46 : decode cX6_knownBy 46 = .ok (.getfield 65, 3) := by decide +kernel
theorem dX6_knownBy_49 : decode cX6_knownBy 49 = .ok (.areturn, 1) := by decide +kernel
theorem dX6_knownBy_50 : decode cX6_knownBy 50 = .ok (.aload_n 0, 1) := by decide +kernel
theorem dX6_knownBy_51 : decode cX6_knownBy 51 = .ok (.getfield 49, 3) := by decide +kernel
theorem dX6_knownBy_54 : decode cX6_knownBy 54 = .ok (.ifCond .eq 10, 3) := by decide +kernel
theorem dX6_knownBy_57 : decode cX6_knownBy 57 = .ok (.aload_n 0, 1) := by decide +kernel
theorem dX6_knownBy_58 : decode cX6_knownBy 58 = .ok (.getfield 61, 3) := by decide +kernel
theorem dX6_knownBy_61 : decode cX6_knownBy 61 = .ok (.goto 7, 3) := by decide +kernel
theorem dX6_knownBy_64 : decode cX6_knownBy 64 = .ok (.aload_n 0, 1) := by decide +kernel
theorem dX6_knownBy_65 : decode cX6_knownBy 65 = .ok (.getfield 65, 3) := by decide +kernel
theorem dX6_knownBy_68 : decode cX6_knownBy 68 = .ok (.astore_n 2, 1) := by decide +kernel
theorem dX6_knownBy_69 : decode cX6_knownBy 69 = .ok (.aload_n 0, 1) := by decide +kernel
theorem dX6_knownBy_70 : decode cX6_knownBy 70 = .ok (.aload_n 0, 1) := by decide +kernel
theorem dX6_knownBy_71 : decode cX6_knownBy 71 = .ok (.getfield 49, 3) := by decide +kernel
theorem dX6_knownBy_74 : decode cX6_knownBy 74 = .ok (.ifCond .ne 7, 3) := by decide +kernel
theorem dX6_knownBy_77 : decode cX6_knownBy 77 = .ok (.iconst 1, 1) := by decide +kernel
theorem dX6_knownBy_78 : decode cX6_knownBy 78 = .ok (.goto 4, 3) := by decide +kernel
theorem dX6_knownBy_81 : decode cX6_knownBy 81 = .ok (.iconst 0, 1) := by decide +kernel
theorem dX6_knownBy_82 : decode cX6_knownBy 82 = .ok (.putfield 49, 3) := by decide +kernel
theorem dX6_knownBy_85 : decode cX6_knownBy 85 = .ok (.aload_n 2, 1) := by decide +kernel
theorem dX6_knownBy_86 : decode cX6_knownBy 86 = .ok (.iload_n 1, 1) := by decide +kernel
theorem dX6_knownBy_87 : decode cX6_knownBy 87 = .ok (.aload_n 0, 1) := by decide +kernel
theorem dX6_knownBy_88 : decode cX6_knownBy 88 = .ok (.getfield 46, 3) := by decide +kernel
theorem dX6_knownBy_91 : decode cX6_knownBy 91 = .ok (.aload_n 0, 1) := by decide +kernel
theorem dX6_knownBy_92 : decode cX6_knownBy 92 = .ok (.getfield 27, 3) := by decide +kernel
theorem dX6_knownBy_95 : decode cX6_knownBy 95 = .ok (.invokevirtual 200, 3) := by decide +kernel
theorem dX6_knownBy_98 : decode cX6_knownBy 98 = .ok (.aload_n 2, 1) := by decide +kernel
theorem dX6_knownBy_99 : decode cX6_knownBy 99 = .ok (.areturn, 1) := by decide +kernel
theorem dX6_isDay_0 : decode cX6_isDay 0 = .ok (.iload_n 0, 1) := by decide +kernel
theorem dX6_isDay_1 : decode cX6_isDay 1 = .ok (.ifCond .lt 14, 3) := by decide +kernel
theorem dX6_isDay_4 : decode cX6_isDay 4 = .ok (.iload_n 0, 1) := by decide +kernel
theorem dX6_isDay_5 : decode cX6_isDay 5 = .ok (.sipush 400, 3) := by decide +kernel
theorem dX6_isDay_8 : decode cX6_isDay 8 = .ok (.if_icmp .ge 7, 3) := by decide +kernel
theorem dX6_isDay_11 : decode cX6_isDay 11 = .ok (.iconst 1, 1) := by decide +kernel
theorem dX6_isDay_12 : decode cX6_isDay 12 = .ok (.goto 4, 3) := by decide +kernel
theorem dX6_isDay_15 : decode cX6_isDay 15 = .ok (.iconst 0, 1) := by decide +kernel
theorem dX6_isDay_16 : decode cX6_isDay 16 = .ok (.ireturn, 1) := by decide +kernel
theorem dX6_isDeed_0 : decode cX6_isDeed 0 = .ok (.iload_n 0, 1) := by decide +kernel
theorem dX6_isDeed_1 : decode cX6_isDeed 1 = .ok (.ifCond .lt 13, 3) := by decide +kernel
theorem dX6_isDeed_4 : decode cX6_isDeed 4 = .ok (.iload_n 0, 1) := by decide +kernel
theorem dX6_isDeed_5 : decode cX6_isDeed 5 = .ok (.bipush 10, 2) := by decide +kernel
theorem dX6_isDeed_7 : decode cX6_isDeed 7 = .ok (.if_icmp .ge 7, 3) := by decide +kernel
theorem dX6_isDeed_10 : decode cX6_isDeed 10 = .ok (.iconst 1, 1) := by decide +kernel
theorem dX6_isDeed_11 : decode cX6_isDeed 11 = .ok (.goto 4, 3) := by decide +kernel
theorem dX6_isDeed_14 : decode cX6_isDeed 14 = .ok (.iconst 0, 1) := by decide +kernel
theorem dX6_isDeed_15 : decode cX6_isDeed 15 = .ok (.ireturn, 1) := by decide +kernel
theorem dX6_at_0 : decode cX6_at 0 = .ok (.iload_n 1, 1) := by decide +kernel
theorem dX6_at_1 : decode cX6_at 1 = .ok (.ifCond .lt 15, 3) := by decide +kernel
theorem dX6_at_4 : decode cX6_at 4 = .ok (.iload_n 1, 1) := by decide +kernel
theorem dX6_at_5 : decode cX6_at 5 = .ok (.aload_n 0, 1) := by decide +kernel
theorem dX6_at_6 : decode cX6_at 6 = .ok (.arraylength, 1) := by decide +kernel
theorem dX6_at_7 : decode cX6_at 7 = .ok (.if_icmp .ge 9, 3) := by decide +kernel
theorem dX6_at_10 : decode cX6_at 10 = .ok (.aload_n 0, 1) := by decide +kernel
theorem dX6_at_11 : decode cX6_at 11 = .ok (.iload_n 1, 1) := by decide +kernel
theorem dX6_at_12 : decode cX6_at 12 = .ok (.iaload, 1) := by decide +kernel
theorem dX6_at_13 : decode cX6_at 13 = .ok (.goto 4, 3) := by decide +kernel
theorem dX6_at_16 : decode cX6_at 16 = .ok (.iconst 0, 1) := by decide +kernel
theorem dX6_at_17 : decode cX6_at 17 = .ok (.ireturn, 1) := by decide +kernel
theorem dX6_put_0 : decode cX6_put 0 = .ok (.iload_n 1, 1) := by decide +kernel
theorem dX6_put_1 : decode cX6_put 1 = .ok (.ifCond .lt 13, 3) := by decide +kernel
theorem dX6_put_4 : decode cX6_put 4 = .ok (.iload_n 1, 1) := by decide +kernel
theorem dX6_put_5 : decode cX6_put 5 = .ok (.aload_n 0, 1) := by decide +kernel
theorem dX6_put_6 : decode cX6_put 6 = .ok (.arraylength, 1) := by decide +kernel
theorem dX6_put_7 : decode cX6_put 7 = .ok (.if_icmp .ge 7, 3) := by decide +kernel
theorem dX6_put_10 : decode cX6_put 10 = .ok (.aload_n 0, 1) := by decide +kernel
theorem dX6_put_11 : decode cX6_put 11 = .ok (.iload_n 1, 1) := by decide +kernel
theorem dX6_put_12 : decode cX6_put 12 = .ok (.iload_n 2, 1) := by decide +kernel
theorem dX6_put_13 : decode cX6_put 13 = .ok (.iastore, 1) := by decide +kernel
theorem dX6_put_14 : decode cX6_put 14 = .ok (.return_, 1) := by decide +kernel
theorem dX7_init_0 : decode cX7_init 0 = .ok (.aload_n 0, 1) := by decide +kernel
theorem dX7_init_1 : decode cX7_init 1 = .ok (.invokespecial 7, 3) := by decide +kernel
theorem dX7_init_4 : decode cX7_init 4 = .ok (.aload_n 0, 1) := by decide +kernel
theorem dX7_init_5 : decode cX7_init 5 = .ok (.sipush 2000, 3) := by decide +kernel
theorem dX7_init_8 : decode cX7_init 8 = .ok (.newarray .byte, 2) := by decide +kernel
theorem dX7_init_10 : decode cX7_init 10 = .ok (.putfield 13, 3) := by decide +kernel
theorem dX7_init_13 : decode cX7_init 13 = .ok (.aload_n 0, 1) := by decide +kernel
theorem dX7_init_14 : decode cX7_init 14 = .ok (.sipush 2000, 3) := by decide +kernel
theorem dX7_init_17 : decode cX7_init 17 = .ok (.newarray .byte, 2) := by decide +kernel
theorem dX7_init_19 : decode cX7_init 19 = .ok (.putfield 17, 3) := by decide +kernel
theorem dX7_init_22 : decode cX7_init 22 = .ok (.aload_n 0, 1) := by decide +kernel
theorem dX7_init_23 : decode cX7_init 23 = .ok (.sipush 403, 3) := by decide +kernel
theorem dX7_init_26 : decode cX7_init 26 = .ok (.newarray .int, 2) := by decide +kernel
theorem dX7_init_28 : decode cX7_init 28 = .ok (.putfield 20, 3) := by decide +kernel
theorem dX7_init_31 : decode cX7_init 31 = .ok (.aload_n 0, 1) := by decide +kernel
theorem dX7_init_32 : decode cX7_init 32 = .ok (.sipush 403, 3) := by decide +kernel
theorem dX7_init_35 : decode cX7_init 35 = .ok (.newarray .int, 2) := by decide +kernel
theorem dX7_init_37 : decode cX7_init 37 = .ok (.putfield 24, 3) := by decide +kernel
theorem dX7_init_40 : decode cX7_init 40 = .ok (.aload_n 0, 1) := by decide +kernel
theorem dX7_init_41 : decode cX7_init 41 = .ok (.sipush 403, 3) := by decide +kernel
theorem dX7_init_44 : decode cX7_init 44 = .ok (.newarray .int, 2) := by decide +kernel
theorem dX7_init_46 : decode cX7_init 46 = .ok (.putfield 27, 3) := by decide +kernel
theorem dX7_init_49 : decode cX7_init 49 = .ok (.aload_n 0, 1) := by decide +kernel
theorem dX7_init_50 : decode cX7_init 50 = .ok (.sipush 403, 3) := by decide +kernel
theorem dX7_init_53 : decode cX7_init 53 = .ok (.newarray .long, 2) := by decide +kernel
theorem dX7_init_55 : decode cX7_init 55 = .ok (.putfield 30, 3) := by decide +kernel
theorem dX7_init_58 : decode cX7_init 58 = .ok (.aload_n 0, 1) := by decide +kernel
theorem dX7_init_59 : decode cX7_init 59 = .ok (.bipush 14, 2) := by decide +kernel
theorem dX7_init_61 : decode cX7_init 61 = .ok (.newarray .long, 2) := by decide +kernel
theorem dX7_init_63 : decode cX7_init 63 = .ok (.putfield 34, 3) := by decide +kernel
theorem dX7_init_66 : decode cX7_init 66 = .ok (.aload_n 0, 1) := by decide +kernel
theorem dX7_init_67 : decode cX7_init 67 = .ok (.iconst (-1), 1) := by decide +kernel
theorem dX7_init_68 : decode cX7_init 68 = .ok (.putfield 37, 3) := by decide +kernel
theorem dX7_init_71 : decode cX7_init 71 = .ok (.aload_n 0, 1) := by decide +kernel
theorem dX7_init_72 : decode cX7_init 72 = .ok (.iconst 2, 1) := by decide +kernel
theorem dX7_init_73 : decode cX7_init 73 = .ok (.newarray .int, 2) := by decide +kernel
theorem dX7_init_75 : decode cX7_init 75 = .ok (.putfield 40, 3) := by decide +kernel
theorem dX7_init_78 : decode cX7_init 78 = .ok (.aload_n 0, 1) := by decide +kernel
theorem dX7_init_79 : decode cX7_init 79 = .ok (.bipush 32, 2) := by decide +kernel
theorem dX7_init_81 : decode cX7_init 81 = .ok (.newarray .int, 2) := by decide +kernel
theorem dX7_init_83 : decode cX7_init 83 = .ok (.putfield 43, 3) := by decide +kernel
theorem dX7_init_86 : decode cX7_init 86 = .ok (.aload_n 0, 1) := by decide +kernel
theorem dX7_init_87 : decode cX7_init 87 = .ok (.bipush 32, 2) := by decide +kernel
theorem dX7_init_89 : decode cX7_init 89 = .ok (.newarray .int, 2) := by decide +kernel
theorem dX7_init_91 : decode cX7_init 91 = .ok (.putfield 46, 3) := by decide +kernel
theorem dX7_init_94 : decode cX7_init 94 = .ok (.aload_n 0, 1) := by decide +kernel
theorem dX7_init_95 : decode cX7_init 95 = .ok (.bipush 32, 2) := by decide +kernel
theorem dX7_init_97 : decode cX7_init 97 = .ok (.newarray .int, 2) := by decide +kernel
theorem dX7_init_99 : decode cX7_init 99 = .ok (.putfield 49, 3) := by decide +kernel
theorem dX7_init_102 : decode cX7_init 102 = .ok (.aload_n 0, 1) := by decide +kernel
theorem dX7_init_103 : decode cX7_init 103 = .ok (.bipush 32, 2) := by decide +kernel
theorem dX7_init_105 : decode cX7_init 105 = .ok (.newarray .int, 2) := by decide +kernel
theorem dX7_init_107 : decode cX7_init 107 = .ok (.putfield 52, 3) := by decide +kernel
theorem dX7_init_110 : decode cX7_init 110 = .ok (.aload_n 0, 1) := by decide +kernel
theorem dX7_init_111 : decode cX7_init 111 = .ok (.bipush 32, 2) := by decide +kernel
theorem dX7_init_113 : decode cX7_init 113 = .ok (.newarray .int, 2) := by decide +kernel
theorem dX7_init_115 : decode cX7_init 115 = .ok (.putfield 55, 3) := by decide +kernel
theorem dX7_init_118 : decode cX7_init 118 = .ok (.aload_n 0, 1) := by decide +kernel
theorem dX7_init_119 : decode cX7_init 119 = .ok (.iconst 2, 1) := by decide +kernel
theorem dX7_init_120 : decode cX7_init 120 = .ok (.newarray .int, 2) := by decide +kernel
theorem dX7_init_122 : decode cX7_init 122 = .ok (.putfield 58, 3) := by decide +kernel
theorem dX7_init_125 : decode cX7_init 125 = .ok (.aload_n 0, 1) := by decide +kernel
theorem dX7_init_126 : decode cX7_init 126 = .ok (.sipush 400, 3) := by decide +kernel
theorem dX7_init_129 : decode cX7_init 129 = .ok (.newarray .int, 2) := by decide +kernel
theorem dX7_init_131 : decode cX7_init 131 = .ok (.putfield 61, 3) := by decide +kernel
theorem dX7_init_134 : decode cX7_init 134 = .ok (.aload_n 0, 1) := by decide +kernel
theorem dX7_init_135 : decode cX7_init 135 = .ok (.sipush 400, 3) := by decide +kernel
theorem dX7_init_138 : decode cX7_init 138 = .ok (.newarray .int, 2) := by decide +kernel
theorem dX7_init_140 : decode cX7_init 140 = .ok (.putfield 64, 3) := by decide +kernel
theorem dX7_init_143 : decode cX7_init 143 = .ok (.aload_n 0, 1) := by decide +kernel
theorem dX7_init_144 : decode cX7_init 144 = .ok (.sipush 400, 3) := by decide +kernel
theorem dX7_init_147 : decode cX7_init 147 = .ok (.newarray .int, 2) := by decide +kernel
theorem dX7_init_149 : decode cX7_init 149 = .ok (.putfield 67, 3) := by decide +kernel
theorem dX7_init_152 : decode cX7_init 152 = .ok (.aload_n 0, 1) := by decide +kernel
theorem dX7_init_153 : decode cX7_init 153 = .ok (.sipush 400, 3) := by decide +kernel
theorem dX7_init_156 : decode cX7_init 156 = .ok (.newarray .int, 2) := by decide +kernel
theorem dX7_init_158 : decode cX7_init 158 = .ok (.putfield 70, 3) := by decide +kernel
theorem dX7_init_161 : decode cX7_init 161 = .ok (.aload_n 0, 1) := by decide +kernel
theorem dX7_init_162 : decode cX7_init 162 = .ok (.sipush 400, 3) := by decide +kernel
theorem dX7_init_165 : decode cX7_init 165 = .ok (.newarray .boolean, 2) := by decide +kernel
theorem dX7_init_167 : decode cX7_init 167 = .ok (.putfield 73, 3) := by decide +kernel
theorem dX7_init_170 : decode cX7_init 170 = .ok (.aload_n 0, 1) := by decide +kernel
theorem dX7_init_171 : decode cX7_init 171 = .ok (.sipush 1000, 3) := by decide +kernel
theorem dX7_init_174 : decode cX7_init 174 = .ok (.newarray .int, 2) := by decide +kernel
theorem dX7_init_176 : decode cX7_init 176 = .ok (.putfield 77, 3) := by decide +kernel
theorem dX7_init_179 : decode cX7_init 179 = .ok (.aload_n 0, 1) := by decide +kernel
theorem dX7_init_180 : decode cX7_init 180 = .ok (.sipush 1000, 3) := by decide +kernel
theorem dX7_init_183 : decode cX7_init 183 = .ok (.newarray .int, 2) := by decide +kernel
theorem dX7_init_185 : decode cX7_init 185 = .ok (.putfield 80, 3) := by decide +kernel
theorem dX7_init_188 : decode cX7_init 188 = .ok (.aload_n 0, 1) := by decide +kernel
theorem dX7_init_189 : decode cX7_init 189 = .ok (.bipush 48, 2) := by decide +kernel
theorem dX7_init_191 : decode cX7_init 191 = .ok (.newarray .int, 2) := by decide +kernel
theorem dX7_init_193 : decode cX7_init 193 = .ok (.putfield 83, 3) := by decide +kernel
theorem dX7_init_196 : decode cX7_init 196 = .ok (.aload_n 0, 1) := by decide +kernel
theorem dX7_init_197 : decode cX7_init 197 = .ok (.bipush 8, 2) := by decide +kernel
theorem dX7_init_199 : decode cX7_init 199 = .ok (.newarray .int, 2) := by decide +kernel
theorem dX7_init_201 : decode cX7_init 201 = .ok (.putfield 86, 3) := by decide +kernel
theorem dX7_init_204 : decode cX7_init 204 = .ok (.aload_n 0, 1) := by decide +kernel
theorem dX7_init_205 : decode cX7_init 205 = .ok (.bipush 120, 2) := by decide +kernel
theorem dX7_init_207 : decode cX7_init 207 = .ok (.newarray .int, 2) := by decide +kernel
theorem dX7_init_209 : decode cX7_init 209 = .ok (.putfield 89, 3) := by decide +kernel
theorem dX7_init_212 : decode cX7_init 212 = .ok (.aload_n 0, 1) := by decide +kernel
theorem dX7_init_213 : decode cX7_init 213 = .ok (.bipush 120, 2) := by decide +kernel
theorem dX7_init_215 : decode cX7_init 215 = .ok (.newarray .int, 2) := by decide +kernel
theorem dX7_init_217 : decode cX7_init 217 = .ok (.putfield 92, 3) := by decide +kernel
theorem dX7_init_220 : decode cX7_init 220 = .ok (.aload_n 0, 1) := by decide +kernel
theorem dX7_init_221 : decode cX7_init 221 = .ok (.bipush 120, 2) := by decide +kernel
theorem dX7_init_223 : decode cX7_init 223 = .ok (.newarray .int, 2) := by decide +kernel
theorem dX7_init_225 : decode cX7_init 225 = .ok (.putfield 95, 3) := by decide +kernel
theorem dX7_init_228 : decode cX7_init 228 = .ok (.aload_n 0, 1) := by decide +kernel
theorem dX7_init_229 : decode cX7_init 229 = .ok (.bipush 120, 2) := by decide +kernel
theorem dX7_init_231 : decode cX7_init 231 = .ok (.newarray .int, 2) := by decide +kernel
theorem dX7_init_233 : decode cX7_init 233 = .ok (.putfield 98, 3) := by decide +kernel
theorem dX7_init_236 : decode cX7_init 236 = .ok (.aload_n 0, 1) := by decide +kernel
theorem dX7_init_237 : decode cX7_init 237 = .ok (.bipush 120, 2) := by decide +kernel
theorem dX7_init_239 : decode cX7_init 239 = .ok (.newarray .int, 2) := by decide +kernel
theorem dX7_init_241 : decode cX7_init 241 = .ok (.putfield 101, 3) := by decide +kernel
theorem dX7_init_244 : decode cX7_init 244 = .ok (.aload_n 0, 1) := by decide +kernel
theorem dX7_init_245 : decode cX7_init 245 = .ok (.bipush 120, 2) := by decide +kernel
theorem dX7_init_247 : decode cX7_init 247 = .ok (.newarray .int, 2) := by decide +kernel
theorem dX7_init_249 : decode cX7_init 249 = .ok (.putfield 104, 3) := by decide +kernel
theorem dX7_init_252 : decode cX7_init 252 = .ok (.aload_n 0, 1) := by decide +kernel
theorem dX7_init_253 : decode cX7_init 253 = .ok (.bipush 120, 2) := by decide +kernel
theorem dX7_init_255 : decode cX7_init 255 = .ok (.newarray .int, 2) := by decide +kernel
theorem dX7_init_257 : decode cX7_init 257 = .ok (.putfield 107, 3) := by decide +kernel
theorem dX7_init_260 : decode cX7_init 260 = .ok (.aload_n 0, 1) := by decide +kernel
theorem dX7_init_261 : decode cX7_init 261 = .ok (.iconst (-1), 1) := by decide +kernel
theorem dX7_init_262 : decode cX7_init 262 = .ok (.putfield 110, 3) := by decide +kernel
theorem dX7_init_265 : decode cX7_init 265 = .ok (.aload_n 0, 1) := by decide +kernel
theorem dX7_init_266 : decode cX7_init 266 = .ok (.sipush 3200, 3) := by decide +kernel
theorem dX7_init_269 : decode cX7_init 269 = .ok (.newarray .int, 2) := by decide +kernel
theorem dX7_init_271 : decode cX7_init 271 = .ok (.putfield 113, 3) := by decide +kernel
theorem dX7_init_274 : decode cX7_init 274 = .ok (.aload_n 0, 1) := by decide +kernel
theorem dX7_init_275 : decode cX7_init 275 = .ok (.sipush 3200, 3) := by decide +kernel
theorem dX7_init_278 : decode cX7_init 278 = .ok (.newarray .int, 2) := by decide +kernel
theorem dX7_init_280 : decode cX7_init 280 = .ok (.putfield 116, 3) := by decide +kernel
theorem dX7_init_283 : decode cX7_init 283 = .ok (.aload_n 0, 1) := by decide +kernel
theorem dX7_init_284 : decode cX7_init 284 = .ok (.bipush 64, 2) := by decide +kernel
theorem dX7_init_286 : decode cX7_init 286 = .ok (.newarray .int, 2) := by decide +kernel
theorem dX7_init_288 : decode cX7_init 288 = .ok (.putfield 119, 3) := by decide +kernel
theorem dX7_init_291 : decode cX7_init 291 = .ok (.aload_n 0, 1) := by decide +kernel
theorem dX7_init_292 : decode cX7_init 292 = .ok (.bipush 120, 2) := by decide +kernel
theorem dX7_init_294 : decode cX7_init 294 = .ok (.newarray .int, 2) := by decide +kernel
theorem dX7_init_296 : decode cX7_init 296 = .ok (.putfield 122, 3) := by decide +kernel
theorem dX7_init_299 : decode cX7_init 299 = .ok (.aload_n 0, 1) := by decide +kernel
theorem dX7_init_300 : decode cX7_init 300 = .ok (.bipush 120, 2) := by decide +kernel
theorem dX7_init_302 : decode cX7_init 302 = .ok (.newarray .int, 2) := by decide +kernel
theorem dX7_init_304 : decode cX7_init 304 = .ok (.putfield 125, 3) := by decide +kernel
theorem dX7_init_307 : decode cX7_init 307 = .ok (.aload_n 0, 1) := by decide +kernel
theorem dX7_init_308 : decode cX7_init 308 = .ok (.bipush 120, 2) := by decide +kernel
theorem dX7_init_310 : decode cX7_init 310 = .ok (.newarray .int, 2) := by decide +kernel
theorem dX7_init_312 : decode cX7_init 312 = .ok (.putfield 128, 3) := by decide +kernel
theorem dX7_init_315 : decode cX7_init 315 = .ok (.aload_n 0, 1) := by decide +kernel
theorem dX7_init_316 : decode cX7_init 316 = .ok (.sipush 400, 3) := by decide +kernel
theorem dX7_init_319 : decode cX7_init 319 = .ok (.newarray .boolean, 2) := by decide +kernel
theorem dX7_init_321 : decode cX7_init 321 = .ok (.putfield 131, 3) := by decide +kernel
theorem dX7_init_324 : decode cX7_init 324 = .ok (.aload_n 0, 1) := by decide +kernel
theorem dX7_init_325 : decode cX7_init 325 = .ok (.bipush 120, 2) := by decide +kernel
theorem dX7_init_327 : decode cX7_init 327 = .ok (.newarray .boolean, 2) := by decide +kernel
theorem dX7_init_329 : decode cX7_init 329 = .ok (.putfield 134, 3) := by decide +kernel
theorem dX7_init_332 : decode cX7_init 332 = .ok (.aload_n 0, 1) := by decide +kernel
theorem dX7_init_333 : decode cX7_init 333 = .ok (.bipush 9, 2) := by decide +kernel
theorem dX7_init_335 : decode cX7_init 335 = .ok (.newarray .int, 2) := by decide +kernel
theorem dX7_init_337 : decode cX7_init 337 = .ok (.putfield 137, 3) := by decide +kernel
theorem dX7_init_340 : decode cX7_init 340 = .ok (.aload_n 0, 1) := by decide +kernel
theorem dX7_init_341 : decode cX7_init 341 = .ok (.sipush 500, 3) := by decide +kernel
theorem dX7_init_344 : decode cX7_init 344 = .ok (.newarray .int, 2) := by decide +kernel
theorem dX7_init_346 : decode cX7_init 346 = .ok (.putfield 140, 3) := by decide +kernel
theorem dX7_init_349 : decode cX7_init 349 = .ok (.aload_n 0, 1) := by decide +kernel
theorem dX7_init_350 : decode cX7_init 350 = .ok (.bipush 8, 2) := by decide +kernel
theorem dX7_init_352 : decode cX7_init 352 = .ok (.newarray .int, 2) := by decide +kernel
theorem dX7_init_354 : decode cX7_init 354 = .ok (.putfield 143, 3) := by decide +kernel
theorem dX7_init_357 : decode cX7_init 357 = .ok (.aload_n 0, 1) := by decide +kernel
theorem dX7_init_358 : decode cX7_init 358 = .ok (.bipush 8, 2) := by decide +kernel
theorem dX7_init_360 : decode cX7_init 360 = .ok (.newarray .int, 2) := by decide +kernel
theorem dX7_init_362 : decode cX7_init 362 = .ok (.putfield 146, 3) := by decide +kernel
theorem dX7_init_365 : decode cX7_init 365 = .ok (.aload_n 0, 1) := by decide +kernel
theorem dX7_init_366 : decode cX7_init 366 = .ok (.bipush 8, 2) := by decide +kernel
theorem dX7_init_368 : decode cX7_init 368 = .ok (.newarray .int, 2) := by decide +kernel
theorem dX7_init_370 : decode cX7_init 370 = .ok (.putfield 149, 3) := by decide +kernel
theorem dX7_init_373 : decode cX7_init 373 = .ok (.aload_n 0, 1) := by decide +kernel
theorem dX7_init_374 : decode cX7_init 374 = .ok (.bipush 8, 2) := by decide +kernel
theorem dX7_init_376 : decode cX7_init 376 = .ok (.newarray .int, 2) := by decide +kernel
theorem dX7_init_378 : decode cX7_init 378 = .ok (.putfield 152, 3) := by decide +kernel
theorem dX7_init_381 : decode cX7_init 381 = .ok (.aload_n 0, 1) := by decide +kernel
theorem dX7_init_382 : decode cX7_init 382 = .ok (.bipush 120, 2) := by decide +kernel
theorem dX7_init_384 : decode cX7_init 384 = .ok (.newarray .boolean, 2) := by decide +kernel
theorem dX7_init_386 : decode cX7_init 386 = .ok (.putfield 155, 3) := by decide +kernel
theorem dX7_init_389 : decode cX7_init 389 = .ok (.aload_n 0, 1) := by decide +kernel
theorem dX7_init_390 : decode cX7_init 390 = .ok (.getfield 34, 3) := by decide +kernel
theorem dX7_init_393 : decode cX7_init 393 = .ok (.iconst 0, 1) := by decide +kernel
theorem dX7_init_394 : decode cX7_init 394 = .ok (.bipush 98, 2) := by decide +kernel
theorem dX7_init_396 : decode cX7_init 396 = .ok (.bipush 97, 2) := by decide +kernel
theorem dX7_init_398 : decode cX7_init 398 = .ok (.bipush 110, 2) := by decide +kernel
theorem dX7_init_400 : decode cX7_init 400 = .ok (.iconst 0, 1) := by decide +kernel
theorem dX7_init_401 : decode cX7_init 401 = .ok (.iconst 0, 1) := by decide +kernel
theorem dX7_init_402 : decode cX7_init 402 = .ok (.iconst 0, 1) := by decide +kernel
theorem dX7_init_403 : decode cX7_init 403 = .ok (.iconst 0, 1) := by decide +kernel
theorem dX7_init_404 : decode cX7_init 404 = .ok (.invokestatic 158, 3) := by decide +kernel
theorem dX7_init_407 : decode cX7_init 407 = .ok (.lastore, 1) := by decide +kernel
theorem dX7_init_408 : decode cX7_init 408 = .ok (.aload_n 0, 1) := by decide +kernel
theorem dX7_init_409 : decode cX7_init 409 = .ok (.getfield 34, 3) := by decide +kernel
theorem dX7_init_412 : decode cX7_init 412 = .ok (.iconst 1, 1) := by decide +kernel
theorem dX7_init_413 : decode cX7_init 413 = .ok (.bipush 105, 2) := by decide +kernel
theorem dX7_init_415 : decode cX7_init 415 = .ok (.bipush 102, 2) := by decide +kernel
theorem dX7_init_417 : decode cX7_init 417 = .ok (.iconst 0, 1) := by decide +kernel
theorem dX7_init_418 : decode cX7_init 418 = .ok (.iconst 0, 1) := by decide +kernel
theorem dX7_init_419 : decode cX7_init 419 = .ok (.iconst 0, 1) := by decide +kernel
theorem dX7_init_420 : decode cX7_init 420 = .ok (.iconst 0, 1) := by decide +kernel
theorem dX7_init_421 : decode cX7_init 421 = .ok (.iconst 0, 1) := by decide +kernel
theorem dX7_init_422 : decode cX7_init 422 = .ok (.invokestatic 158, 3) := by decide +kernel
theorem dX7_init_425 : decode cX7_init 425 = .ok (.lastore, 1) := by decide +kernel
theorem dX7_init_426 : decode cX7_init 426 = .ok (.aload_n 0, 1) := by decide +kernel
theorem dX7_init_427 : decode cX7_init 427 = .ok (.getfield 34, 3) := by decide +kernel
theorem dX7_init_430 : decode cX7_init 430 = .ok (.iconst 2, 1) := by decide +kernel
theorem dX7_init_431 : decode cX7_init 431 = .ok (.bipush 103, 2) := by decide +kernel
theorem dX7_init_433 : decode cX7_init 433 = .ok (.bipush 114, 2) := by decide +kernel
theorem dX7_init_435 : decode cX7_init 435 = .ok (.bipush 111, 2) := by decide +kernel
theorem dX7_init_437 : decode cX7_init 437 = .ok (.bipush 119, 2) := by decide +kernel
theorem dX7_init_439 : decode cX7_init 439 = .ok (.bipush 115, 2) := by decide +kernel
theorem dX7_init_441 : decode cX7_init 441 = .ok (.iconst 0, 1) := by decide +kernel
theorem dX7_init_442 : decode cX7_init 442 = .ok (.iconst 0, 1) := by decide +kernel
theorem dX7_init_443 : decode cX7_init 443 = .ok (.invokestatic 158, 3) := by decide +kernel
theorem dX7_init_446 : decode cX7_init 446 = .ok (.lastore, 1) := by decide +kernel
theorem dX7_init_447 : decode cX7_init 447 = .ok (.aload_n 0, 1) := by decide +kernel
theorem dX7_init_448 : decode cX7_init 448 = .ok (.getfield 34, 3) := by decide +kernel
theorem dX7_init_451 : decode cX7_init 451 = .ok (.iconst 3, 1) := by decide +kernel
theorem dX7_init_452 : decode cX7_init 452 = .ok (.bipush 111, 2) := by decide +kernel
theorem dX7_init_454 : decode cX7_init 454 = .ok (.bipush 114, 2) := by decide +kernel
theorem dX7_init_456 : decode cX7_init 456 = .ok (.iconst 0, 1) := by decide +kernel
theorem dX7_init_457 : decode cX7_init 457 = .ok (.iconst 0, 1) := by decide +kernel
theorem dX7_init_458 : decode cX7_init 458 = .ok (.iconst 0, 1) := by decide +kernel
theorem dX7_init_459 : decode cX7_init 459 = .ok (.iconst 0, 1) := by decide +kernel
theorem dX7_init_460 : decode cX7_init 460 = .ok (.iconst 0, 1) := by decide +kernel
theorem dX7_init_461 : decode cX7_init 461 = .ok (.invokestatic 158, 3) := by decide +kernel
theorem dX7_init_464 : decode cX7_init 464 = .ok (.lastore, 1) := by decide +kernel
theorem dX7_init_465 : decode cX7_init 465 = .ok (.aload_n 0, 1) := by decide +kernel
theorem dX7_init_466 : decode cX7_init 466 = .ok (.getfield 34, 3) := by decide +kernel
theorem dX7_init_469 : decode cX7_init 469 = .ok (.iconst 4, 1) := by decide +kernel
theorem dX7_init_470 : decode cX7_init 470 = .ok (.bipush 97, 2) := by decide +kernel
theorem dX7_init_472 : decode cX7_init 472 = .ok (.bipush 110, 2) := by decide +kernel
theorem dX7_init_474 : decode cX7_init 474 = .ok (.bipush 100, 2) := by decide +kernel
theorem dX7_init_476 : decode cX7_init 476 = .ok (.iconst 0, 1) := by decide +kernel
theorem dX7_init_477 : decode cX7_init 477 = .ok (.iconst 0, 1) := by decide +kernel
theorem dX7_init_478 : decode cX7_init 478 = .ok (.iconst 0, 1) := by decide +kernel
theorem dX7_init_479 : decode cX7_init 479 = .ok (.iconst 0, 1) := by decide +kernel
theorem dX7_init_480 : decode cX7_init 480 = .ok (.invokestatic 158, 3) := by decide +kernel
theorem dX7_init_483 : decode cX7_init 483 = .ok (.lastore, 1) := by decide +kernel
theorem dX7_init_484 : decode cX7_init 484 = .ok (.aload_n 0, 1) := by decide +kernel
theorem dX7_init_485 : decode cX7_init 485 = .ok (.getfield 34, 3) := by decide +kernel
theorem dX7_init_488 : decode cX7_init 488 = .ok (.iconst 5, 1) := by decide +kernel
theorem dX7_init_489 : decode cX7_init 489 = .ok (.bipush 103, 2) := by decide +kernel
theorem dX7_init_491 : decode cX7_init 491 = .ok (.bipush 105, 2) := by decide +kernel
theorem dX7_init_493 : decode cX7_init 493 = .ok (.bipush 118, 2) := by decide +kernel
theorem dX7_init_495 : decode cX7_init 495 = .ok (.bipush 101, 2) := by decide +kernel
theorem dX7_init_497 : decode cX7_init 497 = .ok (.bipush 115, 2) := by decide +kernel
theorem dX7_init_499 : decode cX7_init 499 = .ok (.iconst 0, 1) := by decide +kernel
theorem dX7_init_500 : decode cX7_init 500 = .ok (.iconst 0, 1) := by decide +kernel
theorem dX7_init_501 : decode cX7_init 501 = .ok (.invokestatic 158, 3) := by decide +kernel
theorem dX7_init_504 : decode cX7_init 504 = .ok (.lastore, 1) := by decide +kernel
theorem dX7_init_505 : decode cX7_init 505 = .ok (.aload_n 0, 1) := by decide +kernel
theorem dX7_init_506 : decode cX7_init 506 = .ok (.getfield 34, 3) := by decide +kernel
theorem dX7_init_509 : decode cX7_init 509 = .ok (.bipush 6, 2) := by decide +kernel
theorem dX7_init_511 : decode cX7_init 511 = .ok (.bipush 116, 2) := by decide +kernel
theorem dX7_init_513 : decode cX7_init 513 = .ok (.bipush 97, 2) := by decide +kernel
theorem dX7_init_515 : decode cX7_init 515 = .ok (.bipush 107, 2) := by decide +kernel
theorem dX7_init_517 : decode cX7_init 517 = .ok (.bipush 101, 2) := by decide +kernel
theorem dX7_init_519 : decode cX7_init 519 = .ok (.bipush 115, 2) := by decide +kernel
theorem dX7_init_521 : decode cX7_init 521 = .ok (.iconst 0, 1) := by decide +kernel
theorem dX7_init_522 : decode cX7_init 522 = .ok (.iconst 0, 1) := by decide +kernel
theorem dX7_init_523 : decode cX7_init 523 = .ok (.invokestatic 158, 3) := by decide +kernel
theorem dX7_init_526 : decode cX7_init 526 = .ok (.lastore, 1) := by decide +kernel
theorem dX7_init_527 : decode cX7_init 527 = .ok (.aload_n 0, 1) := by decide +kernel
theorem dX7_init_528 : decode cX7_init 528 = .ok (.getfield 34, 3) := by decide +kernel
theorem dX7_init_531 : decode cX7_init 531 = .ok (.bipush 7, 2) := by decide +kernel
theorem dX7_init_533 : decode cX7_init 533 = .ok (.bipush 102, 2) := by decide +kernel
theorem dX7_init_535 : decode cX7_init 535 = .ok (.bipush 101, 2) := by decide +kernel
theorem dX7_init_537 : decode cX7_init 537 = .ok (.bipush 97, 2) := by decide +kernel
theorem dX7_init_539 : decode cX7_init 539 = .ok (.bipush 115, 2) := by decide +kernel
theorem dX7_init_541 : decode cX7_init 541 = .ok (.bipush 116, 2) := by decide +kernel
theorem dX7_init_543 : decode cX7_init 543 = .ok (.iconst 0, 1) := by decide +kernel
theorem dX7_init_544 : decode cX7_init 544 = .ok (.iconst 0, 1) := by decide +kernel
theorem dX7_init_545 : decode cX7_init 545 = .ok (.invokestatic 158, 3) := by decide +kernel
theorem dX7_init_548 : decode cX7_init 548 = .ok (.lastore, 1) := by decide +kernel
theorem dX7_init_549 : decode cX7_init 549 = .ok (.aload_n 0, 1) := by decide +kernel
theorem dX7_init_550 : decode cX7_init 550 = .ok (.getfield 34, 3) := by decide +kernel
theorem dX7_init_553 : decode cX7_init 553 = .ok (.bipush 8, 2) := by decide +kernel
theorem dX7_init_555 : decode cX7_init 555 = .ok (.bipush 97, 2) := by decide +kernel
theorem dX7_init_557 : decode cX7_init 557 = .ok (.bipush 104, 2) := by decide +kernel
theorem dX7_init_559 : decode cX7_init 559 = .ok (.bipush 101, 2) := by decide +kernel
theorem dX7_init_561 : decode cX7_init 561 = .ok (.bipush 97, 2) := by decide +kernel
theorem dX7_init_563 : decode cX7_init 563 = .ok (.bipush 100, 2) := by decide +kernel
theorem dX7_init_565 : decode cX7_init 565 = .ok (.iconst 0, 1) := by decide +kernel
theorem dX7_init_566 : decode cX7_init 566 = .ok (.iconst 0, 1) := by decide +kernel
theorem dX7_init_567 : decode cX7_init 567 = .ok (.invokestatic 158, 3) := by decide +kernel
theorem dX7_init_570 : decode cX7_init 570 = .ok (.lastore, 1) := by decide +kernel
theorem dX7_init_571 : decode cX7_init 571 = .ok (.aload_n 0, 1) := by decide +kernel
theorem dX7_init_572 : decode cX7_init 572 = .ok (.getfield 34, 3) := by decide +kernel
theorem dX7_init_575 : decode cX7_init 575 = .ok (.bipush 9, 2) := by decide +kernel
theorem dX7_init_577 : decode cX7_init 577 = .ok (.bipush 99, 2) := by decide +kernel
theorem dX7_init_579 : decode cX7_init 579 = .ok (.bipush 104, 2) := by decide +kernel
theorem dX7_init_581 : decode cX7_init 581 = .ok (.bipush 97, 2) := by decide +kernel
theorem dX7_init_583 : decode cX7_init 583 = .ok (.bipush 105, 2) := by decide +kernel
theorem dX7_init_585 : decode cX7_init 585 = .ok (.bipush 110, 2) := by decide +kernel
theorem dX7_init_587 : decode cX7_init 587 = .ok (.iconst 0, 1) := by decide +kernel
theorem dX7_init_588 : decode cX7_init 588 = .ok (.iconst 0, 1) := by decide +kernel
theorem dX7_init_589 : decode cX7_init 589 = .ok (.invokestatic 158, 3) := by decide +kernel
theorem dX7_init_592 : decode cX7_init 592 = .ok (.lastore, 1) := by decide +kernel
theorem dX7_init_593 : decode cX7_init 593 = .ok (.aload_n 0, 1) := by decide +kernel
theorem dX7_init_594 : decode cX7_init 594 = .ok (.getfield 34, 3) := by decide +kernel
theorem dX7_init_597 : decode cX7_init 597 = .ok (.bipush 10, 2) := by decide +kernel
theorem dX7_init_599 : decode cX7_init 599 = .ok (.bipush 111, 2) := by decide +kernel
theorem dX7_init_601 : decode cX7_init 601 = .ok (.bipush 119, 2) := by decide +kernel
theorem dX7_init_603 : decode cX7_init 603 = .ok (.bipush 110, 2) := by decide +kernel
theorem dX7_init_605 : decode cX7_init 605 = .ok (.iconst 0, 1) := by decide +kernel
theorem dX7_init_606 : decode cX7_init 606 = .ok (.iconst 0, 1) := by decide +kernel
theorem dX7_init_607 : decode cX7_init 607 = .ok (.iconst 0, 1) := by decide +kernel
theorem dX7_init_608 : decode cX7_init 608 = .ok (.iconst 0, 1) := by decide +kernel
theorem dX7_init_609 : decode cX7_init 609 = .ok (.invokestatic 158, 3) := by decide +kernel
theorem dX7_init_612 : decode cX7_init 612 = .ok (.lastore, 1) := by decide +kernel
theorem dX7_init_613 : decode cX7_init 613 = .ok (.aload_n 0, 1) := by decide +kernel
theorem dX7_init_614 : decode cX7_init 614 = .ok (.getfield 34, 3) := by decide +kernel
theorem dX7_init_617 : decode cX7_init 617 = .ok (.bipush 11, 2) := by decide +kernel
theorem dX7_init_619 : decode cX7_init 619 = .ok (.bipush 111, 2) := by decide +kernel
theorem dX7_init_621 : decode cX7_init 621 = .ok (.bipush 119, 2) := by decide +kernel
theorem dX7_init_623 : decode cX7_init 623 = .ok (.bipush 101, 2) := by decide +kernel
theorem dX7_init_625 : decode cX7_init 625 = .ok (.bipush 115, 2) := by decide +kernel
theorem dX7_init_627 : decode cX7_init 627 = .ok (.iconst 0, 1) := by decide +kernel
theorem dX7_init_628 : decode cX7_init 628 = .ok (.iconst 0, 1) := by decide +kernel
theorem dX7_init_629 : decode cX7_init 629 = .ok (.iconst 0, 1) := by decide +kernel
theorem dX7_init_630 : decode cX7_init 630 = .ok (.invokestatic 158, 3) := by decide +kernel
theorem dX7_init_633 : decode cX7_init 633 = .ok (.lastore, 1) := by decide +kernel
theorem dX7_init_634 : decode cX7_init 634 = .ok (.aload_n 0, 1) := by decide +kernel
theorem dX7_init_635 : decode cX7_init 635 = .ok (.getfield 34, 3) := by decide +kernel
theorem dX7_init_638 : decode cX7_init 638 = .ok (.bipush 12, 2) := by decide +kernel
theorem dX7_init_640 : decode cX7_init 640 = .ok (.bipush 97, 2) := by decide +kernel
theorem dX7_init_642 : decode cX7_init 642 = .ok (.bipush 108, 2) := by decide +kernel
theorem dX7_init_644 : decode cX7_init 644 = .ok (.bipush 108, 2) := by decide +kernel
theorem dX7_init_646 : decode cX7_init 646 = .ok (.iconst 0, 1) := by decide +kernel
theorem dX7_init_647 : decode cX7_init 647 = .ok (.iconst 0, 1) := by decide +kernel
theorem dX7_init_648 : decode cX7_init 648 = .ok (.iconst 0, 1) := by decide +kernel
theorem dX7_init_649 : decode cX7_init 649 = .ok (.iconst 0, 1) := by decide +kernel
theorem dX7_init_650 : decode cX7_init 650 = .ok (.invokestatic 158, 3) := by decide +kernel
theorem dX7_init_653 : decode cX7_init 653 = .ok (.lastore, 1) := by decide +kernel
theorem dX7_init_654 : decode cX7_init 654 = .ok (.aload_n 0, 1) := by decide +kernel
theorem dX7_init_655 : decode cX7_init 655 = .ok (.getfield 34, 3) := by decide +kernel
theorem dX7_init_658 : decode cX7_init 658 = .ok (.bipush 13, 2) := by decide +kernel
theorem dX7_init_660 : decode cX7_init 660 = .ok (.bipush 97, 2) := by decide +kernel
theorem dX7_init_662 : decode cX7_init 662 = .ok (.bipush 103, 2) := by decide +kernel
theorem dX7_init_664 : decode cX7_init 664 = .ok (.bipush 101, 2) := by decide +kernel
theorem dX7_init_666 : decode cX7_init 666 = .ok (.iconst 0, 1) := by decide +kernel
theorem dX7_init_667 : decode cX7_init 667 = .ok (.iconst 0, 1) := by decide +kernel
theorem dX7_init_668 : decode cX7_init 668 = .ok (.iconst 0, 1) := by decide +kernel
theorem dX7_init_669 : decode cX7_init 669 = .ok (.iconst 0, 1) := by decide +kernel
theorem dX7_init_670 : decode cX7_init 670 = .ok (.invokestatic 158, 3) := by decide +kernel
theorem dX7_init_673 : decode cX7_init 673 = .ok (.lastore, 1) := by decide +kernel
theorem dX7_init_674 : decode cX7_init 674 = .ok (.return_, 1) := by decide +kernel
theorem dX7_feed_0 : decode cX7_feed 0 = .ok (.aload_n 0, 1) := by decide +kernel
theorem dX7_feed_1 : decode cX7_feed 1 = .ok (.getfield 162, 3) := by decide +kernel
theorem dX7_feed_4 : decode cX7_feed 4 = .ok (.bipush 20, 2) := by decide +kernel
theorem dX7_feed_6 : decode cX7_feed 6 = .ok (.iadd, 1) := by decide +kernel
theorem dX7_feed_7 : decode cX7_feed 7 = .ok (.sipush 2000, 3) := by decide +kernel
theorem dX7_feed_10 : decode cX7_feed 10 = .ok (.if_icmp .le 5, 3) := by decide +kernel
theorem dX7_feed_13 : decode cX7_feed 13 = .ok (.iconst (-1), 1) := by decide +kernel
theorem dX7_feed_14 : decode cX7_feed 14 = .ok (.ireturn, 1) := by decide +kernel
theorem dX7_feed_15 : decode cX7_feed 15 = .ok (.aload_n 0, 1) := by decide +kernel
theorem dX7_feed_16 : decode cX7_feed 16 = .ok (.iload_n 1, 1) := by decide +kernel
theorem dX7_feed_17 : decode cX7_feed 17 = .ok (.invokevirtual 165, 3) := by decide +kernel
theorem dX7_feed_20 : decode cX7_feed 20 = .ok (.aload_n 0, 1) := by decide +kernel
theorem dX7_feed_21 : decode cX7_feed 21 = .ok (.iload_n 2, 1) := by decide +kernel
theorem dX7_feed_22 : decode cX7_feed 22 = .ok (.invokevirtual 165, 3) := by decide +kernel
theorem dX7_feed_25 : decode cX7_feed 25 = .ok (.aload_n 0, 1) := by decide +kernel
theorem dX7_feed_26 : decode cX7_feed 26 = .ok (.iload_n 3, 1) := by decide +kernel
theorem dX7_feed_27 : decode cX7_feed 27 = .ok (.invokevirtual 165, 3) := by decide +kernel
theorem dX7_feed_30 : decode cX7_feed 30 = .ok (.aload_n 0, 1) := by decide +kernel
theorem dX7_feed_31 : decode cX7_feed 31 = .ok (.iload 4, 2) := by decide +kernel
theorem dX7_feed_33 : decode cX7_feed 33 = .ok (.invokevirtual 165, 3) := by decide +kernel
theorem dX7_feed_36 : decode cX7_feed 36 = .ok (.aload_n 0, 1) := by decide +kernel
theorem dX7_feed_37 : decode cX7_feed 37 = .ok (.iload 5, 2) := by decide +kernel
theorem dX7_feed_39 : decode cX7_feed 39 = .ok (.invokevirtual 165, 3) := by decide +kernel
theorem dX7_feed_42 : decode cX7_feed 42 = .ok (.aload_n 0, 1) := by decide +kernel
theorem dX7_feed_43 : decode cX7_feed 43 = .ok (.getfield 162, 3) := by decide +kernel
theorem dX7_feed_46 : decode cX7_feed 46 = .ok (.ireturn, 1) := by decide +kernel
theorem dX7_put_0 : decode cX7_put 0 = .ok (.bipush 24, 2) := by decide +kernel
theorem dX7_put_2 : decode cX7_put 2 = .ok (.istore_n 2, 1) := by decide +kernel
theorem dX7_put_3 : decode cX7_put 3 = .ok (.iload_n 2, 1) := by decide +kernel
theorem dX7_put_4 : decode cX7_put 4 = .ok (.ifCond .lt 32, 3) := by decide +kernel
theorem dX7_put_7 : decode cX7_put 7 = .ok (.aload_n 0, 1) := by decide +kernel
theorem dX7_put_8 : decode cX7_put 8 = .ok (.getfield 13, 3) := by decide +kernel
theorem dX7_put_11 : decode cX7_put 11 = .ok (.aload_n 0, 1) := by decide +kernel
theorem dX7_put_12 : decode cX7_put 12 = .ok (.getfield 162, 3) := by decide +kernel
theorem dX7_put_15 : decode cX7_put 15 = .ok (.iload_n 1, 1) := by decide +kernel
theorem dX7_put_16 : decode cX7_put 16 = .ok (.iload_n 2, 1) := by decide +kernel
theorem dX7_put_17 : decode cX7_put 17 = .ok (.ishr, 1) := by decide +kernel
theorem dX7_put_18 : decode cX7_put 18 = .ok (.i2b, 1) := by decide +kernel
theorem dX7_put_19 : decode cX7_put 19 = .ok (.bastore, 1) := by decide +kernel
theorem dX7_put_20 : decode cX7_put 20 = .ok (.aload_n 0, 1) := by decide +kernel
theorem dX7_put_21 : decode cX7_put 21 = .ok (.dup, 1) := by decide +kernel
theorem dX7_put_22 : decode cX7_put 22 = .ok (.getfield 162, 3) := by decide +kernel
theorem dX7_put_25 : decode cX7_put 25 = .ok (.iconst 1, 1) := by decide +kernel
theorem dX7_put_26 : decode cX7_put 26 = .ok (.iadd, 1) := by decide +kernel
theorem dX7_put_27 : decode cX7_put 27 = .ok (.putfield 162, 3) := by decide +kernel
theorem dX7_put_30 : decode cX7_put 30 = .ok (.iinc 2 (-8), 3) := by decide +kernel
theorem dX7_put_33 : decode cX7_put 33 = .ok (.goto (-30), 3) := by decide +kernel
theorem dX7_put_36 : decode cX7_put 36 = .ok (.return_, 1) := by decide +kernel
theorem dX7_back_0 : decode cX7_back 0 = .ok (.iload_n 1, 1) := by decide +kernel
theorem dX7_back_1 : decode cX7_back 1 = .ok (.ifCond .lt 11, 3) := by decide +kernel
theorem dX7_back_4 : decode cX7_back 4 = .ok (.iload_n 1, 1) := by decide +kernel
theorem dX7_back_5 : decode cX7_back 5 = .ok (.aload_n 0, 1) := by decide +kernel
theorem dX7_back_6 : decode cX7_back 6 = .ok (.getfield 162, 3) := by decide +kernel
theorem dX7_back_9 : decode cX7_back 9 = .ok (.if_icmp .le 5, 3) := by decide +kernel
theorem dX7_back_12 : decode cX7_back 12 = .ok (.iconst (-1), 1) := by decide +kernel
theorem dX7_back_13 : decode cX7_back 13 = .ok (.ireturn, 1) := by decide +kernel
theorem dX7_back_14 : decode cX7_back 14 = .ok (.aload_n 0, 1) := by decide +kernel
theorem dX7_back_15 : decode cX7_back 15 = .ok (.dup, 1) := by decide +kernel
theorem dX7_back_16 : decode cX7_back 16 = .ok (.getfield 162, 3) := by decide +kernel
theorem dX7_back_19 : decode cX7_back 19 = .ok (.iload_n 1, 1) := by decide +kernel
theorem dX7_back_20 : decode cX7_back 20 = .ok (.isub, 1) := by decide +kernel
theorem dX7_back_21 : decode cX7_back 21 = .ok (.putfield 162, 3) := by decide +kernel
theorem dX7_back_24 : decode cX7_back 24 = .ok (.aload_n 0, 1) := by decide +kernel
theorem dX7_back_25 : decode cX7_back 25 = .ok (.getfield 162, 3) := by decide +kernel
theorem dX7_back_28 : decode cX7_back 28 = .ok (.ireturn, 1) := by decide +kernel
theorem dX7_at_0 : decode cX7_at 0 = .ok (.iload_n 1, 1) := by decide +kernel
theorem dX7_at_1 : decode cX7_at 1 = .ok (.aload_n 0, 1) := by decide +kernel
theorem dX7_at_2 : decode cX7_at 2 = .ok (.getfield 169, 3) := by decide +kernel
theorem dX7_at_5 : decode cX7_at 5 = .ok (.if_icmp .ge 16, 3) := by decide +kernel
theorem dX7_at_8 : decode cX7_at 8 = .ok (.aload_n 0, 1) := by decide +kernel
theorem dX7_at_9 : decode cX7_at 9 = .ok (.getfield 17, 3) := by decide +kernel
theorem dX7_at_12 : decode cX7_at 12 = .ok (.iload_n 1, 1) := by decide +kernel
theorem dX7_at_13 : decode cX7_at 13 = .ok (.baload, 1) := by decide +kernel
theorem dX7_at_14 : decode cX7_at 14 = .ok (.sipush 255, 3) := by decide +kernel
theorem dX7_at_17 : decode cX7_at 17 = .ok (.iand, 1) := by decide +kernel
theorem dX7_at_18 : decode cX7_at 18 = .ok (.goto 4, 3) := by decide +kernel
theorem dX7_at_21 : decode cX7_at 21 = .ok (.iconst 0, 1) := by decide +kernel
theorem dX7_at_22 : decode cX7_at 22 = .ok (.ireturn, 1) := by decide +kernel
theorem dX7_isDigit_0 : decode cX7_isDigit 0 = .ok (.iload_n 0, 1) := by decide +kernel
theorem dX7_isDigit_1 : decode cX7_isDigit 1 = .ok (.bipush 48, 2) := by decide +kernel
theorem dX7_isDigit_3 : decode cX7_isDigit 3 = .ok (.if_icmp .lt 13, 3) := by decide +kernel
theorem dX7_isDigit_6 : decode cX7_isDigit 6 = .ok (.iload_n 0, 1) := by decide +kernel
theorem dX7_isDigit_7 : decode cX7_isDigit 7 = .ok (.bipush 57, 2) := by decide +kernel
theorem dX7_isDigit_9 : decode cX7_isDigit 9 = .ok (.if_icmp .gt 7, 3) := by decide +kernel
theorem dX7_isDigit_12 : decode cX7_isDigit 12 = .ok (.iconst 1, 1) := by decide +kernel
theorem dX7_isDigit_13 : decode cX7_isDigit 13 = .ok (.goto 4, 3) := by decide +kernel
theorem dX7_isDigit_16 : decode cX7_isDigit 16 = .ok (.iconst 0, 1) := by decide +kernel
theorem dX7_isDigit_17 : decode cX7_isDigit 17 = .ok (.ireturn, 1) := by decide +kernel
theorem dX7_isLetter_0 : decode cX7_isLetter 0 = .ok (.iload_n 0, 1) := by decide +kernel
theorem dX7_isLetter_1 : decode cX7_isLetter 1 = .ok (.bipush 97, 2) := by decide +kernel
theorem dX7_isLetter_3 : decode cX7_isLetter 3 = .ok (.if_icmp .lt 13, 3) := by decide +kernel
theorem dX7_isLetter_6 : decode cX7_isLetter 6 = .ok (.iload_n 0, 1) := by decide +kernel
theorem dX7_isLetter_7 : decode cX7_isLetter 7 = .ok (.bipush 122, 2) := by decide +kernel
theorem dX7_isLetter_9 : decode cX7_isLetter 9 = .ok (.if_icmp .gt 7, 3) := by decide +kernel
theorem dX7_isLetter_12 : decode cX7_isLetter 12 = .ok (.iconst 1, 1) := by decide +kernel
theorem dX7_isLetter_13 : decode cX7_isLetter 13 = .ok (.goto 4, 3) := by decide +kernel
theorem dX7_isLetter_16 : decode cX7_isLetter 16 = .ok (.iconst 0, 1) := by decide +kernel
theorem dX7_isLetter_17 : decode cX7_isLetter 17 = .ok (.ireturn, 1) := by decide +kernel
theorem dX7_more_0 : decode cX7_more 0 = .ok (.iload_n 2, 1) := by decide +kernel
theorem dX7_more_1 : decode cX7_more 1 = .ok (.ifCond .ne 7, 3) := by decide +kernel
theorem dX7_more_4 : decode cX7_more 4 = .ok (.lload_n 0, 1) := by decide +kernel
theorem dX7_more_5 : decode cX7_more 5 = .ok (.goto 16, 3) := by decide +kernel
theorem dX7_more_8 : decode cX7_more 8 = .ok (.ldc2_w 172, 3) := by decide +kernel
theorem dX7_more_11 : decode cX7_more 11 = .ok (.lload_n 0, 1) := by decide +kernel
theorem dX7_more_12 : decode cX7_more 12 = .ok (.lmul, 1) := by decide +kernel
theorem dX7_more_13 : decode cX7_more 13 = .ok (.iload_n 2, 1) := by decide +kernel
theorem dX7_more_14 : decode cX7_more 14 = .ok (.bipush 97, 2) := by decide +kernel
theorem dX7_more_16 : decode cX7_more 16 = .ok (.isub, 1) := by decide +kernel
theorem dX7_more_17 : decode cX7_more 17 = .ok (.iconst 1, 1) := by decide +kernel
theorem dX7_more_18 : decode cX7_more 18 = .ok (.iadd, 1) := by decide +kernel
theorem dX7_more_19 : decode cX7_more 19 = .ok (.i2l, 1) := by decide +kernel
theorem dX7_more_20 : decode cX7_more 20 = .ok (.ladd, 1) := by decide +kernel
theorem dX7_more_21 : decode cX7_more 21 = .ok (.lreturn, 1) := by decide +kernel
theorem dX7_word_0 : decode cX7_word 0 = .ok (.lconst 0, 1) := by decide +kernel
theorem dX7_word_1 : decode cX7_word 1 = .ok (.iload_n 0, 1) := by decide +kernel
theorem dX7_word_2 : decode cX7_word 2 = .ok (.invokestatic 174, 3) := by decide +kernel
theorem dX7_word_5 : decode cX7_word 5 = .ok (.iload_n 1, 1) := by decide +kernel
theorem dX7_word_6 : decode cX7_word 6 = .ok (.invokestatic 174, 3) := by decide +kernel
theorem dX7_word_9 : decode cX7_word 9 = .ok (.iload_n 2, 1) := by decide +kernel
theorem dX7_word_10 : decode cX7_word 10 = .ok (.invokestatic 174, 3) := by decide +kernel
theorem dX7_word_13 : decode cX7_word 13 = .ok (.iload_n 3, 1) := by decide +kernel
theorem dX7_word_14 : decode cX7_word 14 = .ok (.invokestatic 174, 3) := by decide +kernel
theorem dX7_word_17 : decode cX7_word 17 = .ok (.iload 4, 2) := by decide +kernel
theorem dX7_word_19 : decode cX7_word 19 = .ok (.invokestatic 174, 3) := by decide +kernel
theorem dX7_word_22 : decode cX7_word 22 = .ok (.iload 5, 2) := by decide +kernel
theorem dX7_word_24 : decode cX7_word 24 = .ok (.invokestatic 174, 3) := by decide +kernel
theorem dX7_word_27 : decode cX7_word 27 = .ok (.iload 6, 2) := by decide +kernel
theorem dX7_word_29 : decode cX7_word 29 = .ok (.invokestatic 174, 3) := by decide +kernel
theorem dX7_word_32 : decode cX7_word 32 = .ok (.lreturn, 1) := by decide +kernel
theorem dX7_token_0 : decode cX7_token 0 = .ok (.aload_n 0, 1) := by decide +kernel
theorem dX7_token_1 : decode cX7_token 1 = .ok (.getfield 20, 3) := by decide +kernel
theorem dX7_token_4 : decode cX7_token 4 = .ok (.aload_n 0, 1) := by decide +kernel
theorem dX7_token_5 : decode cX7_token 5 = .ok (.getfield 178, 3) := by decide +kernel
theorem dX7_token_8 : decode cX7_token 8 = .ok (.iload_n 1, 1) := by decide +kernel
theorem dX7_token_9 : decode cX7_token 9 = .ok (.iastore, 1) := by decide +kernel
theorem dX7_token_10 : decode cX7_token 10 = .ok (.aload_n 0, 1) := by decide +kernel
theorem dX7_token_11 : decode cX7_token 11 = .ok (.getfield 24, 3) := by decide +kernel
theorem dX7_token_14 : decode cX7_token 14 = .ok (.aload_n 0, 1) := by decide +kernel
theorem dX7_token_15 : decode cX7_token 15 = .ok (.getfield 178, 3) := by decide +kernel
theorem dX7_token_18 : decode cX7_token 18 = .ok (.iload_n 2, 1) := by decide +kernel
theorem dX7_token_19 : decode cX7_token 19 = .ok (.iastore, 1) := by decide +kernel
theorem dX7_token_20 : decode cX7_token 20 = .ok (.aload_n 0, 1) := by decide +kernel
theorem dX7_token_21 : decode cX7_token 21 = .ok (.getfield 27, 3) := by decide +kernel
theorem dX7_token_24 : decode cX7_token 24 = .ok (.aload_n 0, 1) := by decide +kernel
theorem dX7_token_25 : decode cX7_token 25 = .ok (.getfield 178, 3) := by decide +kernel
theorem dX7_token_28 : decode cX7_token 28 = .ok (.iload_n 3, 1) := by decide +kernel
theorem dX7_token_29 : decode cX7_token 29 = .ok (.iastore, 1) := by decide +kernel
theorem dX7_token_30 : decode cX7_token 30 = .ok (.aload_n 0, 1) := by decide +kernel
theorem dX7_token_31 : decode cX7_token 31 = .ok (.getfield 30, 3) := by decide +kernel
theorem dX7_token_34 : decode cX7_token 34 = .ok (.aload_n 0, 1) := by decide +kernel
theorem dX7_token_35 : decode cX7_token 35 = .ok (.getfield 178, 3) := by decide +kernel
theorem dX7_token_38 : decode cX7_token 38 = .ok (.lload 4, 2) := by decide +kernel
theorem dX7_token_40 : decode cX7_token 40 = .ok (.lastore, 1) := by decide +kernel
theorem dX7_token_41 : decode cX7_token 41 = .ok (.aload_n 0, 1) := by decide +kernel
theorem dX7_token_42 : decode cX7_token 42 = .ok (.dup, 1) := by decide +kernel
theorem dX7_token_43 : decode cX7_token 43 = .ok (.getfield 178, 3) := by decide +kernel
theorem dX7_token_46 : decode cX7_token 46 = .ok (.iconst 1, 1) := by decide +kernel
theorem dX7_token_47 : decode cX7_token 47 = .ok (.iadd, 1) := by decide +kernel
theorem dX7_token_48 : decode cX7_token 48 = .ok (.putfield 178, 3) := by decide +kernel
theorem dX7_token_51 : decode cX7_token 51 = .ok (.return_, 1) := by decide +kernel
theorem dX7_cut_0 : decode cX7_cut 0 = .ok (.aload_n 0, 1) := by decide +kernel
theorem dX7_cut_1 : decode cX7_cut 1 = .ok (.iconst 0, 1) := by decide +kernel
theorem dX7_cut_2 : decode cX7_cut 2 = .ok (.putfield 178, 3) := by decide +kernel
theorem dX7_cut_5 : decode cX7_cut 5 = .ok (.iconst 0, 1) := by decide +kernel
theorem dX7_cut_6 : decode cX7_cut 6 = .ok (.istore_n 1, 1) := by decide +kernel
theorem dX7_cut_7 : decode cX7_cut 7 = .ok (.aload_n 0, 1) := by decide +kernel
theorem dX7_cut_8 : decode cX7_cut 8 = .ok (.getfield 178, 3) := by decide +kernel
theorem dX7_cut_11 : decode cX7_cut 11 = .ok (.sipush 400, 3) := by decide +kernel
theorem dX7_cut_14 : decode cX7_cut 14 = .ok (.if_icmp .gt 280, 3) := by decide +kernel
theorem dX7_cut_17 : decode cX7_cut 17 = .ok (.aload_n 0, 1) := by decide +kernel
theorem dX7_cut_18 : decode cX7_cut 18 = .ok (.iload_n 1, 1) := by decide +kernel
theorem dX7_cut_19 : decode cX7_cut 19 = .ok (.invokevirtual 181, 3) := by decide +kernel
theorem dX7_cut_22 : decode cX7_cut 22 = .ok (.istore_n 2, 1) := by decide +kernel
theorem dX7_cut_23 : decode cX7_cut 23 = .ok (.iload_n 1, 1) := by decide +kernel
theorem dX7_cut_24 : decode cX7_cut 24 = .ok (.aload_n 0, 1) := by decide +kernel
theorem dX7_cut_25 : decode cX7_cut 25 = .ok (.getfield 169, 3) := by decide +kernel
theorem dX7_cut_28 : decode cX7_cut 28 = .ok (.if_icmp .lt 15, 3) := by decide +kernel
theorem dX7_cut_31 : decode cX7_cut 31 = .ok (.aload_n 0, 1) := by decide +kernel
theorem dX7_cut_32 : decode cX7_cut 32 = .ok (.iconst 0, 1) := by decide +kernel
theorem dX7_cut_33 : decode cX7_cut 33 = .ok (.aload_n 0, 1) := by decide +kernel
theorem dX7_cut_34 : decode cX7_cut 34 = .ok (.getfield 169, 3) := by decide +kernel
theorem dX7_cut_37 : decode cX7_cut 37 = .ok (.iconst 0, 1) := by decide +kernel
theorem dX7_cut_38 : decode cX7_cut 38 = .ok (.lconst 0, 1) := by decide +kernel
theorem dX7_cut_39 : decode cX7_cut 39 = .ok (.invokevirtual 185, 3) := by decide +kernel
theorem dX7_cut_42 : decode cX7_cut 42 = .ok (.return_, 1) := by decide +kernel
theorem dX7_cut_43 : decode cX7_cut 43 = .ok (.iload_n 2, 1) := by decide +kernel
theorem dX7_cut_44 : decode cX7_cut 44 = .ok (.bipush 9, 2) := by decide +kernel
theorem dX7_cut_46 : decode cX7_cut 46 = .ok (.if_icmp .eq 21, 3) := by decide +kernel
theorem dX7_cut_49 : decode cX7_cut 49 = .ok (.iload_n 2, 1) := by decide +kernel
theorem dX7_cut_50 : decode cX7_cut 50 = .ok (.bipush 10, 2) := by decide +kernel
theorem dX7_cut_52 : decode cX7_cut 52 = .ok (.if_icmp .eq 15, 3) := by decide +kernel
theorem dX7_cut_55 : decode cX7_cut 55 = .ok (.iload_n 2, 1) := by decide +kernel
theorem dX7_cut_56 : decode cX7_cut 56 = .ok (.bipush 13, 2) := by decide +kernel
theorem dX7_cut_58 : decode cX7_cut 58 = .ok (.if_icmp .eq 9, 3) := by decide +kernel
theorem dX7_cut_61 : decode cX7_cut 61 = .ok (.iload_n 2, 1) := by decide +kernel
theorem dX7_cut_62 : decode cX7_cut 62 = .ok (.bipush 32, 2) := by decide +kernel
theorem dX7_cut_64 : decode cX7_cut 64 = .ok (.if_icmp .ne 9, 3) := by decide +kernel
theorem dX7_cut_67 : decode cX7_cut 67 = .ok (.iinc 1 1, 3) := by decide +kernel
theorem dX7_cut_70 : decode cX7_cut 70 = .ok (.goto 221, 3) := by decide +kernel
theorem dX7_cut_73 : decode cX7_cut 73 = .ok (.iload_n 2, 1) := by decide +kernel
theorem dX7_cut_74 : decode cX7_cut 74 = .ok (.invokestatic 189, 3) := by decide +kernel
theorem dX7_cut_77 : decode cX7_cut 77 = .ok (.ifCond .eq 119, 3) := by decide +kernel
theorem dX7_cut_80 : decode cX7_cut 80 = .ok (.iconst 0, 1) := by decide +kernel
theorem dX7_cut_81 : decode cX7_cut 81 = .ok (.istore_n 3, 1) := by decide +kernel
theorem dX7_cut_82 : decode cX7_cut 82 = .ok (.lconst 0, 1) := by decide +kernel
theorem dX7_cut_83 : decode cX7_cut 83 = .ok (.lstore 4, 2) := by decide +kernel
theorem dX7_cut_85 : decode cX7_cut 85 = .ok (.aload_n 0, 1) := by decide +kernel
theorem dX7_cut_86 : decode cX7_cut 86 = .ok (.iload_n 1, 1) := by decide +kernel
theorem dX7_cut_87 : decode cX7_cut 87 = .ok (.iload_n 3, 1) := by decide +kernel
theorem dX7_cut_88 : decode cX7_cut 88 = .ok (.iadd, 1) := by decide +kernel
theorem dX7_cut_89 : decode cX7_cut 89 = .ok (.invokevirtual 181, 3) := by decide +kernel
theorem dX7_cut_92 : decode cX7_cut 92 = .ok (.invokestatic 189, 3) := by decide +kernel
theorem dX7_cut_95 : decode cX7_cut 95 = .ok (.ifCond .eq 29, 3) := by decide +kernel
theorem dX7_cut_98 : decode cX7_cut 98 = .ok (.iload_n 3, 1) := by decide +kernel
theorem dX7_cut_99 : decode cX7_cut 99 = .ok (.bipush 8, 2) := by decide +kernel
theorem dX7_cut_101 : decode cX7_cut 101 = .ok (.if_icmp .ge 17, 3) := by decide +kernel
theorem dX7_cut_104 : decode cX7_cut 104 = .ok (.lload 4, 2) := by decide +kernel
theorem dX7_cut_106 : decode cX7_cut 106 = .ok (.aload_n 0, 1) := by decide +kernel
theorem dX7_cut_107 : decode cX7_cut 107 = .ok (.iload_n 1, 1) := by decide +kernel
theorem dX7_cut_108 : decode cX7_cut 108 = .ok (.iload_n 3, 1) := by decide +kernel
theorem dX7_cut_109 : decode cX7_cut 109 = .ok (.iadd, 1) := by decide +kernel
theorem dX7_cut_110 : decode cX7_cut 110 = .ok (.invokevirtual 181, 3) := by decide +kernel
theorem dX7_cut_113 : decode cX7_cut 113 = .ok (.invokestatic 174, 3) := by decide +kernel
theorem dX7_cut_116 : decode cX7_cut 116 = .ok (.lstore 4, 2) := by decide +kernel
theorem dX7_cut_118 : decode cX7_cut 118 = .ok (.iinc 3 1, 3) := by decide +kernel
theorem dX7_cut_121 : decode cX7_cut 121 = .ok (.goto (-36), 3) := by decide +kernel
theorem dX7_cut_124 : decode cX7_cut 124 = .ok (.iload_n 3, 1) := by decide +kernel
theorem dX7_cut_125 : decode cX7_cut 125 = .ok (.bipush 8, 2) := by decide +kernel
theorem dX7_cut_127 : decode cX7_cut 127 = .ok (.if_icmp .le 7, 3) := by decide +kernel
theorem dX7_cut_130 : decode cX7_cut 130 = .ok (.iconst 3, 1) := by decide +kernel
theorem dX7_cut_131 : decode cX7_cut 131 = .ok (.goto 4, 3) := by decide +kernel
theorem dX7_cut_134 : decode cX7_cut 134 = .ok (.iconst 1, 1) := by decide +kernel
theorem dX7_cut_135 : decode cX7_cut 135 = .ok (.istore 6, 2) := by decide +kernel
theorem dX7_cut_137 : decode cX7_cut 137 = .ok (.iload_n 3, 1) := by decide +kernel
theorem dX7_cut_138 : decode cX7_cut 138 = .ok (.bipush 7, 2) := by decide +kernel
theorem dX7_cut_140 : decode cX7_cut 140 = .ok (.if_icmp .gt 39, 3) := by decide +kernel
theorem dX7_cut_143 : decode cX7_cut 143 = .ok (.iconst 0, 1) := by decide +kernel
theorem dX7_cut_144 : decode cX7_cut 144 = .ok (.istore 7, 2) := by decide +kernel
theorem dX7_cut_146 : decode cX7_cut 146 = .ok (.iload 7, 2) := by decide +kernel
theorem dX7_cut_148 : decode cX7_cut 148 = .ok (.bipush 14, 2) := by decide +kernel
theorem dX7_cut_150 : decode cX7_cut 150 = .ok (.if_icmp .ge 29, 3) := by decide +kernel
theorem dX7_cut_153 : decode cX7_cut 153 = .ok (.aload_n 0, 1) := by decide +kernel
theorem dX7_cut_154 : decode cX7_cut 154 = .ok (.getfield 34, 3) := by decide +kernel
theorem dX7_cut_157 : decode cX7_cut 157 = .ok (.iload 7, 2) := by decide +kernel
theorem dX7_cut_159 : decode cX7_cut 159 = .ok (.laload, 1) := by decide +kernel
theorem dX7_cut_160 : decode cX7_cut 160 = .ok (.lload 4, 2) := by decide +kernel
theorem dX7_cut_162 : decode cX7_cut 162 = .ok (.lcmp, 1) := by decide +kernel
theorem dX7_cut_163 : decode cX7_cut 163 = .ok (.ifCond .ne 10, 3) := by decide +kernel
theorem dX7_cut_166 : decode cX7_cut 166 = .ok (.bipush 20, 2) := by decide +kernel
theorem dX7_cut_168 : decode cX7_cut 168 = .ok (.iload 7, 2) := by decide +kernel
theorem dX7_cut_170 : decode cX7_cut 170 = .ok (.iadd, 1) := by decide +kernel
theorem dX7_cut_171 : decode cX7_cut 171 = .ok (.istore 6, 2) := by decide +kernel
theorem dX7_cut_173 : decode cX7_cut 173 = .ok (.iinc 7 1, 3) := by decide +kernel
theorem dX7_cut_176 : decode cX7_cut 176 = .ok (.goto (-30), 3) := by decide +kernel
theorem dX7_cut_179 : decode cX7_cut 179 = .ok (.aload_n 0, 1) := by decide +kernel
theorem dX7_cut_180 : decode cX7_cut 180 = .ok (.iload 6, 2) := by decide +kernel
theorem dX7_cut_182 : decode cX7_cut 182 = .ok (.iload_n 1, 1) := by decide +kernel
theorem dX7_cut_183 : decode cX7_cut 183 = .ok (.iconst 0, 1) := by decide +kernel
theorem dX7_cut_184 : decode cX7_cut 184 = .ok (.lload 4, 2) := by decide +kernel
theorem dX7_cut_186 : decode cX7_cut 186 = .ok (.invokevirtual 185, 3) := by decide +kernel
theorem dX7_cut_189 : decode cX7_cut 189 = .ok (.iload_n 1, 1) := by decide +kernel
theorem dX7_cut_190 : decode cX7_cut 190 = .ok (.iload_n 3, 1) := by decide +kernel
theorem dX7_cut_191 : decode cX7_cut 191 = .ok (.iadd, 1) := by decide +kernel
theorem dX7_cut_192 : decode cX7_cut 192 = .ok (.istore_n 1, 1) := by decide +kernel
theorem dX7_cut_193 : decode cX7_cut 193 = .ok (.goto 98, 3) := by decide +kernel
theorem dX7_cut_196 : decode cX7_cut 196 = .ok (.iload_n 2, 1) := by decide +kernel
theorem dX7_cut_197 : decode cX7_cut 197 = .ok (.invokestatic 193, 3) := by decide +kernel
theorem dX7_cut_200 : decode cX7_cut 200 = .ok (.ifCond .eq 75, 3) := by decide +kernel
theorem dX7_cut_203 : decode cX7_cut 203 = .ok (.iconst 0, 1) := by decide +kernel
theorem dX7_cut_204 : decode cX7_cut 204 = .ok (.istore_n 3, 1) := by decide +kernel
theorem dX7_cut_205 : decode cX7_cut 205 = .ok (.iconst 0, 1) := by decide +kernel
theorem dX7_cut_206 : decode cX7_cut 206 = .ok (.istore 4, 2) := by decide +kernel
theorem dX7_cut_208 : decode cX7_cut 208 = .ok (.aload_n 0, 1) := by decide +kernel
theorem dX7_cut_209 : decode cX7_cut 209 = .ok (.iload_n 1, 1) := by decide +kernel
theorem dX7_cut_210 : decode cX7_cut 210 = .ok (.iload_n 3, 1) := by decide +kernel
theorem dX7_cut_211 : decode cX7_cut 211 = .ok (.iadd, 1) := by decide +kernel
theorem dX7_cut_212 : decode cX7_cut 212 = .ok (.invokevirtual 181, 3) := by decide +kernel
theorem dX7_cut_215 : decode cX7_cut 215 = .ok (.invokestatic 193, 3) := by decide +kernel
theorem dX7_cut_218 : decode cX7_cut 218 = .ok (.ifCond .eq 32, 3) := by decide +kernel
theorem dX7_cut_221 : decode cX7_cut 221 = .ok (.iload_n 3, 1) := by decide +kernel
theorem dX7_cut_222 : decode cX7_cut 222 = .ok (.iconst 4, 1) := by decide +kernel
theorem dX7_cut_223 : decode cX7_cut 223 = .ok (.if_icmp .ge 21, 3) := by decide +kernel
theorem dX7_cut_226 : decode cX7_cut 226 = .ok (.bipush 10, 2) := by decide +kernel
theorem dX7_cut_228 : decode cX7_cut 228 = .ok (.iload 4, 2) := by decide +kernel
theorem dX7_cut_230 : decode cX7_cut 230 = .ok (.imul, 1) := by decide +kernel
theorem dX7_cut_231 : decode cX7_cut 231 = .ok (.aload_n 0, 1) := by decide +kernel
theorem dX7_cut_232 : decode cX7_cut 232 = .ok (.iload_n 1, 1) := by decide +kernel
theorem dX7_cut_233 : decode cX7_cut 233 = .ok (.iload_n 3, 1) := by decide +kernel
theorem dX7_cut_234 : decode cX7_cut 234 = .ok (.iadd, 1) := by decide +kernel
theorem dX7_cut_235 : decode cX7_cut 235 = .ok (.invokevirtual 181, 3) := by decide +kernel
theorem dX7_cut_238 : decode cX7_cut 238 = .ok (.iadd, 1) := by decide +kernel
theorem dX7_cut_239 : decode cX7_cut 239 = .ok (.bipush 48, 2) := by decide +kernel
theorem dX7_cut_241 : decode cX7_cut 241 = .ok (.isub, 1) := by decide +kernel
theorem dX7_cut_242 : decode cX7_cut 242 = .ok (.istore 4, 2) := by decide +kernel
theorem dX7_cut_244 : decode cX7_cut 244 = .ok (.iinc 3 1, 3) := by decide +kernel
theorem dX7_cut_247 : decode cX7_cut 247 = .ok (.goto (-39), 3) := by decide +kernel
theorem dX7_cut_250 : decode cX7_cut 250 = .ok (.aload_n 0, 1) := by decide +kernel
theorem dX7_cut_251 : decode cX7_cut 251 = .ok (.iload_n 3, 1) := by decide +kernel
theorem dX7_cut_252 : decode cX7_cut 252 = .ok (.iconst 4, 1) := by decide +kernel
theorem dX7_cut_253 : decode cX7_cut 253 = .ok (.if_icmp .le 7, 3) := by decide +kernel
theorem dX7_cut_256 : decode cX7_cut 256 = .ok (.iconst 3, 1) := by decide +kernel
theorem dX7_cut_257 : decode cX7_cut 257 = .ok (.goto 4, 3) := by decide +kernel
theorem dX7_cut_260 : decode cX7_cut 260 = .ok (.iconst 2, 1) := by decide +kernel
theorem dX7_cut_261 : decode cX7_cut 261 = .ok (.iload_n 1, 1) := by decide +kernel
theorem dX7_cut_262 : decode cX7_cut 262 = .ok (.iload 4, 2) := by decide +kernel
theorem dX7_cut_264 : decode cX7_cut 264 = .ok (.lconst 0, 1) := by decide +kernel
theorem dX7_cut_265 : decode cX7_cut 265 = .ok (.invokevirtual 185, 3) := by decide +kernel
theorem dX7_cut_268 : decode cX7_cut 268 = .ok (.iload_n 1, 1) := by decide +kernel
theorem dX7_cut_269 : decode cX7_cut 269 = .ok (.iload_n 3, 1) := by decide +kernel
theorem dX7_cut_270 : decode cX7_cut 270 = .ok (.iadd, 1) := by decide +kernel
theorem dX7_cut_271 : decode cX7_cut 271 = .ok (.istore_n 1, 1) := by decide +kernel
theorem dX7_cut_272 : decode cX7_cut 272 = .ok (.goto 19, 3) := by decide +kernel
theorem dX7_cut_275 : decode cX7_cut 275 = .ok (.iload_n 1, 1) := by decide +kernel
theorem dX7_cut_276 : decode cX7_cut 276 = .ok (.aload_n 0, 1) := by decide +kernel
theorem dX7_cut_277 : decode cX7_cut 277 = .ok (.iload_n 1, 1) := by decide +kernel
theorem dX7_cut_278 : decode cX7_cut 278 = .ok (.iload_n 2, 1) := by decide +kernel
theorem dX7_cut_279 : decode cX7_cut 279 = .ok (.aload_n 0, 1) := by decide +kernel
theorem dX7_cut_280 : decode cX7_cut 280 = .ok (.iload_n 1, 1) := by decide +kernel
theorem dX7_cut_281 : decode cX7_cut 281 = .ok (.iconst 1, 1) := by decide +kernel
theorem dX7_cut_282 : decode cX7_cut 282 = .ok (.iadd, 1) := by decide +kernel
theorem dX7_cut_283 : decode cX7_cut 283 = .ok (.invokevirtual 181, 3) := by decide +kernel
theorem dX7_cut_286 : decode cX7_cut 286 = .ok (.invokevirtual 196, 3) := by decide +kernel
theorem dX7_cut_289 : decode cX7_cut 289 = .ok (.iadd, 1) := by decide +kernel
theorem dX7_cut_290 : decode cX7_cut 290 = .ok (.istore_n 1, 1) := by decide +kernel
theorem dX7_cut_291 : decode cX7_cut 291 = .ok (.goto (-284), 3) := by decide +kernel
theorem dX7_cut_294 : decode cX7_cut 294 = .ok (.return_, 1) := by decide +kernel
theorem dX7_sign_0 : decode cX7_sign 0 = .ok (.iload_n 3, 1) := by decide +kernel
theorem dX7_sign_1 : decode cX7_sign 1 = .ok (.bipush 61, 2) := by decide +kernel
theorem dX7_sign_3 : decode cX7_sign 3 = .ok (.if_icmp .eq 7, 3) := by decide +kernel
theorem dX7_sign_6 : decode cX7_sign 6 = .ok (.iconst 0, 1) := by decide +kernel
theorem dX7_sign_7 : decode cX7_sign 7 = .ok (.goto 37, 3) := by decide +kernel
theorem dX7_sign_10 : decode cX7_sign 10 = .ok (.iload_n 2, 1) := by decide +kernel
theorem dX7_sign_11 : decode cX7_sign 11 = .ok (.bipush 61, 2) := by decide +kernel
theorem dX7_sign_13 : decode cX7_sign 13 = .ok (.if_icmp .ne 8, 3) := by decide +kernel
theorem dX7_sign_16 : decode cX7_sign 16 = .ok (.bipush 11, 2) := by decide +kernel
theorem dX7_sign_18 : decode cX7_sign 18 = .ok (.goto 26, 3) := by decide +kernel
theorem dX7_sign_21 : decode cX7_sign 21 = .ok (.iload_n 2, 1) := by decide +kernel
theorem dX7_sign_22 : decode cX7_sign 22 = .ok (.bipush 33, 2) := by decide +kernel
theorem dX7_sign_24 : decode cX7_sign 24 = .ok (.if_icmp .ne 8, 3) := by decide +kernel
theorem dX7_sign_27 : decode cX7_sign 27 = .ok (.bipush 12, 2) := by decide +kernel
theorem dX7_sign_29 : decode cX7_sign 29 = .ok (.goto 15, 3) := by decide +kernel
theorem dX7_sign_32 : decode cX7_sign 32 = .ok (.iload_n 2, 1) := by decide +kernel
theorem dX7_sign_33 : decode cX7_sign 33 = .ok (.bipush 60, 2) := by decide +kernel
theorem dX7_sign_35 : decode cX7_sign 35 = .ok (.if_icmp .ne 8, 3) := by decide +kernel
theorem dX7_sign_38 : decode cX7_sign 38 = .ok (.bipush 14, 2) := by decide +kernel
theorem dX7_sign_40 : decode cX7_sign 40 = .ok (.goto 4, 3) := by decide +kernel
theorem dX7_sign_43 : decode cX7_sign 43 = .ok (.iconst 0, 1) := by decide +kernel
theorem dX7_sign_44 : decode cX7_sign 44 = .ok (.istore 4, 2) := by decide +kernel
theorem dX7_sign_46 : decode cX7_sign 46 = .ok (.iconst 3, 1) := by decide +kernel
theorem dX7_sign_47 : decode cX7_sign 47 = .ok (.istore 5, 2) := by decide +kernel
theorem dX7_sign_49 : decode cX7_sign 49 = .ok (.iload 4, 2) := by decide +kernel
theorem dX7_sign_51 : decode cX7_sign 51 = .ok (.ifCond .le 10, 3) := by decide +kernel
theorem dX7_sign_54 : decode cX7_sign 54 = .ok (.iload 4, 2) := by decide +kernel
theorem dX7_sign_56 : decode cX7_sign 56 = .ok (.istore 5, 2) := by decide +kernel
theorem dX7_sign_58 : decode cX7_sign 58 = .ok (.goto 90, 3) := by decide +kernel
theorem dX7_sign_61 : decode cX7_sign 61 = .ok (.iload_n 2, 1) := by decide +kernel
theorem dX7_sign_62 : decode cX7_sign 62 = .ok (.bipush 59, 2) := by decide +kernel
theorem dX7_sign_64 : decode cX7_sign 64 = .ok (.if_icmp .ne 9, 3) := by decide +kernel
theorem dX7_sign_67 : decode cX7_sign 67 = .ok (.iconst 4, 1) := by decide +kernel
theorem dX7_sign_68 : decode cX7_sign 68 = .ok (.istore 5, 2) := by decide +kernel
theorem dX7_sign_70 : decode cX7_sign 70 = .ok (.goto 78, 3) := by decide +kernel
theorem dX7_sign_73 : decode cX7_sign 73 = .ok (.iload_n 2, 1) := by decide +kernel
theorem dX7_sign_74 : decode cX7_sign 74 = .ok (.bipush 40, 2) := by decide +kernel
theorem dX7_sign_76 : decode cX7_sign 76 = .ok (.if_icmp .ne 10, 3) := by decide +kernel
theorem dX7_sign_79 : decode cX7_sign 79 = .ok (.bipush 6, 2) := by decide +kernel
theorem dX7_sign_81 : decode cX7_sign 81 = .ok (.istore 5, 2) := by decide +kernel
theorem dX7_sign_83 : decode cX7_sign 83 = .ok (.goto 65, 3) := by decide +kernel
theorem dX7_sign_86 : decode cX7_sign 86 = .ok (.iload_n 2, 1) := by decide +kernel
theorem dX7_sign_87 : decode cX7_sign 87 = .ok (.bipush 41, 2) := by decide +kernel
theorem dX7_sign_89 : decode cX7_sign 89 = .ok (.if_icmp .ne 10, 3) := by decide +kernel
theorem dX7_sign_92 : decode cX7_sign 92 = .ok (.bipush 7, 2) := by decide +kernel
theorem dX7_sign_94 : decode cX7_sign 94 = .ok (.istore 5, 2) := by decide +kernel
theorem dX7_sign_96 : decode cX7_sign 96 = .ok (.goto 52, 3) := by decide +kernel
theorem dX7_sign_99 : decode cX7_sign 99 = .ok (.iload_n 2, 1) := by decide +kernel
theorem dX7_sign_100 : decode cX7_sign 100 = .ok (.bipush 43, 2) := by decide +kernel
theorem dX7_sign_102 : decode cX7_sign 102 = .ok (.if_icmp .ne 10, 3) := by decide +kernel
theorem dX7_sign_105 : decode cX7_sign 105 = .ok (.bipush 8, 2) := by decide +kernel
theorem dX7_sign_107 : decode cX7_sign 107 = .ok (.istore 5, 2) := by decide +kernel
theorem dX7_sign_109 : decode cX7_sign 109 = .ok (.goto 39, 3) := by decide +kernel
theorem dX7_sign_112 : decode cX7_sign 112 = .ok (.iload_n 2, 1) := by decide +kernel
theorem dX7_sign_113 : decode cX7_sign 113 = .ok (.bipush 45, 2) := by decide +kernel
theorem dX7_sign_115 : decode cX7_sign 115 = .ok (.if_icmp .ne 10, 3) := by decide +kernel
theorem dX7_sign_118 : decode cX7_sign 118 = .ok (.bipush 9, 2) := by decide +kernel
theorem dX7_sign_120 : decode cX7_sign 120 = .ok (.istore 5, 2) := by decide +kernel
theorem dX7_sign_122 : decode cX7_sign 122 = .ok (.goto 26, 3) := by decide +kernel
theorem dX7_sign_125 : decode cX7_sign 125 = .ok (.iload_n 2, 1) := by decide +kernel
theorem dX7_sign_126 : decode cX7_sign 126 = .ok (.bipush 42, 2) := by decide +kernel
theorem dX7_sign_128 : decode cX7_sign 128 = .ok (.if_icmp .ne 10, 3) := by decide +kernel
theorem dX7_sign_131 : decode cX7_sign 131 = .ok (.bipush 10, 2) := by decide +kernel
theorem dX7_sign_133 : decode cX7_sign 133 = .ok (.istore 5, 2) := by decide +kernel
theorem dX7_sign_135 : decode cX7_sign 135 = .ok (.goto 13, 3) := by decide +kernel
theorem dX7_sign_138 : decode cX7_sign 138 = .ok (.iload_n 2, 1) := by decide +kernel
theorem dX7_sign_139 : decode cX7_sign 139 = .ok (.bipush 60, 2) := by decide +kernel
theorem dX7_sign_141 : decode cX7_sign 141 = .ok (.if_icmp .ne 7, 3) := by decide +kernel
theorem dX7_sign_144 : decode cX7_sign 144 = .ok (.bipush 13, 2) := by decide +kernel
theorem dX7_sign_146 : decode cX7_sign 146 = .ok (.istore 5, 2) := by decide +kernel
theorem dX7_sign_148 : decode cX7_sign 148 = .ok (.aload_n 0, 1) := by decide +kernel
theorem dX7_sign_149 : decode cX7_sign 149 = .ok (.iload 5, 2) := by decide +kernel
theorem dX7_sign_151 : decode cX7_sign 151 = .ok (.iload_n 1, 1) := by decide +kernel
theorem dX7_sign_152 : decode cX7_sign 152 = .ok (.iconst 0, 1) := by decide +kernel
theorem dX7_sign_153 : decode cX7_sign 153 = .ok (.lconst 0, 1) := by decide +kernel
theorem dX7_sign_154 : decode cX7_sign 154 = .ok (.invokevirtual 185, 3) := by decide +kernel
theorem dX7_sign_157 : decode cX7_sign 157 = .ok (.iload 4, 2) := by decide +kernel
theorem dX7_sign_159 : decode cX7_sign 159 = .ok (.ifCond .le 7, 3) := by decide +kernel
theorem dX7_sign_162 : decode cX7_sign 162 = .ok (.iconst 2, 1) := by decide +kernel
theorem dX7_sign_163 : decode cX7_sign 163 = .ok (.goto 4, 3) := by decide +kernel
theorem dX7_sign_166 : decode cX7_sign 166 = .ok (.iconst 1, 1) := by decide +kernel
theorem dX7_sign_167 : decode cX7_sign 167 = .ok (.ireturn, 1) := by decide +kernel
theorem dX7_is_0 : decode cX7_is 0 = .ok (.aload_n 0, 1) := by decide +kernel
theorem dX7_is_1 : decode cX7_is 1 = .ok (.getfield 200, 3) := by decide +kernel
theorem dX7_is_4 : decode cX7_is 4 = .ok (.ifCond .ne 20, 3) := by decide +kernel
theorem dX7_is_7 : decode cX7_is 7 = .ok (.aload_n 0, 1) := by decide +kernel
theorem dX7_is_8 : decode cX7_is 8 = .ok (.getfield 20, 3) := by decide +kernel
theorem dX7_is_11 : decode cX7_is 11 = .ok (.aload_n 0, 1) := by decide +kernel
theorem dX7_is_12 : decode cX7_is 12 = .ok (.getfield 203, 3) := by decide +kernel
theorem dX7_is_15 : decode cX7_is 15 = .ok (.iaload, 1) := by decide +kernel
theorem dX7_is_16 : decode cX7_is 16 = .ok (.iload_n 1, 1) := by decide +kernel
theorem dX7_is_17 : decode cX7_is 17 = .ok (.if_icmp .ne 7, 3) := by decide +kernel
theorem dX7_is_20 : decode cX7_is 20 = .ok (.iconst 1, 1) := by decide +kernel
theorem dX7_is_21 : decode cX7_is 21 = .ok (.goto 4, 3) := by decide +kernel
theorem dX7_is_24 : decode cX7_is 24 = .ok (.iconst 0, 1) := by decide +kernel
theorem dX7_is_25 : decode cX7_is 25 = .ok (.ireturn, 1) := by decide +kernel
theorem dX7_fail_0 : decode cX7_fail 0 = .ok (.aload_n 0, 1) := by decide +kernel
theorem dX7_fail_1 : decode cX7_fail 1 = .ok (.getfield 200, 3) := by decide +kernel
theorem dX7_fail_4 : decode cX7_fail 4 = .ok (.ifCond .le 4, 3) := by decide +kernel
theorem dX7_fail_7 : decode cX7_fail 7 = .ok (.return_, 1) := by decide +kernel
theorem dX7_fail_8 : decode cX7_fail 8 = .ok (.aload_n 0, 1) := by decide +kernel
theorem dX7_fail_9 : decode cX7_fail 9 = .ok (.iload_n 1, 1) := by decide +kernel
theorem dX7_fail_10 : decode cX7_fail 10 = .ok (.putfield 200, 3) := by decide +kernel
theorem dX7_fail_13 : decode cX7_fail 13 = .ok (.aload_n 0, 1) := by decide +kernel
theorem dX7_fail_14 : decode cX7_fail 14 = .ok (.aload_n 0, 1) := by decide +kernel
theorem dX7_fail_15 : decode cX7_fail 15 = .ok (.getfield 24, 3) := by decide +kernel
theorem dX7_fail_18 : decode cX7_fail 18 = .ok (.aload_n 0, 1) := by decide +kernel
theorem dX7_fail_19 : decode cX7_fail 19 = .ok (.getfield 203, 3) := by decide +kernel
theorem dX7_fail_22 : decode cX7_fail 22 = .ok (.iaload, 1) := by decide +kernel
theorem dX7_fail_23 : decode cX7_fail 23 = .ok (.putfield 206, 3) := by decide +kernel
theorem dX7_fail_26 : decode cX7_fail 26 = .ok (.return_, 1) := by decide +kernel
theorem dX7_next_0 : decode cX7_next 0 = .ok (.aload_n 0, 1) := by decide +kernel
theorem dX7_next_1 : decode cX7_next 1 = .ok (.getfield 203, 3) := by decide +kernel
theorem dX7_next_4 : decode cX7_next 4 = .ok (.sipush 400, 3) := by decide +kernel
theorem dX7_next_7 : decode cX7_next 7 = .ok (.if_icmp .ne 11, 3) := by decide +kernel
theorem dX7_next_10 : decode cX7_next 10 = .ok (.aload_n 0, 1) := by decide +kernel
theorem dX7_next_11 : decode cX7_next 11 = .ok (.iconst 2, 1) := by decide +kernel
theorem dX7_next_12 : decode cX7_next 12 = .ok (.invokevirtual 215, 3) := by decide +kernel
theorem dX7_next_15 : decode cX7_next 15 = .ok (.goto 13, 3) := by decide +kernel
theorem dX7_next_18 : decode cX7_next 18 = .ok (.aload_n 0, 1) := by decide +kernel
theorem dX7_next_19 : decode cX7_next 19 = .ok (.dup, 1) := by decide +kernel
theorem dX7_next_20 : decode cX7_next 20 = .ok (.getfield 203, 3) := by decide +kernel
theorem dX7_next_23 : decode cX7_next 23 = .ok (.iconst 1, 1) := by decide +kernel
theorem dX7_next_24 : decode cX7_next 24 = .ok (.iadd, 1) := by decide +kernel
theorem dX7_next_25 : decode cX7_next 25 = .ok (.putfield 203, 3) := by decide +kernel
theorem dX7_next_28 : decode cX7_next 28 = .ok (.return_, 1) := by decide +kernel
theorem dX7_must_0 : decode cX7_must 0 = .ok (.aload_n 0, 1) := by decide +kernel
theorem dX7_must_1 : decode cX7_must 1 = .ok (.iload_n 1, 1) := by decide +kernel
theorem dX7_must_2 : decode cX7_must 2 = .ok (.invokevirtual 218, 3) := by decide +kernel
theorem dX7_must_5 : decode cX7_must 5 = .ok (.ifCond .eq 10, 3) := by decide +kernel
theorem dX7_must_8 : decode cX7_must 8 = .ok (.aload_n 0, 1) := by decide +kernel
theorem dX7_must_9 : decode cX7_must 9 = .ok (.invokevirtual 221, 3) := by decide +kernel
theorem dX7_must_12 : decode cX7_must 12 = .ok (.goto 8, 3) := by decide +kernel
theorem dX7_must_15 : decode cX7_must 15 = .ok (.aload_n 0, 1) := by decide +kernel
theorem dX7_must_16 : decode cX7_must 16 = .ok (.iconst 1, 1) := by decide +kernel
theorem dX7_must_17 : decode cX7_must 17 = .ok (.invokevirtual 215, 3) := by decide +kernel
theorem dX7_must_20 : decode cX7_must 20 = .ok (.return_, 1) := by decide +kernel
theorem dX7_read_0 : decode cX7_read 0 = .ok (.aload_n 0, 1) := by decide +kernel
theorem dX7_read_1 : decode cX7_read 1 = .ok (.aload_n 0, 1) := by decide +kernel
theorem dX7_read_2 : decode cX7_read 2 = .ok (.getfield 162, 3) := by decide +kernel
theorem dX7_read_5 : decode cX7_read 5 = .ok (.putfield 169, 3) := by decide +kernel
theorem dX7_read_8 : decode cX7_read 8 = .ok (.iconst 0, 1) := by decide +kernel
theorem dX7_read_9 : decode cX7_read 9 = .ok (.istore_n 1, 1) := by decide +kernel
theorem dX7_read_10 : decode cX7_read 10 = .ok (.iload_n 1, 1) := by decide +kernel
theorem dX7_read_11 : decode cX7_read 11 = .ok (.aload_n 0, 1) := by decide +kernel
theorem dX7_read_12 : decode cX7_read 12 = .ok (.getfield 169, 3) := by decide +kernel
theorem dX7_read_15 : decode cX7_read 15 = .ok (.if_icmp .ge 21, 3) := by decide +kernel
theorem dX7_read_18 : decode cX7_read 18 = .ok (.aload_n 0, 1) := by decide +kernel
theorem dX7_read_19 : decode cX7_read 19 = .ok (.getfield 17, 3) := by decide +kernel
theorem dX7_read_22 : decode cX7_read 22 = .ok (.iload_n 1, 1) := by decide +kernel
theorem dX7_read_23 : decode cX7_read 23 = .ok (.aload_n 0, 1) := by decide +kernel
theorem dX7_read_24 : decode cX7_read 24 = .ok (.getfield 13, 3) := by decide +kernel
theorem dX7_read_27 : decode cX7_read 27 = .ok (.iload_n 1, 1) := by decide +kernel
theorem dX7_read_28 : decode cX7_read 28 = .ok (.baload, 1) := by decide +kernel
theorem dX7_read_29 : decode cX7_read 29 = .ok (.bastore, 1) := by decide +kernel
theorem dX7_read_30 : decode cX7_read 30 = .ok (.iinc 1 1, 3) := by decide +kernel
theorem dX7_read_33 : decode cX7_read 33 = .ok (.goto (-23), 3) := by decide +kernel
theorem dX7_read_36 : decode cX7_read 36 = .ok (.aload_n 0, 1) := by decide +kernel
theorem dX7_read_37 : decode cX7_read 37 = .ok (.iconst 0, 1) := by decide +kernel
theorem dX7_read_38 : decode cX7_read 38 = .ok (.putfield 162, 3) := by decide +kernel
theorem dX7_read_41 : decode cX7_read 41 = .ok (.aload_n 0, 1) := by decide +kernel
theorem dX7_read_42 : decode cX7_read 42 = .ok (.invokevirtual 224, 3) := by decide +kernel
theorem dX7_read_45 : decode cX7_read 45 = .ok (.aload_n 0, 1) := by decide +kernel
theorem dX7_read_46 : decode cX7_read 46 = .ok (.iconst 0, 1) := by decide +kernel
theorem dX7_read_47 : decode cX7_read 47 = .ok (.putfield 203, 3) := by decide +kernel
theorem dX7_read_50 : decode cX7_read 50 = .ok (.aload_n 0, 1) := by decide +kernel
theorem dX7_read_51 : decode cX7_read 51 = .ok (.iconst 0, 1) := by decide +kernel
theorem dX7_read_52 : decode cX7_read 52 = .ok (.putfield 227, 3) := by decide +kernel
theorem dX7_read_55 : decode cX7_read 55 = .ok (.aload_n 0, 1) := by decide +kernel
theorem dX7_read_56 : decode cX7_read 56 = .ok (.iconst 0, 1) := by decide +kernel
theorem dX7_read_57 : decode cX7_read 57 = .ok (.putfield 200, 3) := by decide +kernel
theorem dX7_read_60 : decode cX7_read 60 = .ok (.aload_n 0, 1) := by decide +kernel
theorem dX7_read_61 : decode cX7_read 61 = .ok (.iconst 0, 1) := by decide +kernel
theorem dX7_read_62 : decode cX7_read 62 = .ok (.putfield 209, 3) := by decide +kernel
theorem dX7_read_65 : decode cX7_read 65 = .ok (.aload_n 0, 1) := by decide +kernel
theorem dX7_read_66 : decode cX7_read 66 = .ok (.iconst 1, 1) := by decide +kernel
theorem dX7_read_67 : decode cX7_read 67 = .ok (.aload_n 0, 1) := by decide +kernel
theorem dX7_read_68 : decode cX7_read 68 = .ok (.getfield 230, 3) := by decide +kernel
theorem dX7_read_71 : decode cX7_read 71 = .ok (.isub, 1) := by decide +kernel
theorem dX7_read_72 : decode cX7_read 72 = .ok (.putfield 233, 3) := by decide +kernel
theorem dX7_read_75 : decode cX7_read 75 = .ok (.aload_n 0, 1) := by decide +kernel
theorem dX7_read_76 : decode cX7_read 76 = .ok (.getfield 40, 3) := by decide +kernel
theorem dX7_read_79 : decode cX7_read 79 = .ok (.aload_n 0, 1) := by decide +kernel
theorem dX7_read_80 : decode cX7_read 80 = .ok (.getfield 233, 3) := by decide +kernel
theorem dX7_read_83 : decode cX7_read 83 = .ok (.iconst 0, 1) := by decide +kernel
theorem dX7_read_84 : decode cX7_read 84 = .ok (.iastore, 1) := by decide +kernel
theorem dX7_read_85 : decode cX7_read 85 = .ok (.aload_n 0, 1) := by decide +kernel
theorem dX7_read_86 : decode cX7_read 86 = .ok (.getfield 58, 3) := by decide +kernel
theorem dX7_read_89 : decode cX7_read 89 = .ok (.aload_n 0, 1) := by decide +kernel
theorem dX7_read_90 : decode cX7_read 90 = .ok (.getfield 233, 3) := by decide +kernel
theorem dX7_read_93 : decode cX7_read 93 = .ok (.iconst 0, 1) := by decide +kernel
theorem dX7_read_94 : decode cX7_read 94 = .ok (.iastore, 1) := by decide +kernel
theorem dX7_read_95 : decode cX7_read 95 = .ok (.aload_n 0, 1) := by decide +kernel
theorem dX7_read_96 : decode cX7_read 96 = .ok (.sipush 500, 3) := by decide +kernel
theorem dX7_read_99 : decode cX7_read 99 = .ok (.aload_n 0, 1) := by decide +kernel
theorem dX7_read_100 : decode cX7_read 100 = .ok (.getfield 233, 3) := by decide +kernel
theorem dX7_read_103 : decode cX7_read 103 = .ok (.imul, 1) := by decide +kernel
theorem dX7_read_104 : decode cX7_read 104 = .ok (.putfield 236, 3) := by decide +kernel
theorem dX7_read_107 : decode cX7_read 107 = .ok (.aload_n 0, 1) := by decide +kernel
theorem dX7_read_108 : decode cX7_read 108 = .ok (.getfield 200, 3) := by decide +kernel
theorem dX7_read_111 : decode cX7_read 111 = .ok (.ifCond .ne 18, 3) := by decide +kernel
theorem dX7_read_114 : decode cX7_read 114 = .ok (.aload_n 0, 1) := by decide +kernel
theorem dX7_read_115 : decode cX7_read 115 = .ok (.iconst 0, 1) := by decide +kernel
theorem dX7_read_116 : decode cX7_read 116 = .ok (.invokevirtual 218, 3) := by decide +kernel
theorem dX7_read_119 : decode cX7_read 119 = .ok (.ifCond .ne 10, 3) := by decide +kernel
theorem dX7_read_122 : decode cX7_read 122 = .ok (.aload_n 0, 1) := by decide +kernel
theorem dX7_read_123 : decode cX7_read 123 = .ok (.invokevirtual 239, 3) := by decide +kernel
theorem dX7_read_126 : decode cX7_read 126 = .ok (.goto (-19), 3) := by decide +kernel
theorem dX7_read_129 : decode cX7_read 129 = .ok (.aload_n 0, 1) := by decide +kernel
theorem dX7_read_130 : decode cX7_read 130 = .ok (.aload_n 0, 1) := by decide +kernel
theorem dX7_read_131 : decode cX7_read 131 = .ok (.getfield 200, 3) := by decide +kernel
theorem dX7_read_134 : decode cX7_read 134 = .ok (.ifCond .le 10, 3) := by decide +kernel
theorem dX7_read_137 : decode cX7_read 137 = .ok (.aload_n 0, 1) := by decide +kernel
theorem dX7_read_138 : decode cX7_read 138 = .ok (.getfield 206, 3) := by decide +kernel
theorem dX7_read_141 : decode cX7_read 141 = .ok (.goto 4, 3) := by decide +kernel
theorem dX7_read_144 : decode cX7_read 144 = .ok (.iconst (-1), 1) := by decide +kernel
theorem dX7_read_145 : decode cX7_read 145 = .ok (.putfield 37, 3) := by decide +kernel
theorem dX7_read_148 : decode cX7_read 148 = .ok (.aload_n 0, 1) := by decide +kernel
theorem dX7_read_149 : decode cX7_read 149 = .ok (.getfield 200, 3) := by decide +kernel
theorem dX7_read_152 : decode cX7_read 152 = .ok (.ifCond .le 8, 3) := by decide +kernel
theorem dX7_read_155 : decode cX7_read 155 = .ok (.aload_n 0, 1) := by decide +kernel
theorem dX7_read_156 : decode cX7_read 156 = .ok (.getfield 200, 3) := by decide +kernel
theorem dX7_read_159 : decode cX7_read 159 = .ok (.ireturn, 1) := by decide +kernel
theorem dX7_read_160 : decode cX7_read 160 = .ok (.aload_n 0, 1) := by decide +kernel
theorem dX7_read_161 : decode cX7_read 161 = .ok (.aload_n 0, 1) := by decide +kernel
theorem dX7_read_162 : decode cX7_read 162 = .ok (.getfield 233, 3) := by decide +kernel
theorem dX7_read_165 : decode cX7_read 165 = .ok (.putfield 230, 3) := by decide +kernel
theorem dX7_read_168 : decode cX7_read 168 = .ok (.aload_n 0, 1) := by decide +kernel
theorem dX7_read_169 : decode cX7_read 169 = .ok (.iconst (-1), 1) := by decide +kernel
theorem dX7_read_170 : decode cX7_read 170 = .ok (.putfield 110, 3) := by decide +kernel
theorem dX7_read_173 : decode cX7_read 173 = .ok (.iconst 0, 1) := by decide +kernel
theorem dX7_read_174 : decode cX7_read 174 = .ok (.ireturn, 1) := by decide +kernel
theorem dX7_place_0 : decode cX7_place 0 = .ok (.aload_n 0, 1) := by decide +kernel
theorem dX7_place_1 : decode cX7_place 1 = .ok (.getfield 37, 3) := by decide +kernel
theorem dX7_place_4 : decode cX7_place 4 = .ok (.ireturn, 1) := by decide +kernel
theorem dX7_tellRule_0 : decode cX7_tellRule 0 = .ok (.aload_n 0, 1) := by decide +kernel
theorem dX7_tellRule_1 : decode cX7_tellRule 1 = .ok (.bipush 20, 2) := by decide +kernel
theorem dX7_tellRule_3 : decode cX7_tellRule 3 = .ok (.invokevirtual 218, 3) := by decide +kernel
theorem dX7_tellRule_6 : decode cX7_tellRule 6 = .ok (.ifCond .ne 20, 3) := by decide +kernel
theorem dX7_tellRule_9 : decode cX7_tellRule 9 = .ok (.aload_n 0, 1) := by decide +kernel
theorem dX7_tellRule_10 : decode cX7_tellRule 10 = .ok (.bipush 22, 2) := by decide +kernel
theorem dX7_tellRule_12 : decode cX7_tellRule 12 = .ok (.invokevirtual 218, 3) := by decide +kernel
theorem dX7_tellRule_15 : decode cX7_tellRule 15 = .ok (.ifCond .ne 11, 3) := by decide +kernel
theorem dX7_tellRule_18 : decode cX7_tellRule 18 = .ok (.aload_n 0, 1) := by decide +kernel
theorem dX7_tellRule_19 : decode cX7_tellRule 19 = .ok (.iconst 1, 1) := by decide +kernel
theorem dX7_tellRule_20 : decode cX7_tellRule 20 = .ok (.invokevirtual 215, 3) := by decide +kernel
theorem dX7_tellRule_23 : decode cX7_tellRule 23 = .ok (.goto 22, 3) := by decide +kernel
theorem dX7_tellRule_26 : decode cX7_tellRule 26 = .ok (.aload_n 0, 1) := by decide +kernel
theorem dX7_tellRule_27 : decode cX7_tellRule 27 = .ok (.getfield 40, 3) := by decide +kernel
theorem dX7_tellRule_30 : decode cX7_tellRule 30 = .ok (.aload_n 0, 1) := by decide +kernel
theorem dX7_tellRule_31 : decode cX7_tellRule 31 = .ok (.getfield 233, 3) := by decide +kernel
theorem dX7_tellRule_34 : decode cX7_tellRule 34 = .ok (.iaload, 1) := by decide +kernel
theorem dX7_tellRule_35 : decode cX7_tellRule 35 = .ok (.bipush 16, 2) := by decide +kernel
theorem dX7_tellRule_37 : decode cX7_tellRule 37 = .ok (.if_icmp .ne 8, 3) := by decide +kernel
theorem dX7_tellRule_40 : decode cX7_tellRule 40 = .ok (.aload_n 0, 1) := by decide +kernel
theorem dX7_tellRule_41 : decode cX7_tellRule 41 = .ok (.iconst 2, 1) := by decide +kernel
theorem dX7_tellRule_42 : decode cX7_tellRule 42 = .ok (.invokevirtual 215, 3) := by decide +kernel
theorem dX7_tellRule_45 : decode cX7_tellRule 45 = .ok (.aload_n 0, 1) := by decide +kernel
theorem dX7_tellRule_46 : decode cX7_tellRule 46 = .ok (.getfield 200, 3) := by decide +kernel
theorem dX7_tellRule_49 : decode cX7_tellRule 49 = .ok (.ifCond .le 4, 3) := by decide +kernel
theorem dX7_tellRule_52 : decode cX7_tellRule 52 = .ok (.return_, 1) := by decide +kernel
theorem dX7_tellRule_53 : decode cX7_tellRule 53 = .ok (.bipush 16, 2) := by decide +kernel
theorem dX7_tellRule_55 : decode cX7_tellRule 55 = .ok (.aload_n 0, 1) := by decide +kernel
theorem dX7_tellRule_56 : decode cX7_tellRule 56 = .ok (.getfield 233, 3) := by decide +kernel
theorem dX7_tellRule_59 : decode cX7_tellRule 59 = .ok (.imul, 1) := by decide +kernel
theorem dX7_tellRule_60 : decode cX7_tellRule 60 = .ok (.aload_n 0, 1) := by decide +kernel
theorem dX7_tellRule_61 : decode cX7_tellRule 61 = .ok (.getfield 40, 3) := by decide +kernel
theorem dX7_tellRule_64 : decode cX7_tellRule 64 = .ok (.aload_n 0, 1) := by decide +kernel
theorem dX7_tellRule_65 : decode cX7_tellRule 65 = .ok (.getfield 233, 3) := by decide +kernel
theorem dX7_tellRule_68 : decode cX7_tellRule 68 = .ok (.iaload, 1) := by decide +kernel
theorem dX7_tellRule_69 : decode cX7_tellRule 69 = .ok (.iadd, 1) := by decide +kernel
theorem dX7_tellRule_70 : decode cX7_tellRule 70 = .ok (.istore_n 1, 1) := by decide +kernel
theorem dX7_tellRule_71 : decode cX7_tellRule 71 = .ok (.aload_n 0, 1) := by decide +kernel
theorem dX7_tellRule_72 : decode cX7_tellRule 72 = .ok (.getfield 43, 3) := by decide +kernel
theorem dX7_tellRule_75 : decode cX7_tellRule 75 = .ok (.iload_n 1, 1) := by decide +kernel
theorem dX7_tellRule_76 : decode cX7_tellRule 76 = .ok (.aload_n 0, 1) := by decide +kernel
theorem dX7_tellRule_77 : decode cX7_tellRule 77 = .ok (.bipush 20, 2) := by decide +kernel
theorem dX7_tellRule_79 : decode cX7_tellRule 79 = .ok (.invokevirtual 218, 3) := by decide +kernel
theorem dX7_tellRule_82 : decode cX7_tellRule 82 = .ok (.ifCond .eq 7, 3) := by decide +kernel
theorem dX7_tellRule_85 : decode cX7_tellRule 85 = .ok (.iconst 0, 1) := by decide +kernel
theorem dX7_tellRule_86 : decode cX7_tellRule 86 = .ok (.goto 4, 3) := by decide +kernel
theorem dX7_tellRule_89 : decode cX7_tellRule 89 = .ok (.iconst 1, 1) := by decide +kernel
theorem dX7_tellRule_90 : decode cX7_tellRule 90 = .ok (.iastore, 1) := by decide +kernel
theorem dX7_tellRule_91 : decode cX7_tellRule 91 = .ok (.aload_n 0, 1) := by decide +kernel
theorem dX7_tellRule_92 : decode cX7_tellRule 92 = .ok (.invokevirtual 221, 3) := by decide +kernel
theorem dX7_tellRule_95 : decode cX7_tellRule 95 = .ok (.aload_n 0, 1) := by decide +kernel
theorem dX7_tellRule_96 : decode cX7_tellRule 96 = .ok (.getfield 46, 3) := by decide +kernel
theorem dX7_tellRule_99 : decode cX7_tellRule 99 = .ok (.iload_n 1, 1) := by decide +kernel
theorem dX7_tellRule_100 : decode cX7_tellRule 100 = .ok (.aload_n 0, 1) := by decide +kernel
theorem dX7_tellRule_101 : decode cX7_tellRule 101 = .ok (.getfield 236, 3) := by decide +kernel
theorem dX7_tellRule_104 : decode cX7_tellRule 104 = .ok (.iastore, 1) := by decide +kernel
theorem dX7_tellRule_105 : decode cX7_tellRule 105 = .ok (.aload_n 0, 1) := by decide +kernel
theorem dX7_tellRule_106 : decode cX7_tellRule 106 = .ok (.getfield 43, 3) := by decide +kernel
theorem dX7_tellRule_109 : decode cX7_tellRule 109 = .ok (.iload_n 1, 1) := by decide +kernel
theorem dX7_tellRule_110 : decode cX7_tellRule 110 = .ok (.iaload, 1) := by decide +kernel
theorem dX7_tellRule_111 : decode cX7_tellRule 111 = .ok (.iconst 1, 1) := by decide +kernel
theorem dX7_tellRule_112 : decode cX7_tellRule 112 = .ok (.if_icmp .ne 7, 3) := by decide +kernel
theorem dX7_tellRule_115 : decode cX7_tellRule 115 = .ok (.aload_n 0, 1) := by decide +kernel
theorem dX7_tellRule_116 : decode cX7_tellRule 116 = .ok (.invokevirtual 242, 3) := by decide +kernel
theorem dX7_tellRule_119 : decode cX7_tellRule 119 = .ok (.aload_n 0, 1) := by decide +kernel
theorem dX7_tellRule_120 : decode cX7_tellRule 120 = .ok (.getfield 49, 3) := by decide +kernel
theorem dX7_tellRule_123 : decode cX7_tellRule 123 = .ok (.iload_n 1, 1) := by decide +kernel
theorem dX7_tellRule_124 : decode cX7_tellRule 124 = .ok (.aload_n 0, 1) := by decide +kernel
theorem dX7_tellRule_125 : decode cX7_tellRule 125 = .ok (.getfield 236, 3) := by decide +kernel
theorem dX7_tellRule_128 : decode cX7_tellRule 128 = .ok (.iastore, 1) := by decide +kernel
theorem dX7_tellRule_129 : decode cX7_tellRule 129 = .ok (.aload_n 0, 1) := by decide +kernel
theorem dX7_tellRule_130 : decode cX7_tellRule 130 = .ok (.getfield 52, 3) := by decide +kernel
theorem dX7_tellRule_133 : decode cX7_tellRule 133 = .ok (.iload_n 1, 1) := by decide +kernel
theorem dX7_tellRule_134 : decode cX7_tellRule 134 = .ok (.aload_n 0, 1) := by decide +kernel
theorem dX7_tellRule_135 : decode cX7_tellRule 135 = .ok (.getfield 58, 3) := by decide +kernel
theorem dX7_tellRule_138 : decode cX7_tellRule 138 = .ok (.aload_n 0, 1) := by decide +kernel
theorem dX7_tellRule_139 : decode cX7_tellRule 139 = .ok (.getfield 233, 3) := by decide +kernel
theorem dX7_tellRule_142 : decode cX7_tellRule 142 = .ok (.iaload, 1) := by decide +kernel
theorem dX7_tellRule_143 : decode cX7_tellRule 143 = .ok (.iastore, 1) := by decide +kernel
theorem dX7_tellRule_144 : decode cX7_tellRule 144 = .ok (.aload_n 0, 1) := by decide +kernel
theorem dX7_tellRule_145 : decode cX7_tellRule 145 = .ok (.getfield 43, 3) := by decide +kernel
theorem dX7_tellRule_148 : decode cX7_tellRule 148 = .ok (.iload_n 1, 1) := by decide +kernel
theorem dX7_tellRule_149 : decode cX7_tellRule 149 = .ok (.iaload, 1) := by decide +kernel
theorem dX7_tellRule_150 : decode cX7_tellRule 150 = .ok (.ifCond .eq 12, 3) := by decide +kernel
theorem dX7_tellRule_153 : decode cX7_tellRule 153 = .ok (.aload_n 0, 1) := by decide +kernel
theorem dX7_tellRule_154 : decode cX7_tellRule 154 = .ok (.bipush 21, 2) := by decide +kernel
theorem dX7_tellRule_156 : decode cX7_tellRule 156 = .ok (.invokevirtual 218, 3) := by decide +kernel
theorem dX7_tellRule_159 : decode cX7_tellRule 159 = .ok (.ifCond .eq 7, 3) := by decide +kernel
theorem dX7_tellRule_162 : decode cX7_tellRule 162 = .ok (.iconst 1, 1) := by decide +kernel
theorem dX7_tellRule_163 : decode cX7_tellRule 163 = .ok (.goto 4, 3) := by decide +kernel
theorem dX7_tellRule_166 : decode cX7_tellRule 166 = .ok (.iconst 0, 1) := by decide +kernel
theorem dX7_tellRule_167 : decode cX7_tellRule 167 = .ok (.istore_n 2, 1) := by decide +kernel
theorem dX7_tellRule_168 : decode cX7_tellRule 168 = .ok (.iload_n 2, 1) := by decide +kernel
theorem dX7_tellRule_169 : decode cX7_tellRule 169 = .ok (.ifCond .eq 9, 3) := by decide +kernel
theorem dX7_tellRule_172 : decode cX7_tellRule 172 = .ok (.aload_n 0, 1) := by decide +kernel
theorem dX7_tellRule_173 : decode cX7_tellRule 173 = .ok (.bipush 21, 2) := by decide +kernel
theorem dX7_tellRule_175 : decode cX7_tellRule 175 = .ok (.invokevirtual 245, 3) := by decide +kernel
theorem dX7_tellRule_178 : decode cX7_tellRule 178 = .ok (.iconst 1, 1) := by decide +kernel
theorem dX7_tellRule_179 : decode cX7_tellRule 179 = .ok (.istore_n 3, 1) := by decide +kernel
theorem dX7_tellRule_180 : decode cX7_tellRule 180 = .ok (.iload_n 2, 1) := by decide +kernel
theorem dX7_tellRule_181 : decode cX7_tellRule 181 = .ok (.ifCond .eq 52, 3) := by decide +kernel
theorem dX7_tellRule_184 : decode cX7_tellRule 184 = .ok (.aload_n 0, 1) := by decide +kernel
theorem dX7_tellRule_185 : decode cX7_tellRule 185 = .ok (.getfield 200, 3) := by decide +kernel
theorem dX7_tellRule_188 : decode cX7_tellRule 188 = .ok (.ifCond .ne 45, 3) := by decide +kernel
theorem dX7_tellRule_191 : decode cX7_tellRule 191 = .ok (.aload_n 0, 1) := by decide +kernel
theorem dX7_tellRule_192 : decode cX7_tellRule 192 = .ok (.iload_n 3, 1) := by decide +kernel
theorem dX7_tellRule_193 : decode cX7_tellRule 193 = .ok (.invokevirtual 248, 3) := by decide +kernel
theorem dX7_tellRule_196 : decode cX7_tellRule 196 = .ok (.aload_n 0, 1) := by decide +kernel
theorem dX7_tellRule_197 : decode cX7_tellRule 197 = .ok (.bipush 23, 2) := by decide +kernel
theorem dX7_tellRule_199 : decode cX7_tellRule 199 = .ok (.invokevirtual 218, 3) := by decide +kernel
theorem dX7_tellRule_202 : decode cX7_tellRule 202 = .ok (.istore_n 3, 1) := by decide +kernel
theorem dX7_tellRule_203 : decode cX7_tellRule 203 = .ok (.iload_n 3, 1) := by decide +kernel
theorem dX7_tellRule_204 : decode cX7_tellRule 204 = .ok (.ifCond .ne 12, 3) := by decide +kernel
theorem dX7_tellRule_207 : decode cX7_tellRule 207 = .ok (.aload_n 0, 1) := by decide +kernel
theorem dX7_tellRule_208 : decode cX7_tellRule 208 = .ok (.bipush 24, 2) := by decide +kernel
theorem dX7_tellRule_210 : decode cX7_tellRule 210 = .ok (.invokevirtual 218, 3) := by decide +kernel
theorem dX7_tellRule_213 : decode cX7_tellRule 213 = .ok (.ifCond .eq 7, 3) := by decide +kernel
theorem dX7_tellRule_216 : decode cX7_tellRule 216 = .ok (.iconst 1, 1) := by decide +kernel
theorem dX7_tellRule_217 : decode cX7_tellRule 217 = .ok (.goto 4, 3) := by decide +kernel
theorem dX7_tellRule_220 : decode cX7_tellRule 220 = .ok (.iconst 0, 1) := by decide +kernel
theorem dX7_tellRule_221 : decode cX7_tellRule 221 = .ok (.istore_n 2, 1) := by decide +kernel
theorem dX7_tellRule_222 : decode cX7_tellRule 222 = .ok (.iload_n 2, 1) := by decide +kernel
theorem dX7_tellRule_223 : decode cX7_tellRule 223 = .ok (.ifCond .eq (-43), 3) := by decide +kernel
theorem dX7_tellRule_226 : decode cX7_tellRule 226 = .ok (.aload_n 0, 1) := by decide +kernel
theorem dX7_tellRule_227 : decode cX7_tellRule 227 = .ok (.invokevirtual 221, 3) := by decide +kernel
theorem dX7_tellRule_230 : decode cX7_tellRule 230 = .ok (.goto (-50), 3) := by decide +kernel
theorem dX7_tellRule_233 : decode cX7_tellRule 233 = .ok (.aload_n 0, 1) := by decide +kernel
theorem dX7_tellRule_234 : decode cX7_tellRule 234 = .ok (.iconst 4, 1) := by decide +kernel
theorem dX7_tellRule_235 : decode cX7_tellRule 235 = .ok (.invokevirtual 245, 3) := by decide +kernel
theorem dX7_tellRule_238 : decode cX7_tellRule 238 = .ok (.aload_n 0, 1) := by decide +kernel
theorem dX7_tellRule_239 : decode cX7_tellRule 239 = .ok (.getfield 200, 3) := by decide +kernel
theorem dX7_tellRule_242 : decode cX7_tellRule 242 = .ok (.ifCond .le 4, 3) := by decide +kernel
theorem dX7_tellRule_245 : decode cX7_tellRule 245 = .ok (.return_, 1) := by decide +kernel
theorem dX7_tellRule_246 : decode cX7_tellRule 246 = .ok (.aload_n 0, 1) := by decide +kernel
theorem dX7_tellRule_247 : decode cX7_tellRule 247 = .ok (.getfield 55, 3) := by decide +kernel
theorem dX7_tellRule_250 : decode cX7_tellRule 250 = .ok (.iload_n 1, 1) := by decide +kernel
theorem dX7_tellRule_251 : decode cX7_tellRule 251 = .ok (.aload_n 0, 1) := by decide +kernel
theorem dX7_tellRule_252 : decode cX7_tellRule 252 = .ok (.getfield 58, 3) := by decide +kernel
theorem dX7_tellRule_255 : decode cX7_tellRule 255 = .ok (.aload_n 0, 1) := by decide +kernel
theorem dX7_tellRule_256 : decode cX7_tellRule 256 = .ok (.getfield 233, 3) := by decide +kernel
theorem dX7_tellRule_259 : decode cX7_tellRule 259 = .ok (.iaload, 1) := by decide +kernel
theorem dX7_tellRule_260 : decode cX7_tellRule 260 = .ok (.iastore, 1) := by decide +kernel
theorem dX7_tellRule_261 : decode cX7_tellRule 261 = .ok (.aload_n 0, 1) := by decide +kernel
theorem dX7_tellRule_262 : decode cX7_tellRule 262 = .ok (.getfield 40, 3) := by decide +kernel
theorem dX7_tellRule_265 : decode cX7_tellRule 265 = .ok (.aload_n 0, 1) := by decide +kernel
theorem dX7_tellRule_266 : decode cX7_tellRule 266 = .ok (.getfield 233, 3) := by decide +kernel
theorem dX7_tellRule_269 : decode cX7_tellRule 269 = .ok (.dup2, 1) := by decide +kernel
theorem dX7_tellRule_270 : decode cX7_tellRule 270 = .ok (.iaload, 1) := by decide +kernel
theorem dX7_tellRule_271 : decode cX7_tellRule 271 = .ok (.iconst 1, 1) := by decide +kernel
theorem dX7_tellRule_272 : decode cX7_tellRule 272 = .ok (.iadd, 1) := by decide +kernel
theorem dX7_tellRule_273 : decode cX7_tellRule 273 = .ok (.iastore, 1) := by decide +kernel
theorem dX7_tellRule_274 : decode cX7_tellRule 274 = .ok (.return_, 1) := by decide +kernel
theorem dX7_relation_0 : decode cX7_relation 0 = .ok (.aload_n 0, 1) := by decide +kernel
theorem dX7_relation_1 : decode cX7_relation 1 = .ok (.getfield 236, 3) := by decide +kernel
theorem dX7_relation_4 : decode cX7_relation 4 = .ok (.istore_n 2, 1) := by decide +kernel
theorem dX7_relation_5 : decode cX7_relation 5 = .ok (.aload_n 0, 1) := by decide +kernel
theorem dX7_relation_6 : decode cX7_relation 6 = .ok (.invokevirtual 242, 3) := by decide +kernel
theorem dX7_relation_9 : decode cX7_relation 9 = .ok (.aload_n 0, 1) := by decide +kernel
theorem dX7_relation_10 : decode cX7_relation 10 = .ok (.getfield 200, 3) := by decide +kernel
theorem dX7_relation_13 : decode cX7_relation 13 = .ok (.ifCond .le 7, 3) := by decide +kernel
theorem dX7_relation_16 : decode cX7_relation 16 = .ok (.iconst 0, 1) := by decide +kernel
theorem dX7_relation_17 : decode cX7_relation 17 = .ok (.goto 15, 3) := by decide +kernel
theorem dX7_relation_20 : decode cX7_relation 20 = .ok (.aload_n 0, 1) := by decide +kernel
theorem dX7_relation_21 : decode cX7_relation 21 = .ok (.getfield 20, 3) := by decide +kernel
theorem dX7_relation_24 : decode cX7_relation 24 = .ok (.aload_n 0, 1) := by decide +kernel
theorem dX7_relation_25 : decode cX7_relation 25 = .ok (.getfield 203, 3) := by decide +kernel
theorem dX7_relation_28 : decode cX7_relation 28 = .ok (.iaload, 1) := by decide +kernel
theorem dX7_relation_29 : decode cX7_relation 29 = .ok (.bipush 11, 2) := by decide +kernel
theorem dX7_relation_31 : decode cX7_relation 31 = .ok (.isub, 1) := by decide +kernel
theorem dX7_relation_32 : decode cX7_relation 32 = .ok (.istore_n 3, 1) := by decide +kernel
theorem dX7_relation_33 : decode cX7_relation 33 = .ok (.aload_n 0, 1) := by decide +kernel
theorem dX7_relation_34 : decode cX7_relation 34 = .ok (.getfield 200, 3) := by decide +kernel
theorem dX7_relation_37 : decode cX7_relation 37 = .ok (.ifCond .ne 17, 3) := by decide +kernel
theorem dX7_relation_40 : decode cX7_relation 40 = .ok (.iload_n 3, 1) := by decide +kernel
theorem dX7_relation_41 : decode cX7_relation 41 = .ok (.ifCond .lt 8, 3) := by decide +kernel
theorem dX7_relation_44 : decode cX7_relation 44 = .ok (.iload_n 3, 1) := by decide +kernel
theorem dX7_relation_45 : decode cX7_relation 45 = .ok (.iconst 3, 1) := by decide +kernel
theorem dX7_relation_46 : decode cX7_relation 46 = .ok (.if_icmp .le 8, 3) := by decide +kernel
theorem dX7_relation_49 : decode cX7_relation 49 = .ok (.aload_n 0, 1) := by decide +kernel
theorem dX7_relation_50 : decode cX7_relation 50 = .ok (.iconst 1, 1) := by decide +kernel
theorem dX7_relation_51 : decode cX7_relation 51 = .ok (.invokevirtual 215, 3) := by decide +kernel
theorem dX7_relation_54 : decode cX7_relation 54 = .ok (.aload_n 0, 1) := by decide +kernel
theorem dX7_relation_55 : decode cX7_relation 55 = .ok (.invokevirtual 221, 3) := by decide +kernel
theorem dX7_relation_58 : decode cX7_relation 58 = .ok (.aload_n 0, 1) := by decide +kernel
theorem dX7_relation_59 : decode cX7_relation 59 = .ok (.getfield 236, 3) := by decide +kernel
theorem dX7_relation_62 : decode cX7_relation 62 = .ok (.istore 4, 2) := by decide +kernel
theorem dX7_relation_64 : decode cX7_relation 64 = .ok (.aload_n 0, 1) := by decide +kernel
theorem dX7_relation_65 : decode cX7_relation 65 = .ok (.invokevirtual 242, 3) := by decide +kernel
theorem dX7_relation_68 : decode cX7_relation 68 = .ok (.aload_n 0, 1) := by decide +kernel
theorem dX7_relation_69 : decode cX7_relation 69 = .ok (.getfield 200, 3) := by decide +kernel
theorem dX7_relation_72 : decode cX7_relation 72 = .ok (.ifCond .le 4, 3) := by decide +kernel
theorem dX7_relation_75 : decode cX7_relation 75 = .ok (.return_, 1) := by decide +kernel
theorem dX7_relation_76 : decode cX7_relation 76 = .ok (.sipush 200, 3) := by decide +kernel
theorem dX7_relation_79 : decode cX7_relation 79 = .ok (.aload_n 0, 1) := by decide +kernel
theorem dX7_relation_80 : decode cX7_relation 80 = .ok (.getfield 233, 3) := by decide +kernel
theorem dX7_relation_83 : decode cX7_relation 83 = .ok (.imul, 1) := by decide +kernel
theorem dX7_relation_84 : decode cX7_relation 84 = .ok (.aload_n 0, 1) := by decide +kernel
theorem dX7_relation_85 : decode cX7_relation 85 = .ok (.getfield 58, 3) := by decide +kernel
theorem dX7_relation_88 : decode cX7_relation 88 = .ok (.aload_n 0, 1) := by decide +kernel
theorem dX7_relation_89 : decode cX7_relation 89 = .ok (.getfield 233, 3) := by decide +kernel
theorem dX7_relation_92 : decode cX7_relation 92 = .ok (.iaload, 1) := by decide +kernel
theorem dX7_relation_93 : decode cX7_relation 93 = .ok (.iadd, 1) := by decide +kernel
theorem dX7_relation_94 : decode cX7_relation 94 = .ok (.istore 5, 2) := by decide +kernel
theorem dX7_relation_96 : decode cX7_relation 96 = .ok (.aload_n 0, 1) := by decide +kernel
theorem dX7_relation_97 : decode cX7_relation 97 = .ok (.getfield 61, 3) := by decide +kernel
theorem dX7_relation_100 : decode cX7_relation 100 = .ok (.iload 5, 2) := by decide +kernel
theorem dX7_relation_102 : decode cX7_relation 102 = .ok (.iload_n 3, 1) := by decide +kernel
theorem dX7_relation_103 : decode cX7_relation 103 = .ok (.iastore, 1) := by decide +kernel
theorem dX7_relation_104 : decode cX7_relation 104 = .ok (.aload_n 0, 1) := by decide +kernel
theorem dX7_relation_105 : decode cX7_relation 105 = .ok (.getfield 64, 3) := by decide +kernel
theorem dX7_relation_108 : decode cX7_relation 108 = .ok (.iload 5, 2) := by decide +kernel
theorem dX7_relation_110 : decode cX7_relation 110 = .ok (.iload_n 2, 1) := by decide +kernel
theorem dX7_relation_111 : decode cX7_relation 111 = .ok (.iastore, 1) := by decide +kernel
theorem dX7_relation_112 : decode cX7_relation 112 = .ok (.aload_n 0, 1) := by decide +kernel
theorem dX7_relation_113 : decode cX7_relation 113 = .ok (.getfield 67, 3) := by decide +kernel
theorem dX7_relation_116 : decode cX7_relation 116 = .ok (.iload 5, 2) := by decide +kernel
theorem dX7_relation_118 : decode cX7_relation 118 = .ok (.iload 4, 2) := by decide +kernel
theorem dX7_relation_120 : decode cX7_relation 120 = .ok (.iastore, 1) := by decide +kernel
theorem dX7_relation_121 : decode cX7_relation 121 = .ok (.aload_n 0, 1) := by decide +kernel
theorem dX7_relation_122 : decode cX7_relation 122 = .ok (.getfield 70, 3) := by decide +kernel
theorem dX7_relation_125 : decode cX7_relation 125 = .ok (.iload 5, 2) := by decide +kernel
theorem dX7_relation_127 : decode cX7_relation 127 = .ok (.aload_n 0, 1) := by decide +kernel
theorem dX7_relation_128 : decode cX7_relation 128 = .ok (.getfield 236, 3) := by decide +kernel
theorem dX7_relation_131 : decode cX7_relation 131 = .ok (.iastore, 1) := by decide +kernel
theorem dX7_relation_132 : decode cX7_relation 132 = .ok (.aload_n 0, 1) := by decide +kernel
theorem dX7_relation_133 : decode cX7_relation 133 = .ok (.getfield 73, 3) := by decide +kernel
theorem dX7_relation_136 : decode cX7_relation 136 = .ok (.iload 5, 2) := by decide +kernel
theorem dX7_relation_138 : decode cX7_relation 138 = .ok (.iload_n 1, 1) := by decide +kernel
theorem dX7_relation_139 : decode cX7_relation 139 = .ok (.bastore, 1) := by decide +kernel
theorem dX7_relation_140 : decode cX7_relation 140 = .ok (.aload_n 0, 1) := by decide +kernel
theorem dX7_relation_141 : decode cX7_relation 141 = .ok (.getfield 58, 3) := by decide +kernel
theorem dX7_relation_144 : decode cX7_relation 144 = .ok (.aload_n 0, 1) := by decide +kernel
theorem dX7_relation_145 : decode cX7_relation 145 = .ok (.getfield 233, 3) := by decide +kernel
theorem dX7_relation_148 : decode cX7_relation 148 = .ok (.dup2, 1) := by decide +kernel
theorem dX7_relation_149 : decode cX7_relation 149 = .ok (.iaload, 1) := by decide +kernel
theorem dX7_relation_150 : decode cX7_relation 150 = .ok (.iconst 1, 1) := by decide +kernel
theorem dX7_relation_151 : decode cX7_relation 151 = .ok (.iadd, 1) := by decide +kernel
theorem dX7_relation_152 : decode cX7_relation 152 = .ok (.iastore, 1) := by decide +kernel
theorem dX7_relation_153 : decode cX7_relation 153 = .ok (.return_, 1) := by decide +kernel
theorem dX7_emit_0 : decode cX7_emit 0 = .ok (.aload_n 0, 1) := by decide +kernel
theorem dX7_emit_1 : decode cX7_emit 1 = .ok (.getfield 77, 3) := by decide +kernel
theorem dX7_emit_4 : decode cX7_emit 4 = .ok (.aload_n 0, 1) := by decide +kernel
theorem dX7_emit_5 : decode cX7_emit 5 = .ok (.getfield 236, 3) := by decide +kernel
theorem dX7_emit_8 : decode cX7_emit 8 = .ok (.iload_n 1, 1) := by decide +kernel
theorem dX7_emit_9 : decode cX7_emit 9 = .ok (.iastore, 1) := by decide +kernel
theorem dX7_emit_10 : decode cX7_emit 10 = .ok (.aload_n 0, 1) := by decide +kernel
theorem dX7_emit_11 : decode cX7_emit 11 = .ok (.getfield 80, 3) := by decide +kernel
theorem dX7_emit_14 : decode cX7_emit 14 = .ok (.aload_n 0, 1) := by decide +kernel
theorem dX7_emit_15 : decode cX7_emit 15 = .ok (.getfield 236, 3) := by decide +kernel
theorem dX7_emit_18 : decode cX7_emit 18 = .ok (.iload_n 2, 1) := by decide +kernel
theorem dX7_emit_19 : decode cX7_emit 19 = .ok (.iastore, 1) := by decide +kernel
theorem dX7_emit_20 : decode cX7_emit 20 = .ok (.aload_n 0, 1) := by decide +kernel
theorem dX7_emit_21 : decode cX7_emit 21 = .ok (.dup, 1) := by decide +kernel
theorem dX7_emit_22 : decode cX7_emit 22 = .ok (.getfield 236, 3) := by decide +kernel
theorem dX7_emit_25 : decode cX7_emit 25 = .ok (.iconst 1, 1) := by decide +kernel
theorem dX7_emit_26 : decode cX7_emit 26 = .ok (.iadd, 1) := by decide +kernel
theorem dX7_emit_27 : decode cX7_emit 27 = .ok (.putfield 236, 3) := by decide +kernel
theorem dX7_emit_30 : decode cX7_emit 30 = .ok (.return_, 1) := by decide +kernel
theorem dX7_comesOut_0 : decode cX7_comesOut 0 = .ok (.aload_n 0, 1) := by decide +kernel
theorem dX7_comesOut_1 : decode cX7_comesOut 1 = .ok (.getfield 252, 3) := by decide +kernel
theorem dX7_comesOut_4 : decode cX7_comesOut 4 = .ok (.ifCond .le 88, 3) := by decide +kernel
theorem dX7_comesOut_7 : decode cX7_comesOut 7 = .ok (.aload_n 0, 1) := by decide +kernel
theorem dX7_comesOut_8 : decode cX7_comesOut 8 = .ok (.getfield 83, 3) := by decide +kernel
theorem dX7_comesOut_11 : decode cX7_comesOut 11 = .ok (.aload_n 0, 1) := by decide +kernel
theorem dX7_comesOut_12 : decode cX7_comesOut 12 = .ok (.getfield 252, 3) := by decide +kernel
theorem dX7_comesOut_15 : decode cX7_comesOut 15 = .ok (.iconst 1, 1) := by decide +kernel
theorem dX7_comesOut_16 : decode cX7_comesOut 16 = .ok (.isub, 1) := by decide +kernel
theorem dX7_comesOut_17 : decode cX7_comesOut 17 = .ok (.iaload, 1) := by decide +kernel
theorem dX7_comesOut_18 : decode cX7_comesOut 18 = .ok (.bipush 6, 2) := by decide +kernel
theorem dX7_comesOut_20 : decode cX7_comesOut 20 = .ok (.if_icmp .eq 72, 3) := by decide +kernel
theorem dX7_comesOut_23 : decode cX7_comesOut 23 = .ok (.iload_n 1, 1) := by decide +kernel
theorem dX7_comesOut_24 : decode cX7_comesOut 24 = .ok (.ifCond .eq 19, 3) := by decide +kernel
theorem dX7_comesOut_27 : decode cX7_comesOut 27 = .ok (.aload_n 0, 1) := by decide +kernel
theorem dX7_comesOut_28 : decode cX7_comesOut 28 = .ok (.getfield 83, 3) := by decide +kernel
theorem dX7_comesOut_31 : decode cX7_comesOut 31 = .ok (.aload_n 0, 1) := by decide +kernel
theorem dX7_comesOut_32 : decode cX7_comesOut 32 = .ok (.getfield 252, 3) := by decide +kernel
theorem dX7_comesOut_35 : decode cX7_comesOut 35 = .ok (.iconst 1, 1) := by decide +kernel
theorem dX7_comesOut_36 : decode cX7_comesOut 36 = .ok (.isub, 1) := by decide +kernel
theorem dX7_comesOut_37 : decode cX7_comesOut 37 = .ok (.iaload, 1) := by decide +kernel
theorem dX7_comesOut_38 : decode cX7_comesOut 38 = .ok (.bipush 10, 2) := by decide +kernel
theorem dX7_comesOut_40 : decode cX7_comesOut 40 = .ok (.if_icmp .ne 52, 3) := by decide +kernel
theorem dX7_comesOut_43 : decode cX7_comesOut 43 = .ok (.aload_n 0, 1) := by decide +kernel
theorem dX7_comesOut_44 : decode cX7_comesOut 44 = .ok (.dup, 1) := by decide +kernel
theorem dX7_comesOut_45 : decode cX7_comesOut 45 = .ok (.getfield 252, 3) := by decide +kernel
theorem dX7_comesOut_48 : decode cX7_comesOut 48 = .ok (.iconst 1, 1) := by decide +kernel
theorem dX7_comesOut_49 : decode cX7_comesOut 49 = .ok (.isub, 1) := by decide +kernel
theorem dX7_comesOut_50 : decode cX7_comesOut 50 = .ok (.putfield 252, 3) := by decide +kernel
theorem dX7_comesOut_53 : decode cX7_comesOut 53 = .ok (.aload_n 0, 1) := by decide +kernel
theorem dX7_comesOut_54 : decode cX7_comesOut 54 = .ok (.getfield 83, 3) := by decide +kernel
theorem dX7_comesOut_57 : decode cX7_comesOut 57 = .ok (.aload_n 0, 1) := by decide +kernel
theorem dX7_comesOut_58 : decode cX7_comesOut 58 = .ok (.getfield 252, 3) := by decide +kernel
theorem dX7_comesOut_61 : decode cX7_comesOut 61 = .ok (.iaload, 1) := by decide +kernel
theorem dX7_comesOut_62 : decode cX7_comesOut 62 = .ok (.istore_n 2, 1) := by decide +kernel
theorem dX7_comesOut_63 : decode cX7_comesOut 63 = .ok (.aload_n 0, 1) := by decide +kernel
theorem dX7_comesOut_64 : decode cX7_comesOut 64 = .ok (.iload_n 2, 1) := by decide +kernel
theorem dX7_comesOut_65 : decode cX7_comesOut 65 = .ok (.bipush 8, 2) := by decide +kernel
theorem dX7_comesOut_67 : decode cX7_comesOut 67 = .ok (.if_icmp .ne 7, 3) := by decide +kernel
theorem dX7_comesOut_70 : decode cX7_comesOut 70 = .ok (.iconst 2, 1) := by decide +kernel
theorem dX7_comesOut_71 : decode cX7_comesOut 71 = .ok (.goto 14, 3) := by decide +kernel
theorem dX7_comesOut_74 : decode cX7_comesOut 74 = .ok (.iload_n 2, 1) := by decide +kernel
theorem dX7_comesOut_75 : decode cX7_comesOut 75 = .ok (.bipush 9, 2) := by decide +kernel
theorem dX7_comesOut_77 : decode cX7_comesOut 77 = .ok (.if_icmp .ne 7, 3) := by decide +kernel
theorem dX7_comesOut_80 : decode cX7_comesOut 80 = .ok (.iconst 3, 1) := by decide +kernel
theorem dX7_comesOut_81 : decode cX7_comesOut 81 = .ok (.goto 4, 3) := by decide +kernel
theorem dX7_comesOut_84 : decode cX7_comesOut 84 = .ok (.iconst 4, 1) := by decide +kernel
theorem dX7_comesOut_85 : decode cX7_comesOut 85 = .ok (.iconst 0, 1) := by decide +kernel
theorem dX7_comesOut_86 : decode cX7_comesOut 86 = .ok (.invokevirtual 255, 3) := by decide +kernel
theorem dX7_comesOut_89 : decode cX7_comesOut 89 = .ok (.goto (-89), 3) := by decide +kernel
theorem dX7_comesOut_92 : decode cX7_comesOut 92 = .ok (.return_, 1) := by decide +kernel
theorem dX7_expression_0 : decode cX7_expression 0 = .ok (.aload_n 0, 1) := by decide +kernel
theorem dX7_expression_1 : decode cX7_expression 1 = .ok (.iconst 0, 1) := by decide +kernel
theorem dX7_expression_2 : decode cX7_expression 2 = .ok (.putfield 252, 3) := by decide +kernel
theorem dX7_expression_5 : decode cX7_expression 5 = .ok (.aload_n 0, 1) := by decide +kernel
theorem dX7_expression_6 : decode cX7_expression 6 = .ok (.getfield 227, 3) := by decide +kernel
theorem dX7_expression_9 : decode cX7_expression 9 = .ok (.istore_n 1, 1) := by decide +kernel
theorem dX7_expression_10 : decode cX7_expression 10 = .ok (.iconst 1, 1) := by decide +kernel
theorem dX7_expression_11 : decode cX7_expression 11 = .ok (.istore_n 2, 1) := by decide +kernel
theorem dX7_expression_12 : decode cX7_expression 12 = .ok (.iload_n 2, 1) := by decide +kernel
theorem dX7_expression_13 : decode cX7_expression 13 = .ok (.ifCond .eq 347, 3) := by decide +kernel
theorem dX7_expression_16 : decode cX7_expression 16 = .ok (.aload_n 0, 1) := by decide +kernel
theorem dX7_expression_17 : decode cX7_expression 17 = .ok (.getfield 200, 3) := by decide +kernel
theorem dX7_expression_20 : decode cX7_expression 20 = .ok (.ifCond .ne 340, 3) := by decide +kernel
theorem dX7_expression_23 : decode cX7_expression 23 = .ok (.aload_n 0, 1) := by decide +kernel
theorem dX7_expression_24 : decode cX7_expression 24 = .ok (.bipush 6, 2) := by decide +kernel
theorem dX7_expression_26 : decode cX7_expression 26 = .ok (.invokevirtual 218, 3) := by decide +kernel
theorem dX7_expression_29 : decode cX7_expression 29 = .ok (.ifCond .eq 63, 3) := by decide +kernel
theorem dX7_expression_32 : decode cX7_expression 32 = .ok (.aload_n 0, 1) := by decide +kernel
theorem dX7_expression_33 : decode cX7_expression 33 = .ok (.getfield 227, 3) := by decide +kernel
theorem dX7_expression_36 : decode cX7_expression 36 = .ok (.bipush 6, 2) := by decide +kernel
theorem dX7_expression_38 : decode cX7_expression 38 = .ok (.if_icmp .ne 8, 3) := by decide +kernel
theorem dX7_expression_41 : decode cX7_expression 41 = .ok (.aload_n 0, 1) := by decide +kernel
theorem dX7_expression_42 : decode cX7_expression 42 = .ok (.iconst 2, 1) := by decide +kernel
theorem dX7_expression_43 : decode cX7_expression 43 = .ok (.invokevirtual 215, 3) := by decide +kernel
theorem dX7_expression_46 : decode cX7_expression 46 = .ok (.aload_n 0, 1) := by decide +kernel
theorem dX7_expression_47 : decode cX7_expression 47 = .ok (.getfield 200, 3) := by decide +kernel
theorem dX7_expression_50 : decode cX7_expression 50 = .ok (.ifCond .le 4, 3) := by decide +kernel
theorem dX7_expression_53 : decode cX7_expression 53 = .ok (.return_, 1) := by decide +kernel
theorem dX7_expression_54 : decode cX7_expression 54 = .ok (.aload_n 0, 1) := by decide +kernel
theorem dX7_expression_55 : decode cX7_expression 55 = .ok (.dup, 1) := by decide +kernel
theorem dX7_expression_56 : decode cX7_expression 56 = .ok (.getfield 227, 3) := by decide +kernel
theorem dX7_expression_59 : decode cX7_expression 59 = .ok (.iconst 1, 1) := by decide +kernel
theorem dX7_expression_60 : decode cX7_expression 60 = .ok (.iadd, 1) := by decide +kernel
theorem dX7_expression_61 : decode cX7_expression 61 = .ok (.putfield 227, 3) := by decide +kernel
theorem dX7_expression_64 : decode cX7_expression 64 = .ok (.aload_n 0, 1) := by decide +kernel
theorem dX7_expression_65 : decode cX7_expression 65 = .ok (.invokevirtual 221, 3) := by decide +kernel
theorem dX7_expression_68 : decode cX7_expression 68 = .ok (.aload_n 0, 1) := by decide +kernel
theorem dX7_expression_69 : decode cX7_expression 69 = .ok (.getfield 83, 3) := by decide +kernel
theorem dX7_expression_72 : decode cX7_expression 72 = .ok (.aload_n 0, 1) := by decide +kernel
theorem dX7_expression_73 : decode cX7_expression 73 = .ok (.getfield 252, 3) := by decide +kernel
theorem dX7_expression_76 : decode cX7_expression 76 = .ok (.bipush 6, 2) := by decide +kernel
theorem dX7_expression_78 : decode cX7_expression 78 = .ok (.iastore, 1) := by decide +kernel
theorem dX7_expression_79 : decode cX7_expression 79 = .ok (.aload_n 0, 1) := by decide +kernel
theorem dX7_expression_80 : decode cX7_expression 80 = .ok (.dup, 1) := by decide +kernel
theorem dX7_expression_81 : decode cX7_expression 81 = .ok (.getfield 252, 3) := by decide +kernel
theorem dX7_expression_84 : decode cX7_expression 84 = .ok (.iconst 1, 1) := by decide +kernel
theorem dX7_expression_85 : decode cX7_expression 85 = .ok (.iadd, 1) := by decide +kernel
theorem dX7_expression_86 : decode cX7_expression 86 = .ok (.putfield 252, 3) := by decide +kernel
theorem dX7_expression_89 : decode cX7_expression 89 = .ok (.goto (-77), 3) := by decide +kernel
theorem dX7_expression_92 : decode cX7_expression 92 = .ok (.aload_n 0, 1) := by decide +kernel
theorem dX7_expression_93 : decode cX7_expression 93 = .ok (.getfield 200, 3) := by decide +kernel
theorem dX7_expression_96 : decode cX7_expression 96 = .ok (.ifCond .ne 35, 3) := by decide +kernel
theorem dX7_expression_99 : decode cX7_expression 99 = .ok (.aload_n 0, 1) := by decide +kernel
theorem dX7_expression_100 : decode cX7_expression 100 = .ok (.getfield 20, 3) := by decide +kernel
theorem dX7_expression_103 : decode cX7_expression 103 = .ok (.aload_n 0, 1) := by decide +kernel
theorem dX7_expression_104 : decode cX7_expression 104 = .ok (.getfield 203, 3) := by decide +kernel
theorem dX7_expression_107 : decode cX7_expression 107 = .ok (.iaload, 1) := by decide +kernel
theorem dX7_expression_108 : decode cX7_expression 108 = .ok (.bipush 25, 2) := by decide +kernel
theorem dX7_expression_110 : decode cX7_expression 110 = .ok (.if_icmp .lt 21, 3) := by decide +kernel
theorem dX7_expression_113 : decode cX7_expression 113 = .ok (.aload_n 0, 1) := by decide +kernel
theorem dX7_expression_114 : decode cX7_expression 114 = .ok (.getfield 20, 3) := by decide +kernel
theorem dX7_expression_117 : decode cX7_expression 117 = .ok (.aload_n 0, 1) := by decide +kernel
theorem dX7_expression_118 : decode cX7_expression 118 = .ok (.getfield 203, 3) := by decide +kernel
theorem dX7_expression_121 : decode cX7_expression 121 = .ok (.iaload, 1) := by decide +kernel
theorem dX7_expression_122 : decode cX7_expression 122 = .ok (.bipush 33, 2) := by decide +kernel
theorem dX7_expression_124 : decode cX7_expression 124 = .ok (.if_icmp .gt 7, 3) := by decide +kernel
theorem dX7_expression_127 : decode cX7_expression 127 = .ok (.iconst 1, 1) := by decide +kernel
theorem dX7_expression_128 : decode cX7_expression 128 = .ok (.goto 4, 3) := by decide +kernel
theorem dX7_expression_131 : decode cX7_expression 131 = .ok (.iconst 0, 1) := by decide +kernel
theorem dX7_expression_132 : decode cX7_expression 132 = .ok (.istore_n 3, 1) := by decide +kernel
theorem dX7_expression_133 : decode cX7_expression 133 = .ok (.aload_n 0, 1) := by decide +kernel
theorem dX7_expression_134 : decode cX7_expression 134 = .ok (.iconst 2, 1) := by decide +kernel
theorem dX7_expression_135 : decode cX7_expression 135 = .ok (.invokevirtual 218, 3) := by decide +kernel
theorem dX7_expression_138 : decode cX7_expression 138 = .ok (.ifCond .ne 12, 3) := by decide +kernel
theorem dX7_expression_141 : decode cX7_expression 141 = .ok (.iload_n 3, 1) := by decide +kernel
theorem dX7_expression_142 : decode cX7_expression 142 = .ok (.ifCond .ne 8, 3) := by decide +kernel
theorem dX7_expression_145 : decode cX7_expression 145 = .ok (.aload_n 0, 1) := by decide +kernel
theorem dX7_expression_146 : decode cX7_expression 146 = .ok (.iconst 1, 1) := by decide +kernel
theorem dX7_expression_147 : decode cX7_expression 147 = .ok (.invokevirtual 215, 3) := by decide +kernel
theorem dX7_expression_150 : decode cX7_expression 150 = .ok (.aload_n 0, 1) := by decide +kernel
theorem dX7_expression_151 : decode cX7_expression 151 = .ok (.getfield 200, 3) := by decide +kernel
theorem dX7_expression_154 : decode cX7_expression 154 = .ok (.ifCond .le 4, 3) := by decide +kernel
theorem dX7_expression_157 : decode cX7_expression 157 = .ok (.return_, 1) := by decide +kernel
theorem dX7_expression_158 : decode cX7_expression 158 = .ok (.iload_n 3, 1) := by decide +kernel
theorem dX7_expression_159 : decode cX7_expression 159 = .ok (.ifCond .eq 23, 3) := by decide +kernel
theorem dX7_expression_162 : decode cX7_expression 162 = .ok (.aload_n 0, 1) := by decide +kernel
theorem dX7_expression_163 : decode cX7_expression 163 = .ok (.iconst 1, 1) := by decide +kernel
theorem dX7_expression_164 : decode cX7_expression 164 = .ok (.aload_n 0, 1) := by decide +kernel
theorem dX7_expression_165 : decode cX7_expression 165 = .ok (.getfield 20, 3) := by decide +kernel
theorem dX7_expression_168 : decode cX7_expression 168 = .ok (.aload_n 0, 1) := by decide +kernel
theorem dX7_expression_169 : decode cX7_expression 169 = .ok (.getfield 203, 3) := by decide +kernel
theorem dX7_expression_172 : decode cX7_expression 172 = .ok (.iaload, 1) := by decide +kernel
theorem dX7_expression_173 : decode cX7_expression 173 = .ok (.bipush 25, 2) := by decide +kernel
theorem dX7_expression_175 : decode cX7_expression 175 = .ok (.isub, 1) := by decide +kernel
theorem dX7_expression_176 : decode cX7_expression 176 = .ok (.invokevirtual 255, 3) := by decide +kernel
theorem dX7_expression_179 : decode cX7_expression 179 = .ok (.goto 17, 3) := by decide +kernel
theorem dX7_expression_182 : decode cX7_expression 182 = .ok (.aload_n 0, 1) := by decide +kernel
theorem dX7_expression_183 : decode cX7_expression 183 = .ok (.iconst 0, 1) := by decide +kernel
theorem dX7_expression_184 : decode cX7_expression 184 = .ok (.aload_n 0, 1) := by decide +kernel
theorem dX7_expression_185 : decode cX7_expression 185 = .ok (.getfield 27, 3) := by decide +kernel
theorem dX7_expression_188 : decode cX7_expression 188 = .ok (.aload_n 0, 1) := by decide +kernel
theorem dX7_expression_189 : decode cX7_expression 189 = .ok (.getfield 203, 3) := by decide +kernel
theorem dX7_expression_192 : decode cX7_expression 192 = .ok (.iaload, 1) := by decide +kernel
theorem dX7_expression_193 : decode cX7_expression 193 = .ok (.invokevirtual 255, 3) := by decide +kernel
theorem dX7_expression_196 : decode cX7_expression 196 = .ok (.aload_n 0, 1) := by decide +kernel
theorem dX7_expression_197 : decode cX7_expression 197 = .ok (.invokevirtual 221, 3) := by decide +kernel
theorem dX7_expression_200 : decode cX7_expression 200 = .ok (.aload_n 0, 1) := by decide +kernel
theorem dX7_expression_201 : decode cX7_expression 201 = .ok (.bipush 7, 2) := by decide +kernel
theorem dX7_expression_203 : decode cX7_expression 203 = .ok (.invokevirtual 218, 3) := by decide +kernel
theorem dX7_expression_206 : decode cX7_expression 206 = .ok (.ifCond .eq 43, 3) := by decide +kernel
theorem dX7_expression_209 : decode cX7_expression 209 = .ok (.aload_n 0, 1) := by decide +kernel
theorem dX7_expression_210 : decode cX7_expression 210 = .ok (.getfield 227, 3) := by decide +kernel
theorem dX7_expression_213 : decode cX7_expression 213 = .ok (.iload_n 1, 1) := by decide +kernel
theorem dX7_expression_214 : decode cX7_expression 214 = .ok (.if_icmp .le 35, 3) := by decide +kernel
theorem dX7_expression_217 : decode cX7_expression 217 = .ok (.aload_n 0, 1) := by decide +kernel
theorem dX7_expression_218 : decode cX7_expression 218 = .ok (.iconst 0, 1) := by decide +kernel
theorem dX7_expression_219 : decode cX7_expression 219 = .ok (.invokevirtual 259, 3) := by decide +kernel
theorem dX7_expression_222 : decode cX7_expression 222 = .ok (.aload_n 0, 1) := by decide +kernel
theorem dX7_expression_223 : decode cX7_expression 223 = .ok (.dup, 1) := by decide +kernel
theorem dX7_expression_224 : decode cX7_expression 224 = .ok (.getfield 252, 3) := by decide +kernel
theorem dX7_expression_227 : decode cX7_expression 227 = .ok (.iconst 1, 1) := by decide +kernel
theorem dX7_expression_228 : decode cX7_expression 228 = .ok (.isub, 1) := by decide +kernel
theorem dX7_expression_229 : decode cX7_expression 229 = .ok (.putfield 252, 3) := by decide +kernel
theorem dX7_expression_232 : decode cX7_expression 232 = .ok (.aload_n 0, 1) := by decide +kernel
theorem dX7_expression_233 : decode cX7_expression 233 = .ok (.dup, 1) := by decide +kernel
theorem dX7_expression_234 : decode cX7_expression 234 = .ok (.getfield 227, 3) := by decide +kernel
theorem dX7_expression_237 : decode cX7_expression 237 = .ok (.iconst 1, 1) := by decide +kernel
theorem dX7_expression_238 : decode cX7_expression 238 = .ok (.isub, 1) := by decide +kernel
theorem dX7_expression_239 : decode cX7_expression 239 = .ok (.putfield 227, 3) := by decide +kernel
theorem dX7_expression_242 : decode cX7_expression 242 = .ok (.aload_n 0, 1) := by decide +kernel
theorem dX7_expression_243 : decode cX7_expression 243 = .ok (.invokevirtual 221, 3) := by decide +kernel
theorem dX7_expression_246 : decode cX7_expression 246 = .ok (.goto (-46), 3) := by decide +kernel
theorem dX7_expression_249 : decode cX7_expression 249 = .ok (.aload_n 0, 1) := by decide +kernel
theorem dX7_expression_250 : decode cX7_expression 250 = .ok (.bipush 8, 2) := by decide +kernel
theorem dX7_expression_252 : decode cX7_expression 252 = .ok (.invokevirtual 218, 3) := by decide +kernel
theorem dX7_expression_255 : decode cX7_expression 255 = .ok (.ifCond .ne 21, 3) := by decide +kernel
theorem dX7_expression_258 : decode cX7_expression 258 = .ok (.aload_n 0, 1) := by decide +kernel
theorem dX7_expression_259 : decode cX7_expression 259 = .ok (.bipush 9, 2) := by decide +kernel
theorem dX7_expression_261 : decode cX7_expression 261 = .ok (.invokevirtual 218, 3) := by decide +kernel
theorem dX7_expression_264 : decode cX7_expression 264 = .ok (.ifCond .ne 12, 3) := by decide +kernel
theorem dX7_expression_267 : decode cX7_expression 267 = .ok (.aload_n 0, 1) := by decide +kernel
theorem dX7_expression_268 : decode cX7_expression 268 = .ok (.bipush 10, 2) := by decide +kernel
theorem dX7_expression_270 : decode cX7_expression 270 = .ok (.invokevirtual 218, 3) := by decide +kernel
theorem dX7_expression_273 : decode cX7_expression 273 = .ok (.ifCond .eq 7, 3) := by decide +kernel
theorem dX7_expression_276 : decode cX7_expression 276 = .ok (.iconst 1, 1) := by decide +kernel
theorem dX7_expression_277 : decode cX7_expression 277 = .ok (.goto 4, 3) := by decide +kernel
theorem dX7_expression_280 : decode cX7_expression 280 = .ok (.iconst 0, 1) := by decide +kernel
theorem dX7_expression_281 : decode cX7_expression 281 = .ok (.istore_n 2, 1) := by decide +kernel
theorem dX7_expression_282 : decode cX7_expression 282 = .ok (.iload_n 2, 1) := by decide +kernel
theorem dX7_expression_283 : decode cX7_expression 283 = .ok (.ifCond .ne 22, 3) := by decide +kernel
theorem dX7_expression_286 : decode cX7_expression 286 = .ok (.aload_n 0, 1) := by decide +kernel
theorem dX7_expression_287 : decode cX7_expression 287 = .ok (.getfield 227, 3) := by decide +kernel
theorem dX7_expression_290 : decode cX7_expression 290 = .ok (.iload_n 1, 1) := by decide +kernel
theorem dX7_expression_291 : decode cX7_expression 291 = .ok (.if_icmp .le 8, 3) := by decide +kernel
theorem dX7_expression_294 : decode cX7_expression 294 = .ok (.aload_n 0, 1) := by decide +kernel
theorem dX7_expression_295 : decode cX7_expression 295 = .ok (.iconst 1, 1) := by decide +kernel
theorem dX7_expression_296 : decode cX7_expression 296 = .ok (.invokevirtual 215, 3) := by decide +kernel
theorem dX7_expression_299 : decode cX7_expression 299 = .ok (.aload_n 0, 1) := by decide +kernel
theorem dX7_expression_300 : decode cX7_expression 300 = .ok (.iconst 0, 1) := by decide +kernel
theorem dX7_expression_301 : decode cX7_expression 301 = .ok (.invokevirtual 259, 3) := by decide +kernel
theorem dX7_expression_304 : decode cX7_expression 304 = .ok (.return_, 1) := by decide +kernel
theorem dX7_expression_305 : decode cX7_expression 305 = .ok (.aload_n 0, 1) := by decide +kernel
theorem dX7_expression_306 : decode cX7_expression 306 = .ok (.getfield 20, 3) := by decide +kernel
theorem dX7_expression_309 : decode cX7_expression 309 = .ok (.aload_n 0, 1) := by decide +kernel
theorem dX7_expression_310 : decode cX7_expression 310 = .ok (.getfield 203, 3) := by decide +kernel
theorem dX7_expression_313 : decode cX7_expression 313 = .ok (.iaload, 1) := by decide +kernel
theorem dX7_expression_314 : decode cX7_expression 314 = .ok (.istore 4, 2) := by decide +kernel
theorem dX7_expression_316 : decode cX7_expression 316 = .ok (.aload_n 0, 1) := by decide +kernel
theorem dX7_expression_317 : decode cX7_expression 317 = .ok (.iload 4, 2) := by decide +kernel
theorem dX7_expression_319 : decode cX7_expression 319 = .ok (.bipush 10, 2) := by decide +kernel
theorem dX7_expression_321 : decode cX7_expression 321 = .ok (.if_icmp .ne 7, 3) := by decide +kernel
theorem dX7_expression_324 : decode cX7_expression 324 = .ok (.iconst 1, 1) := by decide +kernel
theorem dX7_expression_325 : decode cX7_expression 325 = .ok (.goto 4, 3) := by decide +kernel
theorem dX7_expression_328 : decode cX7_expression 328 = .ok (.iconst 0, 1) := by decide +kernel
theorem dX7_expression_329 : decode cX7_expression 329 = .ok (.invokevirtual 259, 3) := by decide +kernel
theorem dX7_expression_332 : decode cX7_expression 332 = .ok (.aload_n 0, 1) := by decide +kernel
theorem dX7_expression_333 : decode cX7_expression 333 = .ok (.getfield 83, 3) := by decide +kernel
theorem dX7_expression_336 : decode cX7_expression 336 = .ok (.aload_n 0, 1) := by decide +kernel
theorem dX7_expression_337 : decode cX7_expression 337 = .ok (.getfield 252, 3) := by decide +kernel
theorem dX7_expression_340 : decode cX7_expression 340 = .ok (.iload 4, 2) := by decide +kernel
theorem dX7_expression_342 : decode cX7_expression 342 = .ok (.iastore, 1) := by decide +kernel
theorem dX7_expression_343 : decode cX7_expression 343 = .ok (.aload_n 0, 1) := by decide +kernel
theorem dX7_expression_344 : decode cX7_expression 344 = .ok (.dup, 1) := by decide +kernel
theorem dX7_expression_345 : decode cX7_expression 345 = .ok (.getfield 252, 3) := by decide +kernel
theorem dX7_expression_348 : decode cX7_expression 348 = .ok (.iconst 1, 1) := by decide +kernel
theorem dX7_expression_349 : decode cX7_expression 349 = .ok (.iadd, 1) := by decide +kernel
theorem dX7_expression_350 : decode cX7_expression 350 = .ok (.putfield 252, 3) := by decide +kernel
theorem dX7_expression_353 : decode cX7_expression 353 = .ok (.aload_n 0, 1) := by decide +kernel
theorem dX7_expression_354 : decode cX7_expression 354 = .ok (.invokevirtual 221, 3) := by decide +kernel
theorem dX7_expression_357 : decode cX7_expression 357 = .ok (.goto (-345), 3) := by decide +kernel
theorem dX7_expression_360 : decode cX7_expression 360 = .ok (.return_, 1) := by decide +kernel
theorem dX7_isPerson_0 : decode cX7_isPerson 0 = .ok (.iload_n 1, 1) := by decide +kernel
theorem dX7_isPerson_1 : decode cX7_isPerson 1 = .ok (.ifCond .lt 15, 3) := by decide +kernel
theorem dX7_isPerson_4 : decode cX7_isPerson 4 = .ok (.iload_n 1, 1) := by decide +kernel
theorem dX7_isPerson_5 : decode cX7_isPerson 5 = .ok (.aload_n 0, 1) := by decide +kernel
theorem dX7_isPerson_6 : decode cX7_isPerson 6 = .ok (.getfield 262, 3) := by decide +kernel
theorem dX7_isPerson_9 : decode cX7_isPerson 9 = .ok (.if_icmp .ge 7, 3) := by decide +kernel
theorem dX7_isPerson_12 : decode cX7_isPerson 12 = .ok (.iconst 1, 1) := by decide +kernel
theorem dX7_isPerson_13 : decode cX7_isPerson 13 = .ok (.goto 4, 3) := by decide +kernel
theorem dX7_isPerson_16 : decode cX7_isPerson 16 = .ok (.iconst 0, 1) := by decide +kernel
theorem dX7_isPerson_17 : decode cX7_isPerson 17 = .ok (.ireturn, 1) := by decide +kernel
theorem dX7_isDay_0 : decode cX7_isDay 0 = .ok (.iload_n 0, 1) := by decide +kernel
theorem dX7_isDay_1 : decode cX7_isDay 1 = .ok (.ifCond .lt 14, 3) := by decide +kernel
theorem dX7_isDay_4 : decode cX7_isDay 4 = .ok (.iload_n 0, 1) := by decide +kernel
theorem dX7_isDay_5 : decode cX7_isDay 5 = .ok (.sipush 400, 3) := by decide +kernel
theorem dX7_isDay_8 : decode cX7_isDay 8 = .ok (.if_icmp .ge 7, 3) := by decide +kernel
theorem dX7_isDay_11 : decode cX7_isDay 11 = .ok (.iconst 1, 1) := by decide +kernel
theorem dX7_isDay_12 : decode cX7_isDay 12 = .ok (.goto 4, 3) := by decide +kernel
theorem dX7_isDay_15 : decode cX7_isDay 15 = .ok (.iconst 0, 1) := by decide +kernel
theorem dX7_isDay_16 : decode cX7_isDay 16 = .ok (.ireturn, 1) := by decide +kernel
theorem dX7_isKnown_0 : decode cX7_isKnown 0 = .ok (.iload_n 1, 1) := by decide +kernel
theorem dX7_isKnown_1 : decode cX7_isKnown 1 = .ok (.ifCond .lt 15, 3) := by decide +kernel
theorem dX7_isKnown_4 : decode cX7_isKnown 4 = .ok (.iload_n 1, 1) := by decide +kernel
theorem dX7_isKnown_5 : decode cX7_isKnown 5 = .ok (.aload_n 0, 1) := by decide +kernel
theorem dX7_isKnown_6 : decode cX7_isKnown 6 = .ok (.getfield 265, 3) := by decide +kernel
theorem dX7_isKnown_9 : decode cX7_isKnown 9 = .ok (.if_icmp .gt 7, 3) := by decide +kernel
theorem dX7_isKnown_12 : decode cX7_isKnown 12 = .ok (.iconst 1, 1) := by decide +kernel
theorem dX7_isKnown_13 : decode cX7_isKnown 13 = .ok (.goto 4, 3) := by decide +kernel
theorem dX7_isKnown_16 : decode cX7_isKnown 16 = .ok (.iconst 0, 1) := by decide +kernel
theorem dX7_isKnown_17 : decode cX7_isKnown 17 = .ok (.ireturn, 1) := by decide +kernel
theorem dX7_person_0 : decode cX7_person 0 = .ok (.aload_n 0, 1) := by decide +kernel
theorem dX7_person_1 : decode cX7_person 1 = .ok (.getfield 262, 3) := by decide +kernel
theorem dX7_person_4 : decode cX7_person 4 = .ok (.bipush 8, 2) := by decide +kernel
theorem dX7_person_6 : decode cX7_person 6 = .ok (.if_icmp .eq 14, 3) := by decide +kernel
theorem dX7_person_9 : decode cX7_person 9 = .ok (.iload_n 1, 1) := by decide +kernel
theorem dX7_person_10 : decode cX7_person 10 = .ok (.ifCond .lt 10, 3) := by decide +kernel
theorem dX7_person_13 : decode cX7_person 13 = .ok (.iload_n 1, 1) := by decide +kernel
theorem dX7_person_14 : decode cX7_person 14 = .ok (.ldc_w 268, 3) := by decide +kernel
theorem dX7_person_17 : decode cX7_person 17 = .ok (.if_icmp .le 5, 3) := by decide +kernel
theorem dX7_person_20 : decode cX7_person 20 = .ok (.iconst (-1), 1) := by decide +kernel
theorem dX7_person_21 : decode cX7_person 21 = .ok (.ireturn, 1) := by decide +kernel
theorem dX7_person_22 : decode cX7_person 22 = .ok (.aload_n 0, 1) := by decide +kernel
theorem dX7_person_23 : decode cX7_person 23 = .ok (.getfield 86, 3) := by decide +kernel
theorem dX7_person_26 : decode cX7_person 26 = .ok (.aload_n 0, 1) := by decide +kernel
theorem dX7_person_27 : decode cX7_person 27 = .ok (.getfield 262, 3) := by decide +kernel
theorem dX7_person_30 : decode cX7_person 30 = .ok (.iload_n 1, 1) := by decide +kernel
theorem dX7_person_31 : decode cX7_person 31 = .ok (.iastore, 1) := by decide +kernel
theorem dX7_person_32 : decode cX7_person 32 = .ok (.aload_n 0, 1) := by decide +kernel
theorem dX7_person_33 : decode cX7_person 33 = .ok (.dup, 1) := by decide +kernel
theorem dX7_person_34 : decode cX7_person 34 = .ok (.getfield 262, 3) := by decide +kernel
theorem dX7_person_37 : decode cX7_person 37 = .ok (.iconst 1, 1) := by decide +kernel
theorem dX7_person_38 : decode cX7_person 38 = .ok (.iadd, 1) := by decide +kernel
theorem dX7_person_39 : decode cX7_person 39 = .ok (.putfield 262, 3) := by decide +kernel
theorem dX7_person_42 : decode cX7_person 42 = .ok (.aload_n 0, 1) := by decide +kernel
theorem dX7_person_43 : decode cX7_person 43 = .ok (.iconst (-1), 1) := by decide +kernel
theorem dX7_person_44 : decode cX7_person 44 = .ok (.putfield 110, 3) := by decide +kernel
theorem dX7_person_47 : decode cX7_person 47 = .ok (.aload_n 0, 1) := by decide +kernel
theorem dX7_person_48 : decode cX7_person 48 = .ok (.getfield 262, 3) := by decide +kernel
theorem dX7_person_51 : decode cX7_person 51 = .ok (.iconst 1, 1) := by decide +kernel
theorem dX7_person_52 : decode cX7_person 52 = .ok (.isub, 1) := by decide +kernel
theorem dX7_person_53 : decode cX7_person 53 = .ok (.ireturn, 1) := by decide +kernel
theorem dX7_fact_0 : decode cX7_fact 0 = .ok (.aload_n 0, 1) := by decide +kernel
theorem dX7_fact_1 : decode cX7_fact 1 = .ok (.getfield 89, 3) := by decide +kernel
theorem dX7_fact_4 : decode cX7_fact 4 = .ok (.aload_n 0, 1) := by decide +kernel
theorem dX7_fact_5 : decode cX7_fact 5 = .ok (.getfield 265, 3) := by decide +kernel
theorem dX7_fact_8 : decode cX7_fact 8 = .ok (.iload_n 1, 1) := by decide +kernel
theorem dX7_fact_9 : decode cX7_fact 9 = .ok (.iastore, 1) := by decide +kernel
theorem dX7_fact_10 : decode cX7_fact 10 = .ok (.aload_n 0, 1) := by decide +kernel
theorem dX7_fact_11 : decode cX7_fact 11 = .ok (.getfield 92, 3) := by decide +kernel
theorem dX7_fact_14 : decode cX7_fact 14 = .ok (.aload_n 0, 1) := by decide +kernel
theorem dX7_fact_15 : decode cX7_fact 15 = .ok (.getfield 265, 3) := by decide +kernel
theorem dX7_fact_18 : decode cX7_fact 18 = .ok (.iload_n 2, 1) := by decide +kernel
theorem dX7_fact_19 : decode cX7_fact 19 = .ok (.iastore, 1) := by decide +kernel
theorem dX7_fact_20 : decode cX7_fact 20 = .ok (.aload_n 0, 1) := by decide +kernel
theorem dX7_fact_21 : decode cX7_fact 21 = .ok (.getfield 95, 3) := by decide +kernel
theorem dX7_fact_24 : decode cX7_fact 24 = .ok (.aload_n 0, 1) := by decide +kernel
theorem dX7_fact_25 : decode cX7_fact 25 = .ok (.getfield 265, 3) := by decide +kernel
theorem dX7_fact_28 : decode cX7_fact 28 = .ok (.iload_n 3, 1) := by decide +kernel
theorem dX7_fact_29 : decode cX7_fact 29 = .ok (.iastore, 1) := by decide +kernel
theorem dX7_fact_30 : decode cX7_fact 30 = .ok (.aload_n 0, 1) := by decide +kernel
theorem dX7_fact_31 : decode cX7_fact 31 = .ok (.getfield 98, 3) := by decide +kernel
theorem dX7_fact_34 : decode cX7_fact 34 = .ok (.aload_n 0, 1) := by decide +kernel
theorem dX7_fact_35 : decode cX7_fact 35 = .ok (.getfield 265, 3) := by decide +kernel
theorem dX7_fact_38 : decode cX7_fact 38 = .ok (.iload 4, 2) := by decide +kernel
theorem dX7_fact_40 : decode cX7_fact 40 = .ok (.iastore, 1) := by decide +kernel
theorem dX7_fact_41 : decode cX7_fact 41 = .ok (.aload_n 0, 1) := by decide +kernel
theorem dX7_fact_42 : decode cX7_fact 42 = .ok (.getfield 101, 3) := by decide +kernel
theorem dX7_fact_45 : decode cX7_fact 45 = .ok (.aload_n 0, 1) := by decide +kernel
theorem dX7_fact_46 : decode cX7_fact 46 = .ok (.getfield 265, 3) := by decide +kernel
theorem dX7_fact_49 : decode cX7_fact 49 = .ok (.iload 5, 2) := by decide +kernel
theorem dX7_fact_51 : decode cX7_fact 51 = .ok (.iastore, 1) := by decide +kernel
theorem dX7_fact_52 : decode cX7_fact 52 = .ok (.aload_n 0, 1) := by decide +kernel
theorem dX7_fact_53 : decode cX7_fact 53 = .ok (.getfield 104, 3) := by decide +kernel
theorem dX7_fact_56 : decode cX7_fact 56 = .ok (.aload_n 0, 1) := by decide +kernel
theorem dX7_fact_57 : decode cX7_fact 57 = .ok (.getfield 265, 3) := by decide +kernel
theorem dX7_fact_60 : decode cX7_fact 60 = .ok (.iload 6, 2) := by decide +kernel
theorem dX7_fact_62 : decode cX7_fact 62 = .ok (.iastore, 1) := by decide +kernel
theorem dX7_fact_63 : decode cX7_fact 63 = .ok (.aload_n 0, 1) := by decide +kernel
theorem dX7_fact_64 : decode cX7_fact 64 = .ok (.getfield 107, 3) := by decide +kernel
theorem dX7_fact_67 : decode cX7_fact 67 = .ok (.aload_n 0, 1) := by decide +kernel
theorem dX7_fact_68 : decode cX7_fact 68 = .ok (.getfield 265, 3) := by decide +kernel
theorem dX7_fact_71 : decode cX7_fact 71 = .ok (.iload 7, 2) := by decide +kernel
theorem dX7_fact_73 : decode cX7_fact 73 = .ok (.iastore, 1) := by decide +kernel
theorem dX7_fact_74 : decode cX7_fact 74 = .ok (.aload_n 0, 1) := by decide +kernel
theorem dX7_fact_75 : decode cX7_fact 75 = .ok (.dup, 1) := by decide +kernel
theorem dX7_fact_76 : decode cX7_fact 76 = .ok (.getfield 265, 3) := by decide +kernel
theorem dX7_fact_79 : decode cX7_fact 79 = .ok (.iconst 1, 1) := by decide +kernel
theorem dX7_fact_80 : decode cX7_fact 80 = .ok (.iadd, 1) := by decide +kernel
theorem dX7_fact_81 : decode cX7_fact 81 = .ok (.putfield 265, 3) := by decide +kernel
theorem dX7_fact_84 : decode cX7_fact 84 = .ok (.aload_n 0, 1) := by decide +kernel
theorem dX7_fact_85 : decode cX7_fact 85 = .ok (.getfield 265, 3) := by decide +kernel
theorem dX7_fact_88 : decode cX7_fact 88 = .ok (.iconst 1, 1) := by decide +kernel
theorem dX7_fact_89 : decode cX7_fact 89 = .ok (.isub, 1) := by decide +kernel
theorem dX7_fact_90 : decode cX7_fact 90 = .ok (.ireturn, 1) := by decide +kernel
theorem dX7_gives_0 : decode cX7_gives 0 = .ok (.aload_n 0, 1) := by decide +kernel
theorem dX7_gives_1 : decode cX7_gives 1 = .ok (.getfield 265, 3) := by decide +kernel
theorem dX7_gives_4 : decode cX7_gives 4 = .ok (.bipush 120, 2) := by decide +kernel
theorem dX7_gives_6 : decode cX7_gives 6 = .ok (.if_icmp .eq 50, 3) := by decide +kernel
theorem dX7_gives_9 : decode cX7_gives 9 = .ok (.iload_n 2, 1) := by decide +kernel
theorem dX7_gives_10 : decode cX7_gives 10 = .ok (.invokestatic 269, 3) := by decide +kernel
theorem dX7_gives_13 : decode cX7_gives 13 = .ok (.ifCond .eq 43, 3) := by decide +kernel
theorem dX7_gives_16 : decode cX7_gives 16 = .ok (.aload_n 0, 1) := by decide +kernel
theorem dX7_gives_17 : decode cX7_gives 17 = .ok (.iload_n 3, 1) := by decide +kernel
theorem dX7_gives_18 : decode cX7_gives 18 = .ok (.invokevirtual 272, 3) := by decide +kernel
theorem dX7_gives_21 : decode cX7_gives 21 = .ok (.ifCond .eq 35, 3) := by decide +kernel
theorem dX7_gives_24 : decode cX7_gives 24 = .ok (.aload_n 0, 1) := by decide +kernel
theorem dX7_gives_25 : decode cX7_gives 25 = .ok (.iload 4, 2) := by decide +kernel
theorem dX7_gives_27 : decode cX7_gives 27 = .ok (.invokevirtual 272, 3) := by decide +kernel
theorem dX7_gives_30 : decode cX7_gives 30 = .ok (.ifCond .eq 26, 3) := by decide +kernel
theorem dX7_gives_33 : decode cX7_gives 33 = .ok (.iload 5, 2) := by decide +kernel
theorem dX7_gives_35 : decode cX7_gives 35 = .ok (.invokestatic 269, 3) := by decide +kernel
theorem dX7_gives_38 : decode cX7_gives 38 = .ok (.ifCond .eq 18, 3) := by decide +kernel
theorem dX7_gives_41 : decode cX7_gives 41 = .ok (.aload_n 0, 1) := by decide +kernel
theorem dX7_gives_42 : decode cX7_gives 42 = .ok (.iload 6, 2) := by decide +kernel
theorem dX7_gives_44 : decode cX7_gives 44 = .ok (.invokevirtual 272, 3) := by decide +kernel
theorem dX7_gives_47 : decode cX7_gives 47 = .ok (.ifCond .eq 9, 3) := by decide +kernel
theorem dX7_gives_50 : decode cX7_gives 50 = .ok (.iload_n 3, 1) := by decide +kernel
theorem dX7_gives_51 : decode cX7_gives 51 = .ok (.iload 6, 2) := by decide +kernel
theorem dX7_gives_53 : decode cX7_gives 53 = .ok (.if_icmp .ne 7, 3) := by decide +kernel
theorem dX7_gives_56 : decode cX7_gives 56 = .ok (.iconst (-1), 1) := by decide +kernel
theorem dX7_gives_57 : decode cX7_gives 57 = .ok (.goto 17, 3) := by decide +kernel
theorem dX7_gives_60 : decode cX7_gives 60 = .ok (.aload_n 0, 1) := by decide +kernel
theorem dX7_gives_61 : decode cX7_gives 61 = .ok (.iload_n 1, 1) := by decide +kernel
theorem dX7_gives_62 : decode cX7_gives 62 = .ok (.iload_n 2, 1) := by decide +kernel
theorem dX7_gives_63 : decode cX7_gives 63 = .ok (.iload_n 3, 1) := by decide +kernel
theorem dX7_gives_64 : decode cX7_gives 64 = .ok (.iload 6, 2) := by decide +kernel
theorem dX7_gives_66 : decode cX7_gives 66 = .ok (.iload 4, 2) := by decide +kernel
theorem dX7_gives_68 : decode cX7_gives 68 = .ok (.iload 5, 2) := by decide +kernel
theorem dX7_gives_70 : decode cX7_gives 70 = .ok (.iconst 0, 1) := by decide +kernel
theorem dX7_gives_71 : decode cX7_gives 71 = .ok (.invokevirtual 275, 3) := by decide +kernel
theorem dX7_gives_74 : decode cX7_gives 74 = .ok (.ireturn, 1) := by decide +kernel
theorem dX7_loan_0 : decode cX7_loan 0 = .ok (.aload_n 0, 1) := by decide +kernel
theorem dX7_loan_1 : decode cX7_loan 1 = .ok (.iconst 0, 1) := by decide +kernel
theorem dX7_loan_2 : decode cX7_loan 2 = .ok (.iload_n 1, 1) := by decide +kernel
theorem dX7_loan_3 : decode cX7_loan 3 = .ok (.iload_n 2, 1) := by decide +kernel
theorem dX7_loan_4 : decode cX7_loan 4 = .ok (.iload_n 3, 1) := by decide +kernel
theorem dX7_loan_5 : decode cX7_loan 5 = .ok (.iload 4, 2) := by decide +kernel
theorem dX7_loan_7 : decode cX7_loan 7 = .ok (.iload 5, 2) := by decide +kernel
theorem dX7_loan_9 : decode cX7_loan 9 = .ok (.invokevirtual 279, 3) := by decide +kernel
theorem dX7_loan_12 : decode cX7_loan 12 = .ok (.ireturn, 1) := by decide +kernel
theorem dX7_pays_0 : decode cX7_pays 0 = .ok (.aload_n 0, 1) := by decide +kernel
theorem dX7_pays_1 : decode cX7_pays 1 = .ok (.iconst 1, 1) := by decide +kernel
theorem dX7_pays_2 : decode cX7_pays 2 = .ok (.iload_n 1, 1) := by decide +kernel
theorem dX7_pays_3 : decode cX7_pays 3 = .ok (.iload_n 2, 1) := by decide +kernel
theorem dX7_pays_4 : decode cX7_pays 4 = .ok (.iload_n 3, 1) := by decide +kernel
theorem dX7_pays_5 : decode cX7_pays 5 = .ok (.iload 4, 2) := by decide +kernel
theorem dX7_pays_7 : decode cX7_pays 7 = .ok (.iload 5, 2) := by decide +kernel
theorem dX7_pays_9 : decode cX7_pays 9 = .ok (.invokevirtual 279, 3) := by decide +kernel
theorem dX7_pays_12 : decode cX7_pays 12 = .ok (.ireturn, 1) := by decide +kernel
theorem dX7_meeting_0 : decode cX7_meeting 0 = .ok (.aload_n 0, 1) := by decide +kernel
theorem dX7_meeting_1 : decode cX7_meeting 1 = .ok (.getfield 265, 3) := by decide +kernel
theorem dX7_meeting_4 : decode cX7_meeting 4 = .ok (.bipush 120, 2) := by decide +kernel
theorem dX7_meeting_6 : decode cX7_meeting 6 = .ok (.if_icmp .eq 10, 3) := by decide +kernel
theorem dX7_meeting_9 : decode cX7_meeting 9 = .ok (.iload_n 1, 1) := by decide +kernel
theorem dX7_meeting_10 : decode cX7_meeting 10 = .ok (.invokestatic 269, 3) := by decide +kernel
theorem dX7_meeting_13 : decode cX7_meeting 13 = .ok (.ifCond .ne 7, 3) := by decide +kernel
theorem dX7_meeting_16 : decode cX7_meeting 16 = .ok (.iconst (-1), 1) := by decide +kernel
theorem dX7_meeting_17 : decode cX7_meeting 17 = .ok (.goto 14, 3) := by decide +kernel
theorem dX7_meeting_20 : decode cX7_meeting 20 = .ok (.aload_n 0, 1) := by decide +kernel
theorem dX7_meeting_21 : decode cX7_meeting 21 = .ok (.iconst 2, 1) := by decide +kernel
theorem dX7_meeting_22 : decode cX7_meeting 22 = .ok (.iload_n 1, 1) := by decide +kernel
theorem dX7_meeting_23 : decode cX7_meeting 23 = .ok (.iconst 0, 1) := by decide +kernel
theorem dX7_meeting_24 : decode cX7_meeting 24 = .ok (.iconst 0, 1) := by decide +kernel
theorem dX7_meeting_25 : decode cX7_meeting 25 = .ok (.iconst 0, 1) := by decide +kernel
theorem dX7_meeting_26 : decode cX7_meeting 26 = .ok (.iconst 0, 1) := by decide +kernel
theorem dX7_meeting_27 : decode cX7_meeting 27 = .ok (.iconst 0, 1) := by decide +kernel
theorem dX7_meeting_28 : decode cX7_meeting 28 = .ok (.invokevirtual 275, 3) := by decide +kernel
theorem dX7_meeting_31 : decode cX7_meeting 31 = .ok (.ireturn, 1) := by decide +kernel
theorem dX7_forged_0 : decode cX7_forged 0 = .ok (.aload_n 0, 1) := by decide +kernel
theorem dX7_forged_1 : decode cX7_forged 1 = .ok (.getfield 265, 3) := by decide +kernel
theorem dX7_forged_4 : decode cX7_forged 4 = .ok (.bipush 120, 2) := by decide +kernel
theorem dX7_forged_6 : decode cX7_forged 6 = .ok (.if_icmp .eq 25, 3) := by decide +kernel
theorem dX7_forged_9 : decode cX7_forged 9 = .ok (.iload_n 1, 1) := by decide +kernel
theorem dX7_forged_10 : decode cX7_forged 10 = .ok (.ifCond .lt 21, 3) := by decide +kernel
theorem dX7_forged_13 : decode cX7_forged 13 = .ok (.iload_n 1, 1) := by decide +kernel
theorem dX7_forged_14 : decode cX7_forged 14 = .ok (.aload_n 0, 1) := by decide +kernel
theorem dX7_forged_15 : decode cX7_forged 15 = .ok (.getfield 265, 3) := by decide +kernel
theorem dX7_forged_18 : decode cX7_forged 18 = .ok (.if_icmp .ge 13, 3) := by decide +kernel
theorem dX7_forged_21 : decode cX7_forged 21 = .ok (.aload_n 0, 1) := by decide +kernel
theorem dX7_forged_22 : decode cX7_forged 22 = .ok (.getfield 89, 3) := by decide +kernel
theorem dX7_forged_25 : decode cX7_forged 25 = .ok (.iload_n 1, 1) := by decide +kernel
theorem dX7_forged_26 : decode cX7_forged 26 = .ok (.iaload, 1) := by decide +kernel
theorem dX7_forged_27 : decode cX7_forged 27 = .ok (.iconst 2, 1) := by decide +kernel
theorem dX7_forged_28 : decode cX7_forged 28 = .ok (.if_icmp .le 7, 3) := by decide +kernel
theorem dX7_forged_31 : decode cX7_forged 31 = .ok (.iconst (-1), 1) := by decide +kernel
theorem dX7_forged_32 : decode cX7_forged 32 = .ok (.goto 14, 3) := by decide +kernel
theorem dX7_forged_35 : decode cX7_forged 35 = .ok (.aload_n 0, 1) := by decide +kernel
theorem dX7_forged_36 : decode cX7_forged 36 = .ok (.iconst 3, 1) := by decide +kernel
theorem dX7_forged_37 : decode cX7_forged 37 = .ok (.iconst 0, 1) := by decide +kernel
theorem dX7_forged_38 : decode cX7_forged 38 = .ok (.iconst 0, 1) := by decide +kernel
theorem dX7_forged_39 : decode cX7_forged 39 = .ok (.iconst 0, 1) := by decide +kernel
theorem dX7_forged_40 : decode cX7_forged 40 = .ok (.iconst 0, 1) := by decide +kernel
theorem dX7_forged_41 : decode cX7_forged 41 = .ok (.iconst 0, 1) := by decide +kernel
theorem dX7_forged_42 : decode cX7_forged 42 = .ok (.iload_n 1, 1) := by decide +kernel
theorem dX7_forged_43 : decode cX7_forged 43 = .ok (.invokevirtual 275, 3) := by decide +kernel
theorem dX7_forged_46 : decode cX7_forged 46 = .ok (.ireturn, 1) := by decide +kernel
theorem dX7_feast_0 : decode cX7_feast 0 = .ok (.aload_n 0, 1) := by decide +kernel
theorem dX7_feast_1 : decode cX7_feast 1 = .ok (.getfield 265, 3) := by decide +kernel
theorem dX7_feast_4 : decode cX7_feast 4 = .ok (.bipush 120, 2) := by decide +kernel
theorem dX7_feast_6 : decode cX7_feast 6 = .ok (.if_icmp .eq 10, 3) := by decide +kernel
theorem dX7_feast_9 : decode cX7_feast 9 = .ok (.iload_n 1, 1) := by decide +kernel
theorem dX7_feast_10 : decode cX7_feast 10 = .ok (.invokestatic 269, 3) := by decide +kernel
theorem dX7_feast_13 : decode cX7_feast 13 = .ok (.ifCond .ne 7, 3) := by decide +kernel
theorem dX7_feast_16 : decode cX7_feast 16 = .ok (.iconst (-1), 1) := by decide +kernel
theorem dX7_feast_17 : decode cX7_feast 17 = .ok (.goto 22, 3) := by decide +kernel
theorem dX7_feast_20 : decode cX7_feast 20 = .ok (.aload_n 0, 1) := by decide +kernel
theorem dX7_feast_21 : decode cX7_feast 21 = .ok (.iconst 4, 1) := by decide +kernel
theorem dX7_feast_22 : decode cX7_feast 22 = .ok (.iload_n 1, 1) := by decide +kernel
theorem dX7_feast_23 : decode cX7_feast 23 = .ok (.iconst 0, 1) := by decide +kernel
theorem dX7_feast_24 : decode cX7_feast 24 = .ok (.iconst 0, 1) := by decide +kernel
theorem dX7_feast_25 : decode cX7_feast 25 = .ok (.iconst 0, 1) := by decide +kernel
theorem dX7_feast_26 : decode cX7_feast 26 = .ok (.iconst 0, 1) := by decide +kernel
theorem dX7_feast_27 : decode cX7_feast 27 = .ok (.iload_n 2, 1) := by decide +kernel
theorem dX7_feast_28 : decode cX7_feast 28 = .ok (.ifCond .eq 7, 3) := by decide +kernel
theorem dX7_feast_31 : decode cX7_feast 31 = .ok (.iconst 1, 1) := by decide +kernel
theorem dX7_feast_32 : decode cX7_feast 32 = .ok (.goto 4, 3) := by decide +kernel
theorem dX7_feast_35 : decode cX7_feast 35 = .ok (.iconst 0, 1) := by decide +kernel
theorem dX7_feast_36 : decode cX7_feast 36 = .ok (.invokevirtual 275, 3) := by decide +kernel
theorem dX7_feast_39 : decode cX7_feast 39 = .ok (.ireturn, 1) := by decide +kernel
theorem dX7_seen_0 : decode cX7_seen 0 = .ok (.aload_n 0, 1) := by decide +kernel
theorem dX7_seen_1 : decode cX7_seen 1 = .ok (.getfield 265, 3) := by decide +kernel
theorem dX7_seen_4 : decode cX7_seen 4 = .ok (.bipush 120, 2) := by decide +kernel
theorem dX7_seen_6 : decode cX7_seen 6 = .ok (.if_icmp .eq 37, 3) := by decide +kernel
theorem dX7_seen_9 : decode cX7_seen 9 = .ok (.aload_n 0, 1) := by decide +kernel
theorem dX7_seen_10 : decode cX7_seen 10 = .ok (.iload_n 1, 1) := by decide +kernel
theorem dX7_seen_11 : decode cX7_seen 11 = .ok (.invokevirtual 272, 3) := by decide +kernel
theorem dX7_seen_14 : decode cX7_seen 14 = .ok (.ifCond .eq 29, 3) := by decide +kernel
theorem dX7_seen_17 : decode cX7_seen 17 = .ok (.aload_n 0, 1) := by decide +kernel
theorem dX7_seen_18 : decode cX7_seen 18 = .ok (.iload_n 2, 1) := by decide +kernel
theorem dX7_seen_19 : decode cX7_seen 19 = .ok (.invokevirtual 272, 3) := by decide +kernel
theorem dX7_seen_22 : decode cX7_seen 22 = .ok (.ifCond .eq 21, 3) := by decide +kernel
theorem dX7_seen_25 : decode cX7_seen 25 = .ok (.iload_n 3, 1) := by decide +kernel
theorem dX7_seen_26 : decode cX7_seen 26 = .ok (.ifCond .lt 17, 3) := by decide +kernel
theorem dX7_seen_29 : decode cX7_seen 29 = .ok (.iload_n 3, 1) := by decide +kernel
theorem dX7_seen_30 : decode cX7_seen 30 = .ok (.bipush 9, 2) := by decide +kernel
theorem dX7_seen_32 : decode cX7_seen 32 = .ok (.if_icmp .gt 11, 3) := by decide +kernel
theorem dX7_seen_35 : decode cX7_seen 35 = .ok (.iload 4, 2) := by decide +kernel
theorem dX7_seen_37 : decode cX7_seen 37 = .ok (.invokestatic 269, 3) := by decide +kernel
theorem dX7_seen_40 : decode cX7_seen 40 = .ok (.ifCond .ne 7, 3) := by decide +kernel
theorem dX7_seen_43 : decode cX7_seen 43 = .ok (.iconst (-1), 1) := by decide +kernel
theorem dX7_seen_44 : decode cX7_seen 44 = .ok (.goto 15, 3) := by decide +kernel
theorem dX7_seen_47 : decode cX7_seen 47 = .ok (.aload_n 0, 1) := by decide +kernel
theorem dX7_seen_48 : decode cX7_seen 48 = .ok (.iconst 5, 1) := by decide +kernel
theorem dX7_seen_49 : decode cX7_seen 49 = .ok (.iload 4, 2) := by decide +kernel
theorem dX7_seen_51 : decode cX7_seen 51 = .ok (.iload_n 1, 1) := by decide +kernel
theorem dX7_seen_52 : decode cX7_seen 52 = .ok (.iload_n 2, 1) := by decide +kernel
theorem dX7_seen_53 : decode cX7_seen 53 = .ok (.iconst 0, 1) := by decide +kernel
theorem dX7_seen_54 : decode cX7_seen 54 = .ok (.iconst 0, 1) := by decide +kernel
theorem dX7_seen_55 : decode cX7_seen 55 = .ok (.iload_n 3, 1) := by decide +kernel
theorem dX7_seen_56 : decode cX7_seen 56 = .ok (.invokevirtual 275, 3) := by decide +kernel
theorem dX7_seen_59 : decode cX7_seen 59 = .ok (.ireturn, 1) := by decide +kernel
theorem dX7_value_0 : decode cX7_value 0 = .ok (.iconst 0, 1) := by decide +kernel
theorem dX7_value_1 : decode cX7_value 1 = .ok (.istore_n 3, 1) := by decide +kernel
theorem dX7_value_2 : decode cX7_value 2 = .ok (.iload_n 1, 1) := by decide +kernel
theorem dX7_value_3 : decode cX7_value 3 = .ok (.istore 4, 2) := by decide +kernel
theorem dX7_value_5 : decode cX7_value 5 = .ok (.iload 4, 2) := by decide +kernel
theorem dX7_value_7 : decode cX7_value 7 = .ok (.iload_n 2, 1) := by decide +kernel
theorem dX7_value_8 : decode cX7_value 8 = .ok (.if_icmp .ge 136, 3) := by decide +kernel
theorem dX7_value_11 : decode cX7_value 11 = .ok (.aload_n 0, 1) := by decide +kernel
theorem dX7_value_12 : decode cX7_value 12 = .ok (.getfield 77, 3) := by decide +kernel
theorem dX7_value_15 : decode cX7_value 15 = .ok (.iload 4, 2) := by decide +kernel
theorem dX7_value_17 : decode cX7_value 17 = .ok (.iaload, 1) := by decide +kernel
theorem dX7_value_18 : decode cX7_value 18 = .ok (.iconst 2, 1) := by decide +kernel
theorem dX7_value_19 : decode cX7_value 19 = .ok (.if_icmp .ge 47, 3) := by decide +kernel
theorem dX7_value_22 : decode cX7_value 22 = .ok (.aload_n 0, 1) := by decide +kernel
theorem dX7_value_23 : decode cX7_value 23 = .ok (.getfield 140, 3) := by decide +kernel
theorem dX7_value_26 : decode cX7_value 26 = .ok (.iload_n 3, 1) := by decide +kernel
theorem dX7_value_27 : decode cX7_value 27 = .ok (.aload_n 0, 1) := by decide +kernel
theorem dX7_value_28 : decode cX7_value 28 = .ok (.getfield 77, 3) := by decide +kernel
theorem dX7_value_31 : decode cX7_value 31 = .ok (.iload 4, 2) := by decide +kernel
theorem dX7_value_33 : decode cX7_value 33 = .ok (.iaload, 1) := by decide +kernel
theorem dX7_value_34 : decode cX7_value 34 = .ok (.ifCond .ne 13, 3) := by decide +kernel
theorem dX7_value_37 : decode cX7_value 37 = .ok (.aload_n 0, 1) := by decide +kernel
theorem dX7_value_38 : decode cX7_value 38 = .ok (.getfield 80, 3) := by decide +kernel
theorem dX7_value_41 : decode cX7_value 41 = .ok (.iload 4, 2) := by decide +kernel
theorem dX7_value_43 : decode cX7_value 43 = .ok (.iaload, 1) := by decide +kernel
theorem dX7_value_44 : decode cX7_value 44 = .ok (.goto 15, 3) := by decide +kernel
theorem dX7_value_47 : decode cX7_value 47 = .ok (.aload_n 0, 1) := by decide +kernel
theorem dX7_value_48 : decode cX7_value 48 = .ok (.getfield 137, 3) := by decide +kernel
theorem dX7_value_51 : decode cX7_value 51 = .ok (.aload_n 0, 1) := by decide +kernel
theorem dX7_value_52 : decode cX7_value 52 = .ok (.getfield 80, 3) := by decide +kernel
theorem dX7_value_55 : decode cX7_value 55 = .ok (.iload 4, 2) := by decide +kernel
theorem dX7_value_57 : decode cX7_value 57 = .ok (.iaload, 1) := by decide +kernel
theorem dX7_value_58 : decode cX7_value 58 = .ok (.iaload, 1) := by decide +kernel
theorem dX7_value_59 : decode cX7_value 59 = .ok (.iastore, 1) := by decide +kernel
theorem dX7_value_60 : decode cX7_value 60 = .ok (.iinc 3 1, 3) := by decide +kernel
theorem dX7_value_63 : decode cX7_value 63 = .ok (.goto 75, 3) := by decide +kernel
theorem dX7_value_66 : decode cX7_value 66 = .ok (.iinc 3 (-1), 3) := by decide +kernel
theorem dX7_value_69 : decode cX7_value 69 = .ok (.aload_n 0, 1) := by decide +kernel
theorem dX7_value_70 : decode cX7_value 70 = .ok (.getfield 140, 3) := by decide +kernel
theorem dX7_value_73 : decode cX7_value 73 = .ok (.iload_n 3, 1) := by decide +kernel
theorem dX7_value_74 : decode cX7_value 74 = .ok (.iconst 1, 1) := by decide +kernel
theorem dX7_value_75 : decode cX7_value 75 = .ok (.isub, 1) := by decide +kernel
theorem dX7_value_76 : decode cX7_value 76 = .ok (.iaload, 1) := by decide +kernel
theorem dX7_value_77 : decode cX7_value 77 = .ok (.istore 5, 2) := by decide +kernel
theorem dX7_value_79 : decode cX7_value 79 = .ok (.aload_n 0, 1) := by decide +kernel
theorem dX7_value_80 : decode cX7_value 80 = .ok (.getfield 140, 3) := by decide +kernel
theorem dX7_value_83 : decode cX7_value 83 = .ok (.iload_n 3, 1) := by decide +kernel
theorem dX7_value_84 : decode cX7_value 84 = .ok (.iaload, 1) := by decide +kernel
theorem dX7_value_85 : decode cX7_value 85 = .ok (.istore 6, 2) := by decide +kernel
theorem dX7_value_87 : decode cX7_value 87 = .ok (.aload_n 0, 1) := by decide +kernel
theorem dX7_value_88 : decode cX7_value 88 = .ok (.getfield 140, 3) := by decide +kernel
theorem dX7_value_91 : decode cX7_value 91 = .ok (.iload_n 3, 1) := by decide +kernel
theorem dX7_value_92 : decode cX7_value 92 = .ok (.iconst 1, 1) := by decide +kernel
theorem dX7_value_93 : decode cX7_value 93 = .ok (.isub, 1) := by decide +kernel
theorem dX7_value_94 : decode cX7_value 94 = .ok (.aload_n 0, 1) := by decide +kernel
theorem dX7_value_95 : decode cX7_value 95 = .ok (.getfield 77, 3) := by decide +kernel
theorem dX7_value_98 : decode cX7_value 98 = .ok (.iload 4, 2) := by decide +kernel
theorem dX7_value_100 : decode cX7_value 100 = .ok (.iaload, 1) := by decide +kernel
theorem dX7_value_101 : decode cX7_value 101 = .ok (.iconst 2, 1) := by decide +kernel
theorem dX7_value_102 : decode cX7_value 102 = .ok (.if_icmp .ne 11, 3) := by decide +kernel
theorem dX7_value_105 : decode cX7_value 105 = .ok (.iload 5, 2) := by decide +kernel
theorem dX7_value_107 : decode cX7_value 107 = .ok (.iload 6, 2) := by decide +kernel
theorem dX7_value_109 : decode cX7_value 109 = .ok (.iadd, 1) := by decide +kernel
theorem dX7_value_110 : decode cX7_value 110 = .ok (.goto 27, 3) := by decide +kernel
theorem dX7_value_113 : decode cX7_value 113 = .ok (.aload_n 0, 1) := by decide +kernel
theorem dX7_value_114 : decode cX7_value 114 = .ok (.getfield 77, 3) := by decide +kernel
theorem dX7_value_117 : decode cX7_value 117 = .ok (.iload 4, 2) := by decide +kernel
theorem dX7_value_119 : decode cX7_value 119 = .ok (.iaload, 1) := by decide +kernel
theorem dX7_value_120 : decode cX7_value 120 = .ok (.iconst 3, 1) := by decide +kernel
theorem dX7_value_121 : decode cX7_value 121 = .ok (.if_icmp .ne 11, 3) := by decide +kernel
theorem dX7_value_124 : decode cX7_value 124 = .ok (.iload 5, 2) := by decide +kernel
theorem dX7_value_126 : decode cX7_value 126 = .ok (.iload 6, 2) := by decide +kernel
theorem dX7_value_128 : decode cX7_value 128 = .ok (.isub, 1) := by decide +kernel
theorem dX7_value_129 : decode cX7_value 129 = .ok (.goto 8, 3) := by decide +kernel
theorem dX7_value_132 : decode cX7_value 132 = .ok (.iload 5, 2) := by decide +kernel
theorem dX7_value_134 : decode cX7_value 134 = .ok (.iload 6, 2) := by decide +kernel
theorem dX7_value_136 : decode cX7_value 136 = .ok (.imul, 1) := by decide +kernel
theorem dX7_value_137 : decode cX7_value 137 = .ok (.iastore, 1) := by decide +kernel
theorem dX7_value_138 : decode cX7_value 138 = .ok (.iinc 4 1, 3) := by decide +kernel
theorem dX7_value_141 : decode cX7_value 141 = .ok (.goto (-136), 3) := by decide +kernel
theorem dX7_value_144 : decode cX7_value 144 = .ok (.aload_n 0, 1) := by decide +kernel
theorem dX7_value_145 : decode cX7_value 145 = .ok (.getfield 140, 3) := by decide +kernel
theorem dX7_value_148 : decode cX7_value 148 = .ok (.iconst 0, 1) := by decide +kernel
theorem dX7_value_149 : decode cX7_value 149 = .ok (.iaload, 1) := by decide +kernel
theorem dX7_value_150 : decode cX7_value 150 = .ok (.ireturn, 1) := by decide +kernel
theorem dX7_holds_0 : decode cX7_holds 0 = .ok (.aload_n 0, 1) := by decide +kernel
theorem dX7_holds_1 : decode cX7_holds 1 = .ok (.getfield 52, 3) := by decide +kernel
theorem dX7_holds_4 : decode cX7_holds 4 = .ok (.iload_n 1, 1) := by decide +kernel
theorem dX7_holds_5 : decode cX7_holds 5 = .ok (.iaload, 1) := by decide +kernel
theorem dX7_holds_6 : decode cX7_holds 6 = .ok (.aload_n 0, 1) := by decide +kernel
theorem dX7_holds_7 : decode cX7_holds 7 = .ok (.getfield 55, 3) := by decide +kernel
theorem dX7_holds_10 : decode cX7_holds 10 = .ok (.iload_n 1, 1) := by decide +kernel
theorem dX7_holds_11 : decode cX7_holds 11 = .ok (.iaload, 1) := by decide +kernel
theorem dX7_holds_12 : decode cX7_holds 12 = .ok (.if_icmp .ne 5, 3) := by decide +kernel
theorem dX7_holds_15 : decode cX7_holds 15 = .ok (.iconst 1, 1) := by decide +kernel
theorem dX7_holds_16 : decode cX7_holds 16 = .ok (.ireturn, 1) := by decide +kernel
theorem dX7_holds_17 : decode cX7_holds 17 = .ok (.iconst 0, 1) := by decide +kernel
theorem dX7_holds_18 : decode cX7_holds 18 = .ok (.istore_n 2, 1) := by decide +kernel
theorem dX7_holds_19 : decode cX7_holds 19 = .ok (.aload_n 0, 1) := by decide +kernel
theorem dX7_holds_20 : decode cX7_holds 20 = .ok (.getfield 52, 3) := by decide +kernel
theorem dX7_holds_23 : decode cX7_holds 23 = .ok (.iload_n 1, 1) := by decide +kernel
theorem dX7_holds_24 : decode cX7_holds 24 = .ok (.iaload, 1) := by decide +kernel
theorem dX7_holds_25 : decode cX7_holds 25 = .ok (.istore_n 3, 1) := by decide +kernel
theorem dX7_holds_26 : decode cX7_holds 26 = .ok (.iload_n 3, 1) := by decide +kernel
theorem dX7_holds_27 : decode cX7_holds 27 = .ok (.aload_n 0, 1) := by decide +kernel
theorem dX7_holds_28 : decode cX7_holds 28 = .ok (.getfield 55, 3) := by decide +kernel
theorem dX7_holds_31 : decode cX7_holds 31 = .ok (.iload_n 1, 1) := by decide +kernel
theorem dX7_holds_32 : decode cX7_holds 32 = .ok (.iaload, 1) := by decide +kernel
theorem dX7_holds_33 : decode cX7_holds 33 = .ok (.if_icmp .ge 186, 3) := by decide +kernel
theorem dX7_holds_36 : decode cX7_holds 36 = .ok (.sipush 200, 3) := by decide +kernel
theorem dX7_holds_39 : decode cX7_holds 39 = .ok (.aload_n 0, 1) := by decide +kernel
theorem dX7_holds_40 : decode cX7_holds 40 = .ok (.getfield 230, 3) := by decide +kernel
theorem dX7_holds_43 : decode cX7_holds 43 = .ok (.imul, 1) := by decide +kernel
theorem dX7_holds_44 : decode cX7_holds 44 = .ok (.iload_n 3, 1) := by decide +kernel
theorem dX7_holds_45 : decode cX7_holds 45 = .ok (.iadd, 1) := by decide +kernel
theorem dX7_holds_46 : decode cX7_holds 46 = .ok (.istore 4, 2) := by decide +kernel
theorem dX7_holds_48 : decode cX7_holds 48 = .ok (.aload_n 0, 1) := by decide +kernel
theorem dX7_holds_49 : decode cX7_holds 49 = .ok (.getfield 73, 3) := by decide +kernel
theorem dX7_holds_52 : decode cX7_holds 52 = .ok (.iload 4, 2) := by decide +kernel
theorem dX7_holds_54 : decode cX7_holds 54 = .ok (.baload, 1) := by decide +kernel
theorem dX7_holds_55 : decode cX7_holds 55 = .ok (.ifCond .eq 9, 3) := by decide +kernel
theorem dX7_holds_58 : decode cX7_holds 58 = .ok (.iload_n 2, 1) := by decide +kernel
theorem dX7_holds_59 : decode cX7_holds 59 = .ok (.ifCond .eq 5, 3) := by decide +kernel
theorem dX7_holds_62 : decode cX7_holds 62 = .ok (.iconst 1, 1) := by decide +kernel
theorem dX7_holds_63 : decode cX7_holds 63 = .ok (.ireturn, 1) := by decide +kernel
theorem dX7_holds_64 : decode cX7_holds 64 = .ok (.aload_n 0, 1) := by decide +kernel
theorem dX7_holds_65 : decode cX7_holds 65 = .ok (.getfield 73, 3) := by decide +kernel
theorem dX7_holds_68 : decode cX7_holds 68 = .ok (.iload 4, 2) := by decide +kernel
theorem dX7_holds_70 : decode cX7_holds 70 = .ok (.baload, 1) := by decide +kernel
theorem dX7_holds_71 : decode cX7_holds 71 = .ok (.ifCond .eq 5, 3) := by decide +kernel
theorem dX7_holds_74 : decode cX7_holds 74 = .ok (.iconst 1, 1) := by decide +kernel
theorem dX7_holds_75 : decode cX7_holds 75 = .ok (.istore_n 2, 1) := by decide +kernel
theorem dX7_holds_76 : decode cX7_holds 76 = .ok (.iload_n 2, 1) := by decide +kernel
theorem dX7_holds_77 : decode cX7_holds 77 = .ok (.ifCond .ne 6, 3) := by decide +kernel
theorem dX7_holds_80 : decode cX7_holds 80 = .ok (.goto 133, 3) := by decide +kernel
theorem dX7_holds_83 : decode cX7_holds 83 = .ok (.aload_n 0, 1) := by decide +kernel
theorem dX7_holds_84 : decode cX7_holds 84 = .ok (.aload_n 0, 1) := by decide +kernel
theorem dX7_holds_85 : decode cX7_holds 85 = .ok (.getfield 64, 3) := by decide +kernel
theorem dX7_holds_88 : decode cX7_holds 88 = .ok (.iload 4, 2) := by decide +kernel
theorem dX7_holds_90 : decode cX7_holds 90 = .ok (.iaload, 1) := by decide +kernel
theorem dX7_holds_91 : decode cX7_holds 91 = .ok (.aload_n 0, 1) := by decide +kernel
theorem dX7_holds_92 : decode cX7_holds 92 = .ok (.getfield 67, 3) := by decide +kernel
theorem dX7_holds_95 : decode cX7_holds 95 = .ok (.iload 4, 2) := by decide +kernel
theorem dX7_holds_97 : decode cX7_holds 97 = .ok (.iaload, 1) := by decide +kernel
theorem dX7_holds_98 : decode cX7_holds 98 = .ok (.invokevirtual 283, 3) := by decide +kernel
theorem dX7_holds_101 : decode cX7_holds 101 = .ok (.istore 5, 2) := by decide +kernel
theorem dX7_holds_103 : decode cX7_holds 103 = .ok (.aload_n 0, 1) := by decide +kernel
theorem dX7_holds_104 : decode cX7_holds 104 = .ok (.aload_n 0, 1) := by decide +kernel
theorem dX7_holds_105 : decode cX7_holds 105 = .ok (.getfield 67, 3) := by decide +kernel
theorem dX7_holds_108 : decode cX7_holds 108 = .ok (.iload 4, 2) := by decide +kernel
theorem dX7_holds_110 : decode cX7_holds 110 = .ok (.iaload, 1) := by decide +kernel
theorem dX7_holds_111 : decode cX7_holds 111 = .ok (.aload_n 0, 1) := by decide +kernel
theorem dX7_holds_112 : decode cX7_holds 112 = .ok (.getfield 70, 3) := by decide +kernel
theorem dX7_holds_115 : decode cX7_holds 115 = .ok (.iload 4, 2) := by decide +kernel
theorem dX7_holds_117 : decode cX7_holds 117 = .ok (.iaload, 1) := by decide +kernel
theorem dX7_holds_118 : decode cX7_holds 118 = .ok (.invokevirtual 283, 3) := by decide +kernel
theorem dX7_holds_121 : decode cX7_holds 121 = .ok (.istore 6, 2) := by decide +kernel
theorem dX7_holds_123 : decode cX7_holds 123 = .ok (.aload_n 0, 1) := by decide +kernel
theorem dX7_holds_124 : decode cX7_holds 124 = .ok (.getfield 61, 3) := by decide +kernel
theorem dX7_holds_127 : decode cX7_holds 127 = .ok (.iload 4, 2) := by decide +kernel
theorem dX7_holds_129 : decode cX7_holds 129 = .ok (.iaload, 1) := by decide +kernel
theorem dX7_holds_130 : decode cX7_holds 130 = .ok (.ifCond .ne 18, 3) := by decide +kernel
theorem dX7_holds_133 : decode cX7_holds 133 = .ok (.iload 5, 2) := by decide +kernel
theorem dX7_holds_135 : decode cX7_holds 135 = .ok (.iload 6, 2) := by decide +kernel
theorem dX7_holds_137 : decode cX7_holds 137 = .ok (.if_icmp .ne 7, 3) := by decide +kernel
theorem dX7_holds_140 : decode cX7_holds 140 = .ok (.iconst 1, 1) := by decide +kernel
theorem dX7_holds_141 : decode cX7_holds 141 = .ok (.goto 71, 3) := by decide +kernel
theorem dX7_holds_144 : decode cX7_holds 144 = .ok (.iconst 0, 1) := by decide +kernel
theorem dX7_holds_145 : decode cX7_holds 145 = .ok (.goto 67, 3) := by decide +kernel
theorem dX7_holds_148 : decode cX7_holds 148 = .ok (.aload_n 0, 1) := by decide +kernel
theorem dX7_holds_149 : decode cX7_holds 149 = .ok (.getfield 61, 3) := by decide +kernel
theorem dX7_holds_152 : decode cX7_holds 152 = .ok (.iload 4, 2) := by decide +kernel
theorem dX7_holds_154 : decode cX7_holds 154 = .ok (.iaload, 1) := by decide +kernel
theorem dX7_holds_155 : decode cX7_holds 155 = .ok (.iconst 1, 1) := by decide +kernel
theorem dX7_holds_156 : decode cX7_holds 156 = .ok (.if_icmp .ne 18, 3) := by decide +kernel
theorem dX7_holds_159 : decode cX7_holds 159 = .ok (.iload 5, 2) := by decide +kernel
theorem dX7_holds_161 : decode cX7_holds 161 = .ok (.iload 6, 2) := by decide +kernel
theorem dX7_holds_163 : decode cX7_holds 163 = .ok (.if_icmp .eq 7, 3) := by decide +kernel
theorem dX7_holds_166 : decode cX7_holds 166 = .ok (.iconst 1, 1) := by decide +kernel
theorem dX7_holds_167 : decode cX7_holds 167 = .ok (.goto 45, 3) := by decide +kernel
theorem dX7_holds_170 : decode cX7_holds 170 = .ok (.iconst 0, 1) := by decide +kernel
theorem dX7_holds_171 : decode cX7_holds 171 = .ok (.goto 41, 3) := by decide +kernel
theorem dX7_holds_174 : decode cX7_holds 174 = .ok (.aload_n 0, 1) := by decide +kernel
theorem dX7_holds_175 : decode cX7_holds 175 = .ok (.getfield 61, 3) := by decide +kernel
theorem dX7_holds_178 : decode cX7_holds 178 = .ok (.iload 4, 2) := by decide +kernel
theorem dX7_holds_180 : decode cX7_holds 180 = .ok (.iaload, 1) := by decide +kernel
theorem dX7_holds_181 : decode cX7_holds 181 = .ok (.iconst 2, 1) := by decide +kernel
theorem dX7_holds_182 : decode cX7_holds 182 = .ok (.if_icmp .ne 18, 3) := by decide +kernel
theorem dX7_holds_185 : decode cX7_holds 185 = .ok (.iload 5, 2) := by decide +kernel
theorem dX7_holds_187 : decode cX7_holds 187 = .ok (.iload 6, 2) := by decide +kernel
theorem dX7_holds_189 : decode cX7_holds 189 = .ok (.if_icmp .ge 7, 3) := by decide +kernel
theorem dX7_holds_192 : decode cX7_holds 192 = .ok (.iconst 1, 1) := by decide +kernel
theorem dX7_holds_193 : decode cX7_holds 193 = .ok (.goto 19, 3) := by decide +kernel
theorem dX7_holds_196 : decode cX7_holds 196 = .ok (.iconst 0, 1) := by decide +kernel
theorem dX7_holds_197 : decode cX7_holds 197 = .ok (.goto 15, 3) := by decide +kernel
theorem dX7_holds_200 : decode cX7_holds 200 = .ok (.iload 5, 2) := by decide +kernel
theorem dX7_holds_202 : decode cX7_holds 202 = .ok (.iload 6, 2) := by decide +kernel
theorem dX7_holds_204 : decode cX7_holds 204 = .ok (.if_icmp .gt 7, 3) := by decide +kernel
theorem dX7_holds_207 : decode cX7_holds 207 = .ok (.iconst 1, 1) := by decide +kernel
theorem dX7_holds_208 : decode cX7_holds 208 = .ok (.goto 4, 3) := by decide +kernel
theorem dX7_holds_211 : decode cX7_holds 211 = .ok (.iconst 0, 1) := by decide +kernel
theorem dX7_holds_212 : decode cX7_holds 212 = .ok (.istore_n 2, 1) := by decide +kernel
theorem dX7_holds_213 : decode cX7_holds 213 = .ok (.iinc 3 1, 3) := by decide +kernel
theorem dX7_holds_216 : decode cX7_holds 216 = .ok (.goto (-190), 3) := by decide +kernel
theorem dX7_holds_219 : decode cX7_holds 219 = .ok (.iload_n 2, 1) := by decide +kernel
theorem dX7_holds_220 : decode cX7_holds 220 = .ok (.ireturn, 1) := by decide +kernel
theorem dX7_ruleOf_0 : decode cX7_ruleOf 0 = .ok (.iconst 0, 1) := by decide +kernel
theorem dX7_ruleOf_1 : decode cX7_ruleOf 1 = .ok (.istore_n 2, 1) := by decide +kernel
theorem dX7_ruleOf_2 : decode cX7_ruleOf 2 = .ok (.iload_n 2, 1) := by decide +kernel
theorem dX7_ruleOf_3 : decode cX7_ruleOf 3 = .ok (.aload_n 0, 1) := by decide +kernel
theorem dX7_ruleOf_4 : decode cX7_ruleOf 4 = .ok (.getfield 40, 3) := by decide +kernel
theorem dX7_ruleOf_7 : decode cX7_ruleOf 7 = .ok (.aload_n 0, 1) := by decide +kernel
theorem dX7_ruleOf_8 : decode cX7_ruleOf 8 = .ok (.getfield 230, 3) := by decide +kernel
theorem dX7_ruleOf_11 : decode cX7_ruleOf 11 = .ok (.iaload, 1) := by decide +kernel
theorem dX7_ruleOf_12 : decode cX7_ruleOf 12 = .ok (.if_icmp .ge 45, 3) := by decide +kernel
theorem dX7_ruleOf_15 : decode cX7_ruleOf 15 = .ok (.aload_n 0, 1) := by decide +kernel
theorem dX7_ruleOf_16 : decode cX7_ruleOf 16 = .ok (.getfield 43, 3) := by decide +kernel
theorem dX7_ruleOf_19 : decode cX7_ruleOf 19 = .ok (.bipush 16, 2) := by decide +kernel
theorem dX7_ruleOf_21 : decode cX7_ruleOf 21 = .ok (.aload_n 0, 1) := by decide +kernel
theorem dX7_ruleOf_22 : decode cX7_ruleOf 22 = .ok (.getfield 230, 3) := by decide +kernel
theorem dX7_ruleOf_25 : decode cX7_ruleOf 25 = .ok (.imul, 1) := by decide +kernel
theorem dX7_ruleOf_26 : decode cX7_ruleOf 26 = .ok (.iload_n 2, 1) := by decide +kernel
theorem dX7_ruleOf_27 : decode cX7_ruleOf 27 = .ok (.iadd, 1) := by decide +kernel
theorem dX7_ruleOf_28 : decode cX7_ruleOf 28 = .ok (.iaload, 1) := by decide +kernel
theorem dX7_ruleOf_29 : decode cX7_ruleOf 29 = .ok (.iload_n 1, 1) := by decide +kernel
theorem dX7_ruleOf_30 : decode cX7_ruleOf 30 = .ok (.if_icmp .ne 21, 3) := by decide +kernel
theorem dX7_ruleOf_33 : decode cX7_ruleOf 33 = .ok (.aload_n 0, 1) := by decide +kernel
theorem dX7_ruleOf_34 : decode cX7_ruleOf 34 = .ok (.bipush 16, 2) := by decide +kernel
theorem dX7_ruleOf_36 : decode cX7_ruleOf 36 = .ok (.aload_n 0, 1) := by decide +kernel
theorem dX7_ruleOf_37 : decode cX7_ruleOf 37 = .ok (.getfield 230, 3) := by decide +kernel
theorem dX7_ruleOf_40 : decode cX7_ruleOf 40 = .ok (.imul, 1) := by decide +kernel
theorem dX7_ruleOf_41 : decode cX7_ruleOf 41 = .ok (.iload_n 2, 1) := by decide +kernel
theorem dX7_ruleOf_42 : decode cX7_ruleOf 42 = .ok (.iadd, 1) := by decide +kernel
theorem dX7_ruleOf_43 : decode cX7_ruleOf 43 = .ok (.invokevirtual 287, 3) := by decide +kernel
theorem dX7_ruleOf_46 : decode cX7_ruleOf 46 = .ok (.ifCond .eq 5, 3) := by decide +kernel
theorem dX7_ruleOf_49 : decode cX7_ruleOf 49 = .ok (.iload_n 2, 1) := by decide +kernel
theorem dX7_ruleOf_50 : decode cX7_ruleOf 50 = .ok (.ireturn, 1) := by decide +kernel
theorem dX7_ruleOf_51 : decode cX7_ruleOf 51 = .ok (.iinc 2 1, 3) := by decide +kernel
theorem dX7_ruleOf_54 : decode cX7_ruleOf 54 = .ok (.goto (-52), 3) := by decide +kernel
theorem dX7_ruleOf_57 : decode cX7_ruleOf 57 = .ok (.iconst (-1), 1) := by decide +kernel
theorem dX7_ruleOf_58 : decode cX7_ruleOf 58 = .ok (.ireturn, 1) := by decide +kernel
theorem dX7_ageOf_0 : decode cX7_ageOf 0 = .ok (.aload_n 0, 1) := by decide +kernel
theorem dX7_ageOf_1 : decode cX7_ageOf 1 = .ok (.getfield 86, 3) := by decide +kernel
theorem dX7_ageOf_4 : decode cX7_ageOf 4 = .ok (.iload_n 1, 1) := by decide +kernel
theorem dX7_ageOf_5 : decode cX7_ageOf 5 = .ok (.iaload, 1) := by decide +kernel
theorem dX7_ageOf_6 : decode cX7_ageOf 6 = .ok (.istore_n 3, 1) := by decide +kernel
theorem dX7_ageOf_7 : decode cX7_ageOf 7 = .ok (.iconst 0, 1) := by decide +kernel
theorem dX7_ageOf_8 : decode cX7_ageOf 8 = .ok (.istore 4, 2) := by decide +kernel
theorem dX7_ageOf_10 : decode cX7_ageOf 10 = .ok (.iload 4, 2) := by decide +kernel
theorem dX7_ageOf_12 : decode cX7_ageOf 12 = .ok (.aload_n 0, 1) := by decide +kernel
theorem dX7_ageOf_13 : decode cX7_ageOf 13 = .ok (.getfield 262, 3) := by decide +kernel
theorem dX7_ageOf_16 : decode cX7_ageOf 16 = .ok (.if_icmp .ge 45, 3) := by decide +kernel
theorem dX7_ageOf_19 : decode cX7_ageOf 19 = .ok (.iconst 0, 1) := by decide +kernel
theorem dX7_ageOf_20 : decode cX7_ageOf 20 = .ok (.istore 5, 2) := by decide +kernel
theorem dX7_ageOf_22 : decode cX7_ageOf 22 = .ok (.iload 5, 2) := by decide +kernel
theorem dX7_ageOf_24 : decode cX7_ageOf 24 = .ok (.iload_n 2, 1) := by decide +kernel
theorem dX7_ageOf_25 : decode cX7_ageOf 25 = .ok (.if_icmp .gt 30, 3) := by decide +kernel
theorem dX7_ageOf_28 : decode cX7_ageOf 28 = .ok (.aload_n 0, 1) := by decide +kernel
theorem dX7_ageOf_29 : decode cX7_ageOf 29 = .ok (.getfield 113, 3) := by decide +kernel
theorem dX7_ageOf_32 : decode cX7_ageOf 32 = .ok (.sipush 400, 3) := by decide +kernel
theorem dX7_ageOf_35 : decode cX7_ageOf 35 = .ok (.iload 4, 2) := by decide +kernel
theorem dX7_ageOf_37 : decode cX7_ageOf 37 = .ok (.imul, 1) := by decide +kernel
theorem dX7_ageOf_38 : decode cX7_ageOf 38 = .ok (.iload 5, 2) := by decide +kernel
theorem dX7_ageOf_40 : decode cX7_ageOf 40 = .ok (.iadd, 1) := by decide +kernel
theorem dX7_ageOf_41 : decode cX7_ageOf 41 = .ok (.iaload, 1) := by decide +kernel
theorem dX7_ageOf_42 : decode cX7_ageOf 42 = .ok (.iload_n 1, 1) := by decide +kernel
theorem dX7_ageOf_43 : decode cX7_ageOf 43 = .ok (.if_icmp .ne 6, 3) := by decide +kernel
theorem dX7_ageOf_46 : decode cX7_ageOf 46 = .ok (.iinc 3 1, 3) := by decide +kernel
theorem dX7_ageOf_49 : decode cX7_ageOf 49 = .ok (.iinc 5 1, 3) := by decide +kernel
theorem dX7_ageOf_52 : decode cX7_ageOf 52 = .ok (.goto (-30), 3) := by decide +kernel
theorem dX7_ageOf_55 : decode cX7_ageOf 55 = .ok (.iinc 4 1, 3) := by decide +kernel
theorem dX7_ageOf_58 : decode cX7_ageOf 58 = .ok (.goto (-48), 3) := by decide +kernel
theorem dX7_ageOf_61 : decode cX7_ageOf 61 = .ok (.iload_n 3, 1) := by decide +kernel
theorem dX7_ageOf_62 : decode cX7_ageOf 62 = .ok (.ireturn, 1) := by decide +kernel
theorem dX7_owesAll_0 : decode cX7_owesAll 0 = .ok (.iconst 0, 1) := by decide +kernel
theorem dX7_owesAll_1 : decode cX7_owesAll 1 = .ok (.istore_n 2, 1) := by decide +kernel
theorem dX7_owesAll_2 : decode cX7_owesAll 2 = .ok (.iconst 0, 1) := by decide +kernel
theorem dX7_owesAll_3 : decode cX7_owesAll 3 = .ok (.istore_n 3, 1) := by decide +kernel
theorem dX7_owesAll_4 : decode cX7_owesAll 4 = .ok (.iload_n 3, 1) := by decide +kernel
theorem dX7_owesAll_5 : decode cX7_owesAll 5 = .ok (.bipush 8, 2) := by decide +kernel
theorem dX7_owesAll_7 : decode cX7_owesAll 7 = .ok (.if_icmp .ge 23, 3) := by decide +kernel
theorem dX7_owesAll_10 : decode cX7_owesAll 10 = .ok (.iload_n 2, 1) := by decide +kernel
theorem dX7_owesAll_11 : decode cX7_owesAll 11 = .ok (.aload_n 0, 1) := by decide +kernel
theorem dX7_owesAll_12 : decode cX7_owesAll 12 = .ok (.getfield 119, 3) := by decide +kernel
theorem dX7_owesAll_15 : decode cX7_owesAll 15 = .ok (.bipush 8, 2) := by decide +kernel
theorem dX7_owesAll_17 : decode cX7_owesAll 17 = .ok (.iload_n 1, 1) := by decide +kernel
theorem dX7_owesAll_18 : decode cX7_owesAll 18 = .ok (.imul, 1) := by decide +kernel
theorem dX7_owesAll_19 : decode cX7_owesAll 19 = .ok (.iload_n 3, 1) := by decide +kernel
theorem dX7_owesAll_20 : decode cX7_owesAll 20 = .ok (.iadd, 1) := by decide +kernel
theorem dX7_owesAll_21 : decode cX7_owesAll 21 = .ok (.iaload, 1) := by decide +kernel
theorem dX7_owesAll_22 : decode cX7_owesAll 22 = .ok (.iadd, 1) := by decide +kernel
theorem dX7_owesAll_23 : decode cX7_owesAll 23 = .ok (.istore_n 2, 1) := by decide +kernel
theorem dX7_owesAll_24 : decode cX7_owesAll 24 = .ok (.iinc 3 1, 3) := by decide +kernel
theorem dX7_owesAll_27 : decode cX7_owesAll 27 = .ok (.goto (-23), 3) := by decide +kernel
theorem dX7_owesAll_30 : decode cX7_owesAll 30 = .ok (.iload_n 2, 1) := by decide +kernel
theorem dX7_owesAll_31 : decode cX7_owesAll 31 = .ok (.ireturn, 1) := by decide +kernel
theorem dX7_goes_0 : decode cX7_goes 0 = .ok (.aload_n 0, 1) := by decide +kernel
theorem dX7_goes_1 : decode cX7_goes 1 = .ok (.getfield 110, 3) := by decide +kernel
theorem dX7_goes_4 : decode cX7_goes 4 = .ok (.iload_n 1, 1) := by decide +kernel
theorem dX7_goes_5 : decode cX7_goes 5 = .ok (.if_icmp .ne 12, 3) := by decide +kernel
theorem dX7_goes_8 : decode cX7_goes 8 = .ok (.aload_n 0, 1) := by decide +kernel
theorem dX7_goes_9 : decode cX7_goes 9 = .ok (.getfield 290, 3) := by decide +kernel
theorem dX7_goes_12 : decode cX7_goes 12 = .ok (.iload_n 2, 1) := by decide +kernel
theorem dX7_goes_13 : decode cX7_goes 13 = .ok (.if_icmp .ne 4, 3) := by decide +kernel
theorem dX7_goes_16 : decode cX7_goes 16 = .ok (.return_, 1) := by decide +kernel
theorem dX7_goes_17 : decode cX7_goes 17 = .ok (.aload_n 0, 1) := by decide +kernel
theorem dX7_goes_18 : decode cX7_goes 18 = .ok (.iload_n 1, 1) := by decide +kernel
theorem dX7_goes_19 : decode cX7_goes 19 = .ok (.putfield 110, 3) := by decide +kernel
theorem dX7_goes_22 : decode cX7_goes 22 = .ok (.aload_n 0, 1) := by decide +kernel
theorem dX7_goes_23 : decode cX7_goes 23 = .ok (.iload_n 2, 1) := by decide +kernel
theorem dX7_goes_24 : decode cX7_goes 24 = .ok (.putfield 290, 3) := by decide +kernel
theorem dX7_goes_27 : decode cX7_goes 27 = .ok (.iconst 0, 1) := by decide +kernel
theorem dX7_goes_28 : decode cX7_goes 28 = .ok (.istore_n 3, 1) := by decide +kernel
theorem dX7_goes_29 : decode cX7_goes 29 = .ok (.iload_n 3, 1) := by decide +kernel
theorem dX7_goes_30 : decode cX7_goes 30 = .ok (.sipush 3200, 3) := by decide +kernel
theorem dX7_goes_33 : decode cX7_goes 33 = .ok (.if_icmp .ge 27, 3) := by decide +kernel
theorem dX7_goes_36 : decode cX7_goes 36 = .ok (.aload_n 0, 1) := by decide +kernel
theorem dX7_goes_37 : decode cX7_goes 37 = .ok (.getfield 113, 3) := by decide +kernel
theorem dX7_goes_40 : decode cX7_goes 40 = .ok (.iload_n 3, 1) := by decide +kernel
theorem dX7_goes_41 : decode cX7_goes 41 = .ok (.iload_n 3, 1) := by decide +kernel
theorem dX7_goes_42 : decode cX7_goes 42 = .ok (.sipush 400, 3) := by decide +kernel
theorem dX7_goes_45 : decode cX7_goes 45 = .ok (.idiv, 1) := by decide +kernel
theorem dX7_goes_46 : decode cX7_goes 46 = .ok (.iastore, 1) := by decide +kernel
theorem dX7_goes_47 : decode cX7_goes 47 = .ok (.aload_n 0, 1) := by decide +kernel
theorem dX7_goes_48 : decode cX7_goes 48 = .ok (.getfield 116, 3) := by decide +kernel
theorem dX7_goes_51 : decode cX7_goes 51 = .ok (.iload_n 3, 1) := by decide +kernel
theorem dX7_goes_52 : decode cX7_goes 52 = .ok (.iconst 0, 1) := by decide +kernel
theorem dX7_goes_53 : decode cX7_goes 53 = .ok (.iastore, 1) := by decide +kernel
theorem dX7_goes_54 : decode cX7_goes 54 = .ok (.iinc 3 1, 3) := by decide +kernel
theorem dX7_goes_57 : decode cX7_goes 57 = .ok (.goto (-28), 3) := by decide +kernel
theorem dX7_goes_60 : decode cX7_goes 60 = .ok (.iconst 0, 1) := by decide +kernel
theorem dX7_goes_61 : decode cX7_goes 61 = .ok (.istore_n 3, 1) := by decide +kernel
theorem dX7_goes_62 : decode cX7_goes 62 = .ok (.iload_n 3, 1) := by decide +kernel
theorem dX7_goes_63 : decode cX7_goes 63 = .ok (.bipush 64, 2) := by decide +kernel
theorem dX7_goes_65 : decode cX7_goes 65 = .ok (.if_icmp .ge 16, 3) := by decide +kernel
theorem dX7_goes_68 : decode cX7_goes 68 = .ok (.aload_n 0, 1) := by decide +kernel
theorem dX7_goes_69 : decode cX7_goes 69 = .ok (.getfield 119, 3) := by decide +kernel
theorem dX7_goes_72 : decode cX7_goes 72 = .ok (.iload_n 3, 1) := by decide +kernel
theorem dX7_goes_73 : decode cX7_goes 73 = .ok (.iconst 0, 1) := by decide +kernel
theorem dX7_goes_74 : decode cX7_goes 74 = .ok (.iastore, 1) := by decide +kernel
theorem dX7_goes_75 : decode cX7_goes 75 = .ok (.iinc 3 1, 3) := by decide +kernel
theorem dX7_goes_78 : decode cX7_goes 78 = .ok (.goto (-16), 3) := by decide +kernel
theorem dX7_goes_81 : decode cX7_goes 81 = .ok (.iconst 0, 1) := by decide +kernel
theorem dX7_goes_82 : decode cX7_goes 82 = .ok (.istore_n 3, 1) := by decide +kernel
theorem dX7_goes_83 : decode cX7_goes 83 = .ok (.iload_n 3, 1) := by decide +kernel
theorem dX7_goes_84 : decode cX7_goes 84 = .ok (.sipush 400, 3) := by decide +kernel
theorem dX7_goes_87 : decode cX7_goes 87 = .ok (.if_icmp .ge 16, 3) := by decide +kernel
theorem dX7_goes_90 : decode cX7_goes 90 = .ok (.aload_n 0, 1) := by decide +kernel
theorem dX7_goes_91 : decode cX7_goes 91 = .ok (.getfield 131, 3) := by decide +kernel
theorem dX7_goes_94 : decode cX7_goes 94 = .ok (.iload_n 3, 1) := by decide +kernel
theorem dX7_goes_95 : decode cX7_goes 95 = .ok (.iconst 0, 1) := by decide +kernel
theorem dX7_goes_96 : decode cX7_goes 96 = .ok (.bastore, 1) := by decide +kernel
theorem dX7_goes_97 : decode cX7_goes 97 = .ok (.iinc 3 1, 3) := by decide +kernel
theorem dX7_goes_100 : decode cX7_goes 100 = .ok (.goto (-17), 3) := by decide +kernel
theorem dX7_goes_103 : decode cX7_goes 103 = .ok (.iconst 0, 1) := by decide +kernel
theorem dX7_goes_104 : decode cX7_goes 104 = .ok (.istore_n 3, 1) := by decide +kernel
theorem dX7_goes_105 : decode cX7_goes 105 = .ok (.iload_n 3, 1) := by decide +kernel
theorem dX7_goes_106 : decode cX7_goes 106 = .ok (.bipush 120, 2) := by decide +kernel
theorem dX7_goes_108 : decode cX7_goes 108 = .ok (.if_icmp .ge 16, 3) := by decide +kernel
theorem dX7_goes_111 : decode cX7_goes 111 = .ok (.aload_n 0, 1) := by decide +kernel
theorem dX7_goes_112 : decode cX7_goes 112 = .ok (.getfield 134, 3) := by decide +kernel
theorem dX7_goes_115 : decode cX7_goes 115 = .ok (.iload_n 3, 1) := by decide +kernel
theorem dX7_goes_116 : decode cX7_goes 116 = .ok (.iconst 0, 1) := by decide +kernel
theorem dX7_goes_117 : decode cX7_goes 117 = .ok (.bastore, 1) := by decide +kernel
theorem dX7_goes_118 : decode cX7_goes 118 = .ok (.iinc 3 1, 3) := by decide +kernel
theorem dX7_goes_121 : decode cX7_goes 121 = .ok (.goto (-16), 3) := by decide +kernel
theorem dX7_goes_124 : decode cX7_goes 124 = .ok (.iconst 0, 1) := by decide +kernel
theorem dX7_goes_125 : decode cX7_goes 125 = .ok (.istore_n 3, 1) := by decide +kernel
theorem dX7_goes_126 : decode cX7_goes 126 = .ok (.iload_n 3, 1) := by decide +kernel
theorem dX7_goes_127 : decode cX7_goes 127 = .ok (.iload_n 1, 1) := by decide +kernel
theorem dX7_goes_128 : decode cX7_goes 128 = .ok (.if_icmp .ge 67, 3) := by decide +kernel
theorem dX7_goes_131 : decode cX7_goes 131 = .ok (.aload_n 0, 1) := by decide +kernel
theorem dX7_goes_132 : decode cX7_goes 132 = .ok (.getfield 89, 3) := by decide +kernel
theorem dX7_goes_135 : decode cX7_goes 135 = .ok (.iload_n 3, 1) := by decide +kernel
theorem dX7_goes_136 : decode cX7_goes 136 = .ok (.iaload, 1) := by decide +kernel
theorem dX7_goes_137 : decode cX7_goes 137 = .ok (.iconst 3, 1) := by decide +kernel
theorem dX7_goes_138 : decode cX7_goes 138 = .ok (.if_icmp .ne 15, 3) := by decide +kernel
theorem dX7_goes_141 : decode cX7_goes 141 = .ok (.aload_n 0, 1) := by decide +kernel
theorem dX7_goes_142 : decode cX7_goes 142 = .ok (.getfield 134, 3) := by decide +kernel
theorem dX7_goes_145 : decode cX7_goes 145 = .ok (.aload_n 0, 1) := by decide +kernel
theorem dX7_goes_146 : decode cX7_goes 146 = .ok (.getfield 107, 3) := by decide +kernel
theorem dX7_goes_149 : decode cX7_goes 149 = .ok (.iload_n 3, 1) := by decide +kernel
theorem dX7_goes_150 : decode cX7_goes 150 = .ok (.iaload, 1) := by decide +kernel
theorem dX7_goes_151 : decode cX7_goes 151 = .ok (.iconst 1, 1) := by decide +kernel
theorem dX7_goes_152 : decode cX7_goes 152 = .ok (.bastore, 1) := by decide +kernel
theorem dX7_goes_153 : decode cX7_goes 153 = .ok (.aload_n 0, 1) := by decide +kernel
theorem dX7_goes_154 : decode cX7_goes 154 = .ok (.getfield 89, 3) := by decide +kernel
theorem dX7_goes_157 : decode cX7_goes 157 = .ok (.iload_n 3, 1) := by decide +kernel
theorem dX7_goes_158 : decode cX7_goes 158 = .ok (.iaload, 1) := by decide +kernel
theorem dX7_goes_159 : decode cX7_goes 159 = .ok (.iconst 4, 1) := by decide +kernel
theorem dX7_goes_160 : decode cX7_goes 160 = .ok (.if_icmp .ne 29, 3) := by decide +kernel
theorem dX7_goes_163 : decode cX7_goes 163 = .ok (.aload_n 0, 1) := by decide +kernel
theorem dX7_goes_164 : decode cX7_goes 164 = .ok (.getfield 131, 3) := by decide +kernel
theorem dX7_goes_167 : decode cX7_goes 167 = .ok (.aload_n 0, 1) := by decide +kernel
theorem dX7_goes_168 : decode cX7_goes 168 = .ok (.getfield 92, 3) := by decide +kernel
theorem dX7_goes_171 : decode cX7_goes 171 = .ok (.iload_n 3, 1) := by decide +kernel
theorem dX7_goes_172 : decode cX7_goes 172 = .ok (.iaload, 1) := by decide +kernel
theorem dX7_goes_173 : decode cX7_goes 173 = .ok (.aload_n 0, 1) := by decide +kernel
theorem dX7_goes_174 : decode cX7_goes 174 = .ok (.getfield 107, 3) := by decide +kernel
theorem dX7_goes_177 : decode cX7_goes 177 = .ok (.iload_n 3, 1) := by decide +kernel
theorem dX7_goes_178 : decode cX7_goes 178 = .ok (.iaload, 1) := by decide +kernel
theorem dX7_goes_179 : decode cX7_goes 179 = .ok (.iconst 1, 1) := by decide +kernel
theorem dX7_goes_180 : decode cX7_goes 180 = .ok (.if_icmp .ne 7, 3) := by decide +kernel
theorem dX7_goes_183 : decode cX7_goes 183 = .ok (.iconst 1, 1) := by decide +kernel
theorem dX7_goes_184 : decode cX7_goes 184 = .ok (.goto 4, 3) := by decide +kernel
theorem dX7_goes_187 : decode cX7_goes 187 = .ok (.iconst 0, 1) := by decide +kernel
theorem dX7_goes_188 : decode cX7_goes 188 = .ok (.bastore, 1) := by decide +kernel
theorem dX7_goes_189 : decode cX7_goes 189 = .ok (.iinc 3 1, 3) := by decide +kernel
theorem dX7_goes_192 : decode cX7_goes 192 = .ok (.goto (-66), 3) := by decide +kernel
theorem dX7_goes_195 : decode cX7_goes 195 = .ok (.iconst 0, 1) := by decide +kernel
theorem dX7_goes_196 : decode cX7_goes 196 = .ok (.istore_n 3, 1) := by decide +kernel
theorem dX7_goes_197 : decode cX7_goes 197 = .ok (.iload_n 3, 1) := by decide +kernel
theorem dX7_goes_198 : decode cX7_goes 198 = .ok (.iload_n 2, 1) := by decide +kernel
theorem dX7_goes_199 : decode cX7_goes 199 = .ok (.if_icmp .gt 52, 3) := by decide +kernel
theorem dX7_goes_202 : decode cX7_goes 202 = .ok (.iconst 0, 1) := by decide +kernel
theorem dX7_goes_203 : decode cX7_goes 203 = .ok (.istore 4, 2) := by decide +kernel
theorem dX7_goes_205 : decode cX7_goes 205 = .ok (.iload 4, 2) := by decide +kernel
theorem dX7_goes_207 : decode cX7_goes 207 = .ok (.iload_n 1, 1) := by decide +kernel
theorem dX7_goes_208 : decode cX7_goes 208 = .ok (.if_icmp .ge 37, 3) := by decide +kernel
theorem dX7_goes_211 : decode cX7_goes 211 = .ok (.aload_n 0, 1) := by decide +kernel
theorem dX7_goes_212 : decode cX7_goes 212 = .ok (.getfield 89, 3) := by decide +kernel
theorem dX7_goes_215 : decode cX7_goes 215 = .ok (.iload 4, 2) := by decide +kernel
theorem dX7_goes_217 : decode cX7_goes 217 = .ok (.iaload, 1) := by decide +kernel
theorem dX7_goes_218 : decode cX7_goes 218 = .ok (.iconst 2, 1) := by decide +kernel
theorem dX7_goes_219 : decode cX7_goes 219 = .ok (.if_icmp .gt 20, 3) := by decide +kernel
theorem dX7_goes_222 : decode cX7_goes 222 = .ok (.aload_n 0, 1) := by decide +kernel
theorem dX7_goes_223 : decode cX7_goes 223 = .ok (.getfield 92, 3) := by decide +kernel
theorem dX7_goes_226 : decode cX7_goes 226 = .ok (.iload 4, 2) := by decide +kernel
theorem dX7_goes_228 : decode cX7_goes 228 = .ok (.iaload, 1) := by decide +kernel
theorem dX7_goes_229 : decode cX7_goes 229 = .ok (.iload_n 3, 1) := by decide +kernel
theorem dX7_goes_230 : decode cX7_goes 230 = .ok (.if_icmp .ne 9, 3) := by decide +kernel
theorem dX7_goes_233 : decode cX7_goes 233 = .ok (.aload_n 0, 1) := by decide +kernel
theorem dX7_goes_234 : decode cX7_goes 234 = .ok (.iload 4, 2) := by decide +kernel
theorem dX7_goes_236 : decode cX7_goes 236 = .ok (.invokevirtual 293, 3) := by decide +kernel
theorem dX7_goes_239 : decode cX7_goes 239 = .ok (.iinc 4 1, 3) := by decide +kernel
theorem dX7_goes_242 : decode cX7_goes 242 = .ok (.goto (-37), 3) := by decide +kernel
theorem dX7_goes_245 : decode cX7_goes 245 = .ok (.iinc 3 1, 3) := by decide +kernel
theorem dX7_goes_248 : decode cX7_goes 248 = .ok (.goto (-51), 3) := by decide +kernel
theorem dX7_goes_251 : decode cX7_goes 251 = .ok (.return_, 1) := by decide +kernel
theorem dX7_paper_0 : decode cX7_paper 0 = .ok (.aload_n 0, 1) := by decide +kernel
theorem dX7_paper_1 : decode cX7_paper 1 = .ok (.getfield 122, 3) := by decide +kernel
theorem dX7_paper_4 : decode cX7_paper 4 = .ok (.iload_n 1, 1) := by decide +kernel
theorem dX7_paper_5 : decode cX7_paper 5 = .ok (.aload_n 0, 1) := by decide +kernel
theorem dX7_paper_6 : decode cX7_paper 6 = .ok (.getfield 134, 3) := by decide +kernel
theorem dX7_paper_9 : decode cX7_paper 9 = .ok (.iload_n 1, 1) := by decide +kernel
theorem dX7_paper_10 : decode cX7_paper 10 = .ok (.baload, 1) := by decide +kernel
theorem dX7_paper_11 : decode cX7_paper 11 = .ok (.ifCond .eq 7, 3) := by decide +kernel
theorem dX7_paper_14 : decode cX7_paper 14 = .ok (.iconst 1, 1) := by decide +kernel
theorem dX7_paper_15 : decode cX7_paper 15 = .ok (.goto 4, 3) := by decide +kernel
theorem dX7_paper_18 : decode cX7_paper 18 = .ok (.iconst 0, 1) := by decide +kernel
theorem dX7_paper_19 : decode cX7_paper 19 = .ok (.iastore, 1) := by decide +kernel
theorem dX7_paper_20 : decode cX7_paper 20 = .ok (.aload_n 0, 1) := by decide +kernel
theorem dX7_paper_21 : decode cX7_paper 21 = .ok (.getfield 125, 3) := by decide +kernel
theorem dX7_paper_24 : decode cX7_paper 24 = .ok (.iload_n 1, 1) := by decide +kernel
theorem dX7_paper_25 : decode cX7_paper 25 = .ok (.iconst (-1), 1) := by decide +kernel
theorem dX7_paper_26 : decode cX7_paper 26 = .ok (.iastore, 1) := by decide +kernel
theorem dX7_paper_27 : decode cX7_paper 27 = .ok (.aload_n 0, 1) := by decide +kernel
theorem dX7_paper_28 : decode cX7_paper 28 = .ok (.getfield 128, 3) := by decide +kernel
theorem dX7_paper_31 : decode cX7_paper 31 = .ok (.iload_n 1, 1) := by decide +kernel
theorem dX7_paper_32 : decode cX7_paper 32 = .ok (.iconst (-1), 1) := by decide +kernel
theorem dX7_paper_33 : decode cX7_paper 33 = .ok (.iastore, 1) := by decide +kernel
theorem dX7_paper_34 : decode cX7_paper 34 = .ok (.aload_n 0, 1) := by decide +kernel
theorem dX7_paper_35 : decode cX7_paper 35 = .ok (.getfield 122, 3) := by decide +kernel
theorem dX7_paper_38 : decode cX7_paper 38 = .ok (.iload_n 1, 1) := by decide +kernel
theorem dX7_paper_39 : decode cX7_paper 39 = .ok (.iaload, 1) := by decide +kernel
theorem dX7_paper_40 : decode cX7_paper 40 = .ok (.ifCond .le 4, 3) := by decide +kernel
theorem dX7_paper_43 : decode cX7_paper 43 = .ok (.return_, 1) := by decide +kernel
theorem dX7_paper_44 : decode cX7_paper 44 = .ok (.aload_n 0, 1) := by decide +kernel
theorem dX7_paper_45 : decode cX7_paper 45 = .ok (.getfield 89, 3) := by decide +kernel
theorem dX7_paper_48 : decode cX7_paper 48 = .ok (.iload_n 1, 1) := by decide +kernel
theorem dX7_paper_49 : decode cX7_paper 49 = .ok (.iaload, 1) := by decide +kernel
theorem dX7_paper_50 : decode cX7_paper 50 = .ok (.iconst 2, 1) := by decide +kernel
theorem dX7_paper_51 : decode cX7_paper 51 = .ok (.if_icmp .ne 8, 3) := by decide +kernel
theorem dX7_paper_54 : decode cX7_paper 54 = .ok (.aload_n 0, 1) := by decide +kernel
theorem dX7_paper_55 : decode cX7_paper 55 = .ok (.invokevirtual 296, 3) := by decide +kernel
theorem dX7_paper_58 : decode cX7_paper 58 = .ok (.return_, 1) := by decide +kernel
theorem dX7_paper_59 : decode cX7_paper 59 = .ok (.sipush 400, 3) := by decide +kernel
theorem dX7_paper_62 : decode cX7_paper 62 = .ok (.aload_n 0, 1) := by decide +kernel
theorem dX7_paper_63 : decode cX7_paper 63 = .ok (.getfield 101, 3) := by decide +kernel
theorem dX7_paper_66 : decode cX7_paper 66 = .ok (.iload_n 1, 1) := by decide +kernel
theorem dX7_paper_67 : decode cX7_paper 67 = .ok (.iaload, 1) := by decide +kernel
theorem dX7_paper_68 : decode cX7_paper 68 = .ok (.imul, 1) := by decide +kernel
theorem dX7_paper_69 : decode cX7_paper 69 = .ok (.aload_n 0, 1) := by decide +kernel
theorem dX7_paper_70 : decode cX7_paper 70 = .ok (.getfield 104, 3) := by decide +kernel
theorem dX7_paper_73 : decode cX7_paper 73 = .ok (.iload_n 1, 1) := by decide +kernel
theorem dX7_paper_74 : decode cX7_paper 74 = .ok (.iaload, 1) := by decide +kernel
theorem dX7_paper_75 : decode cX7_paper 75 = .ok (.iadd, 1) := by decide +kernel
theorem dX7_paper_76 : decode cX7_paper 76 = .ok (.istore_n 2, 1) := by decide +kernel
theorem dX7_paper_77 : decode cX7_paper 77 = .ok (.aload_n 0, 1) := by decide +kernel
theorem dX7_paper_78 : decode cX7_paper 78 = .ok (.getfield 113, 3) := by decide +kernel
theorem dX7_paper_81 : decode cX7_paper 81 = .ok (.iload_n 2, 1) := by decide +kernel
theorem dX7_paper_82 : decode cX7_paper 82 = .ok (.iaload, 1) := by decide +kernel
theorem dX7_paper_83 : decode cX7_paper 83 = .ok (.aload_n 0, 1) := by decide +kernel
theorem dX7_paper_84 : decode cX7_paper 84 = .ok (.getfield 95, 3) := by decide +kernel
theorem dX7_paper_87 : decode cX7_paper 87 = .ok (.iload_n 1, 1) := by decide +kernel
theorem dX7_paper_88 : decode cX7_paper 88 = .ok (.iaload, 1) := by decide +kernel
theorem dX7_paper_89 : decode cX7_paper 89 = .ok (.if_icmp .eq 13, 3) := by decide +kernel
theorem dX7_paper_92 : decode cX7_paper 92 = .ok (.aload_n 0, 1) := by decide +kernel
theorem dX7_paper_93 : decode cX7_paper 93 = .ok (.getfield 122, 3) := by decide +kernel
theorem dX7_paper_96 : decode cX7_paper 96 = .ok (.iload_n 1, 1) := by decide +kernel
theorem dX7_paper_97 : decode cX7_paper 97 = .ok (.iconst 2, 1) := by decide +kernel
theorem dX7_paper_98 : decode cX7_paper 98 = .ok (.iastore, 1) := by decide +kernel
theorem dX7_paper_99 : decode cX7_paper 99 = .ok (.goto 77, 3) := by decide +kernel
theorem dX7_paper_102 : decode cX7_paper 102 = .ok (.aload_n 0, 1) := by decide +kernel
theorem dX7_paper_103 : decode cX7_paper 103 = .ok (.getfield 104, 3) := by decide +kernel
theorem dX7_paper_106 : decode cX7_paper 106 = .ok (.iload_n 1, 1) := by decide +kernel
theorem dX7_paper_107 : decode cX7_paper 107 = .ok (.iaload, 1) := by decide +kernel
theorem dX7_paper_108 : decode cX7_paper 108 = .ok (.aload_n 0, 1) := by decide +kernel
theorem dX7_paper_109 : decode cX7_paper 109 = .ok (.getfield 92, 3) := by decide +kernel
theorem dX7_paper_112 : decode cX7_paper 112 = .ok (.iload_n 1, 1) := by decide +kernel
theorem dX7_paper_113 : decode cX7_paper 113 = .ok (.iaload, 1) := by decide +kernel
theorem dX7_paper_114 : decode cX7_paper 114 = .ok (.if_icmp .gt 13, 3) := by decide +kernel
theorem dX7_paper_117 : decode cX7_paper 117 = .ok (.aload_n 0, 1) := by decide +kernel
theorem dX7_paper_118 : decode cX7_paper 118 = .ok (.getfield 122, 3) := by decide +kernel
theorem dX7_paper_121 : decode cX7_paper 121 = .ok (.iload_n 1, 1) := by decide +kernel
theorem dX7_paper_122 : decode cX7_paper 122 = .ok (.iconst 3, 1) := by decide +kernel
theorem dX7_paper_123 : decode cX7_paper 123 = .ok (.iastore, 1) := by decide +kernel
theorem dX7_paper_124 : decode cX7_paper 124 = .ok (.goto 52, 3) := by decide +kernel
theorem dX7_paper_127 : decode cX7_paper 127 = .ok (.aload_n 0, 1) := by decide +kernel
theorem dX7_paper_128 : decode cX7_paper 128 = .ok (.getfield 89, 3) := by decide +kernel
theorem dX7_paper_131 : decode cX7_paper 131 = .ok (.iload_n 1, 1) := by decide +kernel
theorem dX7_paper_132 : decode cX7_paper 132 = .ok (.iaload, 1) := by decide +kernel
theorem dX7_paper_133 : decode cX7_paper 133 = .ok (.ifCond .ne 12, 3) := by decide +kernel
theorem dX7_paper_136 : decode cX7_paper 136 = .ok (.aload_n 0, 1) := by decide +kernel
theorem dX7_paper_137 : decode cX7_paper 137 = .ok (.iload_n 1, 1) := by decide +kernel
theorem dX7_paper_138 : decode cX7_paper 138 = .ok (.iload_n 2, 1) := by decide +kernel
theorem dX7_paper_139 : decode cX7_paper 139 = .ok (.invokevirtual 299, 3) := by decide +kernel
theorem dX7_paper_142 : decode cX7_paper 142 = .ok (.goto 34, 3) := by decide +kernel
theorem dX7_paper_145 : decode cX7_paper 145 = .ok (.aload_n 0, 1) := by decide +kernel
theorem dX7_paper_146 : decode cX7_paper 146 = .ok (.getfield 119, 3) := by decide +kernel
theorem dX7_paper_149 : decode cX7_paper 149 = .ok (.bipush 8, 2) := by decide +kernel
theorem dX7_paper_151 : decode cX7_paper 151 = .ok (.aload_n 0, 1) := by decide +kernel
theorem dX7_paper_152 : decode cX7_paper 152 = .ok (.getfield 95, 3) := by decide +kernel
theorem dX7_paper_155 : decode cX7_paper 155 = .ok (.iload_n 1, 1) := by decide +kernel
theorem dX7_paper_156 : decode cX7_paper 156 = .ok (.iaload, 1) := by decide +kernel
theorem dX7_paper_157 : decode cX7_paper 157 = .ok (.imul, 1) := by decide +kernel
theorem dX7_paper_158 : decode cX7_paper 158 = .ok (.aload_n 0, 1) := by decide +kernel
theorem dX7_paper_159 : decode cX7_paper 159 = .ok (.getfield 98, 3) := by decide +kernel
theorem dX7_paper_162 : decode cX7_paper 162 = .ok (.iload_n 1, 1) := by decide +kernel
theorem dX7_paper_163 : decode cX7_paper 163 = .ok (.iaload, 1) := by decide +kernel
theorem dX7_paper_164 : decode cX7_paper 164 = .ok (.iadd, 1) := by decide +kernel
theorem dX7_paper_165 : decode cX7_paper 165 = .ok (.iaload, 1) := by decide +kernel
theorem dX7_paper_166 : decode cX7_paper 166 = .ok (.ifCond .ne 10, 3) := by decide +kernel
theorem dX7_paper_169 : decode cX7_paper 169 = .ok (.aload_n 0, 1) := by decide +kernel
theorem dX7_paper_170 : decode cX7_paper 170 = .ok (.getfield 122, 3) := by decide +kernel
theorem dX7_paper_173 : decode cX7_paper 173 = .ok (.iload_n 1, 1) := by decide +kernel
theorem dX7_paper_174 : decode cX7_paper 174 = .ok (.iconst 5, 1) := by decide +kernel
theorem dX7_paper_175 : decode cX7_paper 175 = .ok (.iastore, 1) := by decide +kernel
theorem dX7_paper_176 : decode cX7_paper 176 = .ok (.aload_n 0, 1) := by decide +kernel
theorem dX7_paper_177 : decode cX7_paper 177 = .ok (.getfield 122, 3) := by decide +kernel
theorem dX7_paper_180 : decode cX7_paper 180 = .ok (.iload_n 1, 1) := by decide +kernel
theorem dX7_paper_181 : decode cX7_paper 181 = .ok (.iaload, 1) := by decide +kernel
theorem dX7_paper_182 : decode cX7_paper 182 = .ok (.ifCond .le 4, 3) := by decide +kernel
theorem dX7_paper_185 : decode cX7_paper 185 = .ok (.return_, 1) := by decide +kernel
theorem dX7_paper_186 : decode cX7_paper 186 = .ok (.aload_n 0, 1) := by decide +kernel
theorem dX7_paper_187 : decode cX7_paper 187 = .ok (.getfield 113, 3) := by decide +kernel
theorem dX7_paper_190 : decode cX7_paper 190 = .ok (.iload_n 2, 1) := by decide +kernel
theorem dX7_paper_191 : decode cX7_paper 191 = .ok (.aload_n 0, 1) := by decide +kernel
theorem dX7_paper_192 : decode cX7_paper 192 = .ok (.getfield 98, 3) := by decide +kernel
theorem dX7_paper_195 : decode cX7_paper 195 = .ok (.iload_n 1, 1) := by decide +kernel
theorem dX7_paper_196 : decode cX7_paper 196 = .ok (.iaload, 1) := by decide +kernel
theorem dX7_paper_197 : decode cX7_paper 197 = .ok (.iastore, 1) := by decide +kernel
theorem dX7_paper_198 : decode cX7_paper 198 = .ok (.aload_n 0, 1) := by decide +kernel
theorem dX7_paper_199 : decode cX7_paper 199 = .ok (.getfield 116, 3) := by decide +kernel
theorem dX7_paper_202 : decode cX7_paper 202 = .ok (.iload_n 2, 1) := by decide +kernel
theorem dX7_paper_203 : decode cX7_paper 203 = .ok (.dup2, 1) := by decide +kernel
theorem dX7_paper_204 : decode cX7_paper 204 = .ok (.iaload, 1) := by decide +kernel
theorem dX7_paper_205 : decode cX7_paper 205 = .ok (.iconst 1, 1) := by decide +kernel
theorem dX7_paper_206 : decode cX7_paper 206 = .ok (.iadd, 1) := by decide +kernel
theorem dX7_paper_207 : decode cX7_paper 207 = .ok (.iastore, 1) := by decide +kernel
theorem dX7_paper_208 : decode cX7_paper 208 = .ok (.aload_n 0, 1) := by decide +kernel
theorem dX7_paper_209 : decode cX7_paper 209 = .ok (.getfield 89, 3) := by decide +kernel
theorem dX7_paper_212 : decode cX7_paper 212 = .ok (.iload_n 1, 1) := by decide +kernel
theorem dX7_paper_213 : decode cX7_paper 213 = .ok (.iaload, 1) := by decide +kernel
theorem dX7_paper_214 : decode cX7_paper 214 = .ok (.iconst 1, 1) := by decide +kernel
theorem dX7_paper_215 : decode cX7_paper 215 = .ok (.if_icmp .ne 59, 3) := by decide +kernel
theorem dX7_paper_218 : decode cX7_paper 218 = .ok (.aload_n 0, 1) := by decide +kernel
theorem dX7_paper_219 : decode cX7_paper 219 = .ok (.getfield 119, 3) := by decide +kernel
theorem dX7_paper_222 : decode cX7_paper 222 = .ok (.bipush 8, 2) := by decide +kernel
theorem dX7_paper_224 : decode cX7_paper 224 = .ok (.aload_n 0, 1) := by decide +kernel
theorem dX7_paper_225 : decode cX7_paper 225 = .ok (.getfield 95, 3) := by decide +kernel
theorem dX7_paper_228 : decode cX7_paper 228 = .ok (.iload_n 1, 1) := by decide +kernel
theorem dX7_paper_229 : decode cX7_paper 229 = .ok (.iaload, 1) := by decide +kernel
theorem dX7_paper_230 : decode cX7_paper 230 = .ok (.imul, 1) := by decide +kernel
theorem dX7_paper_231 : decode cX7_paper 231 = .ok (.aload_n 0, 1) := by decide +kernel
theorem dX7_paper_232 : decode cX7_paper 232 = .ok (.getfield 98, 3) := by decide +kernel
theorem dX7_paper_235 : decode cX7_paper 235 = .ok (.iload_n 1, 1) := by decide +kernel
theorem dX7_paper_236 : decode cX7_paper 236 = .ok (.iaload, 1) := by decide +kernel
theorem dX7_paper_237 : decode cX7_paper 237 = .ok (.iadd, 1) := by decide +kernel
theorem dX7_paper_238 : decode cX7_paper 238 = .ok (.iaload, 1) := by decide +kernel
theorem dX7_paper_239 : decode cX7_paper 239 = .ok (.bipush 10, 2) := by decide +kernel
theorem dX7_paper_241 : decode cX7_paper 241 = .ok (.isub, 1) := by decide +kernel
theorem dX7_paper_242 : decode cX7_paper 242 = .ok (.istore_n 3, 1) := by decide +kernel
theorem dX7_paper_243 : decode cX7_paper 243 = .ok (.aload_n 0, 1) := by decide +kernel
theorem dX7_paper_244 : decode cX7_paper 244 = .ok (.getfield 119, 3) := by decide +kernel
theorem dX7_paper_247 : decode cX7_paper 247 = .ok (.bipush 8, 2) := by decide +kernel
theorem dX7_paper_249 : decode cX7_paper 249 = .ok (.aload_n 0, 1) := by decide +kernel
theorem dX7_paper_250 : decode cX7_paper 250 = .ok (.getfield 95, 3) := by decide +kernel
theorem dX7_paper_253 : decode cX7_paper 253 = .ok (.iload_n 1, 1) := by decide +kernel
theorem dX7_paper_254 : decode cX7_paper 254 = .ok (.iaload, 1) := by decide +kernel
theorem dX7_paper_255 : decode cX7_paper 255 = .ok (.imul, 1) := by decide +kernel
theorem dX7_paper_256 : decode cX7_paper 256 = .ok (.aload_n 0, 1) := by decide +kernel
theorem dX7_paper_257 : decode cX7_paper 257 = .ok (.getfield 98, 3) := by decide +kernel
theorem dX7_paper_260 : decode cX7_paper 260 = .ok (.iload_n 1, 1) := by decide +kernel
theorem dX7_paper_261 : decode cX7_paper 261 = .ok (.iaload, 1) := by decide +kernel
theorem dX7_paper_262 : decode cX7_paper 262 = .ok (.iadd, 1) := by decide +kernel
theorem dX7_paper_263 : decode cX7_paper 263 = .ok (.iload_n 3, 1) := by decide +kernel
theorem dX7_paper_264 : decode cX7_paper 264 = .ok (.ifCond .ge 7, 3) := by decide +kernel
theorem dX7_paper_267 : decode cX7_paper 267 = .ok (.iconst 0, 1) := by decide +kernel
theorem dX7_paper_268 : decode cX7_paper 268 = .ok (.goto 4, 3) := by decide +kernel
theorem dX7_paper_271 : decode cX7_paper 271 = .ok (.iload_n 3, 1) := by decide +kernel
theorem dX7_paper_272 : decode cX7_paper 272 = .ok (.iastore, 1) := by decide +kernel
theorem dX7_paper_273 : decode cX7_paper 273 = .ok (.return_, 1) := by decide +kernel
theorem dX7_paper_274 : decode cX7_paper 274 = .ok (.bipush 11, 2) := by decide +kernel
theorem dX7_paper_276 : decode cX7_paper 276 = .ok (.istore_n 3, 1) := by decide +kernel
theorem dX7_paper_277 : decode cX7_paper 277 = .ok (.aload_n 0, 1) := by decide +kernel
theorem dX7_paper_278 : decode cX7_paper 278 = .ok (.getfield 128, 3) := by decide +kernel
theorem dX7_paper_281 : decode cX7_paper 281 = .ok (.iload_n 1, 1) := by decide +kernel
theorem dX7_paper_282 : decode cX7_paper 282 = .ok (.iaload, 1) := by decide +kernel
theorem dX7_paper_283 : decode cX7_paper 283 = .ok (.iconst (-1), 1) := by decide +kernel
theorem dX7_paper_284 : decode cX7_paper 284 = .ok (.if_icmp .eq 67, 3) := by decide +kernel
theorem dX7_paper_287 : decode cX7_paper 287 = .ok (.aload_n 0, 1) := by decide +kernel
theorem dX7_paper_288 : decode cX7_paper 288 = .ok (.aload_n 0, 1) := by decide +kernel
theorem dX7_paper_289 : decode cX7_paper 289 = .ok (.getfield 46, 3) := by decide +kernel
theorem dX7_paper_292 : decode cX7_paper 292 = .ok (.bipush 16, 2) := by decide +kernel
theorem dX7_paper_294 : decode cX7_paper 294 = .ok (.aload_n 0, 1) := by decide +kernel
theorem dX7_paper_295 : decode cX7_paper 295 = .ok (.getfield 230, 3) := by decide +kernel
theorem dX7_paper_298 : decode cX7_paper 298 = .ok (.imul, 1) := by decide +kernel
theorem dX7_paper_299 : decode cX7_paper 299 = .ok (.aload_n 0, 1) := by decide +kernel
theorem dX7_paper_300 : decode cX7_paper 300 = .ok (.getfield 128, 3) := by decide +kernel
theorem dX7_paper_303 : decode cX7_paper 303 = .ok (.iload_n 1, 1) := by decide +kernel
theorem dX7_paper_304 : decode cX7_paper 304 = .ok (.iaload, 1) := by decide +kernel
theorem dX7_paper_305 : decode cX7_paper 305 = .ok (.iadd, 1) := by decide +kernel
theorem dX7_paper_306 : decode cX7_paper 306 = .ok (.iaload, 1) := by decide +kernel
theorem dX7_paper_307 : decode cX7_paper 307 = .ok (.aload_n 0, 1) := by decide +kernel
theorem dX7_paper_308 : decode cX7_paper 308 = .ok (.getfield 49, 3) := by decide +kernel
theorem dX7_paper_311 : decode cX7_paper 311 = .ok (.bipush 16, 2) := by decide +kernel
theorem dX7_paper_313 : decode cX7_paper 313 = .ok (.aload_n 0, 1) := by decide +kernel
theorem dX7_paper_314 : decode cX7_paper 314 = .ok (.getfield 230, 3) := by decide +kernel
theorem dX7_paper_317 : decode cX7_paper 317 = .ok (.imul, 1) := by decide +kernel
theorem dX7_paper_318 : decode cX7_paper 318 = .ok (.aload_n 0, 1) := by decide +kernel
theorem dX7_paper_319 : decode cX7_paper 319 = .ok (.getfield 128, 3) := by decide +kernel
theorem dX7_paper_322 : decode cX7_paper 322 = .ok (.iload_n 1, 1) := by decide +kernel
theorem dX7_paper_323 : decode cX7_paper 323 = .ok (.iaload, 1) := by decide +kernel
theorem dX7_paper_324 : decode cX7_paper 324 = .ok (.iadd, 1) := by decide +kernel
theorem dX7_paper_325 : decode cX7_paper 325 = .ok (.iaload, 1) := by decide +kernel
theorem dX7_paper_326 : decode cX7_paper 326 = .ok (.invokevirtual 283, 3) := by decide +kernel
theorem dX7_paper_329 : decode cX7_paper 329 = .ok (.istore_n 3, 1) := by decide +kernel
theorem dX7_paper_330 : decode cX7_paper 330 = .ok (.iload_n 3, 1) := by decide +kernel
theorem dX7_paper_331 : decode cX7_paper 331 = .ok (.ifCond .ge 7, 3) := by decide +kernel
theorem dX7_paper_334 : decode cX7_paper 334 = .ok (.iconst 0, 1) := by decide +kernel
theorem dX7_paper_335 : decode cX7_paper 335 = .ok (.goto 15, 3) := by decide +kernel
theorem dX7_paper_338 : decode cX7_paper 338 = .ok (.iload_n 3, 1) := by decide +kernel
theorem dX7_paper_339 : decode cX7_paper 339 = .ok (.bipush 100, 2) := by decide +kernel
theorem dX7_paper_341 : decode cX7_paper 341 = .ok (.if_icmp .le 8, 3) := by decide +kernel
theorem dX7_paper_344 : decode cX7_paper 344 = .ok (.bipush 100, 2) := by decide +kernel
theorem dX7_paper_346 : decode cX7_paper 346 = .ok (.goto 4, 3) := by decide +kernel
theorem dX7_paper_349 : decode cX7_paper 349 = .ok (.iload_n 3, 1) := by decide +kernel
theorem dX7_paper_350 : decode cX7_paper 350 = .ok (.istore_n 3, 1) := by decide +kernel
theorem dX7_paper_351 : decode cX7_paper 351 = .ok (.aload_n 0, 1) := by decide +kernel
theorem dX7_paper_352 : decode cX7_paper 352 = .ok (.getfield 119, 3) := by decide +kernel
theorem dX7_paper_355 : decode cX7_paper 355 = .ok (.bipush 8, 2) := by decide +kernel
theorem dX7_paper_357 : decode cX7_paper 357 = .ok (.aload_n 0, 1) := by decide +kernel
theorem dX7_paper_358 : decode cX7_paper 358 = .ok (.getfield 98, 3) := by decide +kernel
theorem dX7_paper_361 : decode cX7_paper 361 = .ok (.iload_n 1, 1) := by decide +kernel
theorem dX7_paper_362 : decode cX7_paper 362 = .ok (.iaload, 1) := by decide +kernel
theorem dX7_paper_363 : decode cX7_paper 363 = .ok (.imul, 1) := by decide +kernel
theorem dX7_paper_364 : decode cX7_paper 364 = .ok (.aload_n 0, 1) := by decide +kernel
theorem dX7_paper_365 : decode cX7_paper 365 = .ok (.getfield 95, 3) := by decide +kernel
theorem dX7_paper_368 : decode cX7_paper 368 = .ok (.iload_n 1, 1) := by decide +kernel
theorem dX7_paper_369 : decode cX7_paper 369 = .ok (.iaload, 1) := by decide +kernel
theorem dX7_paper_370 : decode cX7_paper 370 = .ok (.iadd, 1) := by decide +kernel
theorem dX7_paper_371 : decode cX7_paper 371 = .ok (.dup2, 1) := by decide +kernel
theorem dX7_paper_372 : decode cX7_paper 372 = .ok (.iaload, 1) := by decide +kernel
theorem dX7_paper_373 : decode cX7_paper 373 = .ok (.iload_n 3, 1) := by decide +kernel
theorem dX7_paper_374 : decode cX7_paper 374 = .ok (.iadd, 1) := by decide +kernel
theorem dX7_paper_375 : decode cX7_paper 375 = .ok (.iastore, 1) := by decide +kernel
theorem dX7_paper_376 : decode cX7_paper 376 = .ok (.return_, 1) := by decide +kernel
theorem dX7_asks_0 : decode cX7_asks 0 = .ok (.aload_n 0, 1) := by decide +kernel
theorem dX7_asks_1 : decode cX7_asks 1 = .ok (.getfield 137, 3) := by decide +kernel
theorem dX7_asks_4 : decode cX7_asks 4 = .ok (.iconst 0, 1) := by decide +kernel
theorem dX7_asks_5 : decode cX7_asks 5 = .ok (.aload_n 0, 1) := by decide +kernel
theorem dX7_asks_6 : decode cX7_asks 6 = .ok (.getfield 95, 3) := by decide +kernel
theorem dX7_asks_9 : decode cX7_asks 9 = .ok (.iload_n 1, 1) := by decide +kernel
theorem dX7_asks_10 : decode cX7_asks 10 = .ok (.iaload, 1) := by decide +kernel
theorem dX7_asks_11 : decode cX7_asks 11 = .ok (.iastore, 1) := by decide +kernel
theorem dX7_asks_12 : decode cX7_asks 12 = .ok (.aload_n 0, 1) := by decide +kernel
theorem dX7_asks_13 : decode cX7_asks 13 = .ok (.getfield 137, 3) := by decide +kernel
theorem dX7_asks_16 : decode cX7_asks 16 = .ok (.iconst 1, 1) := by decide +kernel
theorem dX7_asks_17 : decode cX7_asks 17 = .ok (.aload_n 0, 1) := by decide +kernel
theorem dX7_asks_18 : decode cX7_asks 18 = .ok (.getfield 98, 3) := by decide +kernel
theorem dX7_asks_21 : decode cX7_asks 21 = .ok (.iload_n 1, 1) := by decide +kernel
theorem dX7_asks_22 : decode cX7_asks 22 = .ok (.iaload, 1) := by decide +kernel
theorem dX7_asks_23 : decode cX7_asks 23 = .ok (.iastore, 1) := by decide +kernel
theorem dX7_asks_24 : decode cX7_asks 24 = .ok (.aload_n 0, 1) := by decide +kernel
theorem dX7_asks_25 : decode cX7_asks 25 = .ok (.getfield 137, 3) := by decide +kernel
theorem dX7_asks_28 : decode cX7_asks 28 = .ok (.iconst 2, 1) := by decide +kernel
theorem dX7_asks_29 : decode cX7_asks 29 = .ok (.aload_n 0, 1) := by decide +kernel
theorem dX7_asks_30 : decode cX7_asks 30 = .ok (.getfield 131, 3) := by decide +kernel
theorem dX7_asks_33 : decode cX7_asks 33 = .ok (.aload_n 0, 1) := by decide +kernel
theorem dX7_asks_34 : decode cX7_asks 34 = .ok (.getfield 104, 3) := by decide +kernel
theorem dX7_asks_37 : decode cX7_asks 37 = .ok (.iload_n 1, 1) := by decide +kernel
theorem dX7_asks_38 : decode cX7_asks 38 = .ok (.iaload, 1) := by decide +kernel
theorem dX7_asks_39 : decode cX7_asks 39 = .ok (.baload, 1) := by decide +kernel
theorem dX7_asks_40 : decode cX7_asks 40 = .ok (.ifCond .eq 7, 3) := by decide +kernel
theorem dX7_asks_43 : decode cX7_asks 43 = .ok (.iconst 1, 1) := by decide +kernel
theorem dX7_asks_44 : decode cX7_asks 44 = .ok (.goto 4, 3) := by decide +kernel
theorem dX7_asks_47 : decode cX7_asks 47 = .ok (.iconst 0, 1) := by decide +kernel
theorem dX7_asks_48 : decode cX7_asks 48 = .ok (.iastore, 1) := by decide +kernel
theorem dX7_asks_49 : decode cX7_asks 49 = .ok (.aload_n 0, 1) := by decide +kernel
theorem dX7_asks_50 : decode cX7_asks 50 = .ok (.getfield 137, 3) := by decide +kernel
theorem dX7_asks_53 : decode cX7_asks 53 = .ok (.iconst 3, 1) := by decide +kernel
theorem dX7_asks_54 : decode cX7_asks 54 = .ok (.aload_n 0, 1) := by decide +kernel
theorem dX7_asks_55 : decode cX7_asks 55 = .ok (.getfield 104, 3) := by decide +kernel
theorem dX7_asks_58 : decode cX7_asks 58 = .ok (.iload_n 1, 1) := by decide +kernel
theorem dX7_asks_59 : decode cX7_asks 59 = .ok (.iaload, 1) := by decide +kernel
theorem dX7_asks_60 : decode cX7_asks 60 = .ok (.aload_n 0, 1) := by decide +kernel
theorem dX7_asks_61 : decode cX7_asks 61 = .ok (.getfield 92, 3) := by decide +kernel
theorem dX7_asks_64 : decode cX7_asks 64 = .ok (.iload_n 1, 1) := by decide +kernel
theorem dX7_asks_65 : decode cX7_asks 65 = .ok (.iaload, 1) := by decide +kernel
theorem dX7_asks_66 : decode cX7_asks 66 = .ok (.isub, 1) := by decide +kernel
theorem dX7_asks_67 : decode cX7_asks 67 = .ok (.iastore, 1) := by decide +kernel
theorem dX7_asks_68 : decode cX7_asks 68 = .ok (.aload_n 0, 1) := by decide +kernel
theorem dX7_asks_69 : decode cX7_asks 69 = .ok (.getfield 137, 3) := by decide +kernel
theorem dX7_asks_72 : decode cX7_asks 72 = .ok (.iconst 4, 1) := by decide +kernel
theorem dX7_asks_73 : decode cX7_asks 73 = .ok (.aload_n 0, 1) := by decide +kernel
theorem dX7_asks_74 : decode cX7_asks 74 = .ok (.getfield 116, 3) := by decide +kernel
theorem dX7_asks_77 : decode cX7_asks 77 = .ok (.iload_n 2, 1) := by decide +kernel
theorem dX7_asks_78 : decode cX7_asks 78 = .ok (.iaload, 1) := by decide +kernel
theorem dX7_asks_79 : decode cX7_asks 79 = .ok (.iastore, 1) := by decide +kernel
theorem dX7_asks_80 : decode cX7_asks 80 = .ok (.aload_n 0, 1) := by decide +kernel
theorem dX7_asks_81 : decode cX7_asks 81 = .ok (.getfield 137, 3) := by decide +kernel
theorem dX7_asks_84 : decode cX7_asks 84 = .ok (.iconst 5, 1) := by decide +kernel
theorem dX7_asks_85 : decode cX7_asks 85 = .ok (.aload_n 0, 1) := by decide +kernel
theorem dX7_asks_86 : decode cX7_asks 86 = .ok (.getfield 101, 3) := by decide +kernel
theorem dX7_asks_89 : decode cX7_asks 89 = .ok (.iload_n 1, 1) := by decide +kernel
theorem dX7_asks_90 : decode cX7_asks 90 = .ok (.iaload, 1) := by decide +kernel
theorem dX7_asks_91 : decode cX7_asks 91 = .ok (.aload_n 0, 1) := by decide +kernel
theorem dX7_asks_92 : decode cX7_asks 92 = .ok (.getfield 95, 3) := by decide +kernel
theorem dX7_asks_95 : decode cX7_asks 95 = .ok (.iload_n 1, 1) := by decide +kernel
theorem dX7_asks_96 : decode cX7_asks 96 = .ok (.iaload, 1) := by decide +kernel
theorem dX7_asks_97 : decode cX7_asks 97 = .ok (.if_icmp .ne 7, 3) := by decide +kernel
theorem dX7_asks_100 : decode cX7_asks 100 = .ok (.iconst 1, 1) := by decide +kernel
theorem dX7_asks_101 : decode cX7_asks 101 = .ok (.goto 4, 3) := by decide +kernel
theorem dX7_asks_104 : decode cX7_asks 104 = .ok (.iconst 0, 1) := by decide +kernel
theorem dX7_asks_105 : decode cX7_asks 105 = .ok (.iastore, 1) := by decide +kernel
theorem dX7_asks_106 : decode cX7_asks 106 = .ok (.aload_n 0, 1) := by decide +kernel
theorem dX7_asks_107 : decode cX7_asks 107 = .ok (.getfield 137, 3) := by decide +kernel
theorem dX7_asks_110 : decode cX7_asks 110 = .ok (.bipush 6, 2) := by decide +kernel
theorem dX7_asks_112 : decode cX7_asks 112 = .ok (.aload_n 0, 1) := by decide +kernel
theorem dX7_asks_113 : decode cX7_asks 113 = .ok (.getfield 119, 3) := by decide +kernel
theorem dX7_asks_116 : decode cX7_asks 116 = .ok (.bipush 8, 2) := by decide +kernel
theorem dX7_asks_118 : decode cX7_asks 118 = .ok (.aload_n 0, 1) := by decide +kernel
theorem dX7_asks_119 : decode cX7_asks 119 = .ok (.getfield 98, 3) := by decide +kernel
theorem dX7_asks_122 : decode cX7_asks 122 = .ok (.iload_n 1, 1) := by decide +kernel
theorem dX7_asks_123 : decode cX7_asks 123 = .ok (.iaload, 1) := by decide +kernel
theorem dX7_asks_124 : decode cX7_asks 124 = .ok (.imul, 1) := by decide +kernel
theorem dX7_asks_125 : decode cX7_asks 125 = .ok (.aload_n 0, 1) := by decide +kernel
theorem dX7_asks_126 : decode cX7_asks 126 = .ok (.getfield 95, 3) := by decide +kernel
theorem dX7_asks_129 : decode cX7_asks 129 = .ok (.iload_n 1, 1) := by decide +kernel
theorem dX7_asks_130 : decode cX7_asks 130 = .ok (.iaload, 1) := by decide +kernel
theorem dX7_asks_131 : decode cX7_asks 131 = .ok (.iadd, 1) := by decide +kernel
theorem dX7_asks_132 : decode cX7_asks 132 = .ok (.iaload, 1) := by decide +kernel
theorem dX7_asks_133 : decode cX7_asks 133 = .ok (.iastore, 1) := by decide +kernel
theorem dX7_asks_134 : decode cX7_asks 134 = .ok (.aload_n 0, 1) := by decide +kernel
theorem dX7_asks_135 : decode cX7_asks 135 = .ok (.getfield 137, 3) := by decide +kernel
theorem dX7_asks_138 : decode cX7_asks 138 = .ok (.bipush 7, 2) := by decide +kernel
theorem dX7_asks_140 : decode cX7_asks 140 = .ok (.aload_n 0, 1) := by decide +kernel
theorem dX7_asks_141 : decode cX7_asks 141 = .ok (.aload_n 0, 1) := by decide +kernel
theorem dX7_asks_142 : decode cX7_asks 142 = .ok (.getfield 98, 3) := by decide +kernel
theorem dX7_asks_145 : decode cX7_asks 145 = .ok (.iload_n 1, 1) := by decide +kernel
theorem dX7_asks_146 : decode cX7_asks 146 = .ok (.iaload, 1) := by decide +kernel
theorem dX7_asks_147 : decode cX7_asks 147 = .ok (.invokevirtual 302, 3) := by decide +kernel
theorem dX7_asks_150 : decode cX7_asks 150 = .ok (.iastore, 1) := by decide +kernel
theorem dX7_asks_151 : decode cX7_asks 151 = .ok (.aload_n 0, 1) := by decide +kernel
theorem dX7_asks_152 : decode cX7_asks 152 = .ok (.getfield 137, 3) := by decide +kernel
theorem dX7_asks_155 : decode cX7_asks 155 = .ok (.bipush 8, 2) := by decide +kernel
theorem dX7_asks_157 : decode cX7_asks 157 = .ok (.aload_n 0, 1) := by decide +kernel
theorem dX7_asks_158 : decode cX7_asks 158 = .ok (.aload_n 0, 1) := by decide +kernel
theorem dX7_asks_159 : decode cX7_asks 159 = .ok (.getfield 98, 3) := by decide +kernel
theorem dX7_asks_162 : decode cX7_asks 162 = .ok (.iload_n 1, 1) := by decide +kernel
theorem dX7_asks_163 : decode cX7_asks 163 = .ok (.iaload, 1) := by decide +kernel
theorem dX7_asks_164 : decode cX7_asks 164 = .ok (.aload_n 0, 1) := by decide +kernel
theorem dX7_asks_165 : decode cX7_asks 165 = .ok (.getfield 92, 3) := by decide +kernel
theorem dX7_asks_168 : decode cX7_asks 168 = .ok (.iload_n 1, 1) := by decide +kernel
theorem dX7_asks_169 : decode cX7_asks 169 = .ok (.iaload, 1) := by decide +kernel
theorem dX7_asks_170 : decode cX7_asks 170 = .ok (.invokevirtual 305, 3) := by decide +kernel
theorem dX7_asks_173 : decode cX7_asks 173 = .ok (.iastore, 1) := by decide +kernel
theorem dX7_asks_174 : decode cX7_asks 174 = .ok (.aload_n 0, 1) := by decide +kernel
theorem dX7_asks_175 : decode cX7_asks 175 = .ok (.getfield 125, 3) := by decide +kernel
theorem dX7_asks_178 : decode cX7_asks 178 = .ok (.iload_n 1, 1) := by decide +kernel
theorem dX7_asks_179 : decode cX7_asks 179 = .ok (.aload_n 0, 1) := by decide +kernel
theorem dX7_asks_180 : decode cX7_asks 180 = .ok (.iconst 0, 1) := by decide +kernel
theorem dX7_asks_181 : decode cX7_asks 181 = .ok (.invokevirtual 308, 3) := by decide +kernel
theorem dX7_asks_184 : decode cX7_asks 184 = .ok (.iastore, 1) := by decide +kernel
theorem dX7_asks_185 : decode cX7_asks 185 = .ok (.aload_n 0, 1) := by decide +kernel
theorem dX7_asks_186 : decode cX7_asks 186 = .ok (.getfield 125, 3) := by decide +kernel
theorem dX7_asks_189 : decode cX7_asks 189 = .ok (.iload_n 1, 1) := by decide +kernel
theorem dX7_asks_190 : decode cX7_asks 190 = .ok (.iaload, 1) := by decide +kernel
theorem dX7_asks_191 : decode cX7_asks 191 = .ok (.iconst (-1), 1) := by decide +kernel
theorem dX7_asks_192 : decode cX7_asks 192 = .ok (.if_icmp .eq 13, 3) := by decide +kernel
theorem dX7_asks_195 : decode cX7_asks 195 = .ok (.aload_n 0, 1) := by decide +kernel
theorem dX7_asks_196 : decode cX7_asks 196 = .ok (.getfield 122, 3) := by decide +kernel
theorem dX7_asks_199 : decode cX7_asks 199 = .ok (.iload_n 1, 1) := by decide +kernel
theorem dX7_asks_200 : decode cX7_asks 200 = .ok (.iconst 4, 1) := by decide +kernel
theorem dX7_asks_201 : decode cX7_asks 201 = .ok (.iastore, 1) := by decide +kernel
theorem dX7_asks_202 : decode cX7_asks 202 = .ok (.goto 14, 3) := by decide +kernel
theorem dX7_asks_205 : decode cX7_asks 205 = .ok (.aload_n 0, 1) := by decide +kernel
theorem dX7_asks_206 : decode cX7_asks 206 = .ok (.getfield 128, 3) := by decide +kernel
theorem dX7_asks_209 : decode cX7_asks 209 = .ok (.iload_n 1, 1) := by decide +kernel
theorem dX7_asks_210 : decode cX7_asks 210 = .ok (.aload_n 0, 1) := by decide +kernel
theorem dX7_asks_211 : decode cX7_asks 211 = .ok (.iconst 1, 1) := by decide +kernel
theorem dX7_asks_212 : decode cX7_asks 212 = .ok (.invokevirtual 308, 3) := by decide +kernel
theorem dX7_asks_215 : decode cX7_asks 215 = .ok (.iastore, 1) := by decide +kernel
theorem dX7_asks_216 : decode cX7_asks 216 = .ok (.return_, 1) := by decide +kernel
theorem dX7_finds_0 : decode cX7_finds 0 = .ok (.aload_n 0, 1) := by decide +kernel
theorem dX7_finds_1 : decode cX7_finds 1 = .ok (.iconst 0, 1) := by decide +kernel
theorem dX7_finds_2 : decode cX7_finds 2 = .ok (.putfield 311, 3) := by decide +kernel
theorem dX7_finds_5 : decode cX7_finds 5 = .ok (.iconst 0, 1) := by decide +kernel
theorem dX7_finds_6 : decode cX7_finds 6 = .ok (.istore_n 1, 1) := by decide +kernel
theorem dX7_finds_7 : decode cX7_finds 7 = .ok (.iload_n 1, 1) := by decide +kernel
theorem dX7_finds_8 : decode cX7_finds 8 = .ok (.aload_n 0, 1) := by decide +kernel
theorem dX7_finds_9 : decode cX7_finds 9 = .ok (.getfield 262, 3) := by decide +kernel
theorem dX7_finds_12 : decode cX7_finds 12 = .ok (.if_icmp .ge 184, 3) := by decide +kernel
theorem dX7_finds_15 : decode cX7_finds 15 = .ok (.iconst 0, 1) := by decide +kernel
theorem dX7_finds_16 : decode cX7_finds 16 = .ok (.istore_n 2, 1) := by decide +kernel
theorem dX7_finds_17 : decode cX7_finds 17 = .ok (.iconst 1, 1) := by decide +kernel
theorem dX7_finds_18 : decode cX7_finds 18 = .ok (.iload_n 1, 1) := by decide +kernel
theorem dX7_finds_19 : decode cX7_finds 19 = .ok (.ishl, 1) := by decide +kernel
theorem dX7_finds_20 : decode cX7_finds 20 = .ok (.istore_n 3, 1) := by decide +kernel
theorem dX7_finds_21 : decode cX7_finds 21 = .ok (.aload_n 0, 1) := by decide +kernel
theorem dX7_finds_22 : decode cX7_finds 22 = .ok (.getfield 146, 3) := by decide +kernel
theorem dX7_finds_25 : decode cX7_finds 25 = .ok (.iconst 0, 1) := by decide +kernel
theorem dX7_finds_26 : decode cX7_finds 26 = .ok (.iload_n 1, 1) := by decide +kernel
theorem dX7_finds_27 : decode cX7_finds 27 = .ok (.iastore, 1) := by decide +kernel
theorem dX7_finds_28 : decode cX7_finds 28 = .ok (.aload_n 0, 1) := by decide +kernel
theorem dX7_finds_29 : decode cX7_finds 29 = .ok (.getfield 149, 3) := by decide +kernel
theorem dX7_finds_32 : decode cX7_finds 32 = .ok (.iconst 0, 1) := by decide +kernel
theorem dX7_finds_33 : decode cX7_finds 33 = .ok (.iload_n 1, 1) := by decide +kernel
theorem dX7_finds_34 : decode cX7_finds 34 = .ok (.iastore, 1) := by decide +kernel
theorem dX7_finds_35 : decode cX7_finds 35 = .ok (.iload_n 2, 1) := by decide +kernel
theorem dX7_finds_36 : decode cX7_finds 36 = .ok (.ifCond .lt 154, 3) := by decide +kernel
theorem dX7_finds_39 : decode cX7_finds 39 = .ok (.aload_n 0, 1) := by decide +kernel
theorem dX7_finds_40 : decode cX7_finds 40 = .ok (.getfield 149, 3) := by decide +kernel
theorem dX7_finds_43 : decode cX7_finds 43 = .ok (.iload_n 2, 1) := by decide +kernel
theorem dX7_finds_44 : decode cX7_finds 44 = .ok (.iaload, 1) := by decide +kernel
theorem dX7_finds_45 : decode cX7_finds 45 = .ok (.iload_n 1, 1) := by decide +kernel
theorem dX7_finds_46 : decode cX7_finds 46 = .ok (.if_icmp .ne 33, 3) := by decide +kernel
theorem dX7_finds_49 : decode cX7_finds 49 = .ok (.iload_n 2, 1) := by decide +kernel
theorem dX7_finds_50 : decode cX7_finds 50 = .ok (.ifCond .le 29, 3) := by decide +kernel
theorem dX7_finds_53 : decode cX7_finds 53 = .ok (.aload_n 0, 1) := by decide +kernel
theorem dX7_finds_54 : decode cX7_finds 54 = .ok (.getfield 119, 3) := by decide +kernel
theorem dX7_finds_57 : decode cX7_finds 57 = .ok (.bipush 8, 2) := by decide +kernel
theorem dX7_finds_59 : decode cX7_finds 59 = .ok (.aload_n 0, 1) := by decide +kernel
theorem dX7_finds_60 : decode cX7_finds 60 = .ok (.getfield 146, 3) := by decide +kernel
theorem dX7_finds_63 : decode cX7_finds 63 = .ok (.iload_n 2, 1) := by decide +kernel
theorem dX7_finds_64 : decode cX7_finds 64 = .ok (.iaload, 1) := by decide +kernel
theorem dX7_finds_65 : decode cX7_finds 65 = .ok (.imul, 1) := by decide +kernel
theorem dX7_finds_66 : decode cX7_finds 66 = .ok (.iload_n 1, 1) := by decide +kernel
theorem dX7_finds_67 : decode cX7_finds 67 = .ok (.iadd, 1) := by decide +kernel
theorem dX7_finds_68 : decode cX7_finds 68 = .ok (.iaload, 1) := by decide +kernel
theorem dX7_finds_69 : decode cX7_finds 69 = .ok (.ifCond .le 10, 3) := by decide +kernel
theorem dX7_finds_72 : decode cX7_finds 72 = .ok (.aload_n 0, 1) := by decide +kernel
theorem dX7_finds_73 : decode cX7_finds 73 = .ok (.iload_n 2, 1) := by decide +kernel
theorem dX7_finds_74 : decode cX7_finds 74 = .ok (.iconst 1, 1) := by decide +kernel
theorem dX7_finds_75 : decode cX7_finds 75 = .ok (.iadd, 1) := by decide +kernel
theorem dX7_finds_76 : decode cX7_finds 76 = .ok (.invokevirtual 314, 3) := by decide +kernel
theorem dX7_finds_79 : decode cX7_finds 79 = .ok (.aload_n 0, 1) := by decide +kernel
theorem dX7_finds_80 : decode cX7_finds 80 = .ok (.getfield 149, 3) := by decide +kernel
theorem dX7_finds_83 : decode cX7_finds 83 = .ok (.iload_n 2, 1) := by decide +kernel
theorem dX7_finds_84 : decode cX7_finds 84 = .ok (.dup2, 1) := by decide +kernel
theorem dX7_finds_85 : decode cX7_finds 85 = .ok (.iaload, 1) := by decide +kernel
theorem dX7_finds_86 : decode cX7_finds 86 = .ok (.iconst 1, 1) := by decide +kernel
theorem dX7_finds_87 : decode cX7_finds 87 = .ok (.iadd, 1) := by decide +kernel
theorem dX7_finds_88 : decode cX7_finds 88 = .ok (.iastore, 1) := by decide +kernel
theorem dX7_finds_89 : decode cX7_finds 89 = .ok (.aload_n 0, 1) := by decide +kernel
theorem dX7_finds_90 : decode cX7_finds 90 = .ok (.getfield 149, 3) := by decide +kernel
theorem dX7_finds_93 : decode cX7_finds 93 = .ok (.iload_n 2, 1) := by decide +kernel
theorem dX7_finds_94 : decode cX7_finds 94 = .ok (.iaload, 1) := by decide +kernel
theorem dX7_finds_95 : decode cX7_finds 95 = .ok (.aload_n 0, 1) := by decide +kernel
theorem dX7_finds_96 : decode cX7_finds 96 = .ok (.getfield 262, 3) := by decide +kernel
theorem dX7_finds_99 : decode cX7_finds 99 = .ok (.if_icmp .lt 22, 3) := by decide +kernel
theorem dX7_finds_102 : decode cX7_finds 102 = .ok (.iload_n 3, 1) := by decide +kernel
theorem dX7_finds_103 : decode cX7_finds 103 = .ok (.iconst 1, 1) := by decide +kernel
theorem dX7_finds_104 : decode cX7_finds 104 = .ok (.aload_n 0, 1) := by decide +kernel
theorem dX7_finds_105 : decode cX7_finds 105 = .ok (.getfield 146, 3) := by decide +kernel
theorem dX7_finds_108 : decode cX7_finds 108 = .ok (.iload_n 2, 1) := by decide +kernel
theorem dX7_finds_109 : decode cX7_finds 109 = .ok (.iaload, 1) := by decide +kernel
theorem dX7_finds_110 : decode cX7_finds 110 = .ok (.ishl, 1) := by decide +kernel
theorem dX7_finds_111 : decode cX7_finds 111 = .ok (.iconst (-1), 1) := by decide +kernel
theorem dX7_finds_112 : decode cX7_finds 112 = .ok (.ixor, 1) := by decide +kernel
theorem dX7_finds_113 : decode cX7_finds 113 = .ok (.iand, 1) := by decide +kernel
theorem dX7_finds_114 : decode cX7_finds 114 = .ok (.istore_n 3, 1) := by decide +kernel
theorem dX7_finds_115 : decode cX7_finds 115 = .ok (.iinc 2 (-1), 3) := by decide +kernel
theorem dX7_finds_118 : decode cX7_finds 118 = .ok (.goto (-83), 3) := by decide +kernel
theorem dX7_finds_121 : decode cX7_finds 121 = .ok (.aload_n 0, 1) := by decide +kernel
theorem dX7_finds_122 : decode cX7_finds 122 = .ok (.getfield 149, 3) := by decide +kernel
theorem dX7_finds_125 : decode cX7_finds 125 = .ok (.iload_n 2, 1) := by decide +kernel
theorem dX7_finds_126 : decode cX7_finds 126 = .ok (.iaload, 1) := by decide +kernel
theorem dX7_finds_127 : decode cX7_finds 127 = .ok (.istore 4, 2) := by decide +kernel
theorem dX7_finds_129 : decode cX7_finds 129 = .ok (.iload_n 3, 1) := by decide +kernel
theorem dX7_finds_130 : decode cX7_finds 130 = .ok (.iload 4, 2) := by decide +kernel
theorem dX7_finds_132 : decode cX7_finds 132 = .ok (.ishr, 1) := by decide +kernel
theorem dX7_finds_133 : decode cX7_finds 133 = .ok (.iconst 1, 1) := by decide +kernel
theorem dX7_finds_134 : decode cX7_finds 134 = .ok (.iand, 1) := by decide +kernel
theorem dX7_finds_135 : decode cX7_finds 135 = .ok (.iconst 1, 1) := by decide +kernel
theorem dX7_finds_136 : decode cX7_finds 136 = .ok (.if_icmp .eq (-101), 3) := by decide +kernel
theorem dX7_finds_139 : decode cX7_finds 139 = .ok (.aload_n 0, 1) := by decide +kernel
theorem dX7_finds_140 : decode cX7_finds 140 = .ok (.getfield 119, 3) := by decide +kernel
theorem dX7_finds_143 : decode cX7_finds 143 = .ok (.bipush 8, 2) := by decide +kernel
theorem dX7_finds_145 : decode cX7_finds 145 = .ok (.aload_n 0, 1) := by decide +kernel
theorem dX7_finds_146 : decode cX7_finds 146 = .ok (.getfield 146, 3) := by decide +kernel
theorem dX7_finds_149 : decode cX7_finds 149 = .ok (.iload_n 2, 1) := by decide +kernel
theorem dX7_finds_150 : decode cX7_finds 150 = .ok (.iaload, 1) := by decide +kernel
theorem dX7_finds_151 : decode cX7_finds 151 = .ok (.imul, 1) := by decide +kernel
theorem dX7_finds_152 : decode cX7_finds 152 = .ok (.iload 4, 2) := by decide +kernel
theorem dX7_finds_154 : decode cX7_finds 154 = .ok (.iadd, 1) := by decide +kernel
theorem dX7_finds_155 : decode cX7_finds 155 = .ok (.iaload, 1) := by decide +kernel
theorem dX7_finds_156 : decode cX7_finds 156 = .ok (.ifCond .ne 6, 3) := by decide +kernel
theorem dX7_finds_159 : decode cX7_finds 159 = .ok (.goto (-124), 3) := by decide +kernel
theorem dX7_finds_162 : decode cX7_finds 162 = .ok (.iinc 2 1, 3) := by decide +kernel
theorem dX7_finds_165 : decode cX7_finds 165 = .ok (.aload_n 0, 1) := by decide +kernel
theorem dX7_finds_166 : decode cX7_finds 166 = .ok (.getfield 146, 3) := by decide +kernel
theorem dX7_finds_169 : decode cX7_finds 169 = .ok (.iload_n 2, 1) := by decide +kernel
theorem dX7_finds_170 : decode cX7_finds 170 = .ok (.iload 4, 2) := by decide +kernel
theorem dX7_finds_172 : decode cX7_finds 172 = .ok (.iastore, 1) := by decide +kernel
theorem dX7_finds_173 : decode cX7_finds 173 = .ok (.iload_n 3, 1) := by decide +kernel
theorem dX7_finds_174 : decode cX7_finds 174 = .ok (.iconst 1, 1) := by decide +kernel
theorem dX7_finds_175 : decode cX7_finds 175 = .ok (.iload 4, 2) := by decide +kernel
theorem dX7_finds_177 : decode cX7_finds 177 = .ok (.ishl, 1) := by decide +kernel
theorem dX7_finds_178 : decode cX7_finds 178 = .ok (.ior, 1) := by decide +kernel
theorem dX7_finds_179 : decode cX7_finds 179 = .ok (.istore_n 3, 1) := by decide +kernel
theorem dX7_finds_180 : decode cX7_finds 180 = .ok (.aload_n 0, 1) := by decide +kernel
theorem dX7_finds_181 : decode cX7_finds 181 = .ok (.getfield 149, 3) := by decide +kernel
theorem dX7_finds_184 : decode cX7_finds 184 = .ok (.iload_n 2, 1) := by decide +kernel
theorem dX7_finds_185 : decode cX7_finds 185 = .ok (.iload_n 1, 1) := by decide +kernel
theorem dX7_finds_186 : decode cX7_finds 186 = .ok (.iastore, 1) := by decide +kernel
theorem dX7_finds_187 : decode cX7_finds 187 = .ok (.goto (-152), 3) := by decide +kernel
theorem dX7_finds_190 : decode cX7_finds 190 = .ok (.iinc 1 1, 3) := by decide +kernel
theorem dX7_finds_193 : decode cX7_finds 193 = .ok (.goto (-186), 3) := by decide +kernel
theorem dX7_finds_196 : decode cX7_finds 196 = .ok (.return_, 1) := by decide +kernel
theorem dX7_isRing_0 : decode cX7_isRing 0 = .ok (.iconst 0, 1) := by decide +kernel
theorem dX7_isRing_1 : decode cX7_isRing 1 = .ok (.istore_n 2, 1) := by decide +kernel
theorem dX7_isRing_2 : decode cX7_isRing 2 = .ok (.iconst 0, 1) := by decide +kernel
theorem dX7_isRing_3 : decode cX7_isRing 3 = .ok (.istore_n 3, 1) := by decide +kernel
theorem dX7_isRing_4 : decode cX7_isRing 4 = .ok (.iload_n 3, 1) := by decide +kernel
theorem dX7_isRing_5 : decode cX7_isRing 5 = .ok (.iload_n 1, 1) := by decide +kernel
theorem dX7_isRing_6 : decode cX7_isRing 6 = .ok (.if_icmp .ge 49, 3) := by decide +kernel
theorem dX7_isRing_9 : decode cX7_isRing 9 = .ok (.aload_n 0, 1) := by decide +kernel
theorem dX7_isRing_10 : decode cX7_isRing 10 = .ok (.getfield 119, 3) := by decide +kernel
theorem dX7_isRing_13 : decode cX7_isRing 13 = .ok (.bipush 8, 2) := by decide +kernel
theorem dX7_isRing_15 : decode cX7_isRing 15 = .ok (.aload_n 0, 1) := by decide +kernel
theorem dX7_isRing_16 : decode cX7_isRing 16 = .ok (.getfield 146, 3) := by decide +kernel
theorem dX7_isRing_19 : decode cX7_isRing 19 = .ok (.iload_n 3, 1) := by decide +kernel
theorem dX7_isRing_20 : decode cX7_isRing 20 = .ok (.iaload, 1) := by decide +kernel
theorem dX7_isRing_21 : decode cX7_isRing 21 = .ok (.imul, 1) := by decide +kernel
theorem dX7_isRing_22 : decode cX7_isRing 22 = .ok (.aload_n 0, 1) := by decide +kernel
theorem dX7_isRing_23 : decode cX7_isRing 23 = .ok (.getfield 146, 3) := by decide +kernel
theorem dX7_isRing_26 : decode cX7_isRing 26 = .ok (.iload_n 3, 1) := by decide +kernel
theorem dX7_isRing_27 : decode cX7_isRing 27 = .ok (.iconst 1, 1) := by decide +kernel
theorem dX7_isRing_28 : decode cX7_isRing 28 = .ok (.iadd, 1) := by decide +kernel
theorem dX7_isRing_29 : decode cX7_isRing 29 = .ok (.iload_n 1, 1) := by decide +kernel
theorem dX7_isRing_30 : decode cX7_isRing 30 = .ok (.irem, 1) := by decide +kernel
theorem dX7_isRing_31 : decode cX7_isRing 31 = .ok (.iaload, 1) := by decide +kernel
theorem dX7_isRing_32 : decode cX7_isRing 32 = .ok (.iadd, 1) := by decide +kernel
theorem dX7_isRing_33 : decode cX7_isRing 33 = .ok (.iaload, 1) := by decide +kernel
theorem dX7_isRing_34 : decode cX7_isRing 34 = .ok (.istore 4, 2) := by decide +kernel
theorem dX7_isRing_36 : decode cX7_isRing 36 = .ok (.iload_n 3, 1) := by decide +kernel
theorem dX7_isRing_37 : decode cX7_isRing 37 = .ok (.ifCond .eq 9, 3) := by decide +kernel
theorem dX7_isRing_40 : decode cX7_isRing 40 = .ok (.iload 4, 2) := by decide +kernel
theorem dX7_isRing_42 : decode cX7_isRing 42 = .ok (.iload_n 2, 1) := by decide +kernel
theorem dX7_isRing_43 : decode cX7_isRing 43 = .ok (.if_icmp .ge 6, 3) := by decide +kernel
theorem dX7_isRing_46 : decode cX7_isRing 46 = .ok (.iload 4, 2) := by decide +kernel
theorem dX7_isRing_48 : decode cX7_isRing 48 = .ok (.istore_n 2, 1) := by decide +kernel
theorem dX7_isRing_49 : decode cX7_isRing 49 = .ok (.iinc 3 1, 3) := by decide +kernel
theorem dX7_isRing_52 : decode cX7_isRing 52 = .ok (.goto (-48), 3) := by decide +kernel
theorem dX7_isRing_55 : decode cX7_isRing 55 = .ok (.iload_n 2, 1) := by decide +kernel
theorem dX7_isRing_56 : decode cX7_isRing 56 = .ok (.iload_n 1, 1) := by decide +kernel
theorem dX7_isRing_57 : decode cX7_isRing 57 = .ok (.imul, 1) := by decide +kernel
theorem dX7_isRing_58 : decode cX7_isRing 58 = .ok (.istore_n 3, 1) := by decide +kernel
theorem dX7_isRing_59 : decode cX7_isRing 59 = .ok (.aload_n 0, 1) := by decide +kernel
theorem dX7_isRing_60 : decode cX7_isRing 60 = .ok (.getfield 311, 3) := by decide +kernel
theorem dX7_isRing_63 : decode cX7_isRing 63 = .ok (.ifCond .le 28, 3) := by decide +kernel
theorem dX7_isRing_66 : decode cX7_isRing 66 = .ok (.iload_n 3, 1) := by decide +kernel
theorem dX7_isRing_67 : decode cX7_isRing 67 = .ok (.aload_n 0, 1) := by decide +kernel
theorem dX7_isRing_68 : decode cX7_isRing 68 = .ok (.getfield 317, 3) := by decide +kernel
theorem dX7_isRing_71 : decode cX7_isRing 71 = .ok (.if_icmp .lt 19, 3) := by decide +kernel
theorem dX7_isRing_74 : decode cX7_isRing 74 = .ok (.iload_n 3, 1) := by decide +kernel
theorem dX7_isRing_75 : decode cX7_isRing 75 = .ok (.aload_n 0, 1) := by decide +kernel
theorem dX7_isRing_76 : decode cX7_isRing 76 = .ok (.getfield 317, 3) := by decide +kernel
theorem dX7_isRing_79 : decode cX7_isRing 79 = .ok (.if_icmp .ne 12, 3) := by decide +kernel
theorem dX7_isRing_82 : decode cX7_isRing 82 = .ok (.iload_n 1, 1) := by decide +kernel
theorem dX7_isRing_83 : decode cX7_isRing 83 = .ok (.aload_n 0, 1) := by decide +kernel
theorem dX7_isRing_84 : decode cX7_isRing 84 = .ok (.getfield 311, 3) := by decide +kernel
theorem dX7_isRing_87 : decode cX7_isRing 87 = .ok (.if_icmp .lt 4, 3) := by decide +kernel
theorem dX7_isRing_90 : decode cX7_isRing 90 = .ok (.return_, 1) := by decide +kernel
theorem dX7_isRing_91 : decode cX7_isRing 91 = .ok (.aload_n 0, 1) := by decide +kernel
theorem dX7_isRing_92 : decode cX7_isRing 92 = .ok (.iload_n 1, 1) := by decide +kernel
theorem dX7_isRing_93 : decode cX7_isRing 93 = .ok (.putfield 311, 3) := by decide +kernel
theorem dX7_isRing_96 : decode cX7_isRing 96 = .ok (.aload_n 0, 1) := by decide +kernel
theorem dX7_isRing_97 : decode cX7_isRing 97 = .ok (.iload_n 3, 1) := by decide +kernel
theorem dX7_isRing_98 : decode cX7_isRing 98 = .ok (.putfield 317, 3) := by decide +kernel
theorem dX7_isRing_101 : decode cX7_isRing 101 = .ok (.aload_n 0, 1) := by decide +kernel
theorem dX7_isRing_102 : decode cX7_isRing 102 = .ok (.iload_n 2, 1) := by decide +kernel
theorem dX7_isRing_103 : decode cX7_isRing 103 = .ok (.putfield 320, 3) := by decide +kernel
theorem dX7_isRing_106 : decode cX7_isRing 106 = .ok (.iconst 0, 1) := by decide +kernel
theorem dX7_isRing_107 : decode cX7_isRing 107 = .ok (.istore 4, 2) := by decide +kernel
theorem dX7_isRing_109 : decode cX7_isRing 109 = .ok (.iload 4, 2) := by decide +kernel
theorem dX7_isRing_111 : decode cX7_isRing 111 = .ok (.iload_n 1, 1) := by decide +kernel
theorem dX7_isRing_112 : decode cX7_isRing 112 = .ok (.if_icmp .ge 23, 3) := by decide +kernel
theorem dX7_isRing_115 : decode cX7_isRing 115 = .ok (.aload_n 0, 1) := by decide +kernel
theorem dX7_isRing_116 : decode cX7_isRing 116 = .ok (.getfield 143, 3) := by decide +kernel
theorem dX7_isRing_119 : decode cX7_isRing 119 = .ok (.iload 4, 2) := by decide +kernel
theorem dX7_isRing_121 : decode cX7_isRing 121 = .ok (.aload_n 0, 1) := by decide +kernel
theorem dX7_isRing_122 : decode cX7_isRing 122 = .ok (.getfield 146, 3) := by decide +kernel
theorem dX7_isRing_125 : decode cX7_isRing 125 = .ok (.iload 4, 2) := by decide +kernel
theorem dX7_isRing_127 : decode cX7_isRing 127 = .ok (.iaload, 1) := by decide +kernel
theorem dX7_isRing_128 : decode cX7_isRing 128 = .ok (.iastore, 1) := by decide +kernel
theorem dX7_isRing_129 : decode cX7_isRing 129 = .ok (.iinc 4 1, 3) := by decide +kernel
theorem dX7_isRing_132 : decode cX7_isRing 132 = .ok (.goto (-23), 3) := by decide +kernel
theorem dX7_isRing_135 : decode cX7_isRing 135 = .ok (.return_, 1) := by decide +kernel
theorem dX7_meets_0 : decode cX7_meets 0 = .ok (.aload_n 0, 1) := by decide +kernel
theorem dX7_meets_1 : decode cX7_meets 1 = .ok (.invokevirtual 323, 3) := by decide +kernel
theorem dX7_meets_4 : decode cX7_meets 4 = .ok (.aload_n 0, 1) := by decide +kernel
theorem dX7_meets_5 : decode cX7_meets 5 = .ok (.getfield 311, 3) := by decide +kernel
theorem dX7_meets_8 : decode cX7_meets 8 = .ok (.ifCond .le 61, 3) := by decide +kernel
theorem dX7_meets_11 : decode cX7_meets 11 = .ok (.iconst 0, 1) := by decide +kernel
theorem dX7_meets_12 : decode cX7_meets 12 = .ok (.istore_n 1, 1) := by decide +kernel
theorem dX7_meets_13 : decode cX7_meets 13 = .ok (.iload_n 1, 1) := by decide +kernel
theorem dX7_meets_14 : decode cX7_meets 14 = .ok (.aload_n 0, 1) := by decide +kernel
theorem dX7_meets_15 : decode cX7_meets 15 = .ok (.getfield 311, 3) := by decide +kernel
theorem dX7_meets_18 : decode cX7_meets 18 = .ok (.if_icmp .ge 44, 3) := by decide +kernel
theorem dX7_meets_21 : decode cX7_meets 21 = .ok (.aload_n 0, 1) := by decide +kernel
theorem dX7_meets_22 : decode cX7_meets 22 = .ok (.getfield 119, 3) := by decide +kernel
theorem dX7_meets_25 : decode cX7_meets 25 = .ok (.bipush 8, 2) := by decide +kernel
theorem dX7_meets_27 : decode cX7_meets 27 = .ok (.aload_n 0, 1) := by decide +kernel
theorem dX7_meets_28 : decode cX7_meets 28 = .ok (.getfield 143, 3) := by decide +kernel
theorem dX7_meets_31 : decode cX7_meets 31 = .ok (.iload_n 1, 1) := by decide +kernel
theorem dX7_meets_32 : decode cX7_meets 32 = .ok (.iaload, 1) := by decide +kernel
theorem dX7_meets_33 : decode cX7_meets 33 = .ok (.imul, 1) := by decide +kernel
theorem dX7_meets_34 : decode cX7_meets 34 = .ok (.aload_n 0, 1) := by decide +kernel
theorem dX7_meets_35 : decode cX7_meets 35 = .ok (.getfield 143, 3) := by decide +kernel
theorem dX7_meets_38 : decode cX7_meets 38 = .ok (.iload_n 1, 1) := by decide +kernel
theorem dX7_meets_39 : decode cX7_meets 39 = .ok (.iconst 1, 1) := by decide +kernel
theorem dX7_meets_40 : decode cX7_meets 40 = .ok (.iadd, 1) := by decide +kernel
theorem dX7_meets_41 : decode cX7_meets 41 = .ok (.aload_n 0, 1) := by decide +kernel
theorem dX7_meets_42 : decode cX7_meets 42 = .ok (.getfield 311, 3) := by decide +kernel
theorem dX7_meets_45 : decode cX7_meets 45 = .ok (.irem, 1) := by decide +kernel
theorem dX7_meets_46 : decode cX7_meets 46 = .ok (.iaload, 1) := by decide +kernel
theorem dX7_meets_47 : decode cX7_meets 47 = .ok (.iadd, 1) := by decide +kernel
theorem dX7_meets_48 : decode cX7_meets 48 = .ok (.dup2, 1) := by decide +kernel
theorem dX7_meets_49 : decode cX7_meets 49 = .ok (.iaload, 1) := by decide +kernel
theorem dX7_meets_50 : decode cX7_meets 50 = .ok (.aload_n 0, 1) := by decide +kernel
theorem dX7_meets_51 : decode cX7_meets 51 = .ok (.getfield 320, 3) := by decide +kernel
theorem dX7_meets_54 : decode cX7_meets 54 = .ok (.isub, 1) := by decide +kernel
theorem dX7_meets_55 : decode cX7_meets 55 = .ok (.iastore, 1) := by decide +kernel
theorem dX7_meets_56 : decode cX7_meets 56 = .ok (.iinc 1 1, 3) := by decide +kernel
theorem dX7_meets_59 : decode cX7_meets 59 = .ok (.goto (-46), 3) := by decide +kernel
theorem dX7_meets_62 : decode cX7_meets 62 = .ok (.aload_n 0, 1) := by decide +kernel
theorem dX7_meets_63 : decode cX7_meets 63 = .ok (.invokevirtual 323, 3) := by decide +kernel
theorem dX7_meets_66 : decode cX7_meets 66 = .ok (.goto (-62), 3) := by decide +kernel
theorem dX7_meets_69 : decode cX7_meets 69 = .ok (.return_, 1) := by decide +kernel
theorem dX7_isPaper_0 : decode cX7_isPaper 0 = .ok (.aload_n 0, 1) := by decide +kernel
theorem dX7_isPaper_1 : decode cX7_isPaper 1 = .ok (.iload_n 2, 1) := by decide +kernel
theorem dX7_isPaper_2 : decode cX7_isPaper 2 = .ok (.invokevirtual 326, 3) := by decide +kernel
theorem dX7_isPaper_5 : decode cX7_isPaper 5 = .ok (.ifCond .eq 26, 3) := by decide +kernel
theorem dX7_isPaper_8 : decode cX7_isPaper 8 = .ok (.iload_n 1, 1) := by decide +kernel
theorem dX7_isPaper_9 : decode cX7_isPaper 9 = .ok (.ifCond .lt 22, 3) := by decide +kernel
theorem dX7_isPaper_12 : decode cX7_isPaper 12 = .ok (.iload_n 1, 1) := by decide +kernel
theorem dX7_isPaper_13 : decode cX7_isPaper 13 = .ok (.iload_n 2, 1) := by decide +kernel
theorem dX7_isPaper_14 : decode cX7_isPaper 14 = .ok (.if_icmp .ge 17, 3) := by decide +kernel
theorem dX7_isPaper_17 : decode cX7_isPaper 17 = .ok (.aload_n 0, 1) := by decide +kernel
theorem dX7_isPaper_18 : decode cX7_isPaper 18 = .ok (.getfield 89, 3) := by decide +kernel
theorem dX7_isPaper_21 : decode cX7_isPaper 21 = .ok (.iload_n 1, 1) := by decide +kernel
theorem dX7_isPaper_22 : decode cX7_isPaper 22 = .ok (.iaload, 1) := by decide +kernel
theorem dX7_isPaper_23 : decode cX7_isPaper 23 = .ok (.iconst 2, 1) := by decide +kernel
theorem dX7_isPaper_24 : decode cX7_isPaper 24 = .ok (.if_icmp .gt 7, 3) := by decide +kernel
theorem dX7_isPaper_27 : decode cX7_isPaper 27 = .ok (.iconst 1, 1) := by decide +kernel
theorem dX7_isPaper_28 : decode cX7_isPaper 28 = .ok (.goto 4, 3) := by decide +kernel
theorem dX7_isPaper_31 : decode cX7_isPaper 31 = .ok (.iconst 0, 1) := by decide +kernel
theorem dX7_isPaper_32 : decode cX7_isPaper 32 = .ok (.ireturn, 1) := by decide +kernel
theorem dX7_isVoid_0 : decode cX7_isVoid 0 = .ok (.aload_n 0, 1) := by decide +kernel
theorem dX7_isVoid_1 : decode cX7_isVoid 1 = .ok (.iload_n 1, 1) := by decide +kernel
theorem dX7_isVoid_2 : decode cX7_isVoid 2 = .ok (.iload_n 2, 1) := by decide +kernel
theorem dX7_isVoid_3 : decode cX7_isVoid 3 = .ok (.invokevirtual 329, 3) := by decide +kernel
theorem dX7_isVoid_6 : decode cX7_isVoid 6 = .ok (.ifCond .ne 5, 3) := by decide +kernel
theorem dX7_isVoid_9 : decode cX7_isVoid 9 = .ok (.iconst (-1), 1) := by decide +kernel
theorem dX7_isVoid_10 : decode cX7_isVoid 10 = .ok (.ireturn, 1) := by decide +kernel
theorem dX7_isVoid_11 : decode cX7_isVoid 11 = .ok (.aload_n 0, 1) := by decide +kernel
theorem dX7_isVoid_12 : decode cX7_isVoid 12 = .ok (.iload_n 2, 1) := by decide +kernel
theorem dX7_isVoid_13 : decode cX7_isVoid 13 = .ok (.sipush 399, 3) := by decide +kernel
theorem dX7_isVoid_16 : decode cX7_isVoid 16 = .ok (.invokevirtual 333, 3) := by decide +kernel
theorem dX7_isVoid_19 : decode cX7_isVoid 19 = .ok (.aload_n 0, 1) := by decide +kernel
theorem dX7_isVoid_20 : decode cX7_isVoid 20 = .ok (.getfield 122, 3) := by decide +kernel
theorem dX7_isVoid_23 : decode cX7_isVoid 23 = .ok (.iload_n 1, 1) := by decide +kernel
theorem dX7_isVoid_24 : decode cX7_isVoid 24 = .ok (.iaload, 1) := by decide +kernel
theorem dX7_isVoid_25 : decode cX7_isVoid 25 = .ok (.ireturn, 1) := by decide +kernel
theorem dX7_grows_0 : decode cX7_grows 0 = .ok (.aload_n 0, 1) := by decide +kernel
theorem dX7_grows_1 : decode cX7_grows 1 = .ok (.iload_n 1, 1) := by decide +kernel
theorem dX7_grows_2 : decode cX7_grows 2 = .ok (.iload_n 2, 1) := by decide +kernel
theorem dX7_grows_3 : decode cX7_grows 3 = .ok (.invokevirtual 329, 3) := by decide +kernel
theorem dX7_grows_6 : decode cX7_grows 6 = .ok (.ifCond .eq 12, 3) := by decide +kernel
theorem dX7_grows_9 : decode cX7_grows 9 = .ok (.aload_n 0, 1) := by decide +kernel
theorem dX7_grows_10 : decode cX7_grows 10 = .ok (.getfield 89, 3) := by decide +kernel
theorem dX7_grows_13 : decode cX7_grows 13 = .ok (.iload_n 1, 1) := by decide +kernel
theorem dX7_grows_14 : decode cX7_grows 14 = .ok (.iaload, 1) := by decide +kernel
theorem dX7_grows_15 : decode cX7_grows 15 = .ok (.ifCond .eq 5, 3) := by decide +kernel
theorem dX7_grows_18 : decode cX7_grows 18 = .ok (.iconst (-1), 1) := by decide +kernel
theorem dX7_grows_19 : decode cX7_grows 19 = .ok (.ireturn, 1) := by decide +kernel
theorem dX7_grows_20 : decode cX7_grows 20 = .ok (.aload_n 0, 1) := by decide +kernel
theorem dX7_grows_21 : decode cX7_grows 21 = .ok (.iload_n 2, 1) := by decide +kernel
theorem dX7_grows_22 : decode cX7_grows 22 = .ok (.sipush 399, 3) := by decide +kernel
theorem dX7_grows_25 : decode cX7_grows 25 = .ok (.invokevirtual 333, 3) := by decide +kernel
theorem dX7_grows_28 : decode cX7_grows 28 = .ok (.aload_n 0, 1) := by decide +kernel
theorem dX7_grows_29 : decode cX7_grows 29 = .ok (.getfield 122, 3) := by decide +kernel
theorem dX7_grows_32 : decode cX7_grows 32 = .ok (.iload_n 1, 1) := by decide +kernel
theorem dX7_grows_33 : decode cX7_grows 33 = .ok (.iaload, 1) := by decide +kernel
theorem dX7_grows_34 : decode cX7_grows 34 = .ok (.ifCond .le 7, 3) := by decide +kernel
theorem dX7_grows_37 : decode cX7_grows 37 = .ok (.iconst (-1), 1) := by decide +kernel
theorem dX7_grows_38 : decode cX7_grows 38 = .ok (.goto 24, 3) := by decide +kernel
theorem dX7_grows_41 : decode cX7_grows 41 = .ok (.aload_n 0, 1) := by decide +kernel
theorem dX7_grows_42 : decode cX7_grows 42 = .ok (.getfield 128, 3) := by decide +kernel
theorem dX7_grows_45 : decode cX7_grows 45 = .ok (.iload_n 1, 1) := by decide +kernel
theorem dX7_grows_46 : decode cX7_grows 46 = .ok (.iaload, 1) := by decide +kernel
theorem dX7_grows_47 : decode cX7_grows 47 = .ok (.iconst (-1), 1) := by decide +kernel
theorem dX7_grows_48 : decode cX7_grows 48 = .ok (.if_icmp .ne 8, 3) := by decide +kernel
theorem dX7_grows_51 : decode cX7_grows 51 = .ok (.bipush (-2), 2) := by decide +kernel
theorem dX7_grows_53 : decode cX7_grows 53 = .ok (.goto 9, 3) := by decide +kernel
theorem dX7_grows_56 : decode cX7_grows 56 = .ok (.aload_n 0, 1) := by decide +kernel
theorem dX7_grows_57 : decode cX7_grows 57 = .ok (.getfield 128, 3) := by decide +kernel
theorem dX7_grows_60 : decode cX7_grows 60 = .ok (.iload_n 1, 1) := by decide +kernel
theorem dX7_grows_61 : decode cX7_grows 61 = .ok (.iaload, 1) := by decide +kernel
theorem dX7_grows_62 : decode cX7_grows 62 = .ok (.ireturn, 1) := by decide +kernel
theorem dX7_ban_0 : decode cX7_ban 0 = .ok (.aload_n 0, 1) := by decide +kernel
theorem dX7_ban_1 : decode cX7_ban 1 = .ok (.iload_n 1, 1) := by decide +kernel
theorem dX7_ban_2 : decode cX7_ban 2 = .ok (.iload_n 2, 1) := by decide +kernel
theorem dX7_ban_3 : decode cX7_ban 3 = .ok (.invokevirtual 329, 3) := by decide +kernel
theorem dX7_ban_6 : decode cX7_ban 6 = .ok (.ifCond .eq 12, 3) := by decide +kernel
theorem dX7_ban_9 : decode cX7_ban 9 = .ok (.aload_n 0, 1) := by decide +kernel
theorem dX7_ban_10 : decode cX7_ban 10 = .ok (.getfield 89, 3) := by decide +kernel
theorem dX7_ban_13 : decode cX7_ban 13 = .ok (.iload_n 1, 1) := by decide +kernel
theorem dX7_ban_14 : decode cX7_ban 14 = .ok (.iaload, 1) := by decide +kernel
theorem dX7_ban_15 : decode cX7_ban 15 = .ok (.ifCond .eq 5, 3) := by decide +kernel
theorem dX7_ban_18 : decode cX7_ban 18 = .ok (.iconst (-1), 1) := by decide +kernel
theorem dX7_ban_19 : decode cX7_ban 19 = .ok (.ireturn, 1) := by decide +kernel
theorem dX7_ban_20 : decode cX7_ban 20 = .ok (.aload_n 0, 1) := by decide +kernel
theorem dX7_ban_21 : decode cX7_ban 21 = .ok (.iload_n 2, 1) := by decide +kernel
theorem dX7_ban_22 : decode cX7_ban 22 = .ok (.sipush 399, 3) := by decide +kernel
theorem dX7_ban_25 : decode cX7_ban 25 = .ok (.invokevirtual 333, 3) := by decide +kernel
theorem dX7_ban_28 : decode cX7_ban 28 = .ok (.aload_n 0, 1) := by decide +kernel
theorem dX7_ban_29 : decode cX7_ban 29 = .ok (.getfield 122, 3) := by decide +kernel
theorem dX7_ban_32 : decode cX7_ban 32 = .ok (.iload_n 1, 1) := by decide +kernel
theorem dX7_ban_33 : decode cX7_ban 33 = .ok (.iaload, 1) := by decide +kernel
theorem dX7_ban_34 : decode cX7_ban 34 = .ok (.iconst 4, 1) := by decide +kernel
theorem dX7_ban_35 : decode cX7_ban 35 = .ok (.if_icmp .ne 12, 3) := by decide +kernel
theorem dX7_ban_38 : decode cX7_ban 38 = .ok (.aload_n 0, 1) := by decide +kernel
theorem dX7_ban_39 : decode cX7_ban 39 = .ok (.getfield 125, 3) := by decide +kernel
theorem dX7_ban_42 : decode cX7_ban 42 = .ok (.iload_n 1, 1) := by decide +kernel
theorem dX7_ban_43 : decode cX7_ban 43 = .ok (.iaload, 1) := by decide +kernel
theorem dX7_ban_44 : decode cX7_ban 44 = .ok (.goto 4, 3) := by decide +kernel
theorem dX7_ban_47 : decode cX7_ban 47 = .ok (.iconst (-1), 1) := by decide +kernel
theorem dX7_ban_48 : decode cX7_ban 48 = .ok (.ireturn, 1) := by decide +kernel
theorem dX7_holder_0 : decode cX7_holder 0 = .ok (.aload_n 0, 1) := by decide +kernel
theorem dX7_holder_1 : decode cX7_holder 1 = .ok (.iload_n 1, 1) := by decide +kernel
theorem dX7_holder_2 : decode cX7_holder 2 = .ok (.invokevirtual 272, 3) := by decide +kernel
theorem dX7_holder_5 : decode cX7_holder 5 = .ok (.ifCond .eq 18, 3) := by decide +kernel
theorem dX7_holder_8 : decode cX7_holder 8 = .ok (.iload_n 2, 1) := by decide +kernel
theorem dX7_holder_9 : decode cX7_holder 9 = .ok (.invokestatic 269, 3) := by decide +kernel
theorem dX7_holder_12 : decode cX7_holder 12 = .ok (.ifCond .eq 11, 3) := by decide +kernel
theorem dX7_holder_15 : decode cX7_holder 15 = .ok (.aload_n 0, 1) := by decide +kernel
theorem dX7_holder_16 : decode cX7_holder 16 = .ok (.iload_n 3, 1) := by decide +kernel
theorem dX7_holder_17 : decode cX7_holder 17 = .ok (.invokevirtual 326, 3) := by decide +kernel
theorem dX7_holder_20 : decode cX7_holder 20 = .ok (.ifCond .ne 5, 3) := by decide +kernel
theorem dX7_holder_23 : decode cX7_holder 23 = .ok (.iconst (-1), 1) := by decide +kernel
theorem dX7_holder_24 : decode cX7_holder 24 = .ok (.ireturn, 1) := by decide +kernel
theorem dX7_holder_25 : decode cX7_holder 25 = .ok (.aload_n 0, 1) := by decide +kernel
theorem dX7_holder_26 : decode cX7_holder 26 = .ok (.iload_n 3, 1) := by decide +kernel
theorem dX7_holder_27 : decode cX7_holder 27 = .ok (.sipush 399, 3) := by decide +kernel
theorem dX7_holder_30 : decode cX7_holder 30 = .ok (.invokevirtual 333, 3) := by decide +kernel
theorem dX7_holder_33 : decode cX7_holder 33 = .ok (.aload_n 0, 1) := by decide +kernel
theorem dX7_holder_34 : decode cX7_holder 34 = .ok (.getfield 113, 3) := by decide +kernel
theorem dX7_holder_37 : decode cX7_holder 37 = .ok (.sipush 400, 3) := by decide +kernel
theorem dX7_holder_40 : decode cX7_holder 40 = .ok (.iload_n 1, 1) := by decide +kernel
theorem dX7_holder_41 : decode cX7_holder 41 = .ok (.imul, 1) := by decide +kernel
theorem dX7_holder_42 : decode cX7_holder 42 = .ok (.iload_n 2, 1) := by decide +kernel
theorem dX7_holder_43 : decode cX7_holder 43 = .ok (.iadd, 1) := by decide +kernel
theorem dX7_holder_44 : decode cX7_holder 44 = .ok (.iaload, 1) := by decide +kernel
theorem dX7_holder_45 : decode cX7_holder 45 = .ok (.ireturn, 1) := by decide +kernel
theorem dX7_chain_0 : decode cX7_chain 0 = .ok (.aload_n 0, 1) := by decide +kernel
theorem dX7_chain_1 : decode cX7_chain 1 = .ok (.iload_n 1, 1) := by decide +kernel
theorem dX7_chain_2 : decode cX7_chain 2 = .ok (.invokevirtual 272, 3) := by decide +kernel
theorem dX7_chain_5 : decode cX7_chain 5 = .ok (.ifCond .eq 23, 3) := by decide +kernel
theorem dX7_chain_8 : decode cX7_chain 8 = .ok (.iload_n 2, 1) := by decide +kernel
theorem dX7_chain_9 : decode cX7_chain 9 = .ok (.invokestatic 269, 3) := by decide +kernel
theorem dX7_chain_12 : decode cX7_chain 12 = .ok (.ifCond .eq 16, 3) := by decide +kernel
theorem dX7_chain_15 : decode cX7_chain 15 = .ok (.iload_n 3, 1) := by decide +kernel
theorem dX7_chain_16 : decode cX7_chain 16 = .ok (.ifCond .lt 12, 3) := by decide +kernel
theorem dX7_chain_19 : decode cX7_chain 19 = .ok (.aload_n 0, 1) := by decide +kernel
theorem dX7_chain_20 : decode cX7_chain 20 = .ok (.iload 4, 2) := by decide +kernel
theorem dX7_chain_22 : decode cX7_chain 22 = .ok (.invokevirtual 326, 3) := by decide +kernel
theorem dX7_chain_25 : decode cX7_chain 25 = .ok (.ifCond .ne 5, 3) := by decide +kernel
theorem dX7_chain_28 : decode cX7_chain 28 = .ok (.iconst (-1), 1) := by decide +kernel
theorem dX7_chain_29 : decode cX7_chain 29 = .ok (.ireturn, 1) := by decide +kernel
theorem dX7_chain_30 : decode cX7_chain 30 = .ok (.aload_n 0, 1) := by decide +kernel
theorem dX7_chain_31 : decode cX7_chain 31 = .ok (.iload 4, 2) := by decide +kernel
theorem dX7_chain_33 : decode cX7_chain 33 = .ok (.sipush 399, 3) := by decide +kernel
theorem dX7_chain_36 : decode cX7_chain 36 = .ok (.invokevirtual 333, 3) := by decide +kernel
theorem dX7_chain_39 : decode cX7_chain 39 = .ok (.iload_n 3, 1) := by decide +kernel
theorem dX7_chain_40 : decode cX7_chain 40 = .ok (.ifCond .ne 5, 3) := by decide +kernel
theorem dX7_chain_43 : decode cX7_chain 43 = .ok (.iload_n 1, 1) := by decide +kernel
theorem dX7_chain_44 : decode cX7_chain 44 = .ok (.ireturn, 1) := by decide +kernel
theorem dX7_chain_45 : decode cX7_chain 45 = .ok (.iload_n 3, 1) := by decide +kernel
theorem dX7_chain_46 : decode cX7_chain 46 = .ok (.istore 5, 2) := by decide +kernel
theorem dX7_chain_48 : decode cX7_chain 48 = .ok (.iconst 0, 1) := by decide +kernel
theorem dX7_chain_49 : decode cX7_chain 49 = .ok (.istore 6, 2) := by decide +kernel
theorem dX7_chain_51 : decode cX7_chain 51 = .ok (.iload 6, 2) := by decide +kernel
theorem dX7_chain_53 : decode cX7_chain 53 = .ok (.sipush 400, 3) := by decide +kernel
theorem dX7_chain_56 : decode cX7_chain 56 = .ok (.if_icmp .ge 99, 3) := by decide +kernel
theorem dX7_chain_59 : decode cX7_chain 59 = .ok (.iconst 0, 1) := by decide +kernel
theorem dX7_chain_60 : decode cX7_chain 60 = .ok (.istore 7, 2) := by decide +kernel
theorem dX7_chain_62 : decode cX7_chain 62 = .ok (.iload 7, 2) := by decide +kernel
theorem dX7_chain_64 : decode cX7_chain 64 = .ok (.iload 4, 2) := by decide +kernel
theorem dX7_chain_66 : decode cX7_chain 66 = .ok (.if_icmp .ge 83, 3) := by decide +kernel
theorem dX7_chain_69 : decode cX7_chain 69 = .ok (.aload_n 0, 1) := by decide +kernel
theorem dX7_chain_70 : decode cX7_chain 70 = .ok (.getfield 89, 3) := by decide +kernel
theorem dX7_chain_73 : decode cX7_chain 73 = .ok (.iload 7, 2) := by decide +kernel
theorem dX7_chain_75 : decode cX7_chain 75 = .ok (.iaload, 1) := by decide +kernel
theorem dX7_chain_76 : decode cX7_chain 76 = .ok (.iconst 1, 1) := by decide +kernel
theorem dX7_chain_77 : decode cX7_chain 77 = .ok (.if_icmp .gt 66, 3) := by decide +kernel
theorem dX7_chain_80 : decode cX7_chain 80 = .ok (.aload_n 0, 1) := by decide +kernel
theorem dX7_chain_81 : decode cX7_chain 81 = .ok (.getfield 92, 3) := by decide +kernel
theorem dX7_chain_84 : decode cX7_chain 84 = .ok (.iload 7, 2) := by decide +kernel
theorem dX7_chain_86 : decode cX7_chain 86 = .ok (.iaload, 1) := by decide +kernel
theorem dX7_chain_87 : decode cX7_chain 87 = .ok (.iload 6, 2) := by decide +kernel
theorem dX7_chain_89 : decode cX7_chain 89 = .ok (.if_icmp .ne 54, 3) := by decide +kernel
theorem dX7_chain_92 : decode cX7_chain 92 = .ok (.aload_n 0, 1) := by decide +kernel
theorem dX7_chain_93 : decode cX7_chain 93 = .ok (.getfield 101, 3) := by decide +kernel
theorem dX7_chain_96 : decode cX7_chain 96 = .ok (.iload 7, 2) := by decide +kernel
theorem dX7_chain_98 : decode cX7_chain 98 = .ok (.iaload, 1) := by decide +kernel
theorem dX7_chain_99 : decode cX7_chain 99 = .ok (.iload_n 1, 1) := by decide +kernel
theorem dX7_chain_100 : decode cX7_chain 100 = .ok (.if_icmp .ne 43, 3) := by decide +kernel
theorem dX7_chain_103 : decode cX7_chain 103 = .ok (.aload_n 0, 1) := by decide +kernel
theorem dX7_chain_104 : decode cX7_chain 104 = .ok (.getfield 104, 3) := by decide +kernel
theorem dX7_chain_107 : decode cX7_chain 107 = .ok (.iload 7, 2) := by decide +kernel
theorem dX7_chain_109 : decode cX7_chain 109 = .ok (.iaload, 1) := by decide +kernel
theorem dX7_chain_110 : decode cX7_chain 110 = .ok (.iload_n 2, 1) := by decide +kernel
theorem dX7_chain_111 : decode cX7_chain 111 = .ok (.if_icmp .ne 32, 3) := by decide +kernel
theorem dX7_chain_114 : decode cX7_chain 114 = .ok (.aload_n 0, 1) := by decide +kernel
theorem dX7_chain_115 : decode cX7_chain 115 = .ok (.getfield 122, 3) := by decide +kernel
theorem dX7_chain_118 : decode cX7_chain 118 = .ok (.iload 7, 2) := by decide +kernel
theorem dX7_chain_120 : decode cX7_chain 120 = .ok (.iaload, 1) := by decide +kernel
theorem dX7_chain_121 : decode cX7_chain 121 = .ok (.ifCond .le 6, 3) := by decide +kernel
theorem dX7_chain_124 : decode cX7_chain 124 = .ok (.goto 19, 3) := by decide +kernel
theorem dX7_chain_127 : decode cX7_chain 127 = .ok (.iinc 5 (-1), 3) := by decide +kernel
theorem dX7_chain_130 : decode cX7_chain 130 = .ok (.iload 5, 2) := by decide +kernel
theorem dX7_chain_132 : decode cX7_chain 132 = .ok (.ifCond .ne 11, 3) := by decide +kernel
theorem dX7_chain_135 : decode cX7_chain 135 = .ok (.aload_n 0, 1) := by decide +kernel
theorem dX7_chain_136 : decode cX7_chain 136 = .ok (.getfield 98, 3) := by decide +kernel
theorem dX7_chain_139 : decode cX7_chain 139 = .ok (.iload 7, 2) := by decide +kernel
theorem dX7_chain_141 : decode cX7_chain 141 = .ok (.iaload, 1) := by decide +kernel
theorem dX7_chain_142 : decode cX7_chain 142 = .ok (.ireturn, 1) := by decide +kernel
theorem dX7_chain_143 : decode cX7_chain 143 = .ok (.iinc 7 1, 3) := by decide +kernel
theorem dX7_chain_146 : decode cX7_chain 146 = .ok (.goto (-84), 3) := by decide +kernel
theorem dX7_chain_149 : decode cX7_chain 149 = .ok (.iinc 6 1, 3) := by decide +kernel
theorem dX7_chain_152 : decode cX7_chain 152 = .ok (.goto (-101), 3) := by decide +kernel
theorem dX7_chain_155 : decode cX7_chain 155 = .ok (.iconst (-1), 1) := by decide +kernel
theorem dX7_chain_156 : decode cX7_chain 156 = .ok (.ireturn, 1) := by decide +kernel
theorem dX7_awakeOf_0 : decode cX7_awakeOf 0 = .ok (.iconst 0, 1) := by decide +kernel
theorem dX7_awakeOf_1 : decode cX7_awakeOf 1 = .ok (.istore_n 3, 1) := by decide +kernel
theorem dX7_awakeOf_2 : decode cX7_awakeOf 2 = .ok (.iconst 0, 1) := by decide +kernel
theorem dX7_awakeOf_3 : decode cX7_awakeOf 3 = .ok (.istore 4, 2) := by decide +kernel
theorem dX7_awakeOf_5 : decode cX7_awakeOf 5 = .ok (.iload 4, 2) := by decide +kernel
theorem dX7_awakeOf_7 : decode cX7_awakeOf 7 = .ok (.aload_n 0, 1) := by decide +kernel
theorem dX7_awakeOf_8 : decode cX7_awakeOf 8 = .ok (.getfield 262, 3) := by decide +kernel
theorem dX7_awakeOf_11 : decode cX7_awakeOf 11 = .ok (.if_icmp .ge 29, 3) := by decide +kernel
theorem dX7_awakeOf_14 : decode cX7_awakeOf 14 = .ok (.aload_n 0, 1) := by decide +kernel
theorem dX7_awakeOf_15 : decode cX7_awakeOf 15 = .ok (.getfield 113, 3) := by decide +kernel
theorem dX7_awakeOf_18 : decode cX7_awakeOf 18 = .ok (.sipush 400, 3) := by decide +kernel
theorem dX7_awakeOf_21 : decode cX7_awakeOf 21 = .ok (.iload 4, 2) := by decide +kernel
theorem dX7_awakeOf_23 : decode cX7_awakeOf 23 = .ok (.imul, 1) := by decide +kernel
theorem dX7_awakeOf_24 : decode cX7_awakeOf 24 = .ok (.iload_n 2, 1) := by decide +kernel
theorem dX7_awakeOf_25 : decode cX7_awakeOf 25 = .ok (.iadd, 1) := by decide +kernel
theorem dX7_awakeOf_26 : decode cX7_awakeOf 26 = .ok (.iaload, 1) := by decide +kernel
theorem dX7_awakeOf_27 : decode cX7_awakeOf 27 = .ok (.iload_n 1, 1) := by decide +kernel
theorem dX7_awakeOf_28 : decode cX7_awakeOf 28 = .ok (.if_icmp .ne 6, 3) := by decide +kernel
theorem dX7_awakeOf_31 : decode cX7_awakeOf 31 = .ok (.iinc 3 1, 3) := by decide +kernel
theorem dX7_awakeOf_34 : decode cX7_awakeOf 34 = .ok (.iinc 4 1, 3) := by decide +kernel
theorem dX7_awakeOf_37 : decode cX7_awakeOf 37 = .ok (.goto (-32), 3) := by decide +kernel
theorem dX7_awakeOf_40 : decode cX7_awakeOf 40 = .ok (.iload_n 3, 1) := by decide +kernel
theorem dX7_awakeOf_41 : decode cX7_awakeOf 41 = .ok (.ireturn, 1) := by decide +kernel
theorem dX7_awake_0 : decode cX7_awake 0 = .ok (.aload_n 0, 1) := by decide +kernel
theorem dX7_awake_1 : decode cX7_awake 1 = .ok (.iload_n 1, 1) := by decide +kernel
theorem dX7_awake_2 : decode cX7_awake 2 = .ok (.invokevirtual 272, 3) := by decide +kernel
theorem dX7_awake_5 : decode cX7_awake 5 = .ok (.ifCond .eq 18, 3) := by decide +kernel
theorem dX7_awake_8 : decode cX7_awake 8 = .ok (.iload_n 2, 1) := by decide +kernel
theorem dX7_awake_9 : decode cX7_awake 9 = .ok (.invokestatic 269, 3) := by decide +kernel
theorem dX7_awake_12 : decode cX7_awake 12 = .ok (.ifCond .eq 11, 3) := by decide +kernel
theorem dX7_awake_15 : decode cX7_awake 15 = .ok (.aload_n 0, 1) := by decide +kernel
theorem dX7_awake_16 : decode cX7_awake 16 = .ok (.iload_n 3, 1) := by decide +kernel
theorem dX7_awake_17 : decode cX7_awake 17 = .ok (.invokevirtual 326, 3) := by decide +kernel
theorem dX7_awake_20 : decode cX7_awake 20 = .ok (.ifCond .ne 5, 3) := by decide +kernel
theorem dX7_awake_23 : decode cX7_awake 23 = .ok (.iconst (-1), 1) := by decide +kernel
theorem dX7_awake_24 : decode cX7_awake 24 = .ok (.ireturn, 1) := by decide +kernel
theorem dX7_awake_25 : decode cX7_awake 25 = .ok (.aload_n 0, 1) := by decide +kernel
theorem dX7_awake_26 : decode cX7_awake 26 = .ok (.iload_n 3, 1) := by decide +kernel
theorem dX7_awake_27 : decode cX7_awake 27 = .ok (.sipush 399, 3) := by decide +kernel
theorem dX7_awake_30 : decode cX7_awake 30 = .ok (.invokevirtual 333, 3) := by decide +kernel
theorem dX7_awake_33 : decode cX7_awake 33 = .ok (.aload_n 0, 1) := by decide +kernel
theorem dX7_awake_34 : decode cX7_awake 34 = .ok (.iload_n 1, 1) := by decide +kernel
theorem dX7_awake_35 : decode cX7_awake 35 = .ok (.iload_n 2, 1) := by decide +kernel
theorem dX7_awake_36 : decode cX7_awake 36 = .ok (.invokevirtual 336, 3) := by decide +kernel
theorem dX7_awake_39 : decode cX7_awake 39 = .ok (.ireturn, 1) := by decide +kernel
theorem dX7_age_0 : decode cX7_age 0 = .ok (.aload_n 0, 1) := by decide +kernel
theorem dX7_age_1 : decode cX7_age 1 = .ok (.iload_n 1, 1) := by decide +kernel
theorem dX7_age_2 : decode cX7_age 2 = .ok (.invokevirtual 272, 3) := by decide +kernel
theorem dX7_age_5 : decode cX7_age 5 = .ok (.ifCond .eq 18, 3) := by decide +kernel
theorem dX7_age_8 : decode cX7_age 8 = .ok (.iload_n 2, 1) := by decide +kernel
theorem dX7_age_9 : decode cX7_age 9 = .ok (.invokestatic 269, 3) := by decide +kernel
theorem dX7_age_12 : decode cX7_age 12 = .ok (.ifCond .eq 11, 3) := by decide +kernel
theorem dX7_age_15 : decode cX7_age 15 = .ok (.aload_n 0, 1) := by decide +kernel
theorem dX7_age_16 : decode cX7_age 16 = .ok (.iload_n 3, 1) := by decide +kernel
theorem dX7_age_17 : decode cX7_age 17 = .ok (.invokevirtual 326, 3) := by decide +kernel
theorem dX7_age_20 : decode cX7_age 20 = .ok (.ifCond .ne 5, 3) := by decide +kernel
theorem dX7_age_23 : decode cX7_age 23 = .ok (.iconst (-1), 1) := by decide +kernel
theorem dX7_age_24 : decode cX7_age 24 = .ok (.ireturn, 1) := by decide +kernel
theorem dX7_age_25 : decode cX7_age 25 = .ok (.aload_n 0, 1) := by decide +kernel
theorem dX7_age_26 : decode cX7_age 26 = .ok (.iload_n 3, 1) := by decide +kernel
theorem dX7_age_27 : decode cX7_age 27 = .ok (.sipush 399, 3) := by decide +kernel
theorem dX7_age_30 : decode cX7_age 30 = .ok (.invokevirtual 333, 3) := by decide +kernel
theorem dX7_age_33 : decode cX7_age 33 = .ok (.aload_n 0, 1) := by decide +kernel
theorem dX7_age_34 : decode cX7_age 34 = .ok (.iload_n 1, 1) := by decide +kernel
theorem dX7_age_35 : decode cX7_age 35 = .ok (.iload_n 2, 1) := by decide +kernel
theorem dX7_age_36 : decode cX7_age 36 = .ok (.invokevirtual 305, 3) := by decide +kernel
theorem dX7_age_39 : decode cX7_age 39 = .ok (.ireturn, 1) := by decide +kernel
theorem dX7_owes_0 : decode cX7_owes 0 = .ok (.aload_n 0, 1) := by decide +kernel
theorem dX7_owes_1 : decode cX7_owes 1 = .ok (.iload_n 1, 1) := by decide +kernel
theorem dX7_owes_2 : decode cX7_owes 2 = .ok (.invokevirtual 272, 3) := by decide +kernel
theorem dX7_owes_5 : decode cX7_owes 5 = .ok (.ifCond .eq 27, 3) := by decide +kernel
theorem dX7_owes_8 : decode cX7_owes 8 = .ok (.aload_n 0, 1) := by decide +kernel
theorem dX7_owes_9 : decode cX7_owes 9 = .ok (.iload_n 2, 1) := by decide +kernel
theorem dX7_owes_10 : decode cX7_owes 10 = .ok (.invokevirtual 272, 3) := by decide +kernel
theorem dX7_owes_13 : decode cX7_owes 13 = .ok (.ifCond .eq 19, 3) := by decide +kernel
theorem dX7_owes_16 : decode cX7_owes 16 = .ok (.iload_n 3, 1) := by decide +kernel
theorem dX7_owes_17 : decode cX7_owes 17 = .ok (.invokestatic 269, 3) := by decide +kernel
theorem dX7_owes_20 : decode cX7_owes 20 = .ok (.ifCond .eq 12, 3) := by decide +kernel
theorem dX7_owes_23 : decode cX7_owes 23 = .ok (.aload_n 0, 1) := by decide +kernel
theorem dX7_owes_24 : decode cX7_owes 24 = .ok (.iload 4, 2) := by decide +kernel
theorem dX7_owes_26 : decode cX7_owes 26 = .ok (.invokevirtual 326, 3) := by decide +kernel
theorem dX7_owes_29 : decode cX7_owes 29 = .ok (.ifCond .ne 5, 3) := by decide +kernel
theorem dX7_owes_32 : decode cX7_owes 32 = .ok (.iconst (-1), 1) := by decide +kernel
theorem dX7_owes_33 : decode cX7_owes 33 = .ok (.ireturn, 1) := by decide +kernel
theorem dX7_owes_34 : decode cX7_owes 34 = .ok (.aload_n 0, 1) := by decide +kernel
theorem dX7_owes_35 : decode cX7_owes 35 = .ok (.iload 4, 2) := by decide +kernel
theorem dX7_owes_37 : decode cX7_owes 37 = .ok (.iload_n 3, 1) := by decide +kernel
theorem dX7_owes_38 : decode cX7_owes 38 = .ok (.invokevirtual 333, 3) := by decide +kernel
theorem dX7_owes_41 : decode cX7_owes 41 = .ok (.aload_n 0, 1) := by decide +kernel
theorem dX7_owes_42 : decode cX7_owes 42 = .ok (.getfield 119, 3) := by decide +kernel
theorem dX7_owes_45 : decode cX7_owes 45 = .ok (.bipush 8, 2) := by decide +kernel
theorem dX7_owes_47 : decode cX7_owes 47 = .ok (.iload_n 1, 1) := by decide +kernel
theorem dX7_owes_48 : decode cX7_owes 48 = .ok (.imul, 1) := by decide +kernel
theorem dX7_owes_49 : decode cX7_owes 49 = .ok (.iload_n 2, 1) := by decide +kernel
theorem dX7_owes_50 : decode cX7_owes 50 = .ok (.iadd, 1) := by decide +kernel
theorem dX7_owes_51 : decode cX7_owes 51 = .ok (.iaload, 1) := by decide +kernel
theorem dX7_owes_52 : decode cX7_owes 52 = .ok (.ireturn, 1) := by decide +kernel
theorem dX7_net_0 : decode cX7_net 0 = .ok (.aload_n 0, 1) := by decide +kernel
theorem dX7_net_1 : decode cX7_net 1 = .ok (.iload_n 1, 1) := by decide +kernel
theorem dX7_net_2 : decode cX7_net 2 = .ok (.invokevirtual 272, 3) := by decide +kernel
theorem dX7_net_5 : decode cX7_net 5 = .ok (.ifCond .eq 18, 3) := by decide +kernel
theorem dX7_net_8 : decode cX7_net 8 = .ok (.iload_n 2, 1) := by decide +kernel
theorem dX7_net_9 : decode cX7_net 9 = .ok (.invokestatic 269, 3) := by decide +kernel
theorem dX7_net_12 : decode cX7_net 12 = .ok (.ifCond .eq 11, 3) := by decide +kernel
theorem dX7_net_15 : decode cX7_net 15 = .ok (.aload_n 0, 1) := by decide +kernel
theorem dX7_net_16 : decode cX7_net 16 = .ok (.iload_n 3, 1) := by decide +kernel
theorem dX7_net_17 : decode cX7_net 17 = .ok (.invokevirtual 326, 3) := by decide +kernel
theorem dX7_net_20 : decode cX7_net 20 = .ok (.ifCond .ne 5, 3) := by decide +kernel
theorem dX7_net_23 : decode cX7_net 23 = .ok (.iconst 0, 1) := by decide +kernel
theorem dX7_net_24 : decode cX7_net 24 = .ok (.ireturn, 1) := by decide +kernel
theorem dX7_net_25 : decode cX7_net 25 = .ok (.aload_n 0, 1) := by decide +kernel
theorem dX7_net_26 : decode cX7_net 26 = .ok (.iload_n 3, 1) := by decide +kernel
theorem dX7_net_27 : decode cX7_net 27 = .ok (.iload_n 2, 1) := by decide +kernel
theorem dX7_net_28 : decode cX7_net 28 = .ok (.invokevirtual 333, 3) := by decide +kernel
theorem dX7_net_31 : decode cX7_net 31 = .ok (.aload_n 0, 1) := by decide +kernel
theorem dX7_net_32 : decode cX7_net 32 = .ok (.iload_n 1, 1) := by decide +kernel
theorem dX7_net_33 : decode cX7_net 33 = .ok (.invokevirtual 302, 3) := by decide +kernel
theorem dX7_net_36 : decode cX7_net 36 = .ok (.istore 4, 2) := by decide +kernel
theorem dX7_net_38 : decode cX7_net 38 = .ok (.iconst 0, 1) := by decide +kernel
theorem dX7_net_39 : decode cX7_net 39 = .ok (.istore 5, 2) := by decide +kernel
theorem dX7_net_41 : decode cX7_net 41 = .ok (.iload 5, 2) := by decide +kernel
theorem dX7_net_43 : decode cX7_net 43 = .ok (.bipush 8, 2) := by decide +kernel
theorem dX7_net_45 : decode cX7_net 45 = .ok (.if_icmp .ge 26, 3) := by decide +kernel
theorem dX7_net_48 : decode cX7_net 48 = .ok (.iload 4, 2) := by decide +kernel
theorem dX7_net_50 : decode cX7_net 50 = .ok (.aload_n 0, 1) := by decide +kernel
theorem dX7_net_51 : decode cX7_net 51 = .ok (.getfield 119, 3) := by decide +kernel
theorem dX7_net_54 : decode cX7_net 54 = .ok (.bipush 8, 2) := by decide +kernel
theorem dX7_net_56 : decode cX7_net 56 = .ok (.iload 5, 2) := by decide +kernel
theorem dX7_net_58 : decode cX7_net 58 = .ok (.imul, 1) := by decide +kernel
theorem dX7_net_59 : decode cX7_net 59 = .ok (.iload_n 1, 1) := by decide +kernel
theorem dX7_net_60 : decode cX7_net 60 = .ok (.iadd, 1) := by decide +kernel
theorem dX7_net_61 : decode cX7_net 61 = .ok (.iaload, 1) := by decide +kernel
theorem dX7_net_62 : decode cX7_net 62 = .ok (.isub, 1) := by decide +kernel
theorem dX7_net_63 : decode cX7_net 63 = .ok (.istore 4, 2) := by decide +kernel
theorem dX7_net_65 : decode cX7_net 65 = .ok (.iinc 5 1, 3) := by decide +kernel
theorem dX7_net_68 : decode cX7_net 68 = .ok (.goto (-27), 3) := by decide +kernel
theorem dX7_net_71 : decode cX7_net 71 = .ok (.iload 4, 2) := by decide +kernel
theorem dX7_net_73 : decode cX7_net 73 = .ok (.ireturn, 1) := by decide +kernel
theorem dX7_ring_0 : decode cX7_ring 0 = .ok (.iload_n 1, 1) := by decide +kernel
theorem dX7_ring_1 : decode cX7_ring 1 = .ok (.invokestatic 269, 3) := by decide +kernel
theorem dX7_ring_4 : decode cX7_ring 4 = .ok (.ifCond .eq 15, 3) := by decide +kernel
theorem dX7_ring_7 : decode cX7_ring 7 = .ok (.aload_n 0, 1) := by decide +kernel
theorem dX7_ring_8 : decode cX7_ring 8 = .ok (.iload_n 2, 1) := by decide +kernel
theorem dX7_ring_9 : decode cX7_ring 9 = .ok (.invokevirtual 326, 3) := by decide +kernel
theorem dX7_ring_12 : decode cX7_ring 12 = .ok (.ifCond .eq 7, 3) := by decide +kernel
theorem dX7_ring_15 : decode cX7_ring 15 = .ok (.iload_n 3, 1) := by decide +kernel
theorem dX7_ring_16 : decode cX7_ring 16 = .ok (.ifCond .ge 5, 3) := by decide +kernel
theorem dX7_ring_19 : decode cX7_ring 19 = .ok (.iconst (-1), 1) := by decide +kernel
theorem dX7_ring_20 : decode cX7_ring 20 = .ok (.ireturn, 1) := by decide +kernel
theorem dX7_ring_21 : decode cX7_ring 21 = .ok (.aload_n 0, 1) := by decide +kernel
theorem dX7_ring_22 : decode cX7_ring 22 = .ok (.iload_n 2, 1) := by decide +kernel
theorem dX7_ring_23 : decode cX7_ring 23 = .ok (.iload_n 1, 1) := by decide +kernel
theorem dX7_ring_24 : decode cX7_ring 24 = .ok (.invokevirtual 333, 3) := by decide +kernel
theorem dX7_ring_27 : decode cX7_ring 27 = .ok (.aload_n 0, 1) := by decide +kernel
theorem dX7_ring_28 : decode cX7_ring 28 = .ok (.invokevirtual 323, 3) := by decide +kernel
theorem dX7_ring_31 : decode cX7_ring 31 = .ok (.iload_n 3, 1) := by decide +kernel
theorem dX7_ring_32 : decode cX7_ring 32 = .ok (.aload_n 0, 1) := by decide +kernel
theorem dX7_ring_33 : decode cX7_ring 33 = .ok (.getfield 311, 3) := by decide +kernel
theorem dX7_ring_36 : decode cX7_ring 36 = .ok (.if_icmp .ge 12, 3) := by decide +kernel
theorem dX7_ring_39 : decode cX7_ring 39 = .ok (.aload_n 0, 1) := by decide +kernel
theorem dX7_ring_40 : decode cX7_ring 40 = .ok (.getfield 143, 3) := by decide +kernel
theorem dX7_ring_43 : decode cX7_ring 43 = .ok (.iload_n 3, 1) := by decide +kernel
theorem dX7_ring_44 : decode cX7_ring 44 = .ok (.iaload, 1) := by decide +kernel
theorem dX7_ring_45 : decode cX7_ring 45 = .ok (.goto 4, 3) := by decide +kernel
theorem dX7_ring_48 : decode cX7_ring 48 = .ok (.iconst (-1), 1) := by decide +kernel
theorem dX7_ring_49 : decode cX7_ring 49 = .ok (.ireturn, 1) := by decide +kernel
theorem dX7_leaves_0 : decode cX7_leaves 0 = .ok (.iload_n 1, 1) := by decide +kernel
theorem dX7_leaves_1 : decode cX7_leaves 1 = .ok (.invokestatic 269, 3) := by decide +kernel
theorem dX7_leaves_4 : decode cX7_leaves 4 = .ok (.ifCond .eq 11, 3) := by decide +kernel
theorem dX7_leaves_7 : decode cX7_leaves 7 = .ok (.aload_n 0, 1) := by decide +kernel
theorem dX7_leaves_8 : decode cX7_leaves 8 = .ok (.iload_n 2, 1) := by decide +kernel
theorem dX7_leaves_9 : decode cX7_leaves 9 = .ok (.invokevirtual 326, 3) := by decide +kernel
theorem dX7_leaves_12 : decode cX7_leaves 12 = .ok (.ifCond .ne 5, 3) := by decide +kernel
theorem dX7_leaves_15 : decode cX7_leaves 15 = .ok (.iconst (-1), 1) := by decide +kernel
theorem dX7_leaves_16 : decode cX7_leaves 16 = .ok (.ireturn, 1) := by decide +kernel
theorem dX7_leaves_17 : decode cX7_leaves 17 = .ok (.aload_n 0, 1) := by decide +kernel
theorem dX7_leaves_18 : decode cX7_leaves 18 = .ok (.iload_n 2, 1) := by decide +kernel
theorem dX7_leaves_19 : decode cX7_leaves 19 = .ok (.iload_n 1, 1) := by decide +kernel
theorem dX7_leaves_20 : decode cX7_leaves 20 = .ok (.invokevirtual 333, 3) := by decide +kernel
theorem dX7_leaves_23 : decode cX7_leaves 23 = .ok (.aload_n 0, 1) := by decide +kernel
theorem dX7_leaves_24 : decode cX7_leaves 24 = .ok (.invokevirtual 296, 3) := by decide +kernel
theorem dX7_leaves_27 : decode cX7_leaves 27 = .ok (.aload_n 0, 1) := by decide +kernel
theorem dX7_leaves_28 : decode cX7_leaves 28 = .ok (.iconst (-1), 1) := by decide +kernel
theorem dX7_leaves_29 : decode cX7_leaves 29 = .ok (.putfield 110, 3) := by decide +kernel
theorem dX7_leaves_32 : decode cX7_leaves 32 = .ok (.iconst 0, 1) := by decide +kernel
theorem dX7_leaves_33 : decode cX7_leaves 33 = .ok (.istore_n 3, 1) := by decide +kernel
theorem dX7_leaves_34 : decode cX7_leaves 34 = .ok (.iconst 0, 1) := by decide +kernel
theorem dX7_leaves_35 : decode cX7_leaves 35 = .ok (.istore 4, 2) := by decide +kernel
theorem dX7_leaves_37 : decode cX7_leaves 37 = .ok (.iload 4, 2) := by decide +kernel
theorem dX7_leaves_39 : decode cX7_leaves 39 = .ok (.bipush 64, 2) := by decide +kernel
theorem dX7_leaves_41 : decode cX7_leaves 41 = .ok (.if_icmp .ge 19, 3) := by decide +kernel
theorem dX7_leaves_44 : decode cX7_leaves 44 = .ok (.iload_n 3, 1) := by decide +kernel
theorem dX7_leaves_45 : decode cX7_leaves 45 = .ok (.aload_n 0, 1) := by decide +kernel
theorem dX7_leaves_46 : decode cX7_leaves 46 = .ok (.getfield 119, 3) := by decide +kernel
theorem dX7_leaves_49 : decode cX7_leaves 49 = .ok (.iload 4, 2) := by decide +kernel
theorem dX7_leaves_51 : decode cX7_leaves 51 = .ok (.iaload, 1) := by decide +kernel
theorem dX7_leaves_52 : decode cX7_leaves 52 = .ok (.iadd, 1) := by decide +kernel
theorem dX7_leaves_53 : decode cX7_leaves 53 = .ok (.istore_n 3, 1) := by decide +kernel
theorem dX7_leaves_54 : decode cX7_leaves 54 = .ok (.iinc 4 1, 3) := by decide +kernel
theorem dX7_leaves_57 : decode cX7_leaves 57 = .ok (.goto (-20), 3) := by decide +kernel
theorem dX7_leaves_60 : decode cX7_leaves 60 = .ok (.iload_n 3, 1) := by decide +kernel
theorem dX7_leaves_61 : decode cX7_leaves 61 = .ok (.ireturn, 1) := by decide +kernel
theorem dX7_isCounted_0 : decode cX7_isCounted 0 = .ok (.aload_n 0, 1) := by decide +kernel
theorem dX7_isCounted_1 : decode cX7_isCounted 1 = .ok (.getfield 95, 3) := by decide +kernel
theorem dX7_isCounted_4 : decode cX7_isCounted 4 = .ok (.iload_n 1, 1) := by decide +kernel
theorem dX7_isCounted_5 : decode cX7_isCounted 5 = .ok (.iaload, 1) := by decide +kernel
theorem dX7_isCounted_6 : decode cX7_isCounted 6 = .ok (.aload_n 0, 1) := by decide +kernel
theorem dX7_isCounted_7 : decode cX7_isCounted 7 = .ok (.getfield 98, 3) := by decide +kernel
theorem dX7_isCounted_10 : decode cX7_isCounted 10 = .ok (.iload_n 1, 1) := by decide +kernel
theorem dX7_isCounted_11 : decode cX7_isCounted 11 = .ok (.iaload, 1) := by decide +kernel
theorem dX7_isCounted_12 : decode cX7_isCounted 12 = .ok (.if_icmp .eq 26, 3) := by decide +kernel
theorem dX7_isCounted_15 : decode cX7_isCounted 15 = .ok (.aload_n 0, 1) := by decide +kernel
theorem dX7_isCounted_16 : decode cX7_isCounted 16 = .ok (.aload_n 0, 1) := by decide +kernel
theorem dX7_isCounted_17 : decode cX7_isCounted 17 = .ok (.getfield 95, 3) := by decide +kernel
theorem dX7_isCounted_20 : decode cX7_isCounted 20 = .ok (.iload_n 1, 1) := by decide +kernel
theorem dX7_isCounted_21 : decode cX7_isCounted 21 = .ok (.iaload, 1) := by decide +kernel
theorem dX7_isCounted_22 : decode cX7_isCounted 22 = .ok (.aload_n 0, 1) := by decide +kernel
theorem dX7_isCounted_23 : decode cX7_isCounted 23 = .ok (.getfield 92, 3) := by decide +kernel
theorem dX7_isCounted_26 : decode cX7_isCounted 26 = .ok (.iload_n 1, 1) := by decide +kernel
theorem dX7_isCounted_27 : decode cX7_isCounted 27 = .ok (.iaload, 1) := by decide +kernel
theorem dX7_isCounted_28 : decode cX7_isCounted 28 = .ok (.invokevirtual 336, 3) := by decide +kernel
theorem dX7_isCounted_31 : decode cX7_isCounted 31 = .ok (.ifCond .le 7, 3) := by decide +kernel
theorem dX7_isCounted_34 : decode cX7_isCounted 34 = .ok (.iconst 1, 1) := by decide +kernel
theorem dX7_isCounted_35 : decode cX7_isCounted 35 = .ok (.goto 4, 3) := by decide +kernel
theorem dX7_isCounted_38 : decode cX7_isCounted 38 = .ok (.iconst 0, 1) := by decide +kernel
theorem dX7_isCounted_39 : decode cX7_isCounted 39 = .ok (.ireturn, 1) := by decide +kernel
theorem dX7_counts_0 : decode cX7_counts 0 = .ok (.aload_n 0, 1) := by decide +kernel
theorem dX7_counts_1 : decode cX7_counts 1 = .ok (.iload_n 2, 1) := by decide +kernel
theorem dX7_counts_2 : decode cX7_counts 2 = .ok (.invokevirtual 326, 3) := by decide +kernel
theorem dX7_counts_5 : decode cX7_counts 5 = .ok (.ifCond .eq 22, 3) := by decide +kernel
theorem dX7_counts_8 : decode cX7_counts 8 = .ok (.iload_n 1, 1) := by decide +kernel
theorem dX7_counts_9 : decode cX7_counts 9 = .ok (.ifCond .lt 18, 3) := by decide +kernel
theorem dX7_counts_12 : decode cX7_counts 12 = .ok (.iload_n 1, 1) := by decide +kernel
theorem dX7_counts_13 : decode cX7_counts 13 = .ok (.iload_n 2, 1) := by decide +kernel
theorem dX7_counts_14 : decode cX7_counts 14 = .ok (.if_icmp .ge 13, 3) := by decide +kernel
theorem dX7_counts_17 : decode cX7_counts 17 = .ok (.aload_n 0, 1) := by decide +kernel
theorem dX7_counts_18 : decode cX7_counts 18 = .ok (.getfield 89, 3) := by decide +kernel
theorem dX7_counts_21 : decode cX7_counts 21 = .ok (.iload_n 1, 1) := by decide +kernel
theorem dX7_counts_22 : decode cX7_counts 22 = .ok (.iaload, 1) := by decide +kernel
theorem dX7_counts_23 : decode cX7_counts 23 = .ok (.iconst 5, 1) := by decide +kernel
theorem dX7_counts_24 : decode cX7_counts 24 = .ok (.if_icmp .eq 5, 3) := by decide +kernel
theorem dX7_counts_27 : decode cX7_counts 27 = .ok (.iconst (-1), 1) := by decide +kernel
theorem dX7_counts_28 : decode cX7_counts 28 = .ok (.ireturn, 1) := by decide +kernel
theorem dX7_counts_29 : decode cX7_counts 29 = .ok (.aload_n 0, 1) := by decide +kernel
theorem dX7_counts_30 : decode cX7_counts 30 = .ok (.iload_n 2, 1) := by decide +kernel
theorem dX7_counts_31 : decode cX7_counts 31 = .ok (.sipush 399, 3) := by decide +kernel
theorem dX7_counts_34 : decode cX7_counts 34 = .ok (.invokevirtual 333, 3) := by decide +kernel
theorem dX7_counts_37 : decode cX7_counts 37 = .ok (.aload_n 0, 1) := by decide +kernel
theorem dX7_counts_38 : decode cX7_counts 38 = .ok (.iload_n 1, 1) := by decide +kernel
theorem dX7_counts_39 : decode cX7_counts 39 = .ok (.invokevirtual 339, 3) := by decide +kernel
theorem dX7_counts_42 : decode cX7_counts 42 = .ok (.ifCond .eq 7, 3) := by decide +kernel
theorem dX7_counts_45 : decode cX7_counts 45 = .ok (.iconst 1, 1) := by decide +kernel
theorem dX7_counts_46 : decode cX7_counts 46 = .ok (.goto 4, 3) := by decide +kernel
theorem dX7_counts_49 : decode cX7_counts 49 = .ok (.iconst 0, 1) := by decide +kernel
theorem dX7_counts_50 : decode cX7_counts 50 = .ok (.ireturn, 1) := by decide +kernel
theorem dX7_doer_0 : decode cX7_doer 0 = .ok (.iload_n 1, 1) := by decide +kernel
theorem dX7_doer_1 : decode cX7_doer 1 = .ok (.ifCond .lt 24, 3) := by decide +kernel
theorem dX7_doer_4 : decode cX7_doer 4 = .ok (.iload_n 1, 1) := by decide +kernel
theorem dX7_doer_5 : decode cX7_doer 5 = .ok (.bipush 9, 2) := by decide +kernel
theorem dX7_doer_7 : decode cX7_doer 7 = .ok (.if_icmp .gt 18, 3) := by decide +kernel
theorem dX7_doer_10 : decode cX7_doer 10 = .ok (.iload_n 2, 1) := by decide +kernel
theorem dX7_doer_11 : decode cX7_doer 11 = .ok (.invokestatic 269, 3) := by decide +kernel
theorem dX7_doer_14 : decode cX7_doer 14 = .ok (.ifCond .eq 11, 3) := by decide +kernel
theorem dX7_doer_17 : decode cX7_doer 17 = .ok (.aload_n 0, 1) := by decide +kernel
theorem dX7_doer_18 : decode cX7_doer 18 = .ok (.iload_n 3, 1) := by decide +kernel
theorem dX7_doer_19 : decode cX7_doer 19 = .ok (.invokevirtual 326, 3) := by decide +kernel
theorem dX7_doer_22 : decode cX7_doer 22 = .ok (.ifCond .ne 5, 3) := by decide +kernel
theorem dX7_doer_25 : decode cX7_doer 25 = .ok (.iconst (-1), 1) := by decide +kernel
theorem dX7_doer_26 : decode cX7_doer 26 = .ok (.ireturn, 1) := by decide +kernel
theorem dX7_doer_27 : decode cX7_doer 27 = .ok (.aload_n 0, 1) := by decide +kernel
theorem dX7_doer_28 : decode cX7_doer 28 = .ok (.iload_n 3, 1) := by decide +kernel
theorem dX7_doer_29 : decode cX7_doer 29 = .ok (.sipush 399, 3) := by decide +kernel
theorem dX7_doer_32 : decode cX7_doer 32 = .ok (.invokevirtual 333, 3) := by decide +kernel
theorem dX7_doer_35 : decode cX7_doer 35 = .ok (.iconst 0, 1) := by decide +kernel
theorem dX7_doer_36 : decode cX7_doer 36 = .ok (.istore 4, 2) := by decide +kernel
theorem dX7_doer_38 : decode cX7_doer 38 = .ok (.iload 4, 2) := by decide +kernel
theorem dX7_doer_40 : decode cX7_doer 40 = .ok (.bipush 8, 2) := by decide +kernel
theorem dX7_doer_42 : decode cX7_doer 42 = .ok (.if_icmp .ge 17, 3) := by decide +kernel
theorem dX7_doer_45 : decode cX7_doer 45 = .ok (.aload_n 0, 1) := by decide +kernel
theorem dX7_doer_46 : decode cX7_doer 46 = .ok (.getfield 152, 3) := by decide +kernel
theorem dX7_doer_49 : decode cX7_doer 49 = .ok (.iload 4, 2) := by decide +kernel
theorem dX7_doer_51 : decode cX7_doer 51 = .ok (.iconst 0, 1) := by decide +kernel
theorem dX7_doer_52 : decode cX7_doer 52 = .ok (.iastore, 1) := by decide +kernel
theorem dX7_doer_53 : decode cX7_doer 53 = .ok (.iinc 4 1, 3) := by decide +kernel
theorem dX7_doer_56 : decode cX7_doer 56 = .ok (.goto (-18), 3) := by decide +kernel
theorem dX7_doer_59 : decode cX7_doer 59 = .ok (.iconst 0, 1) := by decide +kernel
theorem dX7_doer_60 : decode cX7_doer 60 = .ok (.istore 4, 2) := by decide +kernel
theorem dX7_doer_62 : decode cX7_doer 62 = .ok (.iload 4, 2) := by decide +kernel
theorem dX7_doer_64 : decode cX7_doer 64 = .ok (.aload_n 0, 1) := by decide +kernel
theorem dX7_doer_65 : decode cX7_doer 65 = .ok (.getfield 262, 3) := by decide +kernel
theorem dX7_doer_68 : decode cX7_doer 68 = .ok (.if_icmp .ge 107, 3) := by decide +kernel
theorem dX7_doer_71 : decode cX7_doer 71 = .ok (.iconst (-1), 1) := by decide +kernel
theorem dX7_doer_72 : decode cX7_doer 72 = .ok (.istore 5, 2) := by decide +kernel
theorem dX7_doer_74 : decode cX7_doer 74 = .ok (.iconst 0, 1) := by decide +kernel
theorem dX7_doer_75 : decode cX7_doer 75 = .ok (.istore 6, 2) := by decide +kernel
theorem dX7_doer_77 : decode cX7_doer 77 = .ok (.iload 6, 2) := by decide +kernel
theorem dX7_doer_79 : decode cX7_doer 79 = .ok (.iload_n 3, 1) := by decide +kernel
theorem dX7_doer_80 : decode cX7_doer 80 = .ok (.if_icmp .ge 58, 3) := by decide +kernel
theorem dX7_doer_83 : decode cX7_doer 83 = .ok (.aload_n 0, 1) := by decide +kernel
theorem dX7_doer_84 : decode cX7_doer 84 = .ok (.getfield 89, 3) := by decide +kernel
theorem dX7_doer_87 : decode cX7_doer 87 = .ok (.iload 6, 2) := by decide +kernel
theorem dX7_doer_89 : decode cX7_doer 89 = .ok (.iaload, 1) := by decide +kernel
theorem dX7_doer_90 : decode cX7_doer 90 = .ok (.iconst 5, 1) := by decide +kernel
theorem dX7_doer_91 : decode cX7_doer 91 = .ok (.if_icmp .ne 41, 3) := by decide +kernel
theorem dX7_doer_94 : decode cX7_doer 94 = .ok (.aload_n 0, 1) := by decide +kernel
theorem dX7_doer_95 : decode cX7_doer 95 = .ok (.getfield 95, 3) := by decide +kernel
theorem dX7_doer_98 : decode cX7_doer 98 = .ok (.iload 6, 2) := by decide +kernel
theorem dX7_doer_100 : decode cX7_doer 100 = .ok (.iaload, 1) := by decide +kernel
theorem dX7_doer_101 : decode cX7_doer 101 = .ok (.iload 4, 2) := by decide +kernel
theorem dX7_doer_103 : decode cX7_doer 103 = .ok (.if_icmp .ne 29, 3) := by decide +kernel
theorem dX7_doer_106 : decode cX7_doer 106 = .ok (.aload_n 0, 1) := by decide +kernel
theorem dX7_doer_107 : decode cX7_doer 107 = .ok (.getfield 107, 3) := by decide +kernel
theorem dX7_doer_110 : decode cX7_doer 110 = .ok (.iload 6, 2) := by decide +kernel
theorem dX7_doer_112 : decode cX7_doer 112 = .ok (.iaload, 1) := by decide +kernel
theorem dX7_doer_113 : decode cX7_doer 113 = .ok (.iload_n 1, 1) := by decide +kernel
theorem dX7_doer_114 : decode cX7_doer 114 = .ok (.if_icmp .ne 18, 3) := by decide +kernel
theorem dX7_doer_117 : decode cX7_doer 117 = .ok (.aload_n 0, 1) := by decide +kernel
theorem dX7_doer_118 : decode cX7_doer 118 = .ok (.getfield 92, 3) := by decide +kernel
theorem dX7_doer_121 : decode cX7_doer 121 = .ok (.iload 6, 2) := by decide +kernel
theorem dX7_doer_123 : decode cX7_doer 123 = .ok (.iaload, 1) := by decide +kernel
theorem dX7_doer_124 : decode cX7_doer 124 = .ok (.iload_n 2, 1) := by decide +kernel
theorem dX7_doer_125 : decode cX7_doer 125 = .ok (.if_icmp .ne 7, 3) := by decide +kernel
theorem dX7_doer_128 : decode cX7_doer 128 = .ok (.iload 6, 2) := by decide +kernel
theorem dX7_doer_130 : decode cX7_doer 130 = .ok (.istore 5, 2) := by decide +kernel
theorem dX7_doer_132 : decode cX7_doer 132 = .ok (.iinc 6 1, 3) := by decide +kernel
theorem dX7_doer_135 : decode cX7_doer 135 = .ok (.goto (-58), 3) := by decide +kernel
theorem dX7_doer_138 : decode cX7_doer 138 = .ok (.iload 5, 2) := by decide +kernel
theorem dX7_doer_140 : decode cX7_doer 140 = .ok (.iconst (-1), 1) := by decide +kernel
theorem dX7_doer_141 : decode cX7_doer 141 = .ok (.if_icmp .eq 28, 3) := by decide +kernel
theorem dX7_doer_144 : decode cX7_doer 144 = .ok (.aload_n 0, 1) := by decide +kernel
theorem dX7_doer_145 : decode cX7_doer 145 = .ok (.iload 5, 2) := by decide +kernel
theorem dX7_doer_147 : decode cX7_doer 147 = .ok (.invokevirtual 339, 3) := by decide +kernel
theorem dX7_doer_150 : decode cX7_doer 150 = .ok (.ifCond .eq 19, 3) := by decide +kernel
theorem dX7_doer_153 : decode cX7_doer 153 = .ok (.aload_n 0, 1) := by decide +kernel
theorem dX7_doer_154 : decode cX7_doer 154 = .ok (.getfield 152, 3) := by decide +kernel
theorem dX7_doer_157 : decode cX7_doer 157 = .ok (.aload_n 0, 1) := by decide +kernel
theorem dX7_doer_158 : decode cX7_doer 158 = .ok (.getfield 98, 3) := by decide +kernel
theorem dX7_doer_161 : decode cX7_doer 161 = .ok (.iload 5, 2) := by decide +kernel
theorem dX7_doer_163 : decode cX7_doer 163 = .ok (.iaload, 1) := by decide +kernel
theorem dX7_doer_164 : decode cX7_doer 164 = .ok (.dup2, 1) := by decide +kernel
theorem dX7_doer_165 : decode cX7_doer 165 = .ok (.iaload, 1) := by decide +kernel
theorem dX7_doer_166 : decode cX7_doer 166 = .ok (.iconst 1, 1) := by decide +kernel
theorem dX7_doer_167 : decode cX7_doer 167 = .ok (.iadd, 1) := by decide +kernel
theorem dX7_doer_168 : decode cX7_doer 168 = .ok (.iastore, 1) := by decide +kernel
theorem dX7_doer_169 : decode cX7_doer 169 = .ok (.iinc 4 1, 3) := by decide +kernel
theorem dX7_doer_172 : decode cX7_doer 172 = .ok (.goto (-110), 3) := by decide +kernel
theorem dX7_doer_175 : decode cX7_doer 175 = .ok (.iconst (-1), 1) := by decide +kernel
theorem dX7_doer_176 : decode cX7_doer 176 = .ok (.istore 4, 2) := by decide +kernel
theorem dX7_doer_178 : decode cX7_doer 178 = .ok (.iconst 0, 1) := by decide +kernel
theorem dX7_doer_179 : decode cX7_doer 179 = .ok (.istore 5, 2) := by decide +kernel
theorem dX7_doer_181 : decode cX7_doer 181 = .ok (.iconst 0, 1) := by decide +kernel
theorem dX7_doer_182 : decode cX7_doer 182 = .ok (.istore 6, 2) := by decide +kernel
theorem dX7_doer_184 : decode cX7_doer 184 = .ok (.iload 6, 2) := by decide +kernel
theorem dX7_doer_186 : decode cX7_doer 186 = .ok (.aload_n 0, 1) := by decide +kernel
theorem dX7_doer_187 : decode cX7_doer 187 = .ok (.getfield 262, 3) := by decide +kernel
theorem dX7_doer_190 : decode cX7_doer 190 = .ok (.if_icmp .ge 111, 3) := by decide +kernel
theorem dX7_doer_193 : decode cX7_doer 193 = .ok (.aload_n 0, 1) := by decide +kernel
theorem dX7_doer_194 : decode cX7_doer 194 = .ok (.getfield 152, 3) := by decide +kernel
theorem dX7_doer_197 : decode cX7_doer 197 = .ok (.iload 6, 2) := by decide +kernel
theorem dX7_doer_199 : decode cX7_doer 199 = .ok (.iaload, 1) := by decide +kernel
theorem dX7_doer_200 : decode cX7_doer 200 = .ok (.ifCond .eq 95, 3) := by decide +kernel
theorem dX7_doer_203 : decode cX7_doer 203 = .ok (.aload_n 0, 1) := by decide +kernel
theorem dX7_doer_204 : decode cX7_doer 204 = .ok (.iload 6, 2) := by decide +kernel
theorem dX7_doer_206 : decode cX7_doer 206 = .ok (.iload_n 2, 1) := by decide +kernel
theorem dX7_doer_207 : decode cX7_doer 207 = .ok (.invokevirtual 336, 3) := by decide +kernel
theorem dX7_doer_210 : decode cX7_doer 210 = .ok (.ifCond .ne 6, 3) := by decide +kernel
theorem dX7_doer_213 : decode cX7_doer 213 = .ok (.goto 82, 3) := by decide +kernel
theorem dX7_doer_216 : decode cX7_doer 216 = .ok (.iload 4, 2) := by decide +kernel
theorem dX7_doer_218 : decode cX7_doer 218 = .ok (.iconst (-1), 1) := by decide +kernel
theorem dX7_doer_219 : decode cX7_doer 219 = .ok (.if_icmp .eq 46, 3) := by decide +kernel
theorem dX7_doer_222 : decode cX7_doer 222 = .ok (.aload_n 0, 1) := by decide +kernel
theorem dX7_doer_223 : decode cX7_doer 223 = .ok (.getfield 152, 3) := by decide +kernel
theorem dX7_doer_226 : decode cX7_doer 226 = .ok (.iload 6, 2) := by decide +kernel
theorem dX7_doer_228 : decode cX7_doer 228 = .ok (.iaload, 1) := by decide +kernel
theorem dX7_doer_229 : decode cX7_doer 229 = .ok (.aload_n 0, 1) := by decide +kernel
theorem dX7_doer_230 : decode cX7_doer 230 = .ok (.getfield 152, 3) := by decide +kernel
theorem dX7_doer_233 : decode cX7_doer 233 = .ok (.iload 4, 2) := by decide +kernel
theorem dX7_doer_235 : decode cX7_doer 235 = .ok (.iaload, 1) := by decide +kernel
theorem dX7_doer_236 : decode cX7_doer 236 = .ok (.if_icmp .eq 25, 3) := by decide +kernel
theorem dX7_doer_239 : decode cX7_doer 239 = .ok (.iload 5, 2) := by decide +kernel
theorem dX7_doer_241 : decode cX7_doer 241 = .ok (.ifCond .eq 24, 3) := by decide +kernel
theorem dX7_doer_244 : decode cX7_doer 244 = .ok (.aload_n 0, 1) := by decide +kernel
theorem dX7_doer_245 : decode cX7_doer 245 = .ok (.getfield 152, 3) := by decide +kernel
theorem dX7_doer_248 : decode cX7_doer 248 = .ok (.iload 6, 2) := by decide +kernel
theorem dX7_doer_250 : decode cX7_doer 250 = .ok (.iaload, 1) := by decide +kernel
theorem dX7_doer_251 : decode cX7_doer 251 = .ok (.aload_n 0, 1) := by decide +kernel
theorem dX7_doer_252 : decode cX7_doer 252 = .ok (.getfield 152, 3) := by decide +kernel
theorem dX7_doer_255 : decode cX7_doer 255 = .ok (.iload 4, 2) := by decide +kernel
theorem dX7_doer_257 : decode cX7_doer 257 = .ok (.iaload, 1) := by decide +kernel
theorem dX7_doer_258 : decode cX7_doer 258 = .ok (.if_icmp .ge 7, 3) := by decide +kernel
theorem dX7_doer_261 : decode cX7_doer 261 = .ok (.iconst 1, 1) := by decide +kernel
theorem dX7_doer_262 : decode cX7_doer 262 = .ok (.goto 4, 3) := by decide +kernel
theorem dX7_doer_265 : decode cX7_doer 265 = .ok (.iconst 0, 1) := by decide +kernel
theorem dX7_doer_266 : decode cX7_doer 266 = .ok (.istore 5, 2) := by decide +kernel
theorem dX7_doer_268 : decode cX7_doer 268 = .ok (.iload 4, 2) := by decide +kernel
theorem dX7_doer_270 : decode cX7_doer 270 = .ok (.iconst (-1), 1) := by decide +kernel
theorem dX7_doer_271 : decode cX7_doer 271 = .ok (.if_icmp .eq 20, 3) := by decide +kernel
theorem dX7_doer_274 : decode cX7_doer 274 = .ok (.aload_n 0, 1) := by decide +kernel
theorem dX7_doer_275 : decode cX7_doer 275 = .ok (.getfield 152, 3) := by decide +kernel
theorem dX7_doer_278 : decode cX7_doer 278 = .ok (.iload 6, 2) := by decide +kernel
theorem dX7_doer_280 : decode cX7_doer 280 = .ok (.iaload, 1) := by decide +kernel
theorem dX7_doer_281 : decode cX7_doer 281 = .ok (.aload_n 0, 1) := by decide +kernel
theorem dX7_doer_282 : decode cX7_doer 282 = .ok (.getfield 152, 3) := by decide +kernel
theorem dX7_doer_285 : decode cX7_doer 285 = .ok (.iload 4, 2) := by decide +kernel
theorem dX7_doer_287 : decode cX7_doer 287 = .ok (.iaload, 1) := by decide +kernel
theorem dX7_doer_288 : decode cX7_doer 288 = .ok (.if_icmp .le 7, 3) := by decide +kernel
theorem dX7_doer_291 : decode cX7_doer 291 = .ok (.iload 6, 2) := by decide +kernel
theorem dX7_doer_293 : decode cX7_doer 293 = .ok (.istore 4, 2) := by decide +kernel
theorem dX7_doer_295 : decode cX7_doer 295 = .ok (.iinc 6 1, 3) := by decide +kernel
theorem dX7_doer_298 : decode cX7_doer 298 = .ok (.goto (-114), 3) := by decide +kernel
theorem dX7_doer_301 : decode cX7_doer 301 = .ok (.iload 5, 2) := by decide +kernel
theorem dX7_doer_303 : decode cX7_doer 303 = .ok (.ifCond .eq 7, 3) := by decide +kernel
theorem dX7_doer_306 : decode cX7_doer 306 = .ok (.iconst (-1), 1) := by decide +kernel
theorem dX7_doer_307 : decode cX7_doer 307 = .ok (.goto 5, 3) := by decide +kernel
theorem dX7_doer_310 : decode cX7_doer 310 = .ok (.iload 4, 2) := by decide +kernel
theorem dX7_doer_312 : decode cX7_doer 312 = .ok (.ireturn, 1) := by decide +kernel
theorem dX7_turned_0 : decode cX7_turned 0 = .ok (.aload_n 0, 1) := by decide +kernel
theorem dX7_turned_1 : decode cX7_turned 1 = .ok (.iload_n 1, 1) := by decide +kernel
theorem dX7_turned_2 : decode cX7_turned 2 = .ok (.invokevirtual 326, 3) := by decide +kernel
theorem dX7_turned_5 : decode cX7_turned 5 = .ok (.ifCond .eq 11, 3) := by decide +kernel
theorem dX7_turned_8 : decode cX7_turned 8 = .ok (.aload_n 0, 1) := by decide +kernel
theorem dX7_turned_9 : decode cX7_turned 9 = .ok (.iload_n 2, 1) := by decide +kernel
theorem dX7_turned_10 : decode cX7_turned 10 = .ok (.invokevirtual 326, 3) := by decide +kernel
theorem dX7_turned_13 : decode cX7_turned 13 = .ok (.ifCond .ne 5, 3) := by decide +kernel
theorem dX7_turned_16 : decode cX7_turned 16 = .ok (.iconst (-1), 1) := by decide +kernel
theorem dX7_turned_17 : decode cX7_turned 17 = .ok (.ireturn, 1) := by decide +kernel
theorem dX7_turned_18 : decode cX7_turned 18 = .ok (.iload_n 1, 1) := by decide +kernel
theorem dX7_turned_19 : decode cX7_turned 19 = .ok (.iload_n 2, 1) := by decide +kernel
theorem dX7_turned_20 : decode cX7_turned 20 = .ok (.if_icmp .ge 7, 3) := by decide +kernel
theorem dX7_turned_23 : decode cX7_turned 23 = .ok (.iload_n 1, 1) := by decide +kernel
theorem dX7_turned_24 : decode cX7_turned 24 = .ok (.goto 4, 3) := by decide +kernel
theorem dX7_turned_27 : decode cX7_turned 27 = .ok (.iload_n 2, 1) := by decide +kernel
theorem dX7_turned_28 : decode cX7_turned 28 = .ok (.istore_n 3, 1) := by decide +kernel
theorem dX7_turned_29 : decode cX7_turned 29 = .ok (.aload_n 0, 1) := by decide +kernel
theorem dX7_turned_30 : decode cX7_turned 30 = .ok (.iload_n 1, 1) := by decide +kernel
theorem dX7_turned_31 : decode cX7_turned 31 = .ok (.sipush 399, 3) := by decide +kernel
theorem dX7_turned_34 : decode cX7_turned 34 = .ok (.invokevirtual 333, 3) := by decide +kernel
theorem dX7_turned_37 : decode cX7_turned 37 = .ok (.iconst 0, 1) := by decide +kernel
theorem dX7_turned_38 : decode cX7_turned 38 = .ok (.istore 4, 2) := by decide +kernel
theorem dX7_turned_40 : decode cX7_turned 40 = .ok (.iload 4, 2) := by decide +kernel
theorem dX7_turned_42 : decode cX7_turned 42 = .ok (.iload_n 3, 1) := by decide +kernel
theorem dX7_turned_43 : decode cX7_turned 43 = .ok (.if_icmp .ge 42, 3) := by decide +kernel
theorem dX7_turned_46 : decode cX7_turned 46 = .ok (.aload_n 0, 1) := by decide +kernel
theorem dX7_turned_47 : decode cX7_turned 47 = .ok (.getfield 155, 3) := by decide +kernel
theorem dX7_turned_50 : decode cX7_turned 50 = .ok (.iload 4, 2) := by decide +kernel
theorem dX7_turned_52 : decode cX7_turned 52 = .ok (.aload_n 0, 1) := by decide +kernel
theorem dX7_turned_53 : decode cX7_turned 53 = .ok (.getfield 89, 3) := by decide +kernel
theorem dX7_turned_56 : decode cX7_turned 56 = .ok (.iload 4, 2) := by decide +kernel
theorem dX7_turned_58 : decode cX7_turned 58 = .ok (.iaload, 1) := by decide +kernel
theorem dX7_turned_59 : decode cX7_turned 59 = .ok (.iconst 2, 1) := by decide +kernel
theorem dX7_turned_60 : decode cX7_turned 60 = .ok (.if_icmp .gt 17, 3) := by decide +kernel
theorem dX7_turned_63 : decode cX7_turned 63 = .ok (.aload_n 0, 1) := by decide +kernel
theorem dX7_turned_64 : decode cX7_turned 64 = .ok (.getfield 122, 3) := by decide +kernel
theorem dX7_turned_67 : decode cX7_turned 67 = .ok (.iload 4, 2) := by decide +kernel
theorem dX7_turned_69 : decode cX7_turned 69 = .ok (.iaload, 1) := by decide +kernel
theorem dX7_turned_70 : decode cX7_turned 70 = .ok (.ifCond .le 7, 3) := by decide +kernel
theorem dX7_turned_73 : decode cX7_turned 73 = .ok (.iconst 1, 1) := by decide +kernel
theorem dX7_turned_74 : decode cX7_turned 74 = .ok (.goto 4, 3) := by decide +kernel
theorem dX7_turned_77 : decode cX7_turned 77 = .ok (.iconst 0, 1) := by decide +kernel
theorem dX7_turned_78 : decode cX7_turned 78 = .ok (.bastore, 1) := by decide +kernel
theorem dX7_turned_79 : decode cX7_turned 79 = .ok (.iinc 4 1, 3) := by decide +kernel
theorem dX7_turned_82 : decode cX7_turned 82 = .ok (.goto (-42), 3) := by decide +kernel
theorem dX7_turned_85 : decode cX7_turned 85 = .ok (.aload_n 0, 1) := by decide +kernel
theorem dX7_turned_86 : decode cX7_turned 86 = .ok (.iload_n 2, 1) := by decide +kernel
theorem dX7_turned_87 : decode cX7_turned 87 = .ok (.sipush 399, 3) := by decide +kernel
theorem dX7_turned_90 : decode cX7_turned 90 = .ok (.invokevirtual 333, 3) := by decide +kernel
theorem dX7_turned_93 : decode cX7_turned 93 = .ok (.iconst 0, 1) := by decide +kernel
theorem dX7_turned_94 : decode cX7_turned 94 = .ok (.istore 4, 2) := by decide +kernel
theorem dX7_turned_96 : decode cX7_turned 96 = .ok (.iload 4, 2) := by decide +kernel
theorem dX7_turned_98 : decode cX7_turned 98 = .ok (.iload_n 3, 1) := by decide +kernel
theorem dX7_turned_99 : decode cX7_turned 99 = .ok (.if_icmp .ge 48, 3) := by decide +kernel
theorem dX7_turned_102 : decode cX7_turned 102 = .ok (.aload_n 0, 1) := by decide +kernel
theorem dX7_turned_103 : decode cX7_turned 103 = .ok (.getfield 89, 3) := by decide +kernel
theorem dX7_turned_106 : decode cX7_turned 106 = .ok (.iload 4, 2) := by decide +kernel
theorem dX7_turned_108 : decode cX7_turned 108 = .ok (.iaload, 1) := by decide +kernel
theorem dX7_turned_109 : decode cX7_turned 109 = .ok (.iconst 2, 1) := by decide +kernel
theorem dX7_turned_110 : decode cX7_turned 110 = .ok (.if_icmp .gt 31, 3) := by decide +kernel
theorem dX7_turned_113 : decode cX7_turned 113 = .ok (.aload_n 0, 1) := by decide +kernel
theorem dX7_turned_114 : decode cX7_turned 114 = .ok (.getfield 155, 3) := by decide +kernel
theorem dX7_turned_117 : decode cX7_turned 117 = .ok (.iload 4, 2) := by decide +kernel
theorem dX7_turned_119 : decode cX7_turned 119 = .ok (.baload, 1) := by decide +kernel
theorem dX7_turned_120 : decode cX7_turned 120 = .ok (.aload_n 0, 1) := by decide +kernel
theorem dX7_turned_121 : decode cX7_turned 121 = .ok (.getfield 122, 3) := by decide +kernel
theorem dX7_turned_124 : decode cX7_turned 124 = .ok (.iload 4, 2) := by decide +kernel
theorem dX7_turned_126 : decode cX7_turned 126 = .ok (.iaload, 1) := by decide +kernel
theorem dX7_turned_127 : decode cX7_turned 127 = .ok (.ifCond .le 7, 3) := by decide +kernel
theorem dX7_turned_130 : decode cX7_turned 130 = .ok (.iconst 1, 1) := by decide +kernel
theorem dX7_turned_131 : decode cX7_turned 131 = .ok (.goto 4, 3) := by decide +kernel
theorem dX7_turned_134 : decode cX7_turned 134 = .ok (.iconst 0, 1) := by decide +kernel
theorem dX7_turned_135 : decode cX7_turned 135 = .ok (.if_icmp .eq 6, 3) := by decide +kernel
theorem dX7_turned_138 : decode cX7_turned 138 = .ok (.iload 4, 2) := by decide +kernel
theorem dX7_turned_140 : decode cX7_turned 140 = .ok (.ireturn, 1) := by decide +kernel
theorem dX7_turned_141 : decode cX7_turned 141 = .ok (.iinc 4 1, 3) := by decide +kernel
theorem dX7_turned_144 : decode cX7_turned 144 = .ok (.goto (-48), 3) := by decide +kernel
theorem dX7_turned_147 : decode cX7_turned 147 = .ok (.iconst (-1), 1) := by decide +kernel
theorem dX7_turned_148 : decode cX7_turned 148 = .ok (.ireturn, 1) := by decide +kernel
theorem dX7_count_0 : decode cX7_count 0 = .ok (.iload_n 1, 1) := by decide +kernel
theorem dX7_count_1 : decode cX7_count 1 = .ok (.tableswitch 98 0 4 #[35, 40, 45, 83, 93], 35) := by decide +kernel
theorem dX7_count_36 : decode cX7_count 36 = .ok (.aload_n 0, 1) := by decide +kernel
theorem dX7_count_37 : decode cX7_count 37 = .ok (.getfield 262, 3) := by decide +kernel
theorem dX7_count_40 : decode cX7_count 40 = .ok (.ireturn, 1) := by decide +kernel
theorem dX7_count_41 : decode cX7_count 41 = .ok (.aload_n 0, 1) := by decide +kernel
theorem dX7_count_42 : decode cX7_count 42 = .ok (.getfield 265, 3) := by decide +kernel
theorem dX7_count_45 : decode cX7_count 45 = .ok (.ireturn, 1) := by decide +kernel
theorem dX7_count_46 : decode cX7_count 46 = .ok (.iconst 0, 1) := by decide +kernel
theorem dX7_count_47 : decode cX7_count 47 = .ok (.istore_n 2, 1) := by decide +kernel
theorem dX7_count_48 : decode cX7_count 48 = .ok (.iconst 0, 1) := by decide +kernel
theorem dX7_count_49 : decode cX7_count 49 = .ok (.istore_n 3, 1) := by decide +kernel
theorem dX7_count_50 : decode cX7_count 50 = .ok (.iload_n 3, 1) := by decide +kernel
theorem dX7_count_51 : decode cX7_count 51 = .ok (.aload_n 0, 1) := by decide +kernel
theorem dX7_count_52 : decode cX7_count 52 = .ok (.getfield 265, 3) := by decide +kernel
theorem dX7_count_55 : decode cX7_count 55 = .ok (.if_icmp .ge 27, 3) := by decide +kernel
theorem dX7_count_58 : decode cX7_count 58 = .ok (.iload_n 2, 1) := by decide +kernel
theorem dX7_count_59 : decode cX7_count 59 = .ok (.aload_n 0, 1) := by decide +kernel
theorem dX7_count_60 : decode cX7_count 60 = .ok (.getfield 89, 3) := by decide +kernel
theorem dX7_count_63 : decode cX7_count 63 = .ok (.iload_n 3, 1) := by decide +kernel
theorem dX7_count_64 : decode cX7_count 64 = .ok (.iaload, 1) := by decide +kernel
theorem dX7_count_65 : decode cX7_count 65 = .ok (.iconst 2, 1) := by decide +kernel
theorem dX7_count_66 : decode cX7_count 66 = .ok (.if_icmp .gt 7, 3) := by decide +kernel
theorem dX7_count_69 : decode cX7_count 69 = .ok (.iconst 1, 1) := by decide +kernel
theorem dX7_count_70 : decode cX7_count 70 = .ok (.goto 4, 3) := by decide +kernel
theorem dX7_count_73 : decode cX7_count 73 = .ok (.iconst 0, 1) := by decide +kernel
theorem dX7_count_74 : decode cX7_count 74 = .ok (.iadd, 1) := by decide +kernel
theorem dX7_count_75 : decode cX7_count 75 = .ok (.istore_n 2, 1) := by decide +kernel
theorem dX7_count_76 : decode cX7_count 76 = .ok (.iinc 3 1, 3) := by decide +kernel
theorem dX7_count_79 : decode cX7_count 79 = .ok (.goto (-29), 3) := by decide +kernel
theorem dX7_count_82 : decode cX7_count 82 = .ok (.iload_n 2, 1) := by decide +kernel
theorem dX7_count_83 : decode cX7_count 83 = .ok (.ireturn, 1) := by decide +kernel
theorem dX7_count_84 : decode cX7_count 84 = .ok (.aload_n 0, 1) := by decide +kernel
theorem dX7_count_85 : decode cX7_count 85 = .ok (.getfield 40, 3) := by decide +kernel
theorem dX7_count_88 : decode cX7_count 88 = .ok (.aload_n 0, 1) := by decide +kernel
theorem dX7_count_89 : decode cX7_count 89 = .ok (.getfield 230, 3) := by decide +kernel
theorem dX7_count_92 : decode cX7_count 92 = .ok (.iaload, 1) := by decide +kernel
theorem dX7_count_93 : decode cX7_count 93 = .ok (.ireturn, 1) := by decide +kernel
theorem dX7_count_94 : decode cX7_count 94 = .ok (.aload_n 0, 1) := by decide +kernel
theorem dX7_count_95 : decode cX7_count 95 = .ok (.getfield 162, 3) := by decide +kernel
theorem dX7_count_98 : decode cX7_count 98 = .ok (.ireturn, 1) := by decide +kernel
theorem dX7_count_99 : decode cX7_count 99 = .ok (.iconst (-1), 1) := by decide +kernel
theorem dX7_count_100 : decode cX7_count 100 = .ok (.ireturn, 1) := by decide +kernel
theorem dJ9_max_7cf53_0 : decode cJ9_max_7cf53 0 = .ok (.iload_n 0, 1) := by decide +kernel
theorem dJ9_max_7cf53_1 : decode cJ9_max_7cf53 1 = .ok (.iload_n 1, 1) := by decide +kernel
theorem dJ9_max_7cf53_2 : decode cJ9_max_7cf53 2 = .ok (.if_icmp .lt 7, 3) := by decide +kernel
theorem dJ9_max_7cf53_5 : decode cJ9_max_7cf53 5 = .ok (.iload_n 0, 1) := by decide +kernel
theorem dJ9_max_7cf53_6 : decode cJ9_max_7cf53 6 = .ok (.goto 4, 3) := by decide +kernel
theorem dJ9_max_7cf53_9 : decode cJ9_max_7cf53 9 = .ok (.iload_n 1, 1) := by decide +kernel
theorem dJ9_max_7cf53_10 : decode cJ9_max_7cf53 10 = .ok (.ireturn, 1) := by decide +kernel
theorem dJ9_min_7cf53_0 : decode cJ9_min_7cf53 0 = .ok (.iload_n 0, 1) := by decide +kernel
theorem dJ9_min_7cf53_1 : decode cJ9_min_7cf53 1 = .ok (.iload_n 1, 1) := by decide +kernel
theorem dJ9_min_7cf53_2 : decode cJ9_min_7cf53 2 = .ok (.if_icmp .gt 7, 3) := by decide +kernel
theorem dJ9_min_7cf53_5 : decode cJ9_min_7cf53 5 = .ok (.iload_n 0, 1) := by decide +kernel
theorem dJ9_min_7cf53_6 : decode cJ9_min_7cf53 6 = .ok (.goto 4, 3) := by decide +kernel
theorem dJ9_min_7cf53_9 : decode cJ9_min_7cf53 9 = .ok (.iload_n 1, 1) := by decide +kernel
theorem dJ9_min_7cf53_10 : decode cJ9_min_7cf53 10 = .ok (.ireturn, 1) := by decide +kernel
theorem dJ0_length_8abf5_0 : decode cJ0_length_8abf5 0 = .ok (.aload_n 0, 1) := by decide +kernel
theorem dJ0_length_8abf5_1 : decode cJ0_length_8abf5 1 = .ok (.getfield 9, 3) := by decide +kernel
theorem dJ0_length_8abf5_4 : decode cJ0_length_8abf5 4 = .ok (.arraylength, 1) := by decide +kernel
theorem dJ0_length_8abf5_5 : decode cJ0_length_8abf5 5 = .ok (.aload_n 0, 1) := by decide +kernel
theorem dJ0_length_8abf5_6 : decode cJ0_length_8abf5 6 = .ok (.invokevirtual 335, 3) := by decide +kernel
theorem dJ0_length_8abf5_9 : decode cJ0_length_8abf5 9 = .ok (.ishr, 1) := by decide +kernel
theorem dJ0_length_8abf5_10 : decode cJ0_length_8abf5 10 = .ok (.ireturn, 1) := by decide +kernel
theorem dJ0_charAt_5068e_0 : decode cJ0_charAt_5068e 0 = .ok (.aload_n 0, 1) := by decide +kernel
theorem dJ0_charAt_5068e_1 : decode cJ0_charAt_5068e 1 = .ok (.invokevirtual 492, 3) := by decide +kernel
theorem dJ0_charAt_5068e_4 : decode cJ0_charAt_5068e 4 = .ok (.ifCond .eq 12, 3) := by decide +kernel
theorem dJ0_charAt_5068e_7 : decode cJ0_charAt_5068e 7 = .ok (.aload_n 0, 1) := by decide +kernel
theorem dJ0_charAt_5068e_8 : decode cJ0_charAt_5068e 8 = .ok (.getfield 9, 3) := by decide +kernel
theorem dJ0_charAt_5068e_11 : decode cJ0_charAt_5068e 11 = .ok (.iload_n 1, 1) := by decide +kernel
theorem dJ0_charAt_5068e_12 : decode cJ0_charAt_5068e 12 = .ok (.invokestatic 495, 3) := by decide +kernel
theorem dJ0_charAt_5068e_15 : decode cJ0_charAt_5068e 15 = .ok (.ireturn, 1) := by decide +kernel
theorem dJ0_charAt_5068e_16 : decode cJ0_charAt_5068e 16 = .ok (.aload_n 0, 1) := by decide +kernel
theorem dJ0_charAt_5068e_17 : decode cJ0_charAt_5068e 17 = .ok (.getfield 9, 3) := by decide +kernel
theorem dJ0_charAt_5068e_20 : decode cJ0_charAt_5068e 20 = .ok (.iload_n 1, 1) := by decide +kernel
theorem dJ0_charAt_5068e_21 : decode cJ0_charAt_5068e 21 = .ok (.invokestatic 498, 3) := by decide +kernel
theorem dJ0_charAt_5068e_24 : decode cJ0_charAt_5068e 24 = .ok (.ireturn, 1) := by decide +kernel
theorem dJ0_coder_7d493_0 : decode cJ0_coder_7d493 0 = .ok (.getstatic 38, 3) := by decide +kernel
theorem dJ0_coder_7d493_3 : decode cJ0_coder_7d493 3 = .ok (.ifCond .eq 10, 3) := by decide +kernel
theorem dJ0_coder_7d493_6 : decode cJ0_coder_7d493 6 = .ok (.aload_n 0, 1) := by decide +kernel
theorem dJ0_coder_7d493_7 : decode cJ0_coder_7d493 7 = .ok (.getfield 15, 3) := by decide +kernel
theorem dJ0_coder_7d493_10 : decode cJ0_coder_7d493 10 = .ok (.goto 4, 3) := by decide +kernel
theorem dJ0_coder_7d493_13 : decode cJ0_coder_7d493 13 = .ok (.iconst 1, 1) := by decide +kernel
theorem dJ0_coder_7d493_14 : decode cJ0_coder_7d493 14 = .ok (.ireturn, 1) := by decide +kernel
theorem dJ0_isLatin1_aae02_0 : decode cJ0_isLatin1_aae02 0 = .ok (.getstatic 38, 3) := by decide +kernel
theorem dJ0_isLatin1_aae02_3 : decode cJ0_isLatin1_aae02 3 = .ok (.ifCond .eq 14, 3) := by decide +kernel
theorem dJ0_isLatin1_aae02_6 : decode cJ0_isLatin1_aae02 6 = .ok (.aload_n 0, 1) := by decide +kernel
theorem dJ0_isLatin1_aae02_7 : decode cJ0_isLatin1_aae02 7 = .ok (.getfield 15, 3) := by decide +kernel
theorem dJ0_isLatin1_aae02_10 : decode cJ0_isLatin1_aae02 10 = .ok (.ifCond .ne 7, 3) := by decide +kernel
theorem dJ0_isLatin1_aae02_13 : decode cJ0_isLatin1_aae02 13 = .ok (.iconst 1, 1) := by decide +kernel
theorem dJ0_isLatin1_aae02_14 : decode cJ0_isLatin1_aae02 14 = .ok (.goto 4, 3) := by decide +kernel
theorem dJ0_isLatin1_aae02_17 : decode cJ0_isLatin1_aae02 17 = .ok (.iconst 0, 1) := by decide +kernel
theorem dJ0_isLatin1_aae02_18 : decode cJ0_isLatin1_aae02 18 = .ok (.ireturn, 1) := by decide +kernel
theorem dJ0_checkIndex_df160_0 : decode cJ0_checkIndex_df160 0 = .ok (.iload_n 0, 1) := by decide +kernel
theorem dJ0_checkIndex_df160_1 : decode cJ0_checkIndex_df160 1 = .ok (.iload_n 1, 1) := by decide +kernel
theorem dJ0_checkIndex_df160_2 : decode cJ0_checkIndex_df160 2 = .ok (.getstatic 1053, 3) := by decide +kernel
theorem dJ0_checkIndex_df160_5 : decode cJ0_checkIndex_df160 5 = .ok (.invokestatic 1059, 3) := by decide +kernel
theorem dJ0_checkIndex_df160_8 : decode cJ0_checkIndex_df160 8 = .ok (.pop, 1) := by decide +kernel
theorem dJ0_checkIndex_df160_9 : decode cJ0_checkIndex_df160 9 = .ok (.return_, 1) := by decide +kernel
theorem dJ1_charAt_3b067_0 : decode cJ1_charAt_3b067 0 = .ok (.iload_n 1, 1) := by decide +kernel
theorem dJ1_charAt_3b067_1 : decode cJ1_charAt_3b067 1 = .ok (.aload_n 0, 1) := by decide +kernel
theorem dJ1_charAt_3b067_2 : decode cJ1_charAt_3b067 2 = .ok (.arraylength, 1) := by decide +kernel
theorem dJ1_charAt_3b067_3 : decode cJ1_charAt_3b067 3 = .ok (.invokestatic 9, 3) := by decide +kernel
theorem dJ1_charAt_3b067_6 : decode cJ1_charAt_3b067 6 = .ok (.aload_n 0, 1) := by decide +kernel
theorem dJ1_charAt_3b067_7 : decode cJ1_charAt_3b067 7 = .ok (.iload_n 1, 1) := by decide +kernel
theorem dJ1_charAt_3b067_8 : decode cJ1_charAt_3b067 8 = .ok (.baload, 1) := by decide +kernel
theorem dJ1_charAt_3b067_9 : decode cJ1_charAt_3b067 9 = .ok (.sipush 255, 3) := by decide +kernel
theorem dJ1_charAt_3b067_12 : decode cJ1_charAt_3b067 12 = .ok (.iand, 1) := by decide +kernel
theorem dJ1_charAt_3b067_13 : decode cJ1_charAt_3b067 13 = .ok (.i2c, 1) := by decide +kernel
theorem dJ1_charAt_3b067_14 : decode cJ1_charAt_3b067 14 = .ok (.ireturn, 1) := by decide +kernel
theorem dJ2_getChar_3b067_0 : decode cJ2_getChar_3b067 0 = .ok (.getstatic 44, 3) := by decide +kernel
theorem dJ2_getChar_3b067_3 : decode cJ2_getChar_3b067 3 = .ok (.ifCond .ne 25, 3) := by decide +kernel
theorem dJ2_getChar_3b067_6 : decode cJ2_getChar_3b067 6 = .ok (.iload_n 1, 1) := by decide +kernel
theorem dJ2_getChar_3b067_7 : decode cJ2_getChar_3b067 7 = .ok (.ifCond .lt 11, 3) := by decide +kernel
theorem dJ2_getChar_3b067_10 : decode cJ2_getChar_3b067 10 = .ok (.iload_n 1, 1) := by decide +kernel
theorem dJ2_getChar_3b067_11 : decode cJ2_getChar_3b067 11 = .ok (.aload_n 0, 1) := by decide +kernel
theorem dJ2_getChar_3b067_12 : decode cJ2_getChar_3b067 12 = .ok (.invokestatic 48, 3) := by decide +kernel
theorem dJ2_getChar_3b067_15 : decode cJ2_getChar_3b067 15 = .ok (.if_icmp .lt 13, 3) := by decide +kernel
theorem dJ2_getChar_3b067_18 : decode cJ2_getChar_3b067 18 = .ok (.new 52, 3) := by decide +kernel
theorem dJ2_getChar_3b067_21 : decode cJ2_getChar_3b067 21 = .ok (.dup, 1) := by decide +kernel
theorem dJ2_getChar_3b067_22 : decode cJ2_getChar_3b067 22 = .ok (.ldc 54, 2) := by decide +kernel
theorem dJ2_getChar_3b067_24 : decode cJ2_getChar_3b067 24 = .ok (.invokespecial 56, 3) := by decide +kernel
theorem dJ2_getChar_3b067_27 : decode cJ2_getChar_3b067 27 = .ok (.athrow, 1) := by decide +kernel
theorem dJ2_getChar_3b067_28 : decode cJ2_getChar_3b067 28 = .ok (.iload_n 1, 1) := by decide +kernel
theorem dJ2_getChar_3b067_29 : decode cJ2_getChar_3b067 29 = .ok (.iconst 1, 1) := by decide +kernel
theorem dJ2_getChar_3b067_30 : decode cJ2_getChar_3b067 30 = .ok (.ishl, 1) := by decide +kernel
theorem dJ2_getChar_3b067_31 : decode cJ2_getChar_3b067 31 = .ok (.istore_n 1, 1) := by decide +kernel
theorem dJ2_getChar_3b067_32 : decode cJ2_getChar_3b067 32 = .ok (.aload_n 0, 1) := by decide +kernel
theorem dJ2_getChar_3b067_33 : decode cJ2_getChar_3b067 33 = .ok (.iload_n 1, 1) := by decide +kernel
theorem dJ2_getChar_3b067_34 : decode cJ2_getChar_3b067 34 = .ok (.iinc 1 1, 3) := by decide +kernel
theorem dJ2_getChar_3b067_37 : decode cJ2_getChar_3b067 37 = .ok (.baload, 1) := by decide +kernel
theorem dJ2_getChar_3b067_38 : decode cJ2_getChar_3b067 38 = .ok (.sipush 255, 3) := by decide +kernel
theorem dJ2_getChar_3b067_41 : decode cJ2_getChar_3b067 41 = .ok (.iand, 1) := by decide +kernel
theorem dJ2_getChar_3b067_42 : decode cJ2_getChar_3b067 42 = .ok (.getstatic 59, 3) := by decide +kernel
theorem dJ2_getChar_3b067_45 : decode cJ2_getChar_3b067 45 = .ok (.ishl, 1) := by decide +kernel
theorem dJ2_getChar_3b067_46 : decode cJ2_getChar_3b067 46 = .ok (.aload_n 0, 1) := by decide +kernel
theorem dJ2_getChar_3b067_47 : decode cJ2_getChar_3b067 47 = .ok (.iload_n 1, 1) := by decide +kernel
theorem dJ2_getChar_3b067_48 : decode cJ2_getChar_3b067 48 = .ok (.baload, 1) := by decide +kernel
theorem dJ2_getChar_3b067_49 : decode cJ2_getChar_3b067 49 = .ok (.sipush 255, 3) := by decide +kernel
theorem dJ2_getChar_3b067_52 : decode cJ2_getChar_3b067 52 = .ok (.iand, 1) := by decide +kernel
theorem dJ2_getChar_3b067_53 : decode cJ2_getChar_3b067 53 = .ok (.getstatic 63, 3) := by decide +kernel
theorem dJ2_getChar_3b067_56 : decode cJ2_getChar_3b067 56 = .ok (.ishl, 1) := by decide +kernel
theorem dJ2_getChar_3b067_57 : decode cJ2_getChar_3b067 57 = .ok (.ior, 1) := by decide +kernel
theorem dJ2_getChar_3b067_58 : decode cJ2_getChar_3b067 58 = .ok (.i2c, 1) := by decide +kernel
theorem dJ2_getChar_3b067_59 : decode cJ2_getChar_3b067 59 = .ok (.ireturn, 1) := by decide +kernel
theorem dJ2_length_9d52b_0 : decode cJ2_length_9d52b 0 = .ok (.aload_n 0, 1) := by decide +kernel
theorem dJ2_length_9d52b_1 : decode cJ2_length_9d52b 1 = .ok (.arraylength, 1) := by decide +kernel
theorem dJ2_length_9d52b_2 : decode cJ2_length_9d52b 2 = .ok (.iconst 1, 1) := by decide +kernel
theorem dJ2_length_9d52b_3 : decode cJ2_length_9d52b 3 = .ok (.ishr, 1) := by decide +kernel
theorem dJ2_length_9d52b_4 : decode cJ2_length_9d52b 4 = .ok (.ireturn, 1) := by decide +kernel
theorem dJ2_charAt_3b067_0 : decode cJ2_charAt_3b067 0 = .ok (.iload_n 1, 1) := by decide +kernel
theorem dJ2_charAt_3b067_1 : decode cJ2_charAt_3b067 1 = .ok (.aload_n 0, 1) := by decide +kernel
theorem dJ2_charAt_3b067_2 : decode cJ2_charAt_3b067 2 = .ok (.invokestatic 67, 3) := by decide +kernel
theorem dJ2_charAt_3b067_5 : decode cJ2_charAt_3b067 5 = .ok (.aload_n 0, 1) := by decide +kernel
theorem dJ2_charAt_3b067_6 : decode cJ2_charAt_3b067 6 = .ok (.iload_n 1, 1) := by decide +kernel
theorem dJ2_charAt_3b067_7 : decode cJ2_charAt_3b067 7 = .ok (.invokestatic 71, 3) := by decide +kernel
theorem dJ2_charAt_3b067_10 : decode cJ2_charAt_3b067 10 = .ok (.ireturn, 1) := by decide +kernel
theorem dJ2_checkIndex_2214a_0 : decode cJ2_checkIndex_2214a 0 = .ok (.iload_n 0, 1) := by decide +kernel
theorem dJ2_checkIndex_2214a_1 : decode cJ2_checkIndex_2214a 1 = .ok (.aload_n 1, 1) := by decide +kernel
theorem dJ2_checkIndex_2214a_2 : decode cJ2_checkIndex_2214a 2 = .ok (.invokestatic 48, 3) := by decide +kernel
theorem dJ2_checkIndex_2214a_5 : decode cJ2_checkIndex_2214a 5 = .ok (.invokestatic 414, 3) := by decide +kernel
theorem dJ2_checkIndex_2214a_8 : decode cJ2_checkIndex_2214a 8 = .ok (.return_, 1) := by decide +kernel
theorem dJ7_fill_53178_0 : decode cJ7_fill_53178 0 = .ok (.iconst 0, 1) := by decide +kernel
theorem dJ7_fill_53178_1 : decode cJ7_fill_53178 1 = .ok (.istore_n 2, 1) := by decide +kernel
theorem dJ7_fill_53178_2 : decode cJ7_fill_53178 2 = .ok (.aload_n 0, 1) := by decide +kernel
theorem dJ7_fill_53178_3 : decode cJ7_fill_53178 3 = .ok (.arraylength, 1) := by decide +kernel
theorem dJ7_fill_53178_4 : decode cJ7_fill_53178 4 = .ok (.istore_n 3, 1) := by decide +kernel
theorem dJ7_fill_53178_5 : decode cJ7_fill_53178 5 = .ok (.iload_n 2, 1) := by decide +kernel
theorem dJ7_fill_53178_6 : decode cJ7_fill_53178 6 = .ok (.iload_n 3, 1) := by decide +kernel
theorem dJ7_fill_53178_7 : decode cJ7_fill_53178 7 = .ok (.if_icmp .ge 13, 3) := by decide +kernel
theorem dJ7_fill_53178_10 : decode cJ7_fill_53178 10 = .ok (.aload_n 0, 1) := by decide +kernel
theorem dJ7_fill_53178_11 : decode cJ7_fill_53178 11 = .ok (.iload_n 2, 1) := by decide +kernel
theorem dJ7_fill_53178_12 : decode cJ7_fill_53178 12 = .ok (.iload_n 1, 1) := by decide +kernel
theorem dJ7_fill_53178_13 : decode cJ7_fill_53178 13 = .ok (.iastore, 1) := by decide +kernel
theorem dJ7_fill_53178_14 : decode cJ7_fill_53178 14 = .ok (.iinc 2 1, 3) := by decide +kernel
theorem dJ7_fill_53178_17 : decode cJ7_fill_53178 17 = .ok (.goto (-12), 3) := by decide +kernel
theorem dJ7_fill_53178_20 : decode cJ7_fill_53178 20 = .ok (.return_, 1) := by decide +kernel
theorem dJ3_checkIndex_8e157_0 : decode cJ3_checkIndex_8e157 0 = .ok (.iload_n 0, 1) := by decide +kernel
theorem dJ3_checkIndex_8e157_1 : decode cJ3_checkIndex_8e157 1 = .ok (.ifCond .lt 8, 3) := by decide +kernel
theorem dJ3_checkIndex_8e157_4 : decode cJ3_checkIndex_8e157 4 = .ok (.iload_n 0, 1) := by decide +kernel
theorem dJ3_checkIndex_8e157_5 : decode cJ3_checkIndex_8e157 5 = .ok (.iload_n 1, 1) := by decide +kernel
theorem dJ3_checkIndex_8e157_6 : decode cJ3_checkIndex_8e157 6 = .ok (.if_icmp .lt 10, 3) := by decide +kernel
theorem dJ3_checkIndex_8e157_9 : decode cJ3_checkIndex_8e157 9 = .ok (.aload_n 2, 1) := by decide +kernel
theorem dJ3_checkIndex_8e157_10 : decode cJ3_checkIndex_8e157 10 = .ok (.iload_n 0, 1) := by decide +kernel
theorem dJ3_checkIndex_8e157_11 : decode cJ3_checkIndex_8e157 11 = .ok (.iload_n 1, 1) := by decide +kernel
theorem dJ3_checkIndex_8e157_12 : decode cJ3_checkIndex_8e157 12 = .ok (.invokestatic 95, 3) := by decide +kernel
theorem dJ3_checkIndex_8e157_15 : decode cJ3_checkIndex_8e157 15 = .ok (.athrow, 1) := by decide +kernel
theorem dJ3_checkIndex_8e157_16 : decode cJ3_checkIndex_8e157 16 = .ok (.iload_n 0, 1) := by decide +kernel
theorem dJ3_checkIndex_8e157_17 : decode cJ3_checkIndex_8e157 17 = .ok (.ireturn, 1) := by decide +kernel
theorem dL_law_0 : decode cL_law 0 = .ok (.new 7, 3) := by decide +kernel
theorem dL_law_3 : decode cL_law 3 = .ok (.dup, 1) := by decide +kernel
theorem dL_law_4 : decode cL_law 4 = .ok (.invokespecial 9, 3) := by decide +kernel
theorem dL_law_7 : decode cL_law 7 = .ok (.astore_n 1, 1) := by decide +kernel
theorem dL_law_8 : decode cL_law 8 = .ok (.new 10, 3) := by decide +kernel
theorem dL_law_11 : decode cL_law 11 = .ok (.dup, 1) := by decide +kernel
theorem dL_law_12 : decode cL_law 12 = .ok (.invokespecial 12, 3) := by decide +kernel
theorem dL_law_15 : decode cL_law 15 = .ok (.astore_n 2, 1) := by decide +kernel
theorem dL_law_16 : decode cL_law 16 = .ok (.iconst 0, 1) := by decide +kernel
theorem dL_law_17 : decode cL_law 17 = .ok (.istore_n 3, 1) := by decide +kernel
theorem dL_law_18 : decode cL_law 18 = .ok (.iload_n 3, 1) := by decide +kernel
theorem dL_law_19 : decode cL_law 19 = .ok (.aload_n 0, 1) := by decide +kernel
theorem dL_law_20 : decode cL_law 20 = .ok (.arraylength, 1) := by decide +kernel
theorem dL_law_21 : decode cL_law 21 = .ok (.bipush 6, 2) := by decide +kernel
theorem dL_law_23 : decode cL_law 23 = .ok (.isub, 1) := by decide +kernel
theorem dL_law_24 : decode cL_law 24 = .ok (.if_icmp .gt 1128, 3) := by decide +kernel
theorem dL_law_27 : decode cL_law 27 = .ok (.aload_n 0, 1) := by decide +kernel
theorem dL_law_28 : decode cL_law 28 = .ok (.iload_n 3, 1) := by decide +kernel
theorem dL_law_29 : decode cL_law 29 = .ok (.iaload, 1) := by decide +kernel
theorem dL_law_30 : decode cL_law 30 = .ok (.bipush 31, 2) := by decide +kernel
theorem dL_law_32 : decode cL_law 32 = .ok (.iand, 1) := by decide +kernel
theorem dL_law_33 : decode cL_law 33 = .ok (.tableswitch 1113 0 25 #[119, 182, 205, 218, 231, 254, 317, 380, 403, 426, 475, 528, 561, 604, 657, 700, 743, 796, 839, 882, 915, 948, 981, 1014, 1057, 1090], 119) := by decide +kernel
theorem dL_law_152 : decode cL_law 152 = .ok (.aload_n 1, 1) := by decide +kernel
theorem dL_law_153 : decode cL_law 153 = .ok (.aload_n 0, 1) := by decide +kernel
theorem dL_law_154 : decode cL_law 154 = .ok (.iload_n 3, 1) := by decide +kernel
theorem dL_law_155 : decode cL_law 155 = .ok (.iconst 1, 1) := by decide +kernel
theorem dL_law_156 : decode cL_law 156 = .ok (.iadd, 1) := by decide +kernel
theorem dL_law_157 : decode cL_law 157 = .ok (.iaload, 1) := by decide +kernel
theorem dL_law_158 : decode cL_law 158 = .ok (.aload_n 0, 1) := by decide +kernel
theorem dL_law_159 : decode cL_law 159 = .ok (.iload_n 3, 1) := by decide +kernel
theorem dL_law_160 : decode cL_law 160 = .ok (.iconst 2, 1) := by decide +kernel
theorem dL_law_161 : decode cL_law 161 = .ok (.iadd, 1) := by decide +kernel
theorem dL_law_162 : decode cL_law 162 = .ok (.iaload, 1) := by decide +kernel
theorem dL_law_163 : decode cL_law 163 = .ok (.aload_n 0, 1) := by decide +kernel
theorem dL_law_164 : decode cL_law 164 = .ok (.iload_n 3, 1) := by decide +kernel
theorem dL_law_165 : decode cL_law 165 = .ok (.iconst 3, 1) := by decide +kernel
theorem dL_law_166 : decode cL_law 166 = .ok (.iadd, 1) := by decide +kernel
theorem dL_law_167 : decode cL_law 167 = .ok (.iaload, 1) := by decide +kernel
theorem dL_law_168 : decode cL_law 168 = .ok (.aload_n 0, 1) := by decide +kernel
theorem dL_law_169 : decode cL_law 169 = .ok (.iload_n 3, 1) := by decide +kernel
theorem dL_law_170 : decode cL_law 170 = .ok (.iconst 4, 1) := by decide +kernel
theorem dL_law_171 : decode cL_law 171 = .ok (.iadd, 1) := by decide +kernel
theorem dL_law_172 : decode cL_law 172 = .ok (.iaload, 1) := by decide +kernel
theorem dL_law_173 : decode cL_law 173 = .ok (.aload_n 0, 1) := by decide +kernel
theorem dL_law_174 : decode cL_law 174 = .ok (.iload_n 3, 1) := by decide +kernel
theorem dL_law_175 : decode cL_law 175 = .ok (.iconst 5, 1) := by decide +kernel
theorem dL_law_176 : decode cL_law 176 = .ok (.iadd, 1) := by decide +kernel
theorem dL_law_177 : decode cL_law 177 = .ok (.iaload, 1) := by decide +kernel
theorem dL_law_178 : decode cL_law 178 = .ok (.invokevirtual 13, 3) := by decide +kernel
theorem dL_law_181 : decode cL_law 181 = .ok (.aload_n 2, 1) := by decide +kernel
theorem dL_law_182 : decode cL_law 182 = .ok (.aload_n 0, 1) := by decide +kernel
theorem dL_law_183 : decode cL_law 183 = .ok (.iload_n 3, 1) := by decide +kernel
theorem dL_law_184 : decode cL_law 184 = .ok (.iconst 1, 1) := by decide +kernel
theorem dL_law_185 : decode cL_law 185 = .ok (.iadd, 1) := by decide +kernel
theorem dL_law_186 : decode cL_law 186 = .ok (.iaload, 1) := by decide +kernel
theorem dL_law_187 : decode cL_law 187 = .ok (.aload_n 0, 1) := by decide +kernel
theorem dL_law_188 : decode cL_law 188 = .ok (.iload_n 3, 1) := by decide +kernel
theorem dL_law_189 : decode cL_law 189 = .ok (.iconst 2, 1) := by decide +kernel
theorem dL_law_190 : decode cL_law 190 = .ok (.iadd, 1) := by decide +kernel
theorem dL_law_191 : decode cL_law 191 = .ok (.iaload, 1) := by decide +kernel
theorem dL_law_192 : decode cL_law 192 = .ok (.aload_n 0, 1) := by decide +kernel
theorem dL_law_193 : decode cL_law 193 = .ok (.iload_n 3, 1) := by decide +kernel
theorem dL_law_194 : decode cL_law 194 = .ok (.iconst 3, 1) := by decide +kernel
theorem dL_law_195 : decode cL_law 195 = .ok (.iadd, 1) := by decide +kernel
theorem dL_law_196 : decode cL_law 196 = .ok (.iaload, 1) := by decide +kernel
theorem dL_law_197 : decode cL_law 197 = .ok (.aload_n 0, 1) := by decide +kernel
theorem dL_law_198 : decode cL_law 198 = .ok (.iload_n 3, 1) := by decide +kernel
theorem dL_law_199 : decode cL_law 199 = .ok (.iconst 4, 1) := by decide +kernel
theorem dL_law_200 : decode cL_law 200 = .ok (.iadd, 1) := by decide +kernel
theorem dL_law_201 : decode cL_law 201 = .ok (.iaload, 1) := by decide +kernel
theorem dL_law_202 : decode cL_law 202 = .ok (.aload_n 0, 1) := by decide +kernel
theorem dL_law_203 : decode cL_law 203 = .ok (.iload_n 3, 1) := by decide +kernel
theorem dL_law_204 : decode cL_law 204 = .ok (.iconst 5, 1) := by decide +kernel
theorem dL_law_205 : decode cL_law 205 = .ok (.iadd, 1) := by decide +kernel
theorem dL_law_206 : decode cL_law 206 = .ok (.iaload, 1) := by decide +kernel
theorem dL_law_207 : decode cL_law 207 = .ok (.invokevirtual 17, 3) := by decide +kernel
theorem dL_law_210 : decode cL_law 210 = .ok (.if_icmp .eq 936, 3) := by decide +kernel
theorem dL_law_213 : decode cL_law 213 = .ok (.iconst 0, 1) := by decide +kernel
theorem dL_law_214 : decode cL_law 214 = .ok (.ireturn, 1) := by decide +kernel
theorem dL_law_215 : decode cL_law 215 = .ok (.aload_n 1, 1) := by decide +kernel
theorem dL_law_216 : decode cL_law 216 = .ok (.aload_n 0, 1) := by decide +kernel
theorem dL_law_217 : decode cL_law 217 = .ok (.iload_n 3, 1) := by decide +kernel
theorem dL_law_218 : decode cL_law 218 = .ok (.iconst 1, 1) := by decide +kernel
theorem dL_law_219 : decode cL_law 219 = .ok (.iadd, 1) := by decide +kernel
theorem dL_law_220 : decode cL_law 220 = .ok (.iaload, 1) := by decide +kernel
theorem dL_law_221 : decode cL_law 221 = .ok (.invokevirtual 18, 3) := by decide +kernel
theorem dL_law_224 : decode cL_law 224 = .ok (.aload_n 2, 1) := by decide +kernel
theorem dL_law_225 : decode cL_law 225 = .ok (.aload_n 0, 1) := by decide +kernel
theorem dL_law_226 : decode cL_law 226 = .ok (.iload_n 3, 1) := by decide +kernel
theorem dL_law_227 : decode cL_law 227 = .ok (.iconst 1, 1) := by decide +kernel
theorem dL_law_228 : decode cL_law 228 = .ok (.iadd, 1) := by decide +kernel
theorem dL_law_229 : decode cL_law 229 = .ok (.iaload, 1) := by decide +kernel
theorem dL_law_230 : decode cL_law 230 = .ok (.invokevirtual 22, 3) := by decide +kernel
theorem dL_law_233 : decode cL_law 233 = .ok (.if_icmp .eq 913, 3) := by decide +kernel
theorem dL_law_236 : decode cL_law 236 = .ok (.iconst 0, 1) := by decide +kernel
theorem dL_law_237 : decode cL_law 237 = .ok (.ireturn, 1) := by decide +kernel
theorem dL_law_238 : decode cL_law 238 = .ok (.aload_n 1, 1) := by decide +kernel
theorem dL_law_239 : decode cL_law 239 = .ok (.invokevirtual 23, 3) := by decide +kernel
theorem dL_law_242 : decode cL_law 242 = .ok (.aload_n 2, 1) := by decide +kernel
theorem dL_law_243 : decode cL_law 243 = .ok (.invokevirtual 27, 3) := by decide +kernel
theorem dL_law_246 : decode cL_law 246 = .ok (.if_icmp .eq 900, 3) := by decide +kernel
theorem dL_law_249 : decode cL_law 249 = .ok (.iconst 0, 1) := by decide +kernel
theorem dL_law_250 : decode cL_law 250 = .ok (.ireturn, 1) := by decide +kernel
theorem dL_law_251 : decode cL_law 251 = .ok (.aload_n 1, 1) := by decide +kernel
theorem dL_law_252 : decode cL_law 252 = .ok (.invokevirtual 28, 3) := by decide +kernel
theorem dL_law_255 : decode cL_law 255 = .ok (.aload_n 2, 1) := by decide +kernel
theorem dL_law_256 : decode cL_law 256 = .ok (.invokevirtual 31, 3) := by decide +kernel
theorem dL_law_259 : decode cL_law 259 = .ok (.if_icmp .eq 887, 3) := by decide +kernel
theorem dL_law_262 : decode cL_law 262 = .ok (.iconst 0, 1) := by decide +kernel
theorem dL_law_263 : decode cL_law 263 = .ok (.ireturn, 1) := by decide +kernel
theorem dL_law_264 : decode cL_law 264 = .ok (.aload_n 1, 1) := by decide +kernel
theorem dL_law_265 : decode cL_law 265 = .ok (.aload_n 0, 1) := by decide +kernel
theorem dL_law_266 : decode cL_law 266 = .ok (.iload_n 3, 1) := by decide +kernel
theorem dL_law_267 : decode cL_law 267 = .ok (.iconst 1, 1) := by decide +kernel
theorem dL_law_268 : decode cL_law 268 = .ok (.iadd, 1) := by decide +kernel
theorem dL_law_269 : decode cL_law 269 = .ok (.iaload, 1) := by decide +kernel
theorem dL_law_270 : decode cL_law 270 = .ok (.invokevirtual 32, 3) := by decide +kernel
theorem dL_law_273 : decode cL_law 273 = .ok (.aload_n 2, 1) := by decide +kernel
theorem dL_law_274 : decode cL_law 274 = .ok (.aload_n 0, 1) := by decide +kernel
theorem dL_law_275 : decode cL_law 275 = .ok (.iload_n 3, 1) := by decide +kernel
theorem dL_law_276 : decode cL_law 276 = .ok (.iconst 1, 1) := by decide +kernel
theorem dL_law_277 : decode cL_law 277 = .ok (.iadd, 1) := by decide +kernel
theorem dL_law_278 : decode cL_law 278 = .ok (.iaload, 1) := by decide +kernel
theorem dL_law_279 : decode cL_law 279 = .ok (.invokevirtual 35, 3) := by decide +kernel
theorem dL_law_282 : decode cL_law 282 = .ok (.if_icmp .eq 864, 3) := by decide +kernel
theorem dL_law_285 : decode cL_law 285 = .ok (.iconst 0, 1) := by decide +kernel
theorem dL_law_286 : decode cL_law 286 = .ok (.ireturn, 1) := by decide +kernel
theorem dL_law_287 : decode cL_law 287 = .ok (.aload_n 1, 1) := by decide +kernel
theorem dL_law_288 : decode cL_law 288 = .ok (.aload_n 0, 1) := by decide +kernel
theorem dL_law_289 : decode cL_law 289 = .ok (.iload_n 3, 1) := by decide +kernel
theorem dL_law_290 : decode cL_law 290 = .ok (.iconst 1, 1) := by decide +kernel
theorem dL_law_291 : decode cL_law 291 = .ok (.iadd, 1) := by decide +kernel
theorem dL_law_292 : decode cL_law 292 = .ok (.iaload, 1) := by decide +kernel
theorem dL_law_293 : decode cL_law 293 = .ok (.aload_n 0, 1) := by decide +kernel
theorem dL_law_294 : decode cL_law 294 = .ok (.iload_n 3, 1) := by decide +kernel
theorem dL_law_295 : decode cL_law 295 = .ok (.iconst 2, 1) := by decide +kernel
theorem dL_law_296 : decode cL_law 296 = .ok (.iadd, 1) := by decide +kernel
theorem dL_law_297 : decode cL_law 297 = .ok (.iaload, 1) := by decide +kernel
theorem dL_law_298 : decode cL_law 298 = .ok (.aload_n 0, 1) := by decide +kernel
theorem dL_law_299 : decode cL_law 299 = .ok (.iload_n 3, 1) := by decide +kernel
theorem dL_law_300 : decode cL_law 300 = .ok (.iconst 3, 1) := by decide +kernel
theorem dL_law_301 : decode cL_law 301 = .ok (.iadd, 1) := by decide +kernel
theorem dL_law_302 : decode cL_law 302 = .ok (.iaload, 1) := by decide +kernel
theorem dL_law_303 : decode cL_law 303 = .ok (.aload_n 0, 1) := by decide +kernel
theorem dL_law_304 : decode cL_law 304 = .ok (.iload_n 3, 1) := by decide +kernel
theorem dL_law_305 : decode cL_law 305 = .ok (.iconst 4, 1) := by decide +kernel
theorem dL_law_306 : decode cL_law 306 = .ok (.iadd, 1) := by decide +kernel
theorem dL_law_307 : decode cL_law 307 = .ok (.iaload, 1) := by decide +kernel
theorem dL_law_308 : decode cL_law 308 = .ok (.aload_n 0, 1) := by decide +kernel
theorem dL_law_309 : decode cL_law 309 = .ok (.iload_n 3, 1) := by decide +kernel
theorem dL_law_310 : decode cL_law 310 = .ok (.iconst 5, 1) := by decide +kernel
theorem dL_law_311 : decode cL_law 311 = .ok (.iadd, 1) := by decide +kernel
theorem dL_law_312 : decode cL_law 312 = .ok (.iaload, 1) := by decide +kernel
theorem dL_law_313 : decode cL_law 313 = .ok (.invokevirtual 36, 3) := by decide +kernel
theorem dL_law_316 : decode cL_law 316 = .ok (.aload_n 2, 1) := by decide +kernel
theorem dL_law_317 : decode cL_law 317 = .ok (.aload_n 0, 1) := by decide +kernel
theorem dL_law_318 : decode cL_law 318 = .ok (.iload_n 3, 1) := by decide +kernel
theorem dL_law_319 : decode cL_law 319 = .ok (.iconst 1, 1) := by decide +kernel
theorem dL_law_320 : decode cL_law 320 = .ok (.iadd, 1) := by decide +kernel
theorem dL_law_321 : decode cL_law 321 = .ok (.iaload, 1) := by decide +kernel
theorem dL_law_322 : decode cL_law 322 = .ok (.aload_n 0, 1) := by decide +kernel
theorem dL_law_323 : decode cL_law 323 = .ok (.iload_n 3, 1) := by decide +kernel
theorem dL_law_324 : decode cL_law 324 = .ok (.iconst 2, 1) := by decide +kernel
theorem dL_law_325 : decode cL_law 325 = .ok (.iadd, 1) := by decide +kernel
theorem dL_law_326 : decode cL_law 326 = .ok (.iaload, 1) := by decide +kernel
theorem dL_law_327 : decode cL_law 327 = .ok (.aload_n 0, 1) := by decide +kernel
theorem dL_law_328 : decode cL_law 328 = .ok (.iload_n 3, 1) := by decide +kernel
theorem dL_law_329 : decode cL_law 329 = .ok (.iconst 3, 1) := by decide +kernel
theorem dL_law_330 : decode cL_law 330 = .ok (.iadd, 1) := by decide +kernel
theorem dL_law_331 : decode cL_law 331 = .ok (.iaload, 1) := by decide +kernel
theorem dL_law_332 : decode cL_law 332 = .ok (.aload_n 0, 1) := by decide +kernel
theorem dL_law_333 : decode cL_law 333 = .ok (.iload_n 3, 1) := by decide +kernel
theorem dL_law_334 : decode cL_law 334 = .ok (.iconst 4, 1) := by decide +kernel
theorem dL_law_335 : decode cL_law 335 = .ok (.iadd, 1) := by decide +kernel
theorem dL_law_336 : decode cL_law 336 = .ok (.iaload, 1) := by decide +kernel
theorem dL_law_337 : decode cL_law 337 = .ok (.aload_n 0, 1) := by decide +kernel
theorem dL_law_338 : decode cL_law 338 = .ok (.iload_n 3, 1) := by decide +kernel
theorem dL_law_339 : decode cL_law 339 = .ok (.iconst 5, 1) := by decide +kernel
theorem dL_law_340 : decode cL_law 340 = .ok (.iadd, 1) := by decide +kernel
theorem dL_law_341 : decode cL_law 341 = .ok (.iaload, 1) := by decide +kernel
theorem dL_law_342 : decode cL_law 342 = .ok (.invokevirtual 39, 3) := by decide +kernel
theorem dL_law_345 : decode cL_law 345 = .ok (.if_icmp .eq 801, 3) := by decide +kernel
theorem dL_law_348 : decode cL_law 348 = .ok (.iconst 0, 1) := by decide +kernel
theorem dL_law_349 : decode cL_law 349 = .ok (.ireturn, 1) := by decide +kernel
theorem dL_law_350 : decode cL_law 350 = .ok (.aload_n 1, 1) := by decide +kernel
theorem dL_law_351 : decode cL_law 351 = .ok (.aload_n 0, 1) := by decide +kernel
theorem dL_law_352 : decode cL_law 352 = .ok (.iload_n 3, 1) := by decide +kernel
theorem dL_law_353 : decode cL_law 353 = .ok (.iconst 1, 1) := by decide +kernel
theorem dL_law_354 : decode cL_law 354 = .ok (.iadd, 1) := by decide +kernel
theorem dL_law_355 : decode cL_law 355 = .ok (.iaload, 1) := by decide +kernel
theorem dL_law_356 : decode cL_law 356 = .ok (.aload_n 0, 1) := by decide +kernel
theorem dL_law_357 : decode cL_law 357 = .ok (.iload_n 3, 1) := by decide +kernel
theorem dL_law_358 : decode cL_law 358 = .ok (.iconst 2, 1) := by decide +kernel
theorem dL_law_359 : decode cL_law 359 = .ok (.iadd, 1) := by decide +kernel
theorem dL_law_360 : decode cL_law 360 = .ok (.iaload, 1) := by decide +kernel
theorem dL_law_361 : decode cL_law 361 = .ok (.aload_n 0, 1) := by decide +kernel
theorem dL_law_362 : decode cL_law 362 = .ok (.iload_n 3, 1) := by decide +kernel
theorem dL_law_363 : decode cL_law 363 = .ok (.iconst 3, 1) := by decide +kernel
theorem dL_law_364 : decode cL_law 364 = .ok (.iadd, 1) := by decide +kernel
theorem dL_law_365 : decode cL_law 365 = .ok (.iaload, 1) := by decide +kernel
theorem dL_law_366 : decode cL_law 366 = .ok (.aload_n 0, 1) := by decide +kernel
theorem dL_law_367 : decode cL_law 367 = .ok (.iload_n 3, 1) := by decide +kernel
theorem dL_law_368 : decode cL_law 368 = .ok (.iconst 4, 1) := by decide +kernel
theorem dL_law_369 : decode cL_law 369 = .ok (.iadd, 1) := by decide +kernel
theorem dL_law_370 : decode cL_law 370 = .ok (.iaload, 1) := by decide +kernel
theorem dL_law_371 : decode cL_law 371 = .ok (.aload_n 0, 1) := by decide +kernel
theorem dL_law_372 : decode cL_law 372 = .ok (.iload_n 3, 1) := by decide +kernel
theorem dL_law_373 : decode cL_law 373 = .ok (.iconst 5, 1) := by decide +kernel
theorem dL_law_374 : decode cL_law 374 = .ok (.iadd, 1) := by decide +kernel
theorem dL_law_375 : decode cL_law 375 = .ok (.iaload, 1) := by decide +kernel
theorem dL_law_376 : decode cL_law 376 = .ok (.invokevirtual 40, 3) := by decide +kernel
theorem dL_law_379 : decode cL_law 379 = .ok (.aload_n 2, 1) := by decide +kernel
theorem dL_law_380 : decode cL_law 380 = .ok (.aload_n 0, 1) := by decide +kernel
theorem dL_law_381 : decode cL_law 381 = .ok (.iload_n 3, 1) := by decide +kernel
theorem dL_law_382 : decode cL_law 382 = .ok (.iconst 1, 1) := by decide +kernel
theorem dL_law_383 : decode cL_law 383 = .ok (.iadd, 1) := by decide +kernel
theorem dL_law_384 : decode cL_law 384 = .ok (.iaload, 1) := by decide +kernel
theorem dL_law_385 : decode cL_law 385 = .ok (.aload_n 0, 1) := by decide +kernel
theorem dL_law_386 : decode cL_law 386 = .ok (.iload_n 3, 1) := by decide +kernel
theorem dL_law_387 : decode cL_law 387 = .ok (.iconst 2, 1) := by decide +kernel
theorem dL_law_388 : decode cL_law 388 = .ok (.iadd, 1) := by decide +kernel
theorem dL_law_389 : decode cL_law 389 = .ok (.iaload, 1) := by decide +kernel
theorem dL_law_390 : decode cL_law 390 = .ok (.aload_n 0, 1) := by decide +kernel
theorem dL_law_391 : decode cL_law 391 = .ok (.iload_n 3, 1) := by decide +kernel
theorem dL_law_392 : decode cL_law 392 = .ok (.iconst 3, 1) := by decide +kernel
theorem dL_law_393 : decode cL_law 393 = .ok (.iadd, 1) := by decide +kernel
theorem dL_law_394 : decode cL_law 394 = .ok (.iaload, 1) := by decide +kernel
theorem dL_law_395 : decode cL_law 395 = .ok (.aload_n 0, 1) := by decide +kernel
theorem dL_law_396 : decode cL_law 396 = .ok (.iload_n 3, 1) := by decide +kernel
theorem dL_law_397 : decode cL_law 397 = .ok (.iconst 4, 1) := by decide +kernel
theorem dL_law_398 : decode cL_law 398 = .ok (.iadd, 1) := by decide +kernel
theorem dL_law_399 : decode cL_law 399 = .ok (.iaload, 1) := by decide +kernel
theorem dL_law_400 : decode cL_law 400 = .ok (.aload_n 0, 1) := by decide +kernel
theorem dL_law_401 : decode cL_law 401 = .ok (.iload_n 3, 1) := by decide +kernel
theorem dL_law_402 : decode cL_law 402 = .ok (.iconst 5, 1) := by decide +kernel
theorem dL_law_403 : decode cL_law 403 = .ok (.iadd, 1) := by decide +kernel
theorem dL_law_404 : decode cL_law 404 = .ok (.iaload, 1) := by decide +kernel
theorem dL_law_405 : decode cL_law 405 = .ok (.invokevirtual 43, 3) := by decide +kernel
theorem dL_law_408 : decode cL_law 408 = .ok (.if_icmp .eq 738, 3) := by decide +kernel
theorem dL_law_411 : decode cL_law 411 = .ok (.iconst 0, 1) := by decide +kernel
theorem dL_law_412 : decode cL_law 412 = .ok (.ireturn, 1) := by decide +kernel
theorem dL_law_413 : decode cL_law 413 = .ok (.aload_n 1, 1) := by decide +kernel
theorem dL_law_414 : decode cL_law 414 = .ok (.aload_n 0, 1) := by decide +kernel
theorem dL_law_415 : decode cL_law 415 = .ok (.iload_n 3, 1) := by decide +kernel
theorem dL_law_416 : decode cL_law 416 = .ok (.iconst 1, 1) := by decide +kernel
theorem dL_law_417 : decode cL_law 417 = .ok (.iadd, 1) := by decide +kernel
theorem dL_law_418 : decode cL_law 418 = .ok (.iaload, 1) := by decide +kernel
theorem dL_law_419 : decode cL_law 419 = .ok (.invokevirtual 44, 3) := by decide +kernel
theorem dL_law_422 : decode cL_law 422 = .ok (.aload_n 2, 1) := by decide +kernel
theorem dL_law_423 : decode cL_law 423 = .ok (.aload_n 0, 1) := by decide +kernel
theorem dL_law_424 : decode cL_law 424 = .ok (.iload_n 3, 1) := by decide +kernel
theorem dL_law_425 : decode cL_law 425 = .ok (.iconst 1, 1) := by decide +kernel
theorem dL_law_426 : decode cL_law 426 = .ok (.iadd, 1) := by decide +kernel
theorem dL_law_427 : decode cL_law 427 = .ok (.iaload, 1) := by decide +kernel
theorem dL_law_428 : decode cL_law 428 = .ok (.invokevirtual 47, 3) := by decide +kernel
theorem dL_law_431 : decode cL_law 431 = .ok (.if_icmp .eq 715, 3) := by decide +kernel
theorem dL_law_434 : decode cL_law 434 = .ok (.iconst 0, 1) := by decide +kernel
theorem dL_law_435 : decode cL_law 435 = .ok (.ireturn, 1) := by decide +kernel
theorem dL_law_436 : decode cL_law 436 = .ok (.aload_n 1, 1) := by decide +kernel
theorem dL_law_437 : decode cL_law 437 = .ok (.aload_n 0, 1) := by decide +kernel
theorem dL_law_438 : decode cL_law 438 = .ok (.iload_n 3, 1) := by decide +kernel
theorem dL_law_439 : decode cL_law 439 = .ok (.iconst 1, 1) := by decide +kernel
theorem dL_law_440 : decode cL_law 440 = .ok (.iadd, 1) := by decide +kernel
theorem dL_law_441 : decode cL_law 441 = .ok (.iaload, 1) := by decide +kernel
theorem dL_law_442 : decode cL_law 442 = .ok (.invokevirtual 48, 3) := by decide +kernel
theorem dL_law_445 : decode cL_law 445 = .ok (.aload_n 2, 1) := by decide +kernel
theorem dL_law_446 : decode cL_law 446 = .ok (.aload_n 0, 1) := by decide +kernel
theorem dL_law_447 : decode cL_law 447 = .ok (.iload_n 3, 1) := by decide +kernel
theorem dL_law_448 : decode cL_law 448 = .ok (.iconst 1, 1) := by decide +kernel
theorem dL_law_449 : decode cL_law 449 = .ok (.iadd, 1) := by decide +kernel
theorem dL_law_450 : decode cL_law 450 = .ok (.iaload, 1) := by decide +kernel
theorem dL_law_451 : decode cL_law 451 = .ok (.invokevirtual 51, 3) := by decide +kernel
theorem dL_law_454 : decode cL_law 454 = .ok (.if_icmp .eq 692, 3) := by decide +kernel
theorem dL_law_457 : decode cL_law 457 = .ok (.iconst 0, 1) := by decide +kernel
theorem dL_law_458 : decode cL_law 458 = .ok (.ireturn, 1) := by decide +kernel
theorem dL_law_459 : decode cL_law 459 = .ok (.aload_n 1, 1) := by decide +kernel
theorem dL_law_460 : decode cL_law 460 = .ok (.aload_n 0, 1) := by decide +kernel
theorem dL_law_461 : decode cL_law 461 = .ok (.iload_n 3, 1) := by decide +kernel
theorem dL_law_462 : decode cL_law 462 = .ok (.iconst 1, 1) := by decide +kernel
theorem dL_law_463 : decode cL_law 463 = .ok (.iadd, 1) := by decide +kernel
theorem dL_law_464 : decode cL_law 464 = .ok (.iaload, 1) := by decide +kernel
theorem dL_law_465 : decode cL_law 465 = .ok (.aload_n 0, 1) := by decide +kernel
theorem dL_law_466 : decode cL_law 466 = .ok (.iload_n 3, 1) := by decide +kernel
theorem dL_law_467 : decode cL_law 467 = .ok (.iconst 2, 1) := by decide +kernel
theorem dL_law_468 : decode cL_law 468 = .ok (.iadd, 1) := by decide +kernel
theorem dL_law_469 : decode cL_law 469 = .ok (.iaload, 1) := by decide +kernel
theorem dL_law_470 : decode cL_law 470 = .ok (.ifCond .eq 7, 3) := by decide +kernel
theorem dL_law_473 : decode cL_law 473 = .ok (.iconst 1, 1) := by decide +kernel
theorem dL_law_474 : decode cL_law 474 = .ok (.goto 4, 3) := by decide +kernel
theorem dL_law_477 : decode cL_law 477 = .ok (.iconst 0, 1) := by decide +kernel
theorem dL_law_478 : decode cL_law 478 = .ok (.invokevirtual 52, 3) := by decide +kernel
theorem dL_law_481 : decode cL_law 481 = .ok (.aload_n 2, 1) := by decide +kernel
theorem dL_law_482 : decode cL_law 482 = .ok (.aload_n 0, 1) := by decide +kernel
theorem dL_law_483 : decode cL_law 483 = .ok (.iload_n 3, 1) := by decide +kernel
theorem dL_law_484 : decode cL_law 484 = .ok (.iconst 1, 1) := by decide +kernel
theorem dL_law_485 : decode cL_law 485 = .ok (.iadd, 1) := by decide +kernel
theorem dL_law_486 : decode cL_law 486 = .ok (.iaload, 1) := by decide +kernel
theorem dL_law_487 : decode cL_law 487 = .ok (.aload_n 0, 1) := by decide +kernel
theorem dL_law_488 : decode cL_law 488 = .ok (.iload_n 3, 1) := by decide +kernel
theorem dL_law_489 : decode cL_law 489 = .ok (.iconst 2, 1) := by decide +kernel
theorem dL_law_490 : decode cL_law 490 = .ok (.iadd, 1) := by decide +kernel
theorem dL_law_491 : decode cL_law 491 = .ok (.iaload, 1) := by decide +kernel
theorem dL_law_492 : decode cL_law 492 = .ok (.ifCond .eq 7, 3) := by decide +kernel
theorem dL_law_495 : decode cL_law 495 = .ok (.iconst 1, 1) := by decide +kernel
theorem dL_law_496 : decode cL_law 496 = .ok (.goto 4, 3) := by decide +kernel
theorem dL_law_499 : decode cL_law 499 = .ok (.iconst 0, 1) := by decide +kernel
theorem dL_law_500 : decode cL_law 500 = .ok (.invokevirtual 56, 3) := by decide +kernel
theorem dL_law_503 : decode cL_law 503 = .ok (.if_icmp .eq 643, 3) := by decide +kernel
theorem dL_law_506 : decode cL_law 506 = .ok (.iconst 0, 1) := by decide +kernel
theorem dL_law_507 : decode cL_law 507 = .ok (.ireturn, 1) := by decide +kernel
theorem dL_law_508 : decode cL_law 508 = .ok (.aload_n 1, 1) := by decide +kernel
theorem dL_law_509 : decode cL_law 509 = .ok (.aload_n 0, 1) := by decide +kernel
theorem dL_law_510 : decode cL_law 510 = .ok (.iload_n 3, 1) := by decide +kernel
theorem dL_law_511 : decode cL_law 511 = .ok (.iconst 1, 1) := by decide +kernel
theorem dL_law_512 : decode cL_law 512 = .ok (.iadd, 1) := by decide +kernel
theorem dL_law_513 : decode cL_law 513 = .ok (.iaload, 1) := by decide +kernel
theorem dL_law_514 : decode cL_law 514 = .ok (.aload_n 0, 1) := by decide +kernel
theorem dL_law_515 : decode cL_law 515 = .ok (.iload_n 3, 1) := by decide +kernel
theorem dL_law_516 : decode cL_law 516 = .ok (.iconst 2, 1) := by decide +kernel
theorem dL_law_517 : decode cL_law 517 = .ok (.iadd, 1) := by decide +kernel
theorem dL_law_518 : decode cL_law 518 = .ok (.iaload, 1) := by decide +kernel
theorem dL_law_519 : decode cL_law 519 = .ok (.aload_n 0, 1) := by decide +kernel
theorem dL_law_520 : decode cL_law 520 = .ok (.iload_n 3, 1) := by decide +kernel
theorem dL_law_521 : decode cL_law 521 = .ok (.iconst 3, 1) := by decide +kernel
theorem dL_law_522 : decode cL_law 522 = .ok (.iadd, 1) := by decide +kernel
theorem dL_law_523 : decode cL_law 523 = .ok (.iaload, 1) := by decide +kernel
theorem dL_law_524 : decode cL_law 524 = .ok (.aload_n 0, 1) := by decide +kernel
theorem dL_law_525 : decode cL_law 525 = .ok (.iload_n 3, 1) := by decide +kernel
theorem dL_law_526 : decode cL_law 526 = .ok (.iconst 4, 1) := by decide +kernel
theorem dL_law_527 : decode cL_law 527 = .ok (.iadd, 1) := by decide +kernel
theorem dL_law_528 : decode cL_law 528 = .ok (.iaload, 1) := by decide +kernel
theorem dL_law_529 : decode cL_law 529 = .ok (.invokevirtual 57, 3) := by decide +kernel
theorem dL_law_532 : decode cL_law 532 = .ok (.aload_n 2, 1) := by decide +kernel
theorem dL_law_533 : decode cL_law 533 = .ok (.aload_n 0, 1) := by decide +kernel
theorem dL_law_534 : decode cL_law 534 = .ok (.iload_n 3, 1) := by decide +kernel
theorem dL_law_535 : decode cL_law 535 = .ok (.iconst 1, 1) := by decide +kernel
theorem dL_law_536 : decode cL_law 536 = .ok (.iadd, 1) := by decide +kernel
theorem dL_law_537 : decode cL_law 537 = .ok (.iaload, 1) := by decide +kernel
theorem dL_law_538 : decode cL_law 538 = .ok (.aload_n 0, 1) := by decide +kernel
theorem dL_law_539 : decode cL_law 539 = .ok (.iload_n 3, 1) := by decide +kernel
theorem dL_law_540 : decode cL_law 540 = .ok (.iconst 2, 1) := by decide +kernel
theorem dL_law_541 : decode cL_law 541 = .ok (.iadd, 1) := by decide +kernel
theorem dL_law_542 : decode cL_law 542 = .ok (.iaload, 1) := by decide +kernel
theorem dL_law_543 : decode cL_law 543 = .ok (.aload_n 0, 1) := by decide +kernel
theorem dL_law_544 : decode cL_law 544 = .ok (.iload_n 3, 1) := by decide +kernel
theorem dL_law_545 : decode cL_law 545 = .ok (.iconst 3, 1) := by decide +kernel
theorem dL_law_546 : decode cL_law 546 = .ok (.iadd, 1) := by decide +kernel
theorem dL_law_547 : decode cL_law 547 = .ok (.iaload, 1) := by decide +kernel
theorem dL_law_548 : decode cL_law 548 = .ok (.aload_n 0, 1) := by decide +kernel
theorem dL_law_549 : decode cL_law 549 = .ok (.iload_n 3, 1) := by decide +kernel
theorem dL_law_550 : decode cL_law 550 = .ok (.iconst 4, 1) := by decide +kernel
theorem dL_law_551 : decode cL_law 551 = .ok (.iadd, 1) := by decide +kernel
theorem dL_law_552 : decode cL_law 552 = .ok (.iaload, 1) := by decide +kernel
theorem dL_law_553 : decode cL_law 553 = .ok (.invokevirtual 61, 3) := by decide +kernel
theorem dL_law_556 : decode cL_law 556 = .ok (.if_icmp .eq 590, 3) := by decide +kernel
theorem dL_law_559 : decode cL_law 559 = .ok (.iconst 0, 1) := by decide +kernel
theorem dL_law_560 : decode cL_law 560 = .ok (.ireturn, 1) := by decide +kernel
theorem dL_law_561 : decode cL_law 561 = .ok (.aload_n 1, 1) := by decide +kernel
theorem dL_law_562 : decode cL_law 562 = .ok (.aload_n 0, 1) := by decide +kernel
theorem dL_law_563 : decode cL_law 563 = .ok (.iload_n 3, 1) := by decide +kernel
theorem dL_law_564 : decode cL_law 564 = .ok (.iconst 1, 1) := by decide +kernel
theorem dL_law_565 : decode cL_law 565 = .ok (.iadd, 1) := by decide +kernel
theorem dL_law_566 : decode cL_law 566 = .ok (.iaload, 1) := by decide +kernel
theorem dL_law_567 : decode cL_law 567 = .ok (.aload_n 0, 1) := by decide +kernel
theorem dL_law_568 : decode cL_law 568 = .ok (.iload_n 3, 1) := by decide +kernel
theorem dL_law_569 : decode cL_law 569 = .ok (.iconst 2, 1) := by decide +kernel
theorem dL_law_570 : decode cL_law 570 = .ok (.iadd, 1) := by decide +kernel
theorem dL_law_571 : decode cL_law 571 = .ok (.iaload, 1) := by decide +kernel
theorem dL_law_572 : decode cL_law 572 = .ok (.invokevirtual 62, 3) := by decide +kernel
theorem dL_law_575 : decode cL_law 575 = .ok (.aload_n 2, 1) := by decide +kernel
theorem dL_law_576 : decode cL_law 576 = .ok (.aload_n 0, 1) := by decide +kernel
theorem dL_law_577 : decode cL_law 577 = .ok (.iload_n 3, 1) := by decide +kernel
theorem dL_law_578 : decode cL_law 578 = .ok (.iconst 1, 1) := by decide +kernel
theorem dL_law_579 : decode cL_law 579 = .ok (.iadd, 1) := by decide +kernel
theorem dL_law_580 : decode cL_law 580 = .ok (.iaload, 1) := by decide +kernel
theorem dL_law_581 : decode cL_law 581 = .ok (.aload_n 0, 1) := by decide +kernel
theorem dL_law_582 : decode cL_law 582 = .ok (.iload_n 3, 1) := by decide +kernel
theorem dL_law_583 : decode cL_law 583 = .ok (.iconst 2, 1) := by decide +kernel
theorem dL_law_584 : decode cL_law 584 = .ok (.iadd, 1) := by decide +kernel
theorem dL_law_585 : decode cL_law 585 = .ok (.iaload, 1) := by decide +kernel
theorem dL_law_586 : decode cL_law 586 = .ok (.invokevirtual 66, 3) := by decide +kernel
theorem dL_law_589 : decode cL_law 589 = .ok (.if_icmp .eq 557, 3) := by decide +kernel
theorem dL_law_592 : decode cL_law 592 = .ok (.iconst 0, 1) := by decide +kernel
theorem dL_law_593 : decode cL_law 593 = .ok (.ireturn, 1) := by decide +kernel
theorem dL_law_594 : decode cL_law 594 = .ok (.aload_n 1, 1) := by decide +kernel
theorem dL_law_595 : decode cL_law 595 = .ok (.aload_n 0, 1) := by decide +kernel
theorem dL_law_596 : decode cL_law 596 = .ok (.iload_n 3, 1) := by decide +kernel
theorem dL_law_597 : decode cL_law 597 = .ok (.iconst 1, 1) := by decide +kernel
theorem dL_law_598 : decode cL_law 598 = .ok (.iadd, 1) := by decide +kernel
theorem dL_law_599 : decode cL_law 599 = .ok (.iaload, 1) := by decide +kernel
theorem dL_law_600 : decode cL_law 600 = .ok (.aload_n 0, 1) := by decide +kernel
theorem dL_law_601 : decode cL_law 601 = .ok (.iload_n 3, 1) := by decide +kernel
theorem dL_law_602 : decode cL_law 602 = .ok (.iconst 2, 1) := by decide +kernel
theorem dL_law_603 : decode cL_law 603 = .ok (.iadd, 1) := by decide +kernel
theorem dL_law_604 : decode cL_law 604 = .ok (.iaload, 1) := by decide +kernel
theorem dL_law_605 : decode cL_law 605 = .ok (.aload_n 0, 1) := by decide +kernel
theorem dL_law_606 : decode cL_law 606 = .ok (.iload_n 3, 1) := by decide +kernel
theorem dL_law_607 : decode cL_law 607 = .ok (.iconst 3, 1) := by decide +kernel
theorem dL_law_608 : decode cL_law 608 = .ok (.iadd, 1) := by decide +kernel
theorem dL_law_609 : decode cL_law 609 = .ok (.iaload, 1) := by decide +kernel
theorem dL_law_610 : decode cL_law 610 = .ok (.invokevirtual 67, 3) := by decide +kernel
theorem dL_law_613 : decode cL_law 613 = .ok (.aload_n 2, 1) := by decide +kernel
theorem dL_law_614 : decode cL_law 614 = .ok (.aload_n 0, 1) := by decide +kernel
theorem dL_law_615 : decode cL_law 615 = .ok (.iload_n 3, 1) := by decide +kernel
theorem dL_law_616 : decode cL_law 616 = .ok (.iconst 1, 1) := by decide +kernel
theorem dL_law_617 : decode cL_law 617 = .ok (.iadd, 1) := by decide +kernel
theorem dL_law_618 : decode cL_law 618 = .ok (.iaload, 1) := by decide +kernel
theorem dL_law_619 : decode cL_law 619 = .ok (.aload_n 0, 1) := by decide +kernel
theorem dL_law_620 : decode cL_law 620 = .ok (.iload_n 3, 1) := by decide +kernel
theorem dL_law_621 : decode cL_law 621 = .ok (.iconst 2, 1) := by decide +kernel
theorem dL_law_622 : decode cL_law 622 = .ok (.iadd, 1) := by decide +kernel
theorem dL_law_623 : decode cL_law 623 = .ok (.iaload, 1) := by decide +kernel
theorem dL_law_624 : decode cL_law 624 = .ok (.aload_n 0, 1) := by decide +kernel
theorem dL_law_625 : decode cL_law 625 = .ok (.iload_n 3, 1) := by decide +kernel
theorem dL_law_626 : decode cL_law 626 = .ok (.iconst 3, 1) := by decide +kernel
theorem dL_law_627 : decode cL_law 627 = .ok (.iadd, 1) := by decide +kernel
theorem dL_law_628 : decode cL_law 628 = .ok (.iaload, 1) := by decide +kernel
theorem dL_law_629 : decode cL_law 629 = .ok (.invokevirtual 71, 3) := by decide +kernel
theorem dL_law_632 : decode cL_law 632 = .ok (.if_icmp .eq 514, 3) := by decide +kernel
theorem dL_law_635 : decode cL_law 635 = .ok (.iconst 0, 1) := by decide +kernel
theorem dL_law_636 : decode cL_law 636 = .ok (.ireturn, 1) := by decide +kernel
theorem dL_law_637 : decode cL_law 637 = .ok (.aload_n 1, 1) := by decide +kernel
theorem dL_law_638 : decode cL_law 638 = .ok (.aload_n 0, 1) := by decide +kernel
theorem dL_law_639 : decode cL_law 639 = .ok (.iload_n 3, 1) := by decide +kernel
theorem dL_law_640 : decode cL_law 640 = .ok (.iconst 1, 1) := by decide +kernel
theorem dL_law_641 : decode cL_law 641 = .ok (.iadd, 1) := by decide +kernel
theorem dL_law_642 : decode cL_law 642 = .ok (.iaload, 1) := by decide +kernel
theorem dL_law_643 : decode cL_law 643 = .ok (.aload_n 0, 1) := by decide +kernel
theorem dL_law_644 : decode cL_law 644 = .ok (.iload_n 3, 1) := by decide +kernel
theorem dL_law_645 : decode cL_law 645 = .ok (.iconst 2, 1) := by decide +kernel
theorem dL_law_646 : decode cL_law 646 = .ok (.iadd, 1) := by decide +kernel
theorem dL_law_647 : decode cL_law 647 = .ok (.iaload, 1) := by decide +kernel
theorem dL_law_648 : decode cL_law 648 = .ok (.aload_n 0, 1) := by decide +kernel
theorem dL_law_649 : decode cL_law 649 = .ok (.iload_n 3, 1) := by decide +kernel
theorem dL_law_650 : decode cL_law 650 = .ok (.iconst 3, 1) := by decide +kernel
theorem dL_law_651 : decode cL_law 651 = .ok (.iadd, 1) := by decide +kernel
theorem dL_law_652 : decode cL_law 652 = .ok (.iaload, 1) := by decide +kernel
theorem dL_law_653 : decode cL_law 653 = .ok (.aload_n 0, 1) := by decide +kernel
theorem dL_law_654 : decode cL_law 654 = .ok (.iload_n 3, 1) := by decide +kernel
theorem dL_law_655 : decode cL_law 655 = .ok (.iconst 4, 1) := by decide +kernel
theorem dL_law_656 : decode cL_law 656 = .ok (.iadd, 1) := by decide +kernel
theorem dL_law_657 : decode cL_law 657 = .ok (.iaload, 1) := by decide +kernel
theorem dL_law_658 : decode cL_law 658 = .ok (.invokevirtual 72, 3) := by decide +kernel
theorem dL_law_661 : decode cL_law 661 = .ok (.aload_n 2, 1) := by decide +kernel
theorem dL_law_662 : decode cL_law 662 = .ok (.aload_n 0, 1) := by decide +kernel
theorem dL_law_663 : decode cL_law 663 = .ok (.iload_n 3, 1) := by decide +kernel
theorem dL_law_664 : decode cL_law 664 = .ok (.iconst 1, 1) := by decide +kernel
theorem dL_law_665 : decode cL_law 665 = .ok (.iadd, 1) := by decide +kernel
theorem dL_law_666 : decode cL_law 666 = .ok (.iaload, 1) := by decide +kernel
theorem dL_law_667 : decode cL_law 667 = .ok (.aload_n 0, 1) := by decide +kernel
theorem dL_law_668 : decode cL_law 668 = .ok (.iload_n 3, 1) := by decide +kernel
theorem dL_law_669 : decode cL_law 669 = .ok (.iconst 2, 1) := by decide +kernel
theorem dL_law_670 : decode cL_law 670 = .ok (.iadd, 1) := by decide +kernel
theorem dL_law_671 : decode cL_law 671 = .ok (.iaload, 1) := by decide +kernel
theorem dL_law_672 : decode cL_law 672 = .ok (.aload_n 0, 1) := by decide +kernel
theorem dL_law_673 : decode cL_law 673 = .ok (.iload_n 3, 1) := by decide +kernel
theorem dL_law_674 : decode cL_law 674 = .ok (.iconst 3, 1) := by decide +kernel
theorem dL_law_675 : decode cL_law 675 = .ok (.iadd, 1) := by decide +kernel
theorem dL_law_676 : decode cL_law 676 = .ok (.iaload, 1) := by decide +kernel
theorem dL_law_677 : decode cL_law 677 = .ok (.aload_n 0, 1) := by decide +kernel
theorem dL_law_678 : decode cL_law 678 = .ok (.iload_n 3, 1) := by decide +kernel
theorem dL_law_679 : decode cL_law 679 = .ok (.iconst 4, 1) := by decide +kernel
theorem dL_law_680 : decode cL_law 680 = .ok (.iadd, 1) := by decide +kernel
theorem dL_law_681 : decode cL_law 681 = .ok (.iaload, 1) := by decide +kernel
theorem dL_law_682 : decode cL_law 682 = .ok (.invokevirtual 75, 3) := by decide +kernel
theorem dL_law_685 : decode cL_law 685 = .ok (.if_icmp .eq 461, 3) := by decide +kernel
theorem dL_law_688 : decode cL_law 688 = .ok (.iconst 0, 1) := by decide +kernel
theorem dL_law_689 : decode cL_law 689 = .ok (.ireturn, 1) := by decide +kernel
theorem dL_law_690 : decode cL_law 690 = .ok (.aload_n 1, 1) := by decide +kernel
theorem dL_law_691 : decode cL_law 691 = .ok (.aload_n 0, 1) := by decide +kernel
theorem dL_law_692 : decode cL_law 692 = .ok (.iload_n 3, 1) := by decide +kernel
theorem dL_law_693 : decode cL_law 693 = .ok (.iconst 1, 1) := by decide +kernel
theorem dL_law_694 : decode cL_law 694 = .ok (.iadd, 1) := by decide +kernel
theorem dL_law_695 : decode cL_law 695 = .ok (.iaload, 1) := by decide +kernel
theorem dL_law_696 : decode cL_law 696 = .ok (.aload_n 0, 1) := by decide +kernel
theorem dL_law_697 : decode cL_law 697 = .ok (.iload_n 3, 1) := by decide +kernel
theorem dL_law_698 : decode cL_law 698 = .ok (.iconst 2, 1) := by decide +kernel
theorem dL_law_699 : decode cL_law 699 = .ok (.iadd, 1) := by decide +kernel
theorem dL_law_700 : decode cL_law 700 = .ok (.iaload, 1) := by decide +kernel
theorem dL_law_701 : decode cL_law 701 = .ok (.aload_n 0, 1) := by decide +kernel
theorem dL_law_702 : decode cL_law 702 = .ok (.iload_n 3, 1) := by decide +kernel
theorem dL_law_703 : decode cL_law 703 = .ok (.iconst 3, 1) := by decide +kernel
theorem dL_law_704 : decode cL_law 704 = .ok (.iadd, 1) := by decide +kernel
theorem dL_law_705 : decode cL_law 705 = .ok (.iaload, 1) := by decide +kernel
theorem dL_law_706 : decode cL_law 706 = .ok (.invokevirtual 76, 3) := by decide +kernel
theorem dL_law_709 : decode cL_law 709 = .ok (.aload_n 2, 1) := by decide +kernel
theorem dL_law_710 : decode cL_law 710 = .ok (.aload_n 0, 1) := by decide +kernel
theorem dL_law_711 : decode cL_law 711 = .ok (.iload_n 3, 1) := by decide +kernel
theorem dL_law_712 : decode cL_law 712 = .ok (.iconst 1, 1) := by decide +kernel
theorem dL_law_713 : decode cL_law 713 = .ok (.iadd, 1) := by decide +kernel
theorem dL_law_714 : decode cL_law 714 = .ok (.iaload, 1) := by decide +kernel
theorem dL_law_715 : decode cL_law 715 = .ok (.aload_n 0, 1) := by decide +kernel
theorem dL_law_716 : decode cL_law 716 = .ok (.iload_n 3, 1) := by decide +kernel
theorem dL_law_717 : decode cL_law 717 = .ok (.iconst 2, 1) := by decide +kernel
theorem dL_law_718 : decode cL_law 718 = .ok (.iadd, 1) := by decide +kernel
theorem dL_law_719 : decode cL_law 719 = .ok (.iaload, 1) := by decide +kernel
theorem dL_law_720 : decode cL_law 720 = .ok (.aload_n 0, 1) := by decide +kernel
theorem dL_law_721 : decode cL_law 721 = .ok (.iload_n 3, 1) := by decide +kernel
theorem dL_law_722 : decode cL_law 722 = .ok (.iconst 3, 1) := by decide +kernel
theorem dL_law_723 : decode cL_law 723 = .ok (.iadd, 1) := by decide +kernel
theorem dL_law_724 : decode cL_law 724 = .ok (.iaload, 1) := by decide +kernel
theorem dL_law_725 : decode cL_law 725 = .ok (.invokevirtual 79, 3) := by decide +kernel
theorem dL_law_728 : decode cL_law 728 = .ok (.if_icmp .eq 418, 3) := by decide +kernel
theorem dL_law_731 : decode cL_law 731 = .ok (.iconst 0, 1) := by decide +kernel
theorem dL_law_732 : decode cL_law 732 = .ok (.ireturn, 1) := by decide +kernel
theorem dL_law_733 : decode cL_law 733 = .ok (.aload_n 1, 1) := by decide +kernel
theorem dL_law_734 : decode cL_law 734 = .ok (.aload_n 0, 1) := by decide +kernel
theorem dL_law_735 : decode cL_law 735 = .ok (.iload_n 3, 1) := by decide +kernel
theorem dL_law_736 : decode cL_law 736 = .ok (.iconst 1, 1) := by decide +kernel
theorem dL_law_737 : decode cL_law 737 = .ok (.iadd, 1) := by decide +kernel
theorem dL_law_738 : decode cL_law 738 = .ok (.iaload, 1) := by decide +kernel
theorem dL_law_739 : decode cL_law 739 = .ok (.aload_n 0, 1) := by decide +kernel
theorem dL_law_740 : decode cL_law 740 = .ok (.iload_n 3, 1) := by decide +kernel
theorem dL_law_741 : decode cL_law 741 = .ok (.iconst 2, 1) := by decide +kernel
theorem dL_law_742 : decode cL_law 742 = .ok (.iadd, 1) := by decide +kernel
theorem dL_law_743 : decode cL_law 743 = .ok (.iaload, 1) := by decide +kernel
theorem dL_law_744 : decode cL_law 744 = .ok (.aload_n 0, 1) := by decide +kernel
theorem dL_law_745 : decode cL_law 745 = .ok (.iload_n 3, 1) := by decide +kernel
theorem dL_law_746 : decode cL_law 746 = .ok (.iconst 3, 1) := by decide +kernel
theorem dL_law_747 : decode cL_law 747 = .ok (.iadd, 1) := by decide +kernel
theorem dL_law_748 : decode cL_law 748 = .ok (.iaload, 1) := by decide +kernel
theorem dL_law_749 : decode cL_law 749 = .ok (.invokevirtual 80, 3) := by decide +kernel
theorem dL_law_752 : decode cL_law 752 = .ok (.aload_n 2, 1) := by decide +kernel
theorem dL_law_753 : decode cL_law 753 = .ok (.aload_n 0, 1) := by decide +kernel
theorem dL_law_754 : decode cL_law 754 = .ok (.iload_n 3, 1) := by decide +kernel
theorem dL_law_755 : decode cL_law 755 = .ok (.iconst 1, 1) := by decide +kernel
theorem dL_law_756 : decode cL_law 756 = .ok (.iadd, 1) := by decide +kernel
theorem dL_law_757 : decode cL_law 757 = .ok (.iaload, 1) := by decide +kernel
theorem dL_law_758 : decode cL_law 758 = .ok (.aload_n 0, 1) := by decide +kernel
theorem dL_law_759 : decode cL_law 759 = .ok (.iload_n 3, 1) := by decide +kernel
theorem dL_law_760 : decode cL_law 760 = .ok (.iconst 2, 1) := by decide +kernel
theorem dL_law_761 : decode cL_law 761 = .ok (.iadd, 1) := by decide +kernel
theorem dL_law_762 : decode cL_law 762 = .ok (.iaload, 1) := by decide +kernel
theorem dL_law_763 : decode cL_law 763 = .ok (.aload_n 0, 1) := by decide +kernel
theorem dL_law_764 : decode cL_law 764 = .ok (.iload_n 3, 1) := by decide +kernel
theorem dL_law_765 : decode cL_law 765 = .ok (.iconst 3, 1) := by decide +kernel
theorem dL_law_766 : decode cL_law 766 = .ok (.iadd, 1) := by decide +kernel
theorem dL_law_767 : decode cL_law 767 = .ok (.iaload, 1) := by decide +kernel
theorem dL_law_768 : decode cL_law 768 = .ok (.invokevirtual 83, 3) := by decide +kernel
theorem dL_law_771 : decode cL_law 771 = .ok (.if_icmp .eq 375, 3) := by decide +kernel
theorem dL_law_774 : decode cL_law 774 = .ok (.iconst 0, 1) := by decide +kernel
theorem dL_law_775 : decode cL_law 775 = .ok (.ireturn, 1) := by decide +kernel
theorem dL_law_776 : decode cL_law 776 = .ok (.aload_n 1, 1) := by decide +kernel
theorem dL_law_777 : decode cL_law 777 = .ok (.aload_n 0, 1) := by decide +kernel
theorem dL_law_778 : decode cL_law 778 = .ok (.iload_n 3, 1) := by decide +kernel
theorem dL_law_779 : decode cL_law 779 = .ok (.iconst 1, 1) := by decide +kernel
theorem dL_law_780 : decode cL_law 780 = .ok (.iadd, 1) := by decide +kernel
theorem dL_law_781 : decode cL_law 781 = .ok (.iaload, 1) := by decide +kernel
theorem dL_law_782 : decode cL_law 782 = .ok (.aload_n 0, 1) := by decide +kernel
theorem dL_law_783 : decode cL_law 783 = .ok (.iload_n 3, 1) := by decide +kernel
theorem dL_law_784 : decode cL_law 784 = .ok (.iconst 2, 1) := by decide +kernel
theorem dL_law_785 : decode cL_law 785 = .ok (.iadd, 1) := by decide +kernel
theorem dL_law_786 : decode cL_law 786 = .ok (.iaload, 1) := by decide +kernel
theorem dL_law_787 : decode cL_law 787 = .ok (.aload_n 0, 1) := by decide +kernel
theorem dL_law_788 : decode cL_law 788 = .ok (.iload_n 3, 1) := by decide +kernel
theorem dL_law_789 : decode cL_law 789 = .ok (.iconst 3, 1) := by decide +kernel
theorem dL_law_790 : decode cL_law 790 = .ok (.iadd, 1) := by decide +kernel
theorem dL_law_791 : decode cL_law 791 = .ok (.iaload, 1) := by decide +kernel
theorem dL_law_792 : decode cL_law 792 = .ok (.aload_n 0, 1) := by decide +kernel
theorem dL_law_793 : decode cL_law 793 = .ok (.iload_n 3, 1) := by decide +kernel
theorem dL_law_794 : decode cL_law 794 = .ok (.iconst 4, 1) := by decide +kernel
theorem dL_law_795 : decode cL_law 795 = .ok (.iadd, 1) := by decide +kernel
theorem dL_law_796 : decode cL_law 796 = .ok (.iaload, 1) := by decide +kernel
theorem dL_law_797 : decode cL_law 797 = .ok (.invokevirtual 84, 3) := by decide +kernel
theorem dL_law_800 : decode cL_law 800 = .ok (.aload_n 2, 1) := by decide +kernel
theorem dL_law_801 : decode cL_law 801 = .ok (.aload_n 0, 1) := by decide +kernel
theorem dL_law_802 : decode cL_law 802 = .ok (.iload_n 3, 1) := by decide +kernel
theorem dL_law_803 : decode cL_law 803 = .ok (.iconst 1, 1) := by decide +kernel
theorem dL_law_804 : decode cL_law 804 = .ok (.iadd, 1) := by decide +kernel
theorem dL_law_805 : decode cL_law 805 = .ok (.iaload, 1) := by decide +kernel
theorem dL_law_806 : decode cL_law 806 = .ok (.aload_n 0, 1) := by decide +kernel
theorem dL_law_807 : decode cL_law 807 = .ok (.iload_n 3, 1) := by decide +kernel
theorem dL_law_808 : decode cL_law 808 = .ok (.iconst 2, 1) := by decide +kernel
theorem dL_law_809 : decode cL_law 809 = .ok (.iadd, 1) := by decide +kernel
theorem dL_law_810 : decode cL_law 810 = .ok (.iaload, 1) := by decide +kernel
theorem dL_law_811 : decode cL_law 811 = .ok (.aload_n 0, 1) := by decide +kernel
theorem dL_law_812 : decode cL_law 812 = .ok (.iload_n 3, 1) := by decide +kernel
theorem dL_law_813 : decode cL_law 813 = .ok (.iconst 3, 1) := by decide +kernel
theorem dL_law_814 : decode cL_law 814 = .ok (.iadd, 1) := by decide +kernel
theorem dL_law_815 : decode cL_law 815 = .ok (.iaload, 1) := by decide +kernel
theorem dL_law_816 : decode cL_law 816 = .ok (.aload_n 0, 1) := by decide +kernel
theorem dL_law_817 : decode cL_law 817 = .ok (.iload_n 3, 1) := by decide +kernel
theorem dL_law_818 : decode cL_law 818 = .ok (.iconst 4, 1) := by decide +kernel
theorem dL_law_819 : decode cL_law 819 = .ok (.iadd, 1) := by decide +kernel
theorem dL_law_820 : decode cL_law 820 = .ok (.iaload, 1) := by decide +kernel
theorem dL_law_821 : decode cL_law 821 = .ok (.invokevirtual 87, 3) := by decide +kernel
theorem dL_law_824 : decode cL_law 824 = .ok (.if_icmp .eq 322, 3) := by decide +kernel
theorem dL_law_827 : decode cL_law 827 = .ok (.iconst 0, 1) := by decide +kernel
theorem dL_law_828 : decode cL_law 828 = .ok (.ireturn, 1) := by decide +kernel
theorem dL_law_829 : decode cL_law 829 = .ok (.aload_n 1, 1) := by decide +kernel
theorem dL_law_830 : decode cL_law 830 = .ok (.aload_n 0, 1) := by decide +kernel
theorem dL_law_831 : decode cL_law 831 = .ok (.iload_n 3, 1) := by decide +kernel
theorem dL_law_832 : decode cL_law 832 = .ok (.iconst 1, 1) := by decide +kernel
theorem dL_law_833 : decode cL_law 833 = .ok (.iadd, 1) := by decide +kernel
theorem dL_law_834 : decode cL_law 834 = .ok (.iaload, 1) := by decide +kernel
theorem dL_law_835 : decode cL_law 835 = .ok (.aload_n 0, 1) := by decide +kernel
theorem dL_law_836 : decode cL_law 836 = .ok (.iload_n 3, 1) := by decide +kernel
theorem dL_law_837 : decode cL_law 837 = .ok (.iconst 2, 1) := by decide +kernel
theorem dL_law_838 : decode cL_law 838 = .ok (.iadd, 1) := by decide +kernel
theorem dL_law_839 : decode cL_law 839 = .ok (.iaload, 1) := by decide +kernel
theorem dL_law_840 : decode cL_law 840 = .ok (.aload_n 0, 1) := by decide +kernel
theorem dL_law_841 : decode cL_law 841 = .ok (.iload_n 3, 1) := by decide +kernel
theorem dL_law_842 : decode cL_law 842 = .ok (.iconst 3, 1) := by decide +kernel
theorem dL_law_843 : decode cL_law 843 = .ok (.iadd, 1) := by decide +kernel
theorem dL_law_844 : decode cL_law 844 = .ok (.iaload, 1) := by decide +kernel
theorem dL_law_845 : decode cL_law 845 = .ok (.invokevirtual 88, 3) := by decide +kernel
theorem dL_law_848 : decode cL_law 848 = .ok (.aload_n 2, 1) := by decide +kernel
theorem dL_law_849 : decode cL_law 849 = .ok (.aload_n 0, 1) := by decide +kernel
theorem dL_law_850 : decode cL_law 850 = .ok (.iload_n 3, 1) := by decide +kernel
theorem dL_law_851 : decode cL_law 851 = .ok (.iconst 1, 1) := by decide +kernel
theorem dL_law_852 : decode cL_law 852 = .ok (.iadd, 1) := by decide +kernel
theorem dL_law_853 : decode cL_law 853 = .ok (.iaload, 1) := by decide +kernel
theorem dL_law_854 : decode cL_law 854 = .ok (.aload_n 0, 1) := by decide +kernel
theorem dL_law_855 : decode cL_law 855 = .ok (.iload_n 3, 1) := by decide +kernel
theorem dL_law_856 : decode cL_law 856 = .ok (.iconst 2, 1) := by decide +kernel
theorem dL_law_857 : decode cL_law 857 = .ok (.iadd, 1) := by decide +kernel
theorem dL_law_858 : decode cL_law 858 = .ok (.iaload, 1) := by decide +kernel
theorem dL_law_859 : decode cL_law 859 = .ok (.aload_n 0, 1) := by decide +kernel
theorem dL_law_860 : decode cL_law 860 = .ok (.iload_n 3, 1) := by decide +kernel
theorem dL_law_861 : decode cL_law 861 = .ok (.iconst 3, 1) := by decide +kernel
theorem dL_law_862 : decode cL_law 862 = .ok (.iadd, 1) := by decide +kernel
theorem dL_law_863 : decode cL_law 863 = .ok (.iaload, 1) := by decide +kernel
theorem dL_law_864 : decode cL_law 864 = .ok (.invokevirtual 91, 3) := by decide +kernel
theorem dL_law_867 : decode cL_law 867 = .ok (.if_icmp .eq 279, 3) := by decide +kernel
theorem dL_law_870 : decode cL_law 870 = .ok (.iconst 0, 1) := by decide +kernel
theorem dL_law_871 : decode cL_law 871 = .ok (.ireturn, 1) := by decide +kernel
theorem dL_law_872 : decode cL_law 872 = .ok (.aload_n 1, 1) := by decide +kernel
theorem dL_law_873 : decode cL_law 873 = .ok (.aload_n 0, 1) := by decide +kernel
theorem dL_law_874 : decode cL_law 874 = .ok (.iload_n 3, 1) := by decide +kernel
theorem dL_law_875 : decode cL_law 875 = .ok (.iconst 1, 1) := by decide +kernel
theorem dL_law_876 : decode cL_law 876 = .ok (.iadd, 1) := by decide +kernel
theorem dL_law_877 : decode cL_law 877 = .ok (.iaload, 1) := by decide +kernel
theorem dL_law_878 : decode cL_law 878 = .ok (.aload_n 0, 1) := by decide +kernel
theorem dL_law_879 : decode cL_law 879 = .ok (.iload_n 3, 1) := by decide +kernel
theorem dL_law_880 : decode cL_law 880 = .ok (.iconst 2, 1) := by decide +kernel
theorem dL_law_881 : decode cL_law 881 = .ok (.iadd, 1) := by decide +kernel
theorem dL_law_882 : decode cL_law 882 = .ok (.iaload, 1) := by decide +kernel
theorem dL_law_883 : decode cL_law 883 = .ok (.aload_n 0, 1) := by decide +kernel
theorem dL_law_884 : decode cL_law 884 = .ok (.iload_n 3, 1) := by decide +kernel
theorem dL_law_885 : decode cL_law 885 = .ok (.iconst 3, 1) := by decide +kernel
theorem dL_law_886 : decode cL_law 886 = .ok (.iadd, 1) := by decide +kernel
theorem dL_law_887 : decode cL_law 887 = .ok (.iaload, 1) := by decide +kernel
theorem dL_law_888 : decode cL_law 888 = .ok (.invokevirtual 92, 3) := by decide +kernel
theorem dL_law_891 : decode cL_law 891 = .ok (.aload_n 2, 1) := by decide +kernel
theorem dL_law_892 : decode cL_law 892 = .ok (.aload_n 0, 1) := by decide +kernel
theorem dL_law_893 : decode cL_law 893 = .ok (.iload_n 3, 1) := by decide +kernel
theorem dL_law_894 : decode cL_law 894 = .ok (.iconst 1, 1) := by decide +kernel
theorem dL_law_895 : decode cL_law 895 = .ok (.iadd, 1) := by decide +kernel
theorem dL_law_896 : decode cL_law 896 = .ok (.iaload, 1) := by decide +kernel
theorem dL_law_897 : decode cL_law 897 = .ok (.aload_n 0, 1) := by decide +kernel
theorem dL_law_898 : decode cL_law 898 = .ok (.iload_n 3, 1) := by decide +kernel
theorem dL_law_899 : decode cL_law 899 = .ok (.iconst 2, 1) := by decide +kernel
theorem dL_law_900 : decode cL_law 900 = .ok (.iadd, 1) := by decide +kernel
theorem dL_law_901 : decode cL_law 901 = .ok (.iaload, 1) := by decide +kernel
theorem dL_law_902 : decode cL_law 902 = .ok (.aload_n 0, 1) := by decide +kernel
theorem dL_law_903 : decode cL_law 903 = .ok (.iload_n 3, 1) := by decide +kernel
theorem dL_law_904 : decode cL_law 904 = .ok (.iconst 3, 1) := by decide +kernel
theorem dL_law_905 : decode cL_law 905 = .ok (.iadd, 1) := by decide +kernel
theorem dL_law_906 : decode cL_law 906 = .ok (.iaload, 1) := by decide +kernel
theorem dL_law_907 : decode cL_law 907 = .ok (.invokevirtual 95, 3) := by decide +kernel
theorem dL_law_910 : decode cL_law 910 = .ok (.if_icmp .eq 236, 3) := by decide +kernel
theorem dL_law_913 : decode cL_law 913 = .ok (.iconst 0, 1) := by decide +kernel
theorem dL_law_914 : decode cL_law 914 = .ok (.ireturn, 1) := by decide +kernel
theorem dL_law_915 : decode cL_law 915 = .ok (.aload_n 1, 1) := by decide +kernel
theorem dL_law_916 : decode cL_law 916 = .ok (.aload_n 0, 1) := by decide +kernel
theorem dL_law_917 : decode cL_law 917 = .ok (.iload_n 3, 1) := by decide +kernel
theorem dL_law_918 : decode cL_law 918 = .ok (.iconst 1, 1) := by decide +kernel
theorem dL_law_919 : decode cL_law 919 = .ok (.iadd, 1) := by decide +kernel
theorem dL_law_920 : decode cL_law 920 = .ok (.iaload, 1) := by decide +kernel
theorem dL_law_921 : decode cL_law 921 = .ok (.aload_n 0, 1) := by decide +kernel
theorem dL_law_922 : decode cL_law 922 = .ok (.iload_n 3, 1) := by decide +kernel
theorem dL_law_923 : decode cL_law 923 = .ok (.iconst 2, 1) := by decide +kernel
theorem dL_law_924 : decode cL_law 924 = .ok (.iadd, 1) := by decide +kernel
theorem dL_law_925 : decode cL_law 925 = .ok (.iaload, 1) := by decide +kernel
theorem dL_law_926 : decode cL_law 926 = .ok (.invokevirtual 96, 3) := by decide +kernel
theorem dL_law_929 : decode cL_law 929 = .ok (.aload_n 2, 1) := by decide +kernel
theorem dL_law_930 : decode cL_law 930 = .ok (.aload_n 0, 1) := by decide +kernel
theorem dL_law_931 : decode cL_law 931 = .ok (.iload_n 3, 1) := by decide +kernel
theorem dL_law_932 : decode cL_law 932 = .ok (.iconst 1, 1) := by decide +kernel
theorem dL_law_933 : decode cL_law 933 = .ok (.iadd, 1) := by decide +kernel
theorem dL_law_934 : decode cL_law 934 = .ok (.iaload, 1) := by decide +kernel
theorem dL_law_935 : decode cL_law 935 = .ok (.aload_n 0, 1) := by decide +kernel
theorem dL_law_936 : decode cL_law 936 = .ok (.iload_n 3, 1) := by decide +kernel
theorem dL_law_937 : decode cL_law 937 = .ok (.iconst 2, 1) := by decide +kernel
theorem dL_law_938 : decode cL_law 938 = .ok (.iadd, 1) := by decide +kernel
theorem dL_law_939 : decode cL_law 939 = .ok (.iaload, 1) := by decide +kernel
theorem dL_law_940 : decode cL_law 940 = .ok (.invokevirtual 99, 3) := by decide +kernel
theorem dL_law_943 : decode cL_law 943 = .ok (.if_icmp .eq 203, 3) := by decide +kernel
theorem dL_law_946 : decode cL_law 946 = .ok (.iconst 0, 1) := by decide +kernel
theorem dL_law_947 : decode cL_law 947 = .ok (.ireturn, 1) := by decide +kernel
theorem dL_law_948 : decode cL_law 948 = .ok (.aload_n 1, 1) := by decide +kernel
theorem dL_law_949 : decode cL_law 949 = .ok (.aload_n 0, 1) := by decide +kernel
theorem dL_law_950 : decode cL_law 950 = .ok (.iload_n 3, 1) := by decide +kernel
theorem dL_law_951 : decode cL_law 951 = .ok (.iconst 1, 1) := by decide +kernel
theorem dL_law_952 : decode cL_law 952 = .ok (.iadd, 1) := by decide +kernel
theorem dL_law_953 : decode cL_law 953 = .ok (.iaload, 1) := by decide +kernel
theorem dL_law_954 : decode cL_law 954 = .ok (.aload_n 0, 1) := by decide +kernel
theorem dL_law_955 : decode cL_law 955 = .ok (.iload_n 3, 1) := by decide +kernel
theorem dL_law_956 : decode cL_law 956 = .ok (.iconst 2, 1) := by decide +kernel
theorem dL_law_957 : decode cL_law 957 = .ok (.iadd, 1) := by decide +kernel
theorem dL_law_958 : decode cL_law 958 = .ok (.iaload, 1) := by decide +kernel
theorem dL_law_959 : decode cL_law 959 = .ok (.invokevirtual 100, 3) := by decide +kernel
theorem dL_law_962 : decode cL_law 962 = .ok (.aload_n 2, 1) := by decide +kernel
theorem dL_law_963 : decode cL_law 963 = .ok (.aload_n 0, 1) := by decide +kernel
theorem dL_law_964 : decode cL_law 964 = .ok (.iload_n 3, 1) := by decide +kernel
theorem dL_law_965 : decode cL_law 965 = .ok (.iconst 1, 1) := by decide +kernel
theorem dL_law_966 : decode cL_law 966 = .ok (.iadd, 1) := by decide +kernel
theorem dL_law_967 : decode cL_law 967 = .ok (.iaload, 1) := by decide +kernel
theorem dL_law_968 : decode cL_law 968 = .ok (.aload_n 0, 1) := by decide +kernel
theorem dL_law_969 : decode cL_law 969 = .ok (.iload_n 3, 1) := by decide +kernel
theorem dL_law_970 : decode cL_law 970 = .ok (.iconst 2, 1) := by decide +kernel
theorem dL_law_971 : decode cL_law 971 = .ok (.iadd, 1) := by decide +kernel
theorem dL_law_972 : decode cL_law 972 = .ok (.iaload, 1) := by decide +kernel
theorem dL_law_973 : decode cL_law 973 = .ok (.invokevirtual 103, 3) := by decide +kernel
theorem dL_law_976 : decode cL_law 976 = .ok (.if_icmp .eq 170, 3) := by decide +kernel
theorem dL_law_979 : decode cL_law 979 = .ok (.iconst 0, 1) := by decide +kernel
theorem dL_law_980 : decode cL_law 980 = .ok (.ireturn, 1) := by decide +kernel
theorem dL_law_981 : decode cL_law 981 = .ok (.aload_n 1, 1) := by decide +kernel
theorem dL_law_982 : decode cL_law 982 = .ok (.aload_n 0, 1) := by decide +kernel
theorem dL_law_983 : decode cL_law 983 = .ok (.iload_n 3, 1) := by decide +kernel
theorem dL_law_984 : decode cL_law 984 = .ok (.iconst 1, 1) := by decide +kernel
theorem dL_law_985 : decode cL_law 985 = .ok (.iadd, 1) := by decide +kernel
theorem dL_law_986 : decode cL_law 986 = .ok (.iaload, 1) := by decide +kernel
theorem dL_law_987 : decode cL_law 987 = .ok (.aload_n 0, 1) := by decide +kernel
theorem dL_law_988 : decode cL_law 988 = .ok (.iload_n 3, 1) := by decide +kernel
theorem dL_law_989 : decode cL_law 989 = .ok (.iconst 2, 1) := by decide +kernel
theorem dL_law_990 : decode cL_law 990 = .ok (.iadd, 1) := by decide +kernel
theorem dL_law_991 : decode cL_law 991 = .ok (.iaload, 1) := by decide +kernel
theorem dL_law_992 : decode cL_law 992 = .ok (.invokevirtual 104, 3) := by decide +kernel
theorem dL_law_995 : decode cL_law 995 = .ok (.aload_n 2, 1) := by decide +kernel
theorem dL_law_996 : decode cL_law 996 = .ok (.aload_n 0, 1) := by decide +kernel
theorem dL_law_997 : decode cL_law 997 = .ok (.iload_n 3, 1) := by decide +kernel
theorem dL_law_998 : decode cL_law 998 = .ok (.iconst 1, 1) := by decide +kernel
theorem dL_law_999 : decode cL_law 999 = .ok (.iadd, 1) := by decide +kernel
theorem dL_law_1000 : decode cL_law 1000 = .ok (.iaload, 1) := by decide +kernel
theorem dL_law_1001 : decode cL_law 1001 = .ok (.aload_n 0, 1) := by decide +kernel
theorem dL_law_1002 : decode cL_law 1002 = .ok (.iload_n 3, 1) := by decide +kernel
theorem dL_law_1003 : decode cL_law 1003 = .ok (.iconst 2, 1) := by decide +kernel
theorem dL_law_1004 : decode cL_law 1004 = .ok (.iadd, 1) := by decide +kernel
theorem dL_law_1005 : decode cL_law 1005 = .ok (.iaload, 1) := by decide +kernel
theorem dL_law_1006 : decode cL_law 1006 = .ok (.invokevirtual 107, 3) := by decide +kernel
theorem dL_law_1009 : decode cL_law 1009 = .ok (.if_icmp .eq 137, 3) := by decide +kernel
theorem dL_law_1012 : decode cL_law 1012 = .ok (.iconst 0, 1) := by decide +kernel
theorem dL_law_1013 : decode cL_law 1013 = .ok (.ireturn, 1) := by decide +kernel
theorem dL_law_1014 : decode cL_law 1014 = .ok (.aload_n 1, 1) := by decide +kernel
theorem dL_law_1015 : decode cL_law 1015 = .ok (.aload_n 0, 1) := by decide +kernel
theorem dL_law_1016 : decode cL_law 1016 = .ok (.iload_n 3, 1) := by decide +kernel
theorem dL_law_1017 : decode cL_law 1017 = .ok (.iconst 1, 1) := by decide +kernel
theorem dL_law_1018 : decode cL_law 1018 = .ok (.iadd, 1) := by decide +kernel
theorem dL_law_1019 : decode cL_law 1019 = .ok (.iaload, 1) := by decide +kernel
theorem dL_law_1020 : decode cL_law 1020 = .ok (.aload_n 0, 1) := by decide +kernel
theorem dL_law_1021 : decode cL_law 1021 = .ok (.iload_n 3, 1) := by decide +kernel
theorem dL_law_1022 : decode cL_law 1022 = .ok (.iconst 2, 1) := by decide +kernel
theorem dL_law_1023 : decode cL_law 1023 = .ok (.iadd, 1) := by decide +kernel
theorem dL_law_1024 : decode cL_law 1024 = .ok (.iaload, 1) := by decide +kernel
theorem dL_law_1025 : decode cL_law 1025 = .ok (.invokevirtual 108, 3) := by decide +kernel
theorem dL_law_1028 : decode cL_law 1028 = .ok (.aload_n 2, 1) := by decide +kernel
theorem dL_law_1029 : decode cL_law 1029 = .ok (.aload_n 0, 1) := by decide +kernel
theorem dL_law_1030 : decode cL_law 1030 = .ok (.iload_n 3, 1) := by decide +kernel
theorem dL_law_1031 : decode cL_law 1031 = .ok (.iconst 1, 1) := by decide +kernel
theorem dL_law_1032 : decode cL_law 1032 = .ok (.iadd, 1) := by decide +kernel
theorem dL_law_1033 : decode cL_law 1033 = .ok (.iaload, 1) := by decide +kernel
theorem dL_law_1034 : decode cL_law 1034 = .ok (.aload_n 0, 1) := by decide +kernel
theorem dL_law_1035 : decode cL_law 1035 = .ok (.iload_n 3, 1) := by decide +kernel
theorem dL_law_1036 : decode cL_law 1036 = .ok (.iconst 2, 1) := by decide +kernel
theorem dL_law_1037 : decode cL_law 1037 = .ok (.iadd, 1) := by decide +kernel
theorem dL_law_1038 : decode cL_law 1038 = .ok (.iaload, 1) := by decide +kernel
theorem dL_law_1039 : decode cL_law 1039 = .ok (.invokevirtual 111, 3) := by decide +kernel
theorem dL_law_1042 : decode cL_law 1042 = .ok (.if_icmp .eq 104, 3) := by decide +kernel
theorem dL_law_1045 : decode cL_law 1045 = .ok (.iconst 0, 1) := by decide +kernel
theorem dL_law_1046 : decode cL_law 1046 = .ok (.ireturn, 1) := by decide +kernel
theorem dL_law_1047 : decode cL_law 1047 = .ok (.aload_n 1, 1) := by decide +kernel
theorem dL_law_1048 : decode cL_law 1048 = .ok (.aload_n 0, 1) := by decide +kernel
theorem dL_law_1049 : decode cL_law 1049 = .ok (.iload_n 3, 1) := by decide +kernel
theorem dL_law_1050 : decode cL_law 1050 = .ok (.iconst 1, 1) := by decide +kernel
theorem dL_law_1051 : decode cL_law 1051 = .ok (.iadd, 1) := by decide +kernel
theorem dL_law_1052 : decode cL_law 1052 = .ok (.iaload, 1) := by decide +kernel
theorem dL_law_1053 : decode cL_law 1053 = .ok (.aload_n 0, 1) := by decide +kernel
theorem dL_law_1054 : decode cL_law 1054 = .ok (.iload_n 3, 1) := by decide +kernel
theorem dL_law_1055 : decode cL_law 1055 = .ok (.iconst 2, 1) := by decide +kernel
theorem dL_law_1056 : decode cL_law 1056 = .ok (.iadd, 1) := by decide +kernel
theorem dL_law_1057 : decode cL_law 1057 = .ok (.iaload, 1) := by decide +kernel
theorem dL_law_1058 : decode cL_law 1058 = .ok (.aload_n 0, 1) := by decide +kernel
theorem dL_law_1059 : decode cL_law 1059 = .ok (.iload_n 3, 1) := by decide +kernel
theorem dL_law_1060 : decode cL_law 1060 = .ok (.iconst 3, 1) := by decide +kernel
theorem dL_law_1061 : decode cL_law 1061 = .ok (.iadd, 1) := by decide +kernel
theorem dL_law_1062 : decode cL_law 1062 = .ok (.iaload, 1) := by decide +kernel
theorem dL_law_1063 : decode cL_law 1063 = .ok (.invokevirtual 112, 3) := by decide +kernel
theorem dL_law_1066 : decode cL_law 1066 = .ok (.aload_n 2, 1) := by decide +kernel
theorem dL_law_1067 : decode cL_law 1067 = .ok (.aload_n 0, 1) := by decide +kernel
theorem dL_law_1068 : decode cL_law 1068 = .ok (.iload_n 3, 1) := by decide +kernel
theorem dL_law_1069 : decode cL_law 1069 = .ok (.iconst 1, 1) := by decide +kernel
theorem dL_law_1070 : decode cL_law 1070 = .ok (.iadd, 1) := by decide +kernel
theorem dL_law_1071 : decode cL_law 1071 = .ok (.iaload, 1) := by decide +kernel
theorem dL_law_1072 : decode cL_law 1072 = .ok (.aload_n 0, 1) := by decide +kernel
theorem dL_law_1073 : decode cL_law 1073 = .ok (.iload_n 3, 1) := by decide +kernel
theorem dL_law_1074 : decode cL_law 1074 = .ok (.iconst 2, 1) := by decide +kernel
theorem dL_law_1075 : decode cL_law 1075 = .ok (.iadd, 1) := by decide +kernel
theorem dL_law_1076 : decode cL_law 1076 = .ok (.iaload, 1) := by decide +kernel
theorem dL_law_1077 : decode cL_law 1077 = .ok (.aload_n 0, 1) := by decide +kernel
theorem dL_law_1078 : decode cL_law 1078 = .ok (.iload_n 3, 1) := by decide +kernel
theorem dL_law_1079 : decode cL_law 1079 = .ok (.iconst 3, 1) := by decide +kernel
theorem dL_law_1080 : decode cL_law 1080 = .ok (.iadd, 1) := by decide +kernel
theorem dL_law_1081 : decode cL_law 1081 = .ok (.iaload, 1) := by decide +kernel
theorem dL_law_1082 : decode cL_law 1082 = .ok (.invokevirtual 115, 3) := by decide +kernel
theorem dL_law_1085 : decode cL_law 1085 = .ok (.if_icmp .eq 61, 3) := by decide +kernel
theorem dL_law_1088 : decode cL_law 1088 = .ok (.iconst 0, 1) := by decide +kernel
theorem dL_law_1089 : decode cL_law 1089 = .ok (.ireturn, 1) := by decide +kernel
theorem dL_law_1090 : decode cL_law 1090 = .ok (.aload_n 1, 1) := by decide +kernel
theorem dL_law_1091 : decode cL_law 1091 = .ok (.aload_n 0, 1) := by decide +kernel
theorem dL_law_1092 : decode cL_law 1092 = .ok (.iload_n 3, 1) := by decide +kernel
theorem dL_law_1093 : decode cL_law 1093 = .ok (.iconst 1, 1) := by decide +kernel
theorem dL_law_1094 : decode cL_law 1094 = .ok (.iadd, 1) := by decide +kernel
theorem dL_law_1095 : decode cL_law 1095 = .ok (.iaload, 1) := by decide +kernel
theorem dL_law_1096 : decode cL_law 1096 = .ok (.aload_n 0, 1) := by decide +kernel
theorem dL_law_1097 : decode cL_law 1097 = .ok (.iload_n 3, 1) := by decide +kernel
theorem dL_law_1098 : decode cL_law 1098 = .ok (.iconst 2, 1) := by decide +kernel
theorem dL_law_1099 : decode cL_law 1099 = .ok (.iadd, 1) := by decide +kernel
theorem dL_law_1100 : decode cL_law 1100 = .ok (.iaload, 1) := by decide +kernel
theorem dL_law_1101 : decode cL_law 1101 = .ok (.invokevirtual 116, 3) := by decide +kernel
theorem dL_law_1104 : decode cL_law 1104 = .ok (.aload_n 2, 1) := by decide +kernel
theorem dL_law_1105 : decode cL_law 1105 = .ok (.aload_n 0, 1) := by decide +kernel
theorem dL_law_1106 : decode cL_law 1106 = .ok (.iload_n 3, 1) := by decide +kernel
theorem dL_law_1107 : decode cL_law 1107 = .ok (.iconst 1, 1) := by decide +kernel
theorem dL_law_1108 : decode cL_law 1108 = .ok (.iadd, 1) := by decide +kernel
theorem dL_law_1109 : decode cL_law 1109 = .ok (.iaload, 1) := by decide +kernel
theorem dL_law_1110 : decode cL_law 1110 = .ok (.aload_n 0, 1) := by decide +kernel
theorem dL_law_1111 : decode cL_law 1111 = .ok (.iload_n 3, 1) := by decide +kernel
theorem dL_law_1112 : decode cL_law 1112 = .ok (.iconst 2, 1) := by decide +kernel
theorem dL_law_1113 : decode cL_law 1113 = .ok (.iadd, 1) := by decide +kernel
theorem dL_law_1114 : decode cL_law 1114 = .ok (.iaload, 1) := by decide +kernel
theorem dL_law_1115 : decode cL_law 1115 = .ok (.invokevirtual 119, 3) := by decide +kernel
theorem dL_law_1118 : decode cL_law 1118 = .ok (.if_icmp .eq 28, 3) := by decide +kernel
theorem dL_law_1121 : decode cL_law 1121 = .ok (.iconst 0, 1) := by decide +kernel
theorem dL_law_1122 : decode cL_law 1122 = .ok (.ireturn, 1) := by decide +kernel
theorem dL_law_1123 : decode cL_law 1123 = .ok (.aload_n 1, 1) := by decide +kernel
theorem dL_law_1124 : decode cL_law 1124 = .ok (.aload_n 0, 1) := by decide +kernel
theorem dL_law_1125 : decode cL_law 1125 = .ok (.iload_n 3, 1) := by decide +kernel
theorem dL_law_1126 : decode cL_law 1126 = .ok (.iconst 1, 1) := by decide +kernel
theorem dL_law_1127 : decode cL_law 1127 = .ok (.iadd, 1) := by decide +kernel
theorem dL_law_1128 : decode cL_law 1128 = .ok (.iaload, 1) := by decide +kernel
theorem dL_law_1129 : decode cL_law 1129 = .ok (.invokevirtual 120, 3) := by decide +kernel
theorem dL_law_1132 : decode cL_law 1132 = .ok (.aload_n 2, 1) := by decide +kernel
theorem dL_law_1133 : decode cL_law 1133 = .ok (.aload_n 0, 1) := by decide +kernel
theorem dL_law_1134 : decode cL_law 1134 = .ok (.iload_n 3, 1) := by decide +kernel
theorem dL_law_1135 : decode cL_law 1135 = .ok (.iconst 1, 1) := by decide +kernel
theorem dL_law_1136 : decode cL_law 1136 = .ok (.iadd, 1) := by decide +kernel
theorem dL_law_1137 : decode cL_law 1137 = .ok (.iaload, 1) := by decide +kernel
theorem dL_law_1138 : decode cL_law 1138 = .ok (.invokevirtual 123, 3) := by decide +kernel
theorem dL_law_1141 : decode cL_law 1141 = .ok (.if_icmp .eq 5, 3) := by decide +kernel
theorem dL_law_1144 : decode cL_law 1144 = .ok (.iconst 0, 1) := by decide +kernel
theorem dL_law_1145 : decode cL_law 1145 = .ok (.ireturn, 1) := by decide +kernel
theorem dL_law_1146 : decode cL_law 1146 = .ok (.iinc 3 6, 3) := by decide +kernel
theorem dL_law_1149 : decode cL_law 1149 = .ok (.goto (-1131), 3) := by decide +kernel
theorem dL_law_1152 : decode cL_law 1152 = .ok (.iconst 1, 1) := by decide +kernel
theorem dL_law_1153 : decode cL_law 1153 = .ok (.ireturn, 1) := by decide +kernel
