theorem dX0_init_0 : decode cX0_init 0 = .ok (.aload_n 0, 1) := by decide +kernel
theorem dX0_init_1 : decode cX0_init 1 = .ok (.invokespecial 3, 3) := by decide +kernel
theorem dX0_init_4 : decode cX0_init 4 = .ok (.aload_n 0, 1) := by decide +kernel
theorem dX0_init_5 : decode cX0_init 5 = .ok (.bipush 6, 2) := by decide +kernel
theorem dX0_init_7 : decode cX0_init 7 = .ok (.newarray .int, 2) := by decide +kernel
theorem dX0_init_9 : decode cX0_init 9 = .ok (.putfield 9, 3) := by decide +kernel
theorem dX0_init_12 : decode cX0_init 12 = .ok (.aload_n 0, 1) := by decide +kernel
theorem dX0_init_13 : decode cX0_init 13 = .ok (.bipush 96, 2) := by decide +kernel
theorem dX0_init_15 : decode cX0_init 15 = .ok (.newarray .int, 2) := by decide +kernel
theorem dX0_init_17 : decode cX0_init 17 = .ok (.putfield 15, 3) := by decide +kernel
theorem dX0_init_20 : decode cX0_init 20 = .ok (.aload_n 0, 1) := by decide +kernel
theorem dX0_init_21 : decode cX0_init 21 = .ok (.bipush 96, 2) := by decide +kernel
theorem dX0_init_23 : decode cX0_init 23 = .ok (.newarray .int, 2) := by decide +kernel
theorem dX0_init_25 : decode cX0_init 25 = .ok (.putfield 18, 3) := by decide +kernel
theorem dX0_init_28 : decode cX0_init 28 = .ok (.aload_n 0, 1) := by decide +kernel
theorem dX0_init_29 : decode cX0_init 29 = .ok (.bipush 96, 2) := by decide +kernel
theorem dX0_init_31 : decode cX0_init 31 = .ok (.newarray .boolean, 2) := by decide +kernel
theorem dX0_init_33 : decode cX0_init 33 = .ok (.putfield 21, 3) := by decide +kernel
theorem dX0_init_36 : decode cX0_init 36 = .ok (.aload_n 0, 1) := by decide +kernel
theorem dX0_init_37 : decode cX0_init 37 = .ok (.aload_n 1, 1) := by decide +kernel
theorem dX0_init_38 : decode cX0_init 38 = .ok (.putfield 25, 3) := by decide +kernel
theorem dX0_init_41 : decode cX0_init 41 = .ok (.aload_n 0, 1) := by decide +kernel
theorem dX0_init_42 : decode cX0_init 42 = .ok (.aload_n 2, 1) := by decide +kernel
theorem dX0_init_43 : decode cX0_init 43 = .ok (.putfield 29, 3) := by decide +kernel
theorem dX0_init_46 : decode cX0_init 46 = .ok (.return_, 1) := by decide +kernel
theorem dX0_outdate_0 : decode cX0_outdate 0 = .ok (.aload_n 0, 1) := by decide +kernel
theorem dX0_outdate_1 : decode cX0_outdate 1 = .ok (.iconst 0, 1) := by decide +kernel
theorem dX0_outdate_2 : decode cX0_outdate 2 = .ok (.putfield 33, 3) := by decide +kernel
theorem dX0_outdate_5 : decode cX0_outdate 5 = .ok (.return_, 1) := by decide +kernel
theorem dX0_refresh_0 : decode cX0_refresh 0 = .ok (.aload_n 0, 1) := by decide +kernel
theorem dX0_refresh_1 : decode cX0_refresh 1 = .ok (.getfield 33, 3) := by decide +kernel
theorem dX0_refresh_4 : decode cX0_refresh 4 = .ok (.ifCond .ne 44, 3) := by decide +kernel
theorem dX0_refresh_7 : decode cX0_refresh 7 = .ok (.aload_n 0, 1) := by decide +kernel
theorem dX0_refresh_8 : decode cX0_refresh 8 = .ok (.iconst 1, 1) := by decide +kernel
theorem dX0_refresh_9 : decode cX0_refresh 9 = .ok (.putfield 33, 3) := by decide +kernel
theorem dX0_refresh_12 : decode cX0_refresh 12 = .ok (.aload_n 0, 1) := by decide +kernel
theorem dX0_refresh_13 : decode cX0_refresh 13 = .ok (.invokevirtual 37, 3) := by decide +kernel
theorem dX0_refresh_16 : decode cX0_refresh 16 = .ok (.aload_n 0, 1) := by decide +kernel
theorem dX0_refresh_17 : decode cX0_refresh 17 = .ok (.getfield 29, 3) := by decide +kernel
theorem dX0_refresh_20 : decode cX0_refresh 20 = .ok (.invokevirtual 40, 3) := by decide +kernel
theorem dX0_refresh_23 : decode cX0_refresh 23 = .ok (.iconst 0, 1) := by decide +kernel
theorem dX0_refresh_24 : decode cX0_refresh 24 = .ok (.istore_n 1, 1) := by decide +kernel
theorem dX0_refresh_25 : decode cX0_refresh 25 = .ok (.iload_n 1, 1) := by decide +kernel
theorem dX0_refresh_26 : decode cX0_refresh 26 = .ok (.aload_n 0, 1) := by decide +kernel
theorem dX0_refresh_27 : decode cX0_refresh 27 = .ok (.getfield 45, 3) := by decide +kernel
theorem dX0_refresh_30 : decode cX0_refresh 30 = .ok (.if_icmp .ge 14, 3) := by decide +kernel
theorem dX0_refresh_33 : decode cX0_refresh 33 = .ok (.aload_n 0, 1) := by decide +kernel
theorem dX0_refresh_34 : decode cX0_refresh 34 = .ok (.iload_n 1, 1) := by decide +kernel
theorem dX0_refresh_35 : decode cX0_refresh 35 = .ok (.invokevirtual 49, 3) := by decide +kernel
theorem dX0_refresh_38 : decode cX0_refresh 38 = .ok (.iinc 1 1, 3) := by decide +kernel
theorem dX0_refresh_41 : decode cX0_refresh 41 = .ok (.goto (-16), 3) := by decide +kernel
theorem dX0_refresh_44 : decode cX0_refresh 44 = .ok (.aload_n 0, 1) := by decide +kernel
theorem dX0_refresh_45 : decode cX0_refresh 45 = .ok (.invokevirtual 53, 3) := by decide +kernel
theorem dX0_refresh_48 : decode cX0_refresh 48 = .ok (.return_, 1) := by decide +kernel
theorem dX0_second_0 : decode cX0_second 0 = .ok (.aload_n 0, 1) := by decide +kernel
theorem dX0_second_1 : decode cX0_second 1 = .ok (.getfield 56, 3) := by decide +kernel
theorem dX0_second_4 : decode cX0_second 4 = .ok (.ireturn, 1) := by decide +kernel
theorem dX0_third_0 : decode cX0_third 0 = .ok (.aload_n 0, 1) := by decide +kernel
theorem dX0_third_1 : decode cX0_third 1 = .ok (.getfield 59, 3) := by decide +kernel
theorem dX0_third_4 : decode cX0_third 4 = .ok (.ireturn, 1) := by decide +kernel
theorem dX0_isGood_0 : decode cX0_isGood 0 = .ok (.aload_n 0, 1) := by decide +kernel
theorem dX0_isGood_1 : decode cX0_isGood 1 = .ok (.getfield 62, 3) := by decide +kernel
theorem dX0_isGood_4 : decode cX0_isGood 4 = .ok (.ireturn, 1) := by decide +kernel
theorem dX0_lawOf_0 : decode cX0_lawOf 0 = .ok (.aload_n 0, 1) := by decide +kernel
theorem dX0_lawOf_1 : decode cX0_lawOf 1 = .ok (.getfield 25, 3) := by decide +kernel
theorem dX0_lawOf_4 : decode cX0_lawOf 4 = .ok (.iload_n 1, 1) := by decide +kernel
theorem dX0_lawOf_5 : decode cX0_lawOf 5 = .ok (.invokevirtual 65, 3) := by decide +kernel
theorem dX0_lawOf_8 : decode cX0_lawOf 8 = .ok (.ifCond .eq 16, 3) := by decide +kernel
theorem dX0_lawOf_11 : decode cX0_lawOf 11 = .ok (.aload_n 0, 1) := by decide +kernel
theorem dX0_lawOf_12 : decode cX0_lawOf 12 = .ok (.getfield 25, 3) := by decide +kernel
theorem dX0_lawOf_15 : decode cX0_lawOf 15 = .ok (.iload_n 1, 1) := by decide +kernel
theorem dX0_lawOf_16 : decode cX0_lawOf 16 = .ok (.iconst 2, 1) := by decide +kernel
theorem dX0_lawOf_17 : decode cX0_lawOf 17 = .ok (.invokestatic 71, 3) := by decide +kernel
theorem dX0_lawOf_20 : decode cX0_lawOf 20 = .ok (.invokevirtual 75, 3) := by decide +kernel
theorem dX0_lawOf_23 : decode cX0_lawOf 23 = .ok (.ireturn, 1) := by decide +kernel
theorem dX0_lawOf_24 : decode cX0_lawOf 24 = .ok (.iconst 0, 1) := by decide +kernel
theorem dX0_lawOf_25 : decode cX0_lawOf 25 = .ok (.istore_n 2, 1) := by decide +kernel
theorem dX0_lawOf_26 : decode cX0_lawOf 26 = .ok (.iload_n 2, 1) := by decide +kernel
theorem dX0_lawOf_27 : decode cX0_lawOf 27 = .ok (.aload_n 0, 1) := by decide +kernel
theorem dX0_lawOf_28 : decode cX0_lawOf 28 = .ok (.getfield 79, 3) := by decide +kernel
theorem dX0_lawOf_31 : decode cX0_lawOf 31 = .ok (.if_icmp .ge 38, 3) := by decide +kernel
theorem dX0_lawOf_34 : decode cX0_lawOf 34 = .ok (.iload_n 2, 1) := by decide +kernel
theorem dX0_lawOf_35 : decode cX0_lawOf 35 = .ok (.aload_n 0, 1) := by decide +kernel
theorem dX0_lawOf_36 : decode cX0_lawOf 36 = .ok (.getfield 9, 3) := by decide +kernel
theorem dX0_lawOf_39 : decode cX0_lawOf 39 = .ok (.arraylength, 1) := by decide +kernel
theorem dX0_lawOf_40 : decode cX0_lawOf 40 = .ok (.if_icmp .ge 29, 3) := by decide +kernel
theorem dX0_lawOf_43 : decode cX0_lawOf 43 = .ok (.aload_n 0, 1) := by decide +kernel
theorem dX0_lawOf_44 : decode cX0_lawOf 44 = .ok (.getfield 9, 3) := by decide +kernel
theorem dX0_lawOf_47 : decode cX0_lawOf 47 = .ok (.iload_n 2, 1) := by decide +kernel
theorem dX0_lawOf_48 : decode cX0_lawOf 48 = .ok (.iaload, 1) := by decide +kernel
theorem dX0_lawOf_49 : decode cX0_lawOf 49 = .ok (.iload_n 1, 1) := by decide +kernel
theorem dX0_lawOf_50 : decode cX0_lawOf 50 = .ok (.if_icmp .ne 13, 3) := by decide +kernel
theorem dX0_lawOf_53 : decode cX0_lawOf 53 = .ok (.aload_n 0, 1) := by decide +kernel
theorem dX0_lawOf_54 : decode cX0_lawOf 54 = .ok (.aload_n 0, 1) := by decide +kernel
theorem dX0_lawOf_55 : decode cX0_lawOf 55 = .ok (.getfield 82, 3) := by decide +kernel
theorem dX0_lawOf_58 : decode cX0_lawOf 58 = .ok (.iload_n 2, 1) := by decide +kernel
theorem dX0_lawOf_59 : decode cX0_lawOf 59 = .ok (.invokevirtual 85, 3) := by decide +kernel
theorem dX0_lawOf_62 : decode cX0_lawOf 62 = .ok (.ireturn, 1) := by decide +kernel
theorem dX0_lawOf_63 : decode cX0_lawOf 63 = .ok (.iinc 2 1, 3) := by decide +kernel
theorem dX0_lawOf_66 : decode cX0_lawOf 66 = .ok (.goto (-40), 3) := by decide +kernel
theorem dX0_lawOf_69 : decode cX0_lawOf 69 = .ok (.iconst 0, 1) := by decide +kernel
theorem dX0_lawOf_70 : decode cX0_lawOf 70 = .ok (.ireturn, 1) := by decide +kernel
theorem dX0_findBent_0 : decode cX0_findBent 0 = .ok (.aload_n 0, 1) := by decide +kernel
theorem dX0_findBent_1 : decode cX0_findBent 1 = .ok (.iconst 0, 1) := by decide +kernel
theorem dX0_findBent_2 : decode cX0_findBent 2 = .ok (.putfield 79, 3) := by decide +kernel
theorem dX0_findBent_5 : decode cX0_findBent 5 = .ok (.iconst 0, 1) := by decide +kernel
theorem dX0_findBent_6 : decode cX0_findBent 6 = .ok (.istore_n 1, 1) := by decide +kernel
theorem dX0_findBent_7 : decode cX0_findBent 7 = .ok (.iload_n 1, 1) := by decide +kernel
theorem dX0_findBent_8 : decode cX0_findBent 8 = .ok (.aload_n 0, 1) := by decide +kernel
theorem dX0_findBent_9 : decode cX0_findBent 9 = .ok (.getfield 25, 3) := by decide +kernel
theorem dX0_findBent_12 : decode cX0_findBent 12 = .ok (.iconst 1, 1) := by decide +kernel
theorem dX0_findBent_13 : decode cX0_findBent 13 = .ok (.invokevirtual 75, 3) := by decide +kernel
theorem dX0_findBent_16 : decode cX0_findBent 16 = .ok (.if_icmp .ge 68, 3) := by decide +kernel
theorem dX0_findBent_19 : decode cX0_findBent 19 = .ok (.aload_n 0, 1) := by decide +kernel
theorem dX0_findBent_20 : decode cX0_findBent 20 = .ok (.getfield 25, 3) := by decide +kernel
theorem dX0_findBent_23 : decode cX0_findBent 23 = .ok (.iload_n 1, 1) := by decide +kernel
theorem dX0_findBent_24 : decode cX0_findBent 24 = .ok (.invokevirtual 65, 3) := by decide +kernel
theorem dX0_findBent_27 : decode cX0_findBent 27 = .ok (.ifCond .ne 51, 3) := by decide +kernel
theorem dX0_findBent_30 : decode cX0_findBent 30 = .ok (.aload_n 0, 1) := by decide +kernel
theorem dX0_findBent_31 : decode cX0_findBent 31 = .ok (.getfield 25, 3) := by decide +kernel
theorem dX0_findBent_34 : decode cX0_findBent 34 = .ok (.iload_n 1, 1) := by decide +kernel
theorem dX0_findBent_35 : decode cX0_findBent 35 = .ok (.iconst 0, 1) := by decide +kernel
theorem dX0_findBent_36 : decode cX0_findBent 36 = .ok (.invokestatic 71, 3) := by decide +kernel
theorem dX0_findBent_39 : decode cX0_findBent 39 = .ok (.invokevirtual 75, 3) := by decide +kernel
theorem dX0_findBent_42 : decode cX0_findBent 42 = .ok (.iconst 1, 1) := by decide +kernel
theorem dX0_findBent_43 : decode cX0_findBent 43 = .ok (.if_icmp .le 35, 3) := by decide +kernel
theorem dX0_findBent_46 : decode cX0_findBent 46 = .ok (.aload_n 0, 1) := by decide +kernel
theorem dX0_findBent_47 : decode cX0_findBent 47 = .ok (.getfield 79, 3) := by decide +kernel
theorem dX0_findBent_50 : decode cX0_findBent 50 = .ok (.aload_n 0, 1) := by decide +kernel
theorem dX0_findBent_51 : decode cX0_findBent 51 = .ok (.getfield 9, 3) := by decide +kernel
theorem dX0_findBent_54 : decode cX0_findBent 54 = .ok (.arraylength, 1) := by decide +kernel
theorem dX0_findBent_55 : decode cX0_findBent 55 = .ok (.if_icmp .ge 23, 3) := by decide +kernel
theorem dX0_findBent_58 : decode cX0_findBent 58 = .ok (.aload_n 0, 1) := by decide +kernel
theorem dX0_findBent_59 : decode cX0_findBent 59 = .ok (.getfield 9, 3) := by decide +kernel
theorem dX0_findBent_62 : decode cX0_findBent 62 = .ok (.aload_n 0, 1) := by decide +kernel
theorem dX0_findBent_63 : decode cX0_findBent 63 = .ok (.getfield 79, 3) := by decide +kernel
theorem dX0_findBent_66 : decode cX0_findBent 66 = .ok (.iload_n 1, 1) := by decide +kernel
theorem dX0_findBent_67 : decode cX0_findBent 67 = .ok (.iastore, 1) := by decide +kernel
theorem dX0_findBent_68 : decode cX0_findBent 68 = .ok (.aload_n 0, 1) := by decide +kernel
theorem dX0_findBent_69 : decode cX0_findBent 69 = .ok (.dup, 1) := by decide +kernel
theorem dX0_findBent_70 : decode cX0_findBent 70 = .ok (.getfield 79, 3) := by decide +kernel
theorem dX0_findBent_73 : decode cX0_findBent 73 = .ok (.iconst 1, 1) := by decide +kernel
theorem dX0_findBent_74 : decode cX0_findBent 74 = .ok (.iadd, 1) := by decide +kernel
theorem dX0_findBent_75 : decode cX0_findBent 75 = .ok (.putfield 79, 3) := by decide +kernel
theorem dX0_findBent_78 : decode cX0_findBent 78 = .ok (.iinc 1 1, 3) := by decide +kernel
theorem dX0_findBent_81 : decode cX0_findBent 81 = .ok (.goto (-74), 3) := by decide +kernel
theorem dX0_findBent_84 : decode cX0_findBent 84 = .ok (.aload_n 0, 1) := by decide +kernel
theorem dX0_findBent_85 : decode cX0_findBent 85 = .ok (.iconst 1, 1) := by decide +kernel
theorem dX0_findBent_86 : decode cX0_findBent 86 = .ok (.aload_n 0, 1) := by decide +kernel
theorem dX0_findBent_87 : decode cX0_findBent 87 = .ok (.getfield 79, 3) := by decide +kernel
theorem dX0_findBent_90 : decode cX0_findBent 90 = .ok (.invokestatic 88, 3) := by decide +kernel
theorem dX0_findBent_93 : decode cX0_findBent 93 = .ok (.putfield 45, 3) := by decide +kernel
theorem dX0_findBent_96 : decode cX0_findBent 96 = .ok (.return_, 1) := by decide +kernel
theorem dX0_measureLink_0 : decode cX0_measureLink 0 = .ok (.aload_n 0, 1) := by decide +kernel
theorem dX0_measureLink_1 : decode cX0_measureLink 1 = .ok (.getfield 25, 3) := by decide +kernel
theorem dX0_measureLink_4 : decode cX0_measureLink 4 = .ok (.iconst 0, 1) := by decide +kernel
theorem dX0_measureLink_5 : decode cX0_measureLink 5 = .ok (.invokevirtual 75, 3) := by decide +kernel
theorem dX0_measureLink_8 : decode cX0_measureLink 8 = .ok (.istore_n 2, 1) := by decide +kernel
theorem dX0_measureLink_9 : decode cX0_measureLink 9 = .ok (.aload_n 0, 1) := by decide +kernel
theorem dX0_measureLink_10 : decode cX0_measureLink 10 = .ok (.getfield 79, 3) := by decide +kernel
theorem dX0_measureLink_13 : decode cX0_measureLink 13 = .ok (.ifCond .ne 11, 3) := by decide +kernel
theorem dX0_measureLink_16 : decode cX0_measureLink 16 = .ok (.aload_n 0, 1) := by decide +kernel
theorem dX0_measureLink_17 : decode cX0_measureLink 17 = .ok (.iconst 0, 1) := by decide +kernel
theorem dX0_measureLink_18 : decode cX0_measureLink 18 = .ok (.iconst 0, 1) := by decide +kernel
theorem dX0_measureLink_19 : decode cX0_measureLink 19 = .ok (.iload_n 2, 1) := by decide +kernel
theorem dX0_measureLink_20 : decode cX0_measureLink 20 = .ok (.invokevirtual 93, 3) := by decide +kernel
theorem dX0_measureLink_23 : decode cX0_measureLink 23 = .ok (.return_, 1) := by decide +kernel
theorem dX0_measureLink_24 : decode cX0_measureLink 24 = .ok (.iload_n 1, 1) := by decide +kernel
theorem dX0_measureLink_25 : decode cX0_measureLink 25 = .ok (.iconst 1, 1) := by decide +kernel
theorem dX0_measureLink_26 : decode cX0_measureLink 26 = .ok (.iadd, 1) := by decide +kernel
theorem dX0_measureLink_27 : decode cX0_measureLink 27 = .ok (.aload_n 0, 1) := by decide +kernel
theorem dX0_measureLink_28 : decode cX0_measureLink 28 = .ok (.getfield 79, 3) := by decide +kernel
theorem dX0_measureLink_31 : decode cX0_measureLink 31 = .ok (.if_icmp .ge 9, 3) := by decide +kernel
theorem dX0_measureLink_34 : decode cX0_measureLink 34 = .ok (.iload_n 1, 1) := by decide +kernel
theorem dX0_measureLink_35 : decode cX0_measureLink 35 = .ok (.iconst 1, 1) := by decide +kernel
theorem dX0_measureLink_36 : decode cX0_measureLink 36 = .ok (.iadd, 1) := by decide +kernel
theorem dX0_measureLink_37 : decode cX0_measureLink 37 = .ok (.goto 4, 3) := by decide +kernel
theorem dX0_measureLink_40 : decode cX0_measureLink 40 = .ok (.iconst 0, 1) := by decide +kernel
theorem dX0_measureLink_41 : decode cX0_measureLink 41 = .ok (.istore_n 3, 1) := by decide +kernel
theorem dX0_measureLink_42 : decode cX0_measureLink 42 = .ok (.iload_n 1, 1) := by decide +kernel
theorem dX0_measureLink_43 : decode cX0_measureLink 43 = .ok (.ifCond .lt 21, 3) := by decide +kernel
theorem dX0_measureLink_46 : decode cX0_measureLink 46 = .ok (.iload_n 1, 1) := by decide +kernel
theorem dX0_measureLink_47 : decode cX0_measureLink 47 = .ok (.aload_n 0, 1) := by decide +kernel
theorem dX0_measureLink_48 : decode cX0_measureLink 48 = .ok (.getfield 9, 3) := by decide +kernel
theorem dX0_measureLink_51 : decode cX0_measureLink 51 = .ok (.arraylength, 1) := by decide +kernel
theorem dX0_measureLink_52 : decode cX0_measureLink 52 = .ok (.if_icmp .ge 12, 3) := by decide +kernel
theorem dX0_measureLink_55 : decode cX0_measureLink 55 = .ok (.iload_n 3, 1) := by decide +kernel
theorem dX0_measureLink_56 : decode cX0_measureLink 56 = .ok (.aload_n 0, 1) := by decide +kernel
theorem dX0_measureLink_57 : decode cX0_measureLink 57 = .ok (.getfield 9, 3) := by decide +kernel
theorem dX0_measureLink_60 : decode cX0_measureLink 60 = .ok (.arraylength, 1) := by decide +kernel
theorem dX0_measureLink_61 : decode cX0_measureLink 61 = .ok (.if_icmp .lt 4, 3) := by decide +kernel
theorem dX0_measureLink_64 : decode cX0_measureLink 64 = .ok (.return_, 1) := by decide +kernel
theorem dX0_measureLink_65 : decode cX0_measureLink 65 = .ok (.aload_n 0, 1) := by decide +kernel
theorem dX0_measureLink_66 : decode cX0_measureLink 66 = .ok (.getfield 25, 3) := by decide +kernel
theorem dX0_measureLink_69 : decode cX0_measureLink 69 = .ok (.aload_n 0, 1) := by decide +kernel
theorem dX0_measureLink_70 : decode cX0_measureLink 70 = .ok (.getfield 9, 3) := by decide +kernel
theorem dX0_measureLink_73 : decode cX0_measureLink 73 = .ok (.iload_n 1, 1) := by decide +kernel
theorem dX0_measureLink_74 : decode cX0_measureLink 74 = .ok (.iaload, 1) := by decide +kernel
theorem dX0_measureLink_75 : decode cX0_measureLink 75 = .ok (.invokevirtual 97, 3) := by decide +kernel
theorem dX0_measureLink_78 : decode cX0_measureLink 78 = .ok (.istore 4, 2) := by decide +kernel
theorem dX0_measureLink_80 : decode cX0_measureLink 80 = .ok (.aload_n 0, 1) := by decide +kernel
theorem dX0_measureLink_81 : decode cX0_measureLink 81 = .ok (.getfield 25, 3) := by decide +kernel
theorem dX0_measureLink_84 : decode cX0_measureLink 84 = .ok (.aload_n 0, 1) := by decide +kernel
theorem dX0_measureLink_85 : decode cX0_measureLink 85 = .ok (.getfield 9, 3) := by decide +kernel
theorem dX0_measureLink_88 : decode cX0_measureLink 88 = .ok (.iload_n 3, 1) := by decide +kernel
theorem dX0_measureLink_89 : decode cX0_measureLink 89 = .ok (.iaload, 1) := by decide +kernel
theorem dX0_measureLink_90 : decode cX0_measureLink 90 = .ok (.invokevirtual 97, 3) := by decide +kernel
theorem dX0_measureLink_93 : decode cX0_measureLink 93 = .ok (.iload 4, 2) := by decide +kernel
theorem dX0_measureLink_95 : decode cX0_measureLink 95 = .ok (.isub, 1) := by decide +kernel
theorem dX0_measureLink_96 : decode cX0_measureLink 96 = .ok (.istore 5, 2) := by decide +kernel
theorem dX0_measureLink_98 : decode cX0_measureLink 98 = .ok (.iconst 0, 1) := by decide +kernel
theorem dX0_measureLink_99 : decode cX0_measureLink 99 = .ok (.istore 6, 2) := by decide +kernel
theorem dX0_measureLink_101 : decode cX0_measureLink 101 = .ok (.iload 6, 2) := by decide +kernel
theorem dX0_measureLink_103 : decode cX0_measureLink 103 = .ok (.iconst 4, 1) := by decide +kernel
theorem dX0_measureLink_104 : decode cX0_measureLink 104 = .ok (.if_icmp .ge 86, 3) := by decide +kernel
theorem dX0_measureLink_107 : decode cX0_measureLink 107 = .ok (.aload_n 0, 1) := by decide +kernel
theorem dX0_measureLink_108 : decode cX0_measureLink 108 = .ok (.getfield 29, 3) := by decide +kernel
theorem dX0_measureLink_111 : decode cX0_measureLink 111 = .ok (.iload 6, 2) := by decide +kernel
theorem dX0_measureLink_113 : decode cX0_measureLink 113 = .ok (.aload_n 0, 1) := by decide +kernel
theorem dX0_measureLink_114 : decode cX0_measureLink 114 = .ok (.getfield 9, 3) := by decide +kernel
theorem dX0_measureLink_117 : decode cX0_measureLink 117 = .ok (.iload_n 1, 1) := by decide +kernel
theorem dX0_measureLink_118 : decode cX0_measureLink 118 = .ok (.iaload, 1) := by decide +kernel
theorem dX0_measureLink_119 : decode cX0_measureLink 119 = .ok (.invokevirtual 100, 3) := by decide +kernel
theorem dX0_measureLink_122 : decode cX0_measureLink 122 = .ok (.iconst 0, 1) := by decide +kernel
theorem dX0_measureLink_123 : decode cX0_measureLink 123 = .ok (.istore 7, 2) := by decide +kernel
theorem dX0_measureLink_125 : decode cX0_measureLink 125 = .ok (.iload 7, 2) := by decide +kernel
theorem dX0_measureLink_127 : decode cX0_measureLink 127 = .ok (.iconst 4, 1) := by decide +kernel
theorem dX0_measureLink_128 : decode cX0_measureLink 128 = .ok (.if_icmp .ge 56, 3) := by decide +kernel
theorem dX0_measureLink_131 : decode cX0_measureLink 131 = .ok (.aload_n 0, 1) := by decide +kernel
theorem dX0_measureLink_132 : decode cX0_measureLink 132 = .ok (.getfield 29, 3) := by decide +kernel
theorem dX0_measureLink_135 : decode cX0_measureLink 135 = .ok (.iload 7, 2) := by decide +kernel
theorem dX0_measureLink_137 : decode cX0_measureLink 137 = .ok (.aload_n 0, 1) := by decide +kernel
theorem dX0_measureLink_138 : decode cX0_measureLink 138 = .ok (.getfield 9, 3) := by decide +kernel
theorem dX0_measureLink_141 : decode cX0_measureLink 141 = .ok (.iload_n 3, 1) := by decide +kernel
theorem dX0_measureLink_142 : decode cX0_measureLink 142 = .ok (.iaload, 1) := by decide +kernel
theorem dX0_measureLink_143 : decode cX0_measureLink 143 = .ok (.invokevirtual 100, 3) := by decide +kernel
theorem dX0_measureLink_146 : decode cX0_measureLink 146 = .ok (.aload_n 0, 1) := by decide +kernel
theorem dX0_measureLink_147 : decode cX0_measureLink 147 = .ok (.iload_n 1, 1) := by decide +kernel
theorem dX0_measureLink_148 : decode cX0_measureLink 148 = .ok (.bipush 16, 2) := by decide +kernel
theorem dX0_measureLink_150 : decode cX0_measureLink 150 = .ok (.imul, 1) := by decide +kernel
theorem dX0_measureLink_151 : decode cX0_measureLink 151 = .ok (.iload 6, 2) := by decide +kernel
theorem dX0_measureLink_153 : decode cX0_measureLink 153 = .ok (.iconst 4, 1) := by decide +kernel
theorem dX0_measureLink_154 : decode cX0_measureLink 154 = .ok (.imul, 1) := by decide +kernel
theorem dX0_measureLink_155 : decode cX0_measureLink 155 = .ok (.iadd, 1) := by decide +kernel
theorem dX0_measureLink_156 : decode cX0_measureLink 156 = .ok (.iload 7, 2) := by decide +kernel
theorem dX0_measureLink_158 : decode cX0_measureLink 158 = .ok (.iadd, 1) := by decide +kernel
theorem dX0_measureLink_159 : decode cX0_measureLink 159 = .ok (.iload 4, 2) := by decide +kernel
theorem dX0_measureLink_161 : decode cX0_measureLink 161 = .ok (.iload 5, 2) := by decide +kernel
theorem dX0_measureLink_163 : decode cX0_measureLink 163 = .ok (.ifCond .le 8, 3) := by decide +kernel
theorem dX0_measureLink_166 : decode cX0_measureLink 166 = .ok (.iload 5, 2) := by decide +kernel
theorem dX0_measureLink_168 : decode cX0_measureLink 168 = .ok (.goto 7, 3) := by decide +kernel
theorem dX0_measureLink_171 : decode cX0_measureLink 171 = .ok (.iload 5, 2) := by decide +kernel
theorem dX0_measureLink_173 : decode cX0_measureLink 173 = .ok (.iload_n 2, 1) := by decide +kernel
theorem dX0_measureLink_174 : decode cX0_measureLink 174 = .ok (.iadd, 1) := by decide +kernel
theorem dX0_measureLink_175 : decode cX0_measureLink 175 = .ok (.invokevirtual 93, 3) := by decide +kernel
theorem dX0_measureLink_178 : decode cX0_measureLink 178 = .ok (.iinc 7 1, 3) := by decide +kernel
theorem dX0_measureLink_181 : decode cX0_measureLink 181 = .ok (.goto (-56), 3) := by decide +kernel
theorem dX0_measureLink_184 : decode cX0_measureLink 184 = .ok (.iinc 6 1, 3) := by decide +kernel
theorem dX0_measureLink_187 : decode cX0_measureLink 187 = .ok (.goto (-86), 3) := by decide +kernel
theorem dX0_measureLink_190 : decode cX0_measureLink 190 = .ok (.return_, 1) := by decide +kernel
theorem dX0_measurePair_0 : decode cX0_measurePair 0 = .ok (.aload_n 0, 1) := by decide +kernel
theorem dX0_measurePair_1 : decode cX0_measurePair 1 = .ok (.getfield 25, 3) := by decide +kernel
theorem dX0_measurePair_4 : decode cX0_measurePair 4 = .ok (.iconst 0, 1) := by decide +kernel
theorem dX0_measurePair_5 : decode cX0_measurePair 5 = .ok (.invokevirtual 75, 3) := by decide +kernel
theorem dX0_measurePair_8 : decode cX0_measurePair 8 = .ok (.istore 4, 2) := by decide +kernel
theorem dX0_measurePair_10 : decode cX0_measurePair 10 = .ok (.lconst 0, 1) := by decide +kernel
theorem dX0_measurePair_11 : decode cX0_measurePair 11 = .ok (.lstore 5, 2) := by decide +kernel
theorem dX0_measurePair_13 : decode cX0_measurePair 13 = .ok (.lconst 0, 1) := by decide +kernel
theorem dX0_measurePair_14 : decode cX0_measurePair 14 = .ok (.lstore 7, 2) := by decide +kernel
theorem dX0_measurePair_16 : decode cX0_measurePair 16 = .ok (.iconst 1, 1) := by decide +kernel
theorem dX0_measurePair_17 : decode cX0_measurePair 17 = .ok (.istore 9, 2) := by decide +kernel
theorem dX0_measurePair_19 : decode cX0_measurePair 19 = .ok (.iconst 1, 1) := by decide +kernel
theorem dX0_measurePair_20 : decode cX0_measurePair 20 = .ok (.istore 10, 2) := by decide +kernel
theorem dX0_measurePair_22 : decode cX0_measurePair 22 = .ok (.iload 10, 2) := by decide +kernel
theorem dX0_measurePair_24 : decode cX0_measurePair 24 = .ok (.iload_n 3, 1) := by decide +kernel
theorem dX0_measurePair_25 : decode cX0_measurePair 25 = .ok (.if_icmp .gt 107, 3) := by decide +kernel
theorem dX0_measurePair_28 : decode cX0_measurePair 28 = .ok (.iload_n 2, 1) := by decide +kernel
theorem dX0_measurePair_29 : decode cX0_measurePair 29 = .ok (.iload 10, 2) := by decide +kernel
theorem dX0_measurePair_31 : decode cX0_measurePair 31 = .ok (.iadd, 1) := by decide +kernel
theorem dX0_measurePair_32 : decode cX0_measurePair 32 = .ok (.iload 4, 2) := by decide +kernel
theorem dX0_measurePair_34 : decode cX0_measurePair 34 = .ok (.if_icmp .ge 10, 3) := by decide +kernel
theorem dX0_measurePair_37 : decode cX0_measurePair 37 = .ok (.iload_n 2, 1) := by decide +kernel
theorem dX0_measurePair_38 : decode cX0_measurePair 38 = .ok (.iload 10, 2) := by decide +kernel
theorem dX0_measurePair_40 : decode cX0_measurePair 40 = .ok (.iadd, 1) := by decide +kernel
theorem dX0_measurePair_41 : decode cX0_measurePair 41 = .ok (.goto 10, 3) := by decide +kernel
theorem dX0_measurePair_44 : decode cX0_measurePair 44 = .ok (.iload_n 2, 1) := by decide +kernel
theorem dX0_measurePair_45 : decode cX0_measurePair 45 = .ok (.iload 10, 2) := by decide +kernel
theorem dX0_measurePair_47 : decode cX0_measurePair 47 = .ok (.iadd, 1) := by decide +kernel
theorem dX0_measurePair_48 : decode cX0_measurePair 48 = .ok (.iload 4, 2) := by decide +kernel
theorem dX0_measurePair_50 : decode cX0_measurePair 50 = .ok (.isub, 1) := by decide +kernel
theorem dX0_measurePair_51 : decode cX0_measurePair 51 = .ok (.istore 11, 2) := by decide +kernel
theorem dX0_measurePair_53 : decode cX0_measurePair 53 = .ok (.aload_n 0, 1) := by decide +kernel
theorem dX0_measurePair_54 : decode cX0_measurePair 54 = .ok (.getfield 29, 3) := by decide +kernel
theorem dX0_measurePair_57 : decode cX0_measurePair 57 = .ok (.iload 11, 2) := by decide +kernel
theorem dX0_measurePair_59 : decode cX0_measurePair 59 = .ok (.invokevirtual 104, 3) := by decide +kernel
theorem dX0_measurePair_62 : decode cX0_measurePair 62 = .ok (.lload 5, 2) := by decide +kernel
theorem dX0_measurePair_64 : decode cX0_measurePair 64 = .ok (.aload_n 0, 1) := by decide +kernel
theorem dX0_measurePair_65 : decode cX0_measurePair 65 = .ok (.getfield 29, 3) := by decide +kernel
theorem dX0_measurePair_68 : decode cX0_measurePair 68 = .ok (.iconst 2, 1) := by decide +kernel
theorem dX0_measurePair_69 : decode cX0_measurePair 69 = .ok (.iload 11, 2) := by decide +kernel
theorem dX0_measurePair_71 : decode cX0_measurePair 71 = .ok (.invokevirtual 107, 3) := by decide +kernel
theorem dX0_measurePair_74 : decode cX0_measurePair 74 = .ok (.invokestatic 111, 3) := by decide +kernel
theorem dX0_measurePair_77 : decode cX0_measurePair 77 = .ok (.invokestatic 115, 3) := by decide +kernel
theorem dX0_measurePair_80 : decode cX0_measurePair 80 = .ok (.lstore 5, 2) := by decide +kernel
theorem dX0_measurePair_82 : decode cX0_measurePair 82 = .ok (.lload 7, 2) := by decide +kernel
theorem dX0_measurePair_84 : decode cX0_measurePair 84 = .ok (.aload_n 0, 1) := by decide +kernel
theorem dX0_measurePair_85 : decode cX0_measurePair 85 = .ok (.getfield 29, 3) := by decide +kernel
theorem dX0_measurePair_88 : decode cX0_measurePair 88 = .ok (.iconst 3, 1) := by decide +kernel
theorem dX0_measurePair_89 : decode cX0_measurePair 89 = .ok (.iload 11, 2) := by decide +kernel
theorem dX0_measurePair_91 : decode cX0_measurePair 91 = .ok (.invokevirtual 107, 3) := by decide +kernel
theorem dX0_measurePair_94 : decode cX0_measurePair 94 = .ok (.invokestatic 111, 3) := by decide +kernel
theorem dX0_measurePair_97 : decode cX0_measurePair 97 = .ok (.invokestatic 115, 3) := by decide +kernel
theorem dX0_measurePair_100 : decode cX0_measurePair 100 = .ok (.lstore 7, 2) := by decide +kernel
theorem dX0_measurePair_102 : decode cX0_measurePair 102 = .ok (.iload 9, 2) := by decide +kernel
theorem dX0_measurePair_104 : decode cX0_measurePair 104 = .ok (.ifCond .eq 19, 3) := by decide +kernel
theorem dX0_measurePair_107 : decode cX0_measurePair 107 = .ok (.aload_n 0, 1) := by decide +kernel
theorem dX0_measurePair_108 : decode cX0_measurePair 108 = .ok (.getfield 29, 3) := by decide +kernel
theorem dX0_measurePair_111 : decode cX0_measurePair 111 = .ok (.iload 11, 2) := by decide +kernel
theorem dX0_measurePair_113 : decode cX0_measurePair 113 = .ok (.invokevirtual 118, 3) := by decide +kernel
theorem dX0_measurePair_116 : decode cX0_measurePair 116 = .ok (.ifCond .eq 7, 3) := by decide +kernel
theorem dX0_measurePair_119 : decode cX0_measurePair 119 = .ok (.iconst 1, 1) := by decide +kernel
theorem dX0_measurePair_120 : decode cX0_measurePair 120 = .ok (.goto 4, 3) := by decide +kernel
theorem dX0_measurePair_123 : decode cX0_measurePair 123 = .ok (.iconst 0, 1) := by decide +kernel
theorem dX0_measurePair_124 : decode cX0_measurePair 124 = .ok (.istore 9, 2) := by decide +kernel
theorem dX0_measurePair_126 : decode cX0_measurePair 126 = .ok (.iinc 10 1, 3) := by decide +kernel
theorem dX0_measurePair_129 : decode cX0_measurePair 129 = .ok (.goto (-107), 3) := by decide +kernel
theorem dX0_measurePair_132 : decode cX0_measurePair 132 = .ok (.iload_n 1, 1) := by decide +kernel
theorem dX0_measurePair_133 : decode cX0_measurePair 133 = .ok (.ifCond .lt 38, 3) := by decide +kernel
theorem dX0_measurePair_136 : decode cX0_measurePair 136 = .ok (.iload_n 1, 1) := by decide +kernel
theorem dX0_measurePair_137 : decode cX0_measurePair 137 = .ok (.aload_n 0, 1) := by decide +kernel
theorem dX0_measurePair_138 : decode cX0_measurePair 138 = .ok (.getfield 21, 3) := by decide +kernel
theorem dX0_measurePair_141 : decode cX0_measurePair 141 = .ok (.arraylength, 1) := by decide +kernel
theorem dX0_measurePair_142 : decode cX0_measurePair 142 = .ok (.if_icmp .ge 29, 3) := by decide +kernel
theorem dX0_measurePair_145 : decode cX0_measurePair 145 = .ok (.aload_n 0, 1) := by decide +kernel
theorem dX0_measurePair_146 : decode cX0_measurePair 146 = .ok (.getfield 15, 3) := by decide +kernel
theorem dX0_measurePair_149 : decode cX0_measurePair 149 = .ok (.iload_n 1, 1) := by decide +kernel
theorem dX0_measurePair_150 : decode cX0_measurePair 150 = .ok (.lload 5, 2) := by decide +kernel
theorem dX0_measurePair_152 : decode cX0_measurePair 152 = .ok (.l2i, 1) := by decide +kernel
theorem dX0_measurePair_153 : decode cX0_measurePair 153 = .ok (.iastore, 1) := by decide +kernel
theorem dX0_measurePair_154 : decode cX0_measurePair 154 = .ok (.aload_n 0, 1) := by decide +kernel
theorem dX0_measurePair_155 : decode cX0_measurePair 155 = .ok (.getfield 18, 3) := by decide +kernel
theorem dX0_measurePair_158 : decode cX0_measurePair 158 = .ok (.iload_n 1, 1) := by decide +kernel
theorem dX0_measurePair_159 : decode cX0_measurePair 159 = .ok (.lload 7, 2) := by decide +kernel
theorem dX0_measurePair_161 : decode cX0_measurePair 161 = .ok (.l2i, 1) := by decide +kernel
theorem dX0_measurePair_162 : decode cX0_measurePair 162 = .ok (.iastore, 1) := by decide +kernel
theorem dX0_measurePair_163 : decode cX0_measurePair 163 = .ok (.aload_n 0, 1) := by decide +kernel
theorem dX0_measurePair_164 : decode cX0_measurePair 164 = .ok (.getfield 21, 3) := by decide +kernel
theorem dX0_measurePair_167 : decode cX0_measurePair 167 = .ok (.iload_n 1, 1) := by decide +kernel
theorem dX0_measurePair_168 : decode cX0_measurePair 168 = .ok (.iload 9, 2) := by decide +kernel
theorem dX0_measurePair_170 : decode cX0_measurePair 170 = .ok (.bastore, 1) := by decide +kernel
theorem dX0_measurePair_171 : decode cX0_measurePair 171 = .ok (.return_, 1) := by decide +kernel
theorem dX0_lawIn_0 : decode cX0_lawIn 0 = .ok (.iload_n 2, 1) := by decide +kernel
theorem dX0_lawIn_1 : decode cX0_lawIn 1 = .ok (.aload_n 0, 1) := by decide +kernel
theorem dX0_lawIn_2 : decode cX0_lawIn 2 = .ok (.getfield 79, 3) := by decide +kernel
theorem dX0_lawIn_5 : decode cX0_lawIn 5 = .ok (.if_icmp .ge 20, 3) := by decide +kernel
theorem dX0_lawIn_8 : decode cX0_lawIn 8 = .ok (.iload_n 1, 1) := by decide +kernel
theorem dX0_lawIn_9 : decode cX0_lawIn 9 = .ok (.iconst 2, 1) := by decide +kernel
theorem dX0_lawIn_10 : decode cX0_lawIn 10 = .ok (.aload_n 0, 1) := by decide +kernel
theorem dX0_lawIn_11 : decode cX0_lawIn 11 = .ok (.getfield 79, 3) := by decide +kernel
theorem dX0_lawIn_14 : decode cX0_lawIn 14 = .ok (.iconst 1, 1) := by decide +kernel
theorem dX0_lawIn_15 : decode cX0_lawIn 15 = .ok (.isub, 1) := by decide +kernel
theorem dX0_lawIn_16 : decode cX0_lawIn 16 = .ok (.iload_n 2, 1) := by decide +kernel
theorem dX0_lawIn_17 : decode cX0_lawIn 17 = .ok (.isub, 1) := by decide +kernel
theorem dX0_lawIn_18 : decode cX0_lawIn 18 = .ok (.imul, 1) := by decide +kernel
theorem dX0_lawIn_19 : decode cX0_lawIn 19 = .ok (.ishr, 1) := by decide +kernel
theorem dX0_lawIn_20 : decode cX0_lawIn 20 = .ok (.iconst 3, 1) := by decide +kernel
theorem dX0_lawIn_21 : decode cX0_lawIn 21 = .ok (.iand, 1) := by decide +kernel
theorem dX0_lawIn_22 : decode cX0_lawIn 22 = .ok (.goto 4, 3) := by decide +kernel
theorem dX0_lawIn_25 : decode cX0_lawIn 25 = .ok (.iconst 0, 1) := by decide +kernel
theorem dX0_lawIn_26 : decode cX0_lawIn 26 = .ok (.ireturn, 1) := by decide +kernel
theorem dX0_compareAll_0 : decode cX0_compareAll 0 = .ok (.aload_n 0, 1) := by decide +kernel
theorem dX0_compareAll_1 : decode cX0_compareAll 1 = .ok (.iconst (-1), 1) := by decide +kernel
theorem dX0_compareAll_2 : decode cX0_compareAll 2 = .ok (.putfield 82, 3) := by decide +kernel
theorem dX0_compareAll_5 : decode cX0_compareAll 5 = .ok (.iconst 0, 1) := by decide +kernel
theorem dX0_compareAll_6 : decode cX0_compareAll 6 = .ok (.istore_n 1, 1) := by decide +kernel
theorem dX0_compareAll_7 : decode cX0_compareAll 7 = .ok (.iload_n 1, 1) := by decide +kernel
theorem dX0_compareAll_8 : decode cX0_compareAll 8 = .ok (.iconst 1, 1) := by decide +kernel
theorem dX0_compareAll_9 : decode cX0_compareAll 9 = .ok (.iconst 2, 1) := by decide +kernel
theorem dX0_compareAll_10 : decode cX0_compareAll 10 = .ok (.aload_n 0, 1) := by decide +kernel
theorem dX0_compareAll_11 : decode cX0_compareAll 11 = .ok (.getfield 79, 3) := by decide +kernel
theorem dX0_compareAll_14 : decode cX0_compareAll 14 = .ok (.imul, 1) := by decide +kernel
theorem dX0_compareAll_15 : decode cX0_compareAll 15 = .ok (.ishl, 1) := by decide +kernel
theorem dX0_compareAll_16 : decode cX0_compareAll 16 = .ok (.if_icmp .ge 14, 3) := by decide +kernel
theorem dX0_compareAll_19 : decode cX0_compareAll 19 = .ok (.aload_n 0, 1) := by decide +kernel
theorem dX0_compareAll_20 : decode cX0_compareAll 20 = .ok (.iload_n 1, 1) := by decide +kernel
theorem dX0_compareAll_21 : decode cX0_compareAll 21 = .ok (.invokevirtual 121, 3) := by decide +kernel
theorem dX0_compareAll_24 : decode cX0_compareAll 24 = .ok (.iinc 1 1, 3) := by decide +kernel
theorem dX0_compareAll_27 : decode cX0_compareAll 27 = .ok (.goto (-20), 3) := by decide +kernel
theorem dX0_compareAll_30 : decode cX0_compareAll 30 = .ok (.return_, 1) := by decide +kernel
theorem dX0_compare_0 : decode cX0_compare 0 = .ok (.iconst 0, 1) := by decide +kernel
theorem dX0_compare_1 : decode cX0_compare 1 = .ok (.istore_n 2, 1) := by decide +kernel
theorem dX0_compare_2 : decode cX0_compare 2 = .ok (.iconst 0, 1) := by decide +kernel
theorem dX0_compare_3 : decode cX0_compare 3 = .ok (.istore_n 3, 1) := by decide +kernel
theorem dX0_compare_4 : decode cX0_compare 4 = .ok (.iconst 1, 1) := by decide +kernel
theorem dX0_compare_5 : decode cX0_compare 5 = .ok (.istore 4, 2) := by decide +kernel
theorem dX0_compare_7 : decode cX0_compare 7 = .ok (.aload_n 0, 1) := by decide +kernel
theorem dX0_compare_8 : decode cX0_compare 8 = .ok (.iload_n 1, 1) := by decide +kernel
theorem dX0_compare_9 : decode cX0_compare 9 = .ok (.iconst 0, 1) := by decide +kernel
theorem dX0_compare_10 : decode cX0_compare 10 = .ok (.invokevirtual 85, 3) := by decide +kernel
theorem dX0_compare_13 : decode cX0_compare 13 = .ok (.istore 5, 2) := by decide +kernel
theorem dX0_compare_15 : decode cX0_compare 15 = .ok (.iconst 0, 1) := by decide +kernel
theorem dX0_compare_16 : decode cX0_compare 16 = .ok (.istore 6, 2) := by decide +kernel
theorem dX0_compare_18 : decode cX0_compare 18 = .ok (.iload 6, 2) := by decide +kernel
theorem dX0_compare_20 : decode cX0_compare 20 = .ok (.aload_n 0, 1) := by decide +kernel
theorem dX0_compare_21 : decode cX0_compare 21 = .ok (.getfield 45, 3) := by decide +kernel
theorem dX0_compare_24 : decode cX0_compare 24 = .ok (.if_icmp .ge 115, 3) := by decide +kernel
theorem dX0_compare_27 : decode cX0_compare 27 = .ok (.aload_n 0, 1) := by decide +kernel
theorem dX0_compare_28 : decode cX0_compare 28 = .ok (.iload_n 1, 1) := by decide +kernel
theorem dX0_compare_29 : decode cX0_compare 29 = .ok (.iload 6, 2) := by decide +kernel
theorem dX0_compare_31 : decode cX0_compare 31 = .ok (.iconst 1, 1) := by decide +kernel
theorem dX0_compare_32 : decode cX0_compare 32 = .ok (.iadd, 1) := by decide +kernel
theorem dX0_compare_33 : decode cX0_compare 33 = .ok (.aload_n 0, 1) := by decide +kernel
theorem dX0_compare_34 : decode cX0_compare 34 = .ok (.getfield 45, 3) := by decide +kernel
theorem dX0_compare_37 : decode cX0_compare 37 = .ok (.if_icmp .ge 10, 3) := by decide +kernel
theorem dX0_compare_40 : decode cX0_compare 40 = .ok (.iload 6, 2) := by decide +kernel
theorem dX0_compare_42 : decode cX0_compare 42 = .ok (.iconst 1, 1) := by decide +kernel
theorem dX0_compare_43 : decode cX0_compare 43 = .ok (.iadd, 1) := by decide +kernel
theorem dX0_compare_44 : decode cX0_compare 44 = .ok (.goto 4, 3) := by decide +kernel
theorem dX0_compare_47 : decode cX0_compare 47 = .ok (.iconst 0, 1) := by decide +kernel
theorem dX0_compare_48 : decode cX0_compare 48 = .ok (.invokevirtual 85, 3) := by decide +kernel
theorem dX0_compare_51 : decode cX0_compare 51 = .ok (.istore 7, 2) := by decide +kernel
theorem dX0_compare_53 : decode cX0_compare 53 = .ok (.iload 6, 2) := by decide +kernel
theorem dX0_compare_55 : decode cX0_compare 55 = .ok (.bipush 16, 2) := by decide +kernel
theorem dX0_compare_57 : decode cX0_compare 57 = .ok (.imul, 1) := by decide +kernel
theorem dX0_compare_58 : decode cX0_compare 58 = .ok (.iload 5, 2) := by decide +kernel
theorem dX0_compare_60 : decode cX0_compare 60 = .ok (.iconst 4, 1) := by decide +kernel
theorem dX0_compare_61 : decode cX0_compare 61 = .ok (.imul, 1) := by decide +kernel
theorem dX0_compare_62 : decode cX0_compare 62 = .ok (.iadd, 1) := by decide +kernel
theorem dX0_compare_63 : decode cX0_compare 63 = .ok (.iload 7, 2) := by decide +kernel
theorem dX0_compare_65 : decode cX0_compare 65 = .ok (.iadd, 1) := by decide +kernel
theorem dX0_compare_66 : decode cX0_compare 66 = .ok (.istore 8, 2) := by decide +kernel
theorem dX0_compare_68 : decode cX0_compare 68 = .ok (.iload 8, 2) := by decide +kernel
theorem dX0_compare_70 : decode cX0_compare 70 = .ok (.ifCond .lt 59, 3) := by decide +kernel
theorem dX0_compare_73 : decode cX0_compare 73 = .ok (.iload 8, 2) := by decide +kernel
theorem dX0_compare_75 : decode cX0_compare 75 = .ok (.aload_n 0, 1) := by decide +kernel
theorem dX0_compare_76 : decode cX0_compare 76 = .ok (.getfield 21, 3) := by decide +kernel
theorem dX0_compare_79 : decode cX0_compare 79 = .ok (.arraylength, 1) := by decide +kernel
theorem dX0_compare_80 : decode cX0_compare 80 = .ok (.if_icmp .ge 49, 3) := by decide +kernel
theorem dX0_compare_83 : decode cX0_compare 83 = .ok (.iload_n 2, 1) := by decide +kernel
theorem dX0_compare_84 : decode cX0_compare 84 = .ok (.aload_n 0, 1) := by decide +kernel
theorem dX0_compare_85 : decode cX0_compare 85 = .ok (.getfield 15, 3) := by decide +kernel
theorem dX0_compare_88 : decode cX0_compare 88 = .ok (.iload 8, 2) := by decide +kernel
theorem dX0_compare_90 : decode cX0_compare 90 = .ok (.iaload, 1) := by decide +kernel
theorem dX0_compare_91 : decode cX0_compare 91 = .ok (.invokestatic 88, 3) := by decide +kernel
theorem dX0_compare_94 : decode cX0_compare 94 = .ok (.istore_n 2, 1) := by decide +kernel
theorem dX0_compare_95 : decode cX0_compare 95 = .ok (.iload_n 3, 1) := by decide +kernel
theorem dX0_compare_96 : decode cX0_compare 96 = .ok (.aload_n 0, 1) := by decide +kernel
theorem dX0_compare_97 : decode cX0_compare 97 = .ok (.getfield 18, 3) := by decide +kernel
theorem dX0_compare_100 : decode cX0_compare 100 = .ok (.iload 8, 2) := by decide +kernel
theorem dX0_compare_102 : decode cX0_compare 102 = .ok (.iaload, 1) := by decide +kernel
theorem dX0_compare_103 : decode cX0_compare 103 = .ok (.invokestatic 88, 3) := by decide +kernel
theorem dX0_compare_106 : decode cX0_compare 106 = .ok (.istore_n 3, 1) := by decide +kernel
theorem dX0_compare_107 : decode cX0_compare 107 = .ok (.iload 4, 2) := by decide +kernel
theorem dX0_compare_109 : decode cX0_compare 109 = .ok (.ifCond .eq 17, 3) := by decide +kernel
theorem dX0_compare_112 : decode cX0_compare 112 = .ok (.aload_n 0, 1) := by decide +kernel
theorem dX0_compare_113 : decode cX0_compare 113 = .ok (.getfield 21, 3) := by decide +kernel
theorem dX0_compare_116 : decode cX0_compare 116 = .ok (.iload 8, 2) := by decide +kernel
theorem dX0_compare_118 : decode cX0_compare 118 = .ok (.baload, 1) := by decide +kernel
theorem dX0_compare_119 : decode cX0_compare 119 = .ok (.ifCond .eq 7, 3) := by decide +kernel
theorem dX0_compare_122 : decode cX0_compare 122 = .ok (.iconst 1, 1) := by decide +kernel
theorem dX0_compare_123 : decode cX0_compare 123 = .ok (.goto 4, 3) := by decide +kernel
theorem dX0_compare_126 : decode cX0_compare 126 = .ok (.iconst 0, 1) := by decide +kernel
theorem dX0_compare_127 : decode cX0_compare 127 = .ok (.istore 4, 2) := by decide +kernel
theorem dX0_compare_129 : decode cX0_compare 129 = .ok (.iload 7, 2) := by decide +kernel
theorem dX0_compare_131 : decode cX0_compare 131 = .ok (.istore 5, 2) := by decide +kernel
theorem dX0_compare_133 : decode cX0_compare 133 = .ok (.iinc 6 1, 3) := by decide +kernel
theorem dX0_compare_136 : decode cX0_compare 136 = .ok (.goto (-118), 3) := by decide +kernel
theorem dX0_compare_139 : decode cX0_compare 139 = .ok (.aload_n 0, 1) := by decide +kernel
theorem dX0_compare_140 : decode cX0_compare 140 = .ok (.getfield 82, 3) := by decide +kernel
theorem dX0_compare_143 : decode cX0_compare 143 = .ok (.iconst (-1), 1) := by decide +kernel
theorem dX0_compare_144 : decode cX0_compare 144 = .ok (.if_icmp .eq 14, 3) := by decide +kernel
theorem dX0_compare_147 : decode cX0_compare 147 = .ok (.aload_n 0, 1) := by decide +kernel
theorem dX0_compare_148 : decode cX0_compare 148 = .ok (.iload 4, 2) := by decide +kernel
theorem dX0_compare_150 : decode cX0_compare 150 = .ok (.iload_n 2, 1) := by decide +kernel
theorem dX0_compare_151 : decode cX0_compare 151 = .ok (.iload_n 3, 1) := by decide +kernel
theorem dX0_compare_152 : decode cX0_compare 152 = .ok (.invokevirtual 124, 3) := by decide +kernel
theorem dX0_compare_155 : decode cX0_compare 155 = .ok (.ifCond .eq 24, 3) := by decide +kernel
theorem dX0_compare_158 : decode cX0_compare 158 = .ok (.aload_n 0, 1) := by decide +kernel
theorem dX0_compare_159 : decode cX0_compare 159 = .ok (.iload_n 1, 1) := by decide +kernel
theorem dX0_compare_160 : decode cX0_compare 160 = .ok (.putfield 82, 3) := by decide +kernel
theorem dX0_compare_163 : decode cX0_compare 163 = .ok (.aload_n 0, 1) := by decide +kernel
theorem dX0_compare_164 : decode cX0_compare 164 = .ok (.iload_n 2, 1) := by decide +kernel
theorem dX0_compare_165 : decode cX0_compare 165 = .ok (.putfield 56, 3) := by decide +kernel
theorem dX0_compare_168 : decode cX0_compare 168 = .ok (.aload_n 0, 1) := by decide +kernel
theorem dX0_compare_169 : decode cX0_compare 169 = .ok (.iload_n 3, 1) := by decide +kernel
theorem dX0_compare_170 : decode cX0_compare 170 = .ok (.putfield 59, 3) := by decide +kernel
theorem dX0_compare_173 : decode cX0_compare 173 = .ok (.aload_n 0, 1) := by decide +kernel
theorem dX0_compare_174 : decode cX0_compare 174 = .ok (.iload 4, 2) := by decide +kernel
theorem dX0_compare_176 : decode cX0_compare 176 = .ok (.putfield 62, 3) := by decide +kernel
theorem dX0_compare_179 : decode cX0_compare 179 = .ok (.return_, 1) := by decide +kernel
theorem dX0_isBetter_0 : decode cX0_isBetter 0 = .ok (.iload_n 1, 1) := by decide +kernel
theorem dX0_isBetter_1 : decode cX0_isBetter 1 = .ok (.aload_n 0, 1) := by decide +kernel
theorem dX0_isBetter_2 : decode cX0_isBetter 2 = .ok (.getfield 62, 3) := by decide +kernel
theorem dX0_isBetter_5 : decode cX0_isBetter 5 = .ok (.if_icmp .eq 5, 3) := by decide +kernel
theorem dX0_isBetter_8 : decode cX0_isBetter 8 = .ok (.iload_n 1, 1) := by decide +kernel
theorem dX0_isBetter_9 : decode cX0_isBetter 9 = .ok (.ireturn, 1) := by decide +kernel
theorem dX0_isBetter_10 : decode cX0_isBetter 10 = .ok (.iload_n 2, 1) := by decide +kernel
theorem dX0_isBetter_11 : decode cX0_isBetter 11 = .ok (.aload_n 0, 1) := by decide +kernel
theorem dX0_isBetter_12 : decode cX0_isBetter 12 = .ok (.getfield 56, 3) := by decide +kernel
theorem dX0_isBetter_15 : decode cX0_isBetter 15 = .ok (.if_icmp .lt 19, 3) := by decide +kernel
theorem dX0_isBetter_18 : decode cX0_isBetter 18 = .ok (.iload_n 2, 1) := by decide +kernel
theorem dX0_isBetter_19 : decode cX0_isBetter 19 = .ok (.aload_n 0, 1) := by decide +kernel
theorem dX0_isBetter_20 : decode cX0_isBetter 20 = .ok (.getfield 56, 3) := by decide +kernel
theorem dX0_isBetter_23 : decode cX0_isBetter 23 = .ok (.if_icmp .ne 15, 3) := by decide +kernel
theorem dX0_isBetter_26 : decode cX0_isBetter 26 = .ok (.iload_n 3, 1) := by decide +kernel
theorem dX0_isBetter_27 : decode cX0_isBetter 27 = .ok (.aload_n 0, 1) := by decide +kernel
theorem dX0_isBetter_28 : decode cX0_isBetter 28 = .ok (.getfield 59, 3) := by decide +kernel
theorem dX0_isBetter_31 : decode cX0_isBetter 31 = .ok (.if_icmp .ge 7, 3) := by decide +kernel
theorem dX0_isBetter_34 : decode cX0_isBetter 34 = .ok (.iconst 1, 1) := by decide +kernel
theorem dX0_isBetter_35 : decode cX0_isBetter 35 = .ok (.goto 4, 3) := by decide +kernel
theorem dX0_isBetter_38 : decode cX0_isBetter 38 = .ok (.iconst 0, 1) := by decide +kernel
theorem dX0_isBetter_39 : decode cX0_isBetter 39 = .ok (.ireturn, 1) := by decide +kernel
theorem dX1_init_0 : decode cX1_init 0 = .ok (.aload_n 0, 1) := by decide +kernel
theorem dX1_init_1 : decode cX1_init 1 = .ok (.invokespecial 3, 3) := by decide +kernel
theorem dX1_init_4 : decode cX1_init 4 = .ok (.aload_n 0, 1) := by decide +kernel
theorem dX1_init_5 : decode cX1_init 5 = .ok (.sipush 1440, 3) := by decide +kernel
theorem dX1_init_8 : decode cX1_init 8 = .ok (.newarray .int, 2) := by decide +kernel
theorem dX1_init_10 : decode cX1_init 10 = .ok (.putfield 11, 3) := by decide +kernel
theorem dX1_init_13 : decode cX1_init 13 = .ok (.return_, 1) := by decide +kernel
theorem dX1_size_0 : decode cX1_size 0 = .ok (.aload_n 0, 1) := by decide +kernel
theorem dX1_size_1 : decode cX1_size 1 = .ok (.getfield 15, 3) := by decide +kernel
theorem dX1_size_4 : decode cX1_size 4 = .ok (.ireturn, 1) := by decide +kernel
theorem dX1_forget_0 : decode cX1_forget 0 = .ok (.aload_n 0, 1) := by decide +kernel
theorem dX1_forget_1 : decode cX1_forget 1 = .ok (.iconst 0, 1) := by decide +kernel
theorem dX1_forget_2 : decode cX1_forget 2 = .ok (.putfield 15, 3) := by decide +kernel
theorem dX1_forget_5 : decode cX1_forget 5 = .ok (.return_, 1) := by decide +kernel
theorem dX1_keep_0 : decode cX1_keep 0 = .ok (.aload_n 1, 1) := by decide +kernel
theorem dX1_keep_1 : decode cX1_keep 1 = .ok (.aload_n 0, 1) := by decide +kernel
theorem dX1_keep_2 : decode cX1_keep 2 = .ok (.getfield 11, 3) := by decide +kernel
theorem dX1_keep_5 : decode cX1_keep 5 = .ok (.aload_n 0, 1) := by decide +kernel
theorem dX1_keep_6 : decode cX1_keep 6 = .ok (.getfield 19, 3) := by decide +kernel
theorem dX1_keep_9 : decode cX1_keep 9 = .ok (.bipush 72, 2) := by decide +kernel
theorem dX1_keep_11 : decode cX1_keep 11 = .ok (.imul, 1) := by decide +kernel
theorem dX1_keep_12 : decode cX1_keep 12 = .ok (.invokevirtual 22, 3) := by decide +kernel
theorem dX1_keep_15 : decode cX1_keep 15 = .ok (.aload_n 0, 1) := by decide +kernel
theorem dX1_keep_16 : decode cX1_keep 16 = .ok (.aload_n 0, 1) := by decide +kernel
theorem dX1_keep_17 : decode cX1_keep 17 = .ok (.getfield 19, 3) := by decide +kernel
theorem dX1_keep_20 : decode cX1_keep 20 = .ok (.iconst 1, 1) := by decide +kernel
theorem dX1_keep_21 : decode cX1_keep 21 = .ok (.iadd, 1) := by decide +kernel
theorem dX1_keep_22 : decode cX1_keep 22 = .ok (.bipush 20, 2) := by decide +kernel
theorem dX1_keep_24 : decode cX1_keep 24 = .ok (.if_icmp .ge 12, 3) := by decide +kernel
theorem dX1_keep_27 : decode cX1_keep 27 = .ok (.aload_n 0, 1) := by decide +kernel
theorem dX1_keep_28 : decode cX1_keep 28 = .ok (.getfield 19, 3) := by decide +kernel
theorem dX1_keep_31 : decode cX1_keep 31 = .ok (.iconst 1, 1) := by decide +kernel
theorem dX1_keep_32 : decode cX1_keep 32 = .ok (.iadd, 1) := by decide +kernel
theorem dX1_keep_33 : decode cX1_keep 33 = .ok (.goto 4, 3) := by decide +kernel
theorem dX1_keep_36 : decode cX1_keep 36 = .ok (.iconst 0, 1) := by decide +kernel
theorem dX1_keep_37 : decode cX1_keep 37 = .ok (.putfield 19, 3) := by decide +kernel
theorem dX1_keep_40 : decode cX1_keep 40 = .ok (.aload_n 0, 1) := by decide +kernel
theorem dX1_keep_41 : decode cX1_keep 41 = .ok (.aload_n 0, 1) := by decide +kernel
theorem dX1_keep_42 : decode cX1_keep 42 = .ok (.getfield 15, 3) := by decide +kernel
theorem dX1_keep_45 : decode cX1_keep 45 = .ok (.iconst 1, 1) := by decide +kernel
theorem dX1_keep_46 : decode cX1_keep 46 = .ok (.iadd, 1) := by decide +kernel
theorem dX1_keep_47 : decode cX1_keep 47 = .ok (.bipush 20, 2) := by decide +kernel
theorem dX1_keep_49 : decode cX1_keep 49 = .ok (.invokestatic 28, 3) := by decide +kernel
theorem dX1_keep_52 : decode cX1_keep 52 = .ok (.putfield 15, 3) := by decide +kernel
theorem dX1_keep_55 : decode cX1_keep 55 = .ok (.return_, 1) := by decide +kernel
theorem dX1_restore_0 : decode cX1_restore 0 = .ok (.aload_n 0, 1) := by decide +kernel
theorem dX1_restore_1 : decode cX1_restore 1 = .ok (.getfield 15, 3) := by decide +kernel
theorem dX1_restore_4 : decode cX1_restore 4 = .ok (.ifCond .le 50, 3) := by decide +kernel
theorem dX1_restore_7 : decode cX1_restore 7 = .ok (.aload_n 0, 1) := by decide +kernel
theorem dX1_restore_8 : decode cX1_restore 8 = .ok (.aload_n 0, 1) := by decide +kernel
theorem dX1_restore_9 : decode cX1_restore 9 = .ok (.getfield 19, 3) := by decide +kernel
theorem dX1_restore_12 : decode cX1_restore 12 = .ok (.ifCond .le 12, 3) := by decide +kernel
theorem dX1_restore_15 : decode cX1_restore 15 = .ok (.aload_n 0, 1) := by decide +kernel
theorem dX1_restore_16 : decode cX1_restore 16 = .ok (.getfield 19, 3) := by decide +kernel
theorem dX1_restore_19 : decode cX1_restore 19 = .ok (.iconst 1, 1) := by decide +kernel
theorem dX1_restore_20 : decode cX1_restore 20 = .ok (.isub, 1) := by decide +kernel
theorem dX1_restore_21 : decode cX1_restore 21 = .ok (.goto 5, 3) := by decide +kernel
theorem dX1_restore_24 : decode cX1_restore 24 = .ok (.bipush 19, 2) := by decide +kernel
theorem dX1_restore_26 : decode cX1_restore 26 = .ok (.putfield 19, 3) := by decide +kernel
theorem dX1_restore_29 : decode cX1_restore 29 = .ok (.aload_n 0, 1) := by decide +kernel
theorem dX1_restore_30 : decode cX1_restore 30 = .ok (.dup, 1) := by decide +kernel
theorem dX1_restore_31 : decode cX1_restore 31 = .ok (.getfield 15, 3) := by decide +kernel
theorem dX1_restore_34 : decode cX1_restore 34 = .ok (.iconst 1, 1) := by decide +kernel
theorem dX1_restore_35 : decode cX1_restore 35 = .ok (.isub, 1) := by decide +kernel
theorem dX1_restore_36 : decode cX1_restore 36 = .ok (.putfield 15, 3) := by decide +kernel
theorem dX1_restore_39 : decode cX1_restore 39 = .ok (.aload_n 1, 1) := by decide +kernel
theorem dX1_restore_40 : decode cX1_restore 40 = .ok (.aload_n 0, 1) := by decide +kernel
theorem dX1_restore_41 : decode cX1_restore 41 = .ok (.getfield 11, 3) := by decide +kernel
theorem dX1_restore_44 : decode cX1_restore 44 = .ok (.aload_n 0, 1) := by decide +kernel
theorem dX1_restore_45 : decode cX1_restore 45 = .ok (.getfield 19, 3) := by decide +kernel
theorem dX1_restore_48 : decode cX1_restore 48 = .ok (.bipush 72, 2) := by decide +kernel
theorem dX1_restore_50 : decode cX1_restore 50 = .ok (.imul, 1) := by decide +kernel
theorem dX1_restore_51 : decode cX1_restore 51 = .ok (.invokevirtual 34, 3) := by decide +kernel
theorem dX1_restore_54 : decode cX1_restore 54 = .ok (.return_, 1) := by decide +kernel
theorem dX2_init_0 : decode cX2_init 0 = .ok (.aload_n 0, 1) := by decide +kernel
theorem dX2_init_1 : decode cX2_init 1 = .ok (.invokespecial 3, 3) := by decide +kernel
theorem dX2_init_4 : decode cX2_init 4 = .ok (.aload_n 0, 1) := by decide +kernel
theorem dX2_init_5 : decode cX2_init 5 = .ok (.bipush 72, 2) := by decide +kernel
theorem dX2_init_7 : decode cX2_init 7 = .ok (.newarray .int, 2) := by decide +kernel
theorem dX2_init_9 : decode cX2_init 9 = .ok (.putfield 9, 3) := by decide +kernel
theorem dX2_init_12 : decode cX2_init 12 = .ok (.getstatic 15, 3) := by decide +kernel
theorem dX2_init_15 : decode cX2_init 15 = .ok (.iconst 0, 1) := by decide +kernel
theorem dX2_init_16 : decode cX2_init 16 = .ok (.aload_n 0, 1) := by decide +kernel
theorem dX2_init_17 : decode cX2_init 17 = .ok (.getfield 9, 3) := by decide +kernel
theorem dX2_init_20 : decode cX2_init 20 = .ok (.iconst 0, 1) := by decide +kernel
theorem dX2_init_21 : decode cX2_init 21 = .ok (.bipush 12, 2) := by decide +kernel
theorem dX2_init_23 : decode cX2_init 23 = .ok (.invokestatic 18, 3) := by decide +kernel
theorem dX2_init_26 : decode cX2_init 26 = .ok (.return_, 1) := by decide +kernel
theorem dX2_placeOf_0 : decode cX2_placeOf 0 = .ok (.bipush 12, 2) := by decide +kernel
theorem dX2_placeOf_2 : decode cX2_placeOf 2 = .ok (.iconst 3, 1) := by decide +kernel
theorem dX2_placeOf_3 : decode cX2_placeOf 3 = .ok (.iload_n 0, 1) := by decide +kernel
theorem dX2_placeOf_4 : decode cX2_placeOf 4 = .ok (.imul, 1) := by decide +kernel
theorem dX2_placeOf_5 : decode cX2_placeOf 5 = .ok (.iadd, 1) := by decide +kernel
theorem dX2_placeOf_6 : decode cX2_placeOf 6 = .ok (.iload_n 1, 1) := by decide +kernel
theorem dX2_placeOf_7 : decode cX2_placeOf 7 = .ok (.iadd, 1) := by decide +kernel
theorem dX2_placeOf_8 : decode cX2_placeOf 8 = .ok (.ireturn, 1) := by decide +kernel
theorem dX2_placeOfMark_0 : decode cX2_placeOfMark 0 = .ok (.bipush 48, 2) := by decide +kernel
theorem dX2_placeOfMark_2 : decode cX2_placeOfMark 2 = .ok (.iconst 3, 1) := by decide +kernel
theorem dX2_placeOfMark_3 : decode cX2_placeOfMark 3 = .ok (.iload_n 0, 1) := by decide +kernel
theorem dX2_placeOfMark_4 : decode cX2_placeOfMark 4 = .ok (.imul, 1) := by decide +kernel
theorem dX2_placeOfMark_5 : decode cX2_placeOfMark 5 = .ok (.iadd, 1) := by decide +kernel
theorem dX2_placeOfMark_6 : decode cX2_placeOfMark 6 = .ok (.iload_n 1, 1) := by decide +kernel
theorem dX2_placeOfMark_7 : decode cX2_placeOfMark 7 = .ok (.iadd, 1) := by decide +kernel
theorem dX2_placeOfMark_8 : decode cX2_placeOfMark 8 = .ok (.ireturn, 1) := by decide +kernel
theorem dX2_get_0 : decode cX2_get 0 = .ok (.iload_n 1, 1) := by decide +kernel
theorem dX2_get_1 : decode cX2_get 1 = .ok (.ifCond .lt 21, 3) := by decide +kernel
theorem dX2_get_4 : decode cX2_get 4 = .ok (.iload_n 1, 1) := by decide +kernel
theorem dX2_get_5 : decode cX2_get 5 = .ok (.aload_n 0, 1) := by decide +kernel
theorem dX2_get_6 : decode cX2_get 6 = .ok (.getfield 9, 3) := by decide +kernel
theorem dX2_get_9 : decode cX2_get 9 = .ok (.arraylength, 1) := by decide +kernel
theorem dX2_get_10 : decode cX2_get 10 = .ok (.if_icmp .ge 12, 3) := by decide +kernel
theorem dX2_get_13 : decode cX2_get 13 = .ok (.aload_n 0, 1) := by decide +kernel
theorem dX2_get_14 : decode cX2_get 14 = .ok (.getfield 9, 3) := by decide +kernel
theorem dX2_get_17 : decode cX2_get 17 = .ok (.iload_n 1, 1) := by decide +kernel
theorem dX2_get_18 : decode cX2_get 18 = .ok (.iaload, 1) := by decide +kernel
theorem dX2_get_19 : decode cX2_get 19 = .ok (.goto 4, 3) := by decide +kernel
theorem dX2_get_22 : decode cX2_get 22 = .ok (.iconst (-1), 1) := by decide +kernel
theorem dX2_get_23 : decode cX2_get 23 = .ok (.ireturn, 1) := by decide +kernel
theorem dX2_put_0 : decode cX2_put 0 = .ok (.iload_n 1, 1) := by decide +kernel
theorem dX2_put_1 : decode cX2_put 1 = .ok (.ifCond .lt 19, 3) := by decide +kernel
theorem dX2_put_4 : decode cX2_put 4 = .ok (.iload_n 1, 1) := by decide +kernel
theorem dX2_put_5 : decode cX2_put 5 = .ok (.aload_n 0, 1) := by decide +kernel
theorem dX2_put_6 : decode cX2_put 6 = .ok (.getfield 9, 3) := by decide +kernel
theorem dX2_put_9 : decode cX2_put 9 = .ok (.arraylength, 1) := by decide +kernel
theorem dX2_put_10 : decode cX2_put 10 = .ok (.if_icmp .ge 10, 3) := by decide +kernel
theorem dX2_put_13 : decode cX2_put 13 = .ok (.aload_n 0, 1) := by decide +kernel
theorem dX2_put_14 : decode cX2_put 14 = .ok (.getfield 9, 3) := by decide +kernel
theorem dX2_put_17 : decode cX2_put 17 = .ok (.iload_n 1, 1) := by decide +kernel
theorem dX2_put_18 : decode cX2_put 18 = .ok (.iload_n 2, 1) := by decide +kernel
theorem dX2_put_19 : decode cX2_put 19 = .ok (.iastore, 1) := by decide +kernel
theorem dX2_put_20 : decode cX2_put 20 = .ok (.return_, 1) := by decide +kernel
theorem dX2_exchange_0 : decode cX2_exchange 0 = .ok (.aload_n 0, 1) := by decide +kernel
theorem dX2_exchange_1 : decode cX2_exchange 1 = .ok (.iload_n 1, 1) := by decide +kernel
theorem dX2_exchange_2 : decode cX2_exchange 2 = .ok (.invokevirtual 24, 3) := by decide +kernel
theorem dX2_exchange_5 : decode cX2_exchange 5 = .ok (.istore_n 3, 1) := by decide +kernel
theorem dX2_exchange_6 : decode cX2_exchange 6 = .ok (.aload_n 0, 1) := by decide +kernel
theorem dX2_exchange_7 : decode cX2_exchange 7 = .ok (.iload_n 1, 1) := by decide +kernel
theorem dX2_exchange_8 : decode cX2_exchange 8 = .ok (.iload_n 2, 1) := by decide +kernel
theorem dX2_exchange_9 : decode cX2_exchange 9 = .ok (.invokevirtual 28, 3) := by decide +kernel
theorem dX2_exchange_12 : decode cX2_exchange 12 = .ok (.iload_n 3, 1) := by decide +kernel
theorem dX2_exchange_13 : decode cX2_exchange 13 = .ok (.ireturn, 1) := by decide +kernel
theorem dX2_hasStep_0 : decode cX2_hasStep 0 = .ok (.iload_n 1, 1) := by decide +kernel
theorem dX2_hasStep_1 : decode cX2_hasStep 1 = .ok (.ifCond .lt 16, 3) := by decide +kernel
theorem dX2_hasStep_4 : decode cX2_hasStep 4 = .ok (.iload_n 1, 1) := by decide +kernel
theorem dX2_hasStep_5 : decode cX2_hasStep 5 = .ok (.aload_n 0, 1) := by decide +kernel
theorem dX2_hasStep_6 : decode cX2_hasStep 6 = .ok (.iconst 0, 1) := by decide +kernel
theorem dX2_hasStep_7 : decode cX2_hasStep 7 = .ok (.invokevirtual 24, 3) := by decide +kernel
theorem dX2_hasStep_10 : decode cX2_hasStep 10 = .ok (.if_icmp .ge 7, 3) := by decide +kernel
theorem dX2_hasStep_13 : decode cX2_hasStep 13 = .ok (.iconst 1, 1) := by decide +kernel
theorem dX2_hasStep_14 : decode cX2_hasStep 14 = .ok (.goto 4, 3) := by decide +kernel
theorem dX2_hasStep_17 : decode cX2_hasStep 17 = .ok (.iconst 0, 1) := by decide +kernel
theorem dX2_hasStep_18 : decode cX2_hasStep 18 = .ok (.ireturn, 1) := by decide +kernel
theorem dX2_hasSegment_0 : decode cX2_hasSegment 0 = .ok (.iload_n 1, 1) := by decide +kernel
theorem dX2_hasSegment_1 : decode cX2_hasSegment 1 = .ok (.ifCond .lt 16, 3) := by decide +kernel
theorem dX2_hasSegment_4 : decode cX2_hasSegment 4 = .ok (.iload_n 1, 1) := by decide +kernel
theorem dX2_hasSegment_5 : decode cX2_hasSegment 5 = .ok (.aload_n 0, 1) := by decide +kernel
theorem dX2_hasSegment_6 : decode cX2_hasSegment 6 = .ok (.iconst 1, 1) := by decide +kernel
theorem dX2_hasSegment_7 : decode cX2_hasSegment 7 = .ok (.invokevirtual 24, 3) := by decide +kernel
theorem dX2_hasSegment_10 : decode cX2_hasSegment 10 = .ok (.if_icmp .ge 7, 3) := by decide +kernel
theorem dX2_hasSegment_13 : decode cX2_hasSegment 13 = .ok (.iconst 1, 1) := by decide +kernel
theorem dX2_hasSegment_14 : decode cX2_hasSegment 14 = .ok (.goto 4, 3) := by decide +kernel
theorem dX2_hasSegment_17 : decode cX2_hasSegment 17 = .ok (.iconst 0, 1) := by decide +kernel
theorem dX2_hasSegment_18 : decode cX2_hasSegment 18 = .ok (.ireturn, 1) := by decide +kernel
theorem dX2_hasMark_0 : decode cX2_hasMark 0 = .ok (.iload_n 1, 1) := by decide +kernel
theorem dX2_hasMark_1 : decode cX2_hasMark 1 = .ok (.ifCond .lt 17, 3) := by decide +kernel
theorem dX2_hasMark_4 : decode cX2_hasMark 4 = .ok (.iload_n 1, 1) := by decide +kernel
theorem dX2_hasMark_5 : decode cX2_hasMark 5 = .ok (.aload_n 0, 1) := by decide +kernel
theorem dX2_hasMark_6 : decode cX2_hasMark 6 = .ok (.bipush 11, 2) := by decide +kernel
theorem dX2_hasMark_8 : decode cX2_hasMark 8 = .ok (.invokevirtual 24, 3) := by decide +kernel
theorem dX2_hasMark_11 : decode cX2_hasMark 11 = .ok (.if_icmp .ge 7, 3) := by decide +kernel
theorem dX2_hasMark_14 : decode cX2_hasMark 14 = .ok (.iconst 1, 1) := by decide +kernel
theorem dX2_hasMark_15 : decode cX2_hasMark 15 = .ok (.goto 4, 3) := by decide +kernel
theorem dX2_hasMark_18 : decode cX2_hasMark 18 = .ok (.iconst 0, 1) := by decide +kernel
theorem dX2_hasMark_19 : decode cX2_hasMark 19 = .ok (.ireturn, 1) := by decide +kernel
theorem dX2_removeMark_0 : decode cX2_removeMark 0 = .ok (.aload_n 0, 1) := by decide +kernel
theorem dX2_removeMark_1 : decode cX2_removeMark 1 = .ok (.bipush 11, 2) := by decide +kernel
theorem dX2_removeMark_3 : decode cX2_removeMark 3 = .ok (.invokevirtual 24, 3) := by decide +kernel
theorem dX2_removeMark_6 : decode cX2_removeMark 6 = .ok (.iconst 1, 1) := by decide +kernel
theorem dX2_removeMark_7 : decode cX2_removeMark 7 = .ok (.isub, 1) := by decide +kernel
theorem dX2_removeMark_8 : decode cX2_removeMark 8 = .ok (.istore_n 2, 1) := by decide +kernel
theorem dX2_removeMark_9 : decode cX2_removeMark 9 = .ok (.iload_n 1, 1) := by decide +kernel
theorem dX2_removeMark_10 : decode cX2_removeMark 10 = .ok (.iconst 0, 1) := by decide +kernel
theorem dX2_removeMark_11 : decode cX2_removeMark 11 = .ok (.invokestatic 32, 3) := by decide +kernel
theorem dX2_removeMark_14 : decode cX2_removeMark 14 = .ok (.istore_n 3, 1) := by decide +kernel
theorem dX2_removeMark_15 : decode cX2_removeMark 15 = .ok (.iload_n 3, 1) := by decide +kernel
theorem dX2_removeMark_16 : decode cX2_removeMark 16 = .ok (.iload_n 2, 1) := by decide +kernel
theorem dX2_removeMark_17 : decode cX2_removeMark 17 = .ok (.iconst 0, 1) := by decide +kernel
theorem dX2_removeMark_18 : decode cX2_removeMark 18 = .ok (.invokestatic 32, 3) := by decide +kernel
theorem dX2_removeMark_21 : decode cX2_removeMark 21 = .ok (.if_icmp .ge 21, 3) := by decide +kernel
theorem dX2_removeMark_24 : decode cX2_removeMark 24 = .ok (.aload_n 0, 1) := by decide +kernel
theorem dX2_removeMark_25 : decode cX2_removeMark 25 = .ok (.iload_n 3, 1) := by decide +kernel
theorem dX2_removeMark_26 : decode cX2_removeMark 26 = .ok (.aload_n 0, 1) := by decide +kernel
theorem dX2_removeMark_27 : decode cX2_removeMark 27 = .ok (.iload_n 3, 1) := by decide +kernel
theorem dX2_removeMark_28 : decode cX2_removeMark 28 = .ok (.iconst 3, 1) := by decide +kernel
theorem dX2_removeMark_29 : decode cX2_removeMark 29 = .ok (.iadd, 1) := by decide +kernel
theorem dX2_removeMark_30 : decode cX2_removeMark 30 = .ok (.invokevirtual 24, 3) := by decide +kernel
theorem dX2_removeMark_33 : decode cX2_removeMark 33 = .ok (.invokevirtual 28, 3) := by decide +kernel
theorem dX2_removeMark_36 : decode cX2_removeMark 36 = .ok (.iinc 3 1, 3) := by decide +kernel
theorem dX2_removeMark_39 : decode cX2_removeMark 39 = .ok (.goto (-24), 3) := by decide +kernel
theorem dX2_removeMark_42 : decode cX2_removeMark 42 = .ok (.aload_n 0, 1) := by decide +kernel
theorem dX2_removeMark_43 : decode cX2_removeMark 43 = .ok (.bipush 11, 2) := by decide +kernel
theorem dX2_removeMark_45 : decode cX2_removeMark 45 = .ok (.iload_n 2, 1) := by decide +kernel
theorem dX2_removeMark_46 : decode cX2_removeMark 46 = .ok (.invokevirtual 28, 3) := by decide +kernel
theorem dX2_removeMark_49 : decode cX2_removeMark 49 = .ok (.return_, 1) := by decide +kernel
theorem dX2_origin_0 : decode cX2_origin 0 = .ok (.aload_n 0, 1) := by decide +kernel
theorem dX2_origin_1 : decode cX2_origin 1 = .ok (.iload_n 1, 1) := by decide +kernel
theorem dX2_origin_2 : decode cX2_origin 2 = .ok (.ifCond .ne 7, 3) := by decide +kernel
theorem dX2_origin_5 : decode cX2_origin 5 = .ok (.iconst 2, 1) := by decide +kernel
theorem dX2_origin_6 : decode cX2_origin 6 = .ok (.goto 10, 3) := by decide +kernel
theorem dX2_origin_9 : decode cX2_origin 9 = .ok (.iload_n 1, 1) := by decide +kernel
theorem dX2_origin_10 : decode cX2_origin 10 = .ok (.iconst 1, 1) := by decide +kernel
theorem dX2_origin_11 : decode cX2_origin 11 = .ok (.isub, 1) := by decide +kernel
theorem dX2_origin_12 : decode cX2_origin 12 = .ok (.iconst 1, 1) := by decide +kernel
theorem dX2_origin_13 : decode cX2_origin 13 = .ok (.invokestatic 36, 3) := by decide +kernel
theorem dX2_origin_16 : decode cX2_origin 16 = .ok (.invokevirtual 24, 3) := by decide +kernel
theorem dX2_origin_19 : decode cX2_origin 19 = .ok (.ireturn, 1) := by decide +kernel
theorem dX2_longAheadOf_0 : decode cX2_longAheadOf 0 = .ok (.iconst 0, 1) := by decide +kernel
theorem dX2_longAheadOf_1 : decode cX2_longAheadOf 1 = .ok (.istore_n 2, 1) := by decide +kernel
theorem dX2_longAheadOf_2 : decode cX2_longAheadOf 2 = .ok (.iconst 0, 1) := by decide +kernel
theorem dX2_longAheadOf_3 : decode cX2_longAheadOf 3 = .ok (.istore_n 3, 1) := by decide +kernel
theorem dX2_longAheadOf_4 : decode cX2_longAheadOf 4 = .ok (.iload_n 3, 1) := by decide +kernel
theorem dX2_longAheadOf_5 : decode cX2_longAheadOf 5 = .ok (.iload_n 1, 1) := by decide +kernel
theorem dX2_longAheadOf_6 : decode cX2_longAheadOf 6 = .ok (.if_icmp .ge 21, 3) := by decide +kernel
theorem dX2_longAheadOf_9 : decode cX2_longAheadOf 9 = .ok (.iload_n 2, 1) := by decide +kernel
theorem dX2_longAheadOf_10 : decode cX2_longAheadOf 10 = .ok (.aload_n 0, 1) := by decide +kernel
theorem dX2_longAheadOf_11 : decode cX2_longAheadOf 11 = .ok (.iload_n 3, 1) := by decide +kernel
theorem dX2_longAheadOf_12 : decode cX2_longAheadOf 12 = .ok (.iconst 0, 1) := by decide +kernel
theorem dX2_longAheadOf_13 : decode cX2_longAheadOf 13 = .ok (.invokestatic 36, 3) := by decide +kernel
theorem dX2_longAheadOf_16 : decode cX2_longAheadOf 16 = .ok (.invokevirtual 24, 3) := by decide +kernel
theorem dX2_longAheadOf_19 : decode cX2_longAheadOf 19 = .ok (.iadd, 1) := by decide +kernel
theorem dX2_longAheadOf_20 : decode cX2_longAheadOf 20 = .ok (.istore_n 2, 1) := by decide +kernel
theorem dX2_longAheadOf_21 : decode cX2_longAheadOf 21 = .ok (.iinc 3 1, 3) := by decide +kernel
theorem dX2_longAheadOf_24 : decode cX2_longAheadOf 24 = .ok (.goto (-20), 3) := by decide +kernel
theorem dX2_longAheadOf_27 : decode cX2_longAheadOf 27 = .ok (.iload_n 2, 1) := by decide +kernel
theorem dX2_longAheadOf_28 : decode cX2_longAheadOf 28 = .ok (.ireturn, 1) := by decide +kernel
theorem dX2_dwells_0 : decode cX2_dwells 0 = .ok (.aload_n 0, 1) := by decide +kernel
theorem dX2_dwells_1 : decode cX2_dwells 1 = .ok (.iload_n 1, 1) := by decide +kernel
theorem dX2_dwells_2 : decode cX2_dwells 2 = .ok (.iconst 1, 1) := by decide +kernel
theorem dX2_dwells_3 : decode cX2_dwells 3 = .ok (.invokestatic 36, 3) := by decide +kernel
theorem dX2_dwells_6 : decode cX2_dwells 6 = .ok (.invokevirtual 24, 3) := by decide +kernel
theorem dX2_dwells_9 : decode cX2_dwells 9 = .ok (.aload_n 0, 1) := by decide +kernel
theorem dX2_dwells_10 : decode cX2_dwells 10 = .ok (.iload_n 1, 1) := by decide +kernel
theorem dX2_dwells_11 : decode cX2_dwells 11 = .ok (.invokevirtual 39, 3) := by decide +kernel
theorem dX2_dwells_14 : decode cX2_dwells 14 = .ok (.if_icmp .ne 7, 3) := by decide +kernel
theorem dX2_dwells_17 : decode cX2_dwells 17 = .ok (.iconst 1, 1) := by decide +kernel
theorem dX2_dwells_18 : decode cX2_dwells 18 = .ok (.goto 4, 3) := by decide +kernel
theorem dX2_dwells_21 : decode cX2_dwells 21 = .ok (.iconst 0, 1) := by decide +kernel
theorem dX2_dwells_22 : decode cX2_dwells 22 = .ok (.ireturn, 1) := by decide +kernel
theorem dX2_countMoving_0 : decode cX2_countMoving 0 = .ok (.iconst 0, 1) := by decide +kernel
theorem dX2_countMoving_1 : decode cX2_countMoving 1 = .ok (.istore_n 1, 1) := by decide +kernel
theorem dX2_countMoving_2 : decode cX2_countMoving 2 = .ok (.iconst 0, 1) := by decide +kernel
theorem dX2_countMoving_3 : decode cX2_countMoving 3 = .ok (.istore_n 2, 1) := by decide +kernel
theorem dX2_countMoving_4 : decode cX2_countMoving 4 = .ok (.iload_n 2, 1) := by decide +kernel
theorem dX2_countMoving_5 : decode cX2_countMoving 5 = .ok (.aload_n 0, 1) := by decide +kernel
theorem dX2_countMoving_6 : decode cX2_countMoving 6 = .ok (.iconst 1, 1) := by decide +kernel
theorem dX2_countMoving_7 : decode cX2_countMoving 7 = .ok (.invokevirtual 24, 3) := by decide +kernel
theorem dX2_countMoving_10 : decode cX2_countMoving 10 = .ok (.if_icmp .ge 25, 3) := by decide +kernel
theorem dX2_countMoving_13 : decode cX2_countMoving 13 = .ok (.iload_n 1, 1) := by decide +kernel
theorem dX2_countMoving_14 : decode cX2_countMoving 14 = .ok (.aload_n 0, 1) := by decide +kernel
theorem dX2_countMoving_15 : decode cX2_countMoving 15 = .ok (.iload_n 2, 1) := by decide +kernel
theorem dX2_countMoving_16 : decode cX2_countMoving 16 = .ok (.invokevirtual 42, 3) := by decide +kernel
theorem dX2_countMoving_19 : decode cX2_countMoving 19 = .ok (.ifCond .eq 7, 3) := by decide +kernel
theorem dX2_countMoving_22 : decode cX2_countMoving 22 = .ok (.iconst 0, 1) := by decide +kernel
theorem dX2_countMoving_23 : decode cX2_countMoving 23 = .ok (.goto 4, 3) := by decide +kernel
theorem dX2_countMoving_26 : decode cX2_countMoving 26 = .ok (.iconst 1, 1) := by decide +kernel
theorem dX2_countMoving_27 : decode cX2_countMoving 27 = .ok (.iadd, 1) := by decide +kernel
theorem dX2_countMoving_28 : decode cX2_countMoving 28 = .ok (.istore_n 1, 1) := by decide +kernel
theorem dX2_countMoving_29 : decode cX2_countMoving 29 = .ok (.iinc 2 1, 3) := by decide +kernel
theorem dX2_countMoving_32 : decode cX2_countMoving 32 = .ok (.goto (-28), 3) := by decide +kernel
theorem dX2_countMoving_35 : decode cX2_countMoving 35 = .ok (.iload_n 1, 1) := by decide +kernel
theorem dX2_countMoving_36 : decode cX2_countMoving 36 = .ok (.ireturn, 1) := by decide +kernel
theorem dX2_isWhole_0 : decode cX2_isWhole 0 = .ok (.aload_n 0, 1) := by decide +kernel
theorem dX2_isWhole_1 : decode cX2_isWhole 1 = .ok (.iconst 1, 1) := by decide +kernel
theorem dX2_isWhole_2 : decode cX2_isWhole 2 = .ok (.invokevirtual 24, 3) := by decide +kernel
theorem dX2_isWhole_5 : decode cX2_isWhole 5 = .ok (.istore_n 1, 1) := by decide +kernel
theorem dX2_isWhole_6 : decode cX2_isWhole 6 = .ok (.iload_n 1, 1) := by decide +kernel
theorem dX2_isWhole_7 : decode cX2_isWhole 7 = .ok (.ifCond .le 39, 3) := by decide +kernel
theorem dX2_isWhole_10 : decode cX2_isWhole 10 = .ok (.aload_n 0, 1) := by decide +kernel
theorem dX2_isWhole_11 : decode cX2_isWhole 11 = .ok (.iload_n 1, 1) := by decide +kernel
theorem dX2_isWhole_12 : decode cX2_isWhole 12 = .ok (.invokevirtual 46, 3) := by decide +kernel
theorem dX2_isWhole_15 : decode cX2_isWhole 15 = .ok (.aload_n 0, 1) := by decide +kernel
theorem dX2_isWhole_16 : decode cX2_isWhole 16 = .ok (.iconst 0, 1) := by decide +kernel
theorem dX2_isWhole_17 : decode cX2_isWhole 17 = .ok (.invokevirtual 24, 3) := by decide +kernel
theorem dX2_isWhole_20 : decode cX2_isWhole 20 = .ok (.if_icmp .ne 26, 3) := by decide +kernel
theorem dX2_isWhole_23 : decode cX2_isWhole 23 = .ok (.aload_n 0, 1) := by decide +kernel
theorem dX2_isWhole_24 : decode cX2_isWhole 24 = .ok (.iload_n 1, 1) := by decide +kernel
theorem dX2_isWhole_25 : decode cX2_isWhole 25 = .ok (.iconst 1, 1) := by decide +kernel
theorem dX2_isWhole_26 : decode cX2_isWhole 26 = .ok (.isub, 1) := by decide +kernel
theorem dX2_isWhole_27 : decode cX2_isWhole 27 = .ok (.iconst 1, 1) := by decide +kernel
theorem dX2_isWhole_28 : decode cX2_isWhole 28 = .ok (.invokestatic 36, 3) := by decide +kernel
theorem dX2_isWhole_31 : decode cX2_isWhole 31 = .ok (.invokevirtual 24, 3) := by decide +kernel
theorem dX2_isWhole_34 : decode cX2_isWhole 34 = .ok (.aload_n 0, 1) := by decide +kernel
theorem dX2_isWhole_35 : decode cX2_isWhole 35 = .ok (.iconst 2, 1) := by decide +kernel
theorem dX2_isWhole_36 : decode cX2_isWhole 36 = .ok (.invokevirtual 24, 3) := by decide +kernel
theorem dX2_isWhole_39 : decode cX2_isWhole 39 = .ok (.if_icmp .ne 7, 3) := by decide +kernel
theorem dX2_isWhole_42 : decode cX2_isWhole 42 = .ok (.iconst 1, 1) := by decide +kernel
theorem dX2_isWhole_43 : decode cX2_isWhole 43 = .ok (.goto 4, 3) := by decide +kernel
theorem dX2_isWhole_46 : decode cX2_isWhole 46 = .ok (.iconst 0, 1) := by decide +kernel
theorem dX2_isWhole_47 : decode cX2_isWhole 47 = .ok (.ireturn, 1) := by decide +kernel
theorem dX2_copyTo_0 : decode cX2_copyTo 0 = .ok (.iload_n 2, 1) := by decide +kernel
theorem dX2_copyTo_1 : decode cX2_copyTo 1 = .ok (.ifCond .lt 24, 3) := by decide +kernel
theorem dX2_copyTo_4 : decode cX2_copyTo 4 = .ok (.iload_n 2, 1) := by decide +kernel
theorem dX2_copyTo_5 : decode cX2_copyTo 5 = .ok (.aload_n 1, 1) := by decide +kernel
theorem dX2_copyTo_6 : decode cX2_copyTo 6 = .ok (.arraylength, 1) := by decide +kernel
theorem dX2_copyTo_7 : decode cX2_copyTo 7 = .ok (.bipush 72, 2) := by decide +kernel
theorem dX2_copyTo_9 : decode cX2_copyTo 9 = .ok (.isub, 1) := by decide +kernel
theorem dX2_copyTo_10 : decode cX2_copyTo 10 = .ok (.if_icmp .gt 15, 3) := by decide +kernel
theorem dX2_copyTo_13 : decode cX2_copyTo 13 = .ok (.aload_n 0, 1) := by decide +kernel
theorem dX2_copyTo_14 : decode cX2_copyTo 14 = .ok (.getfield 9, 3) := by decide +kernel
theorem dX2_copyTo_17 : decode cX2_copyTo 17 = .ok (.iconst 0, 1) := by decide +kernel
theorem dX2_copyTo_18 : decode cX2_copyTo 18 = .ok (.aload_n 1, 1) := by decide +kernel
theorem dX2_copyTo_19 : decode cX2_copyTo 19 = .ok (.iload_n 2, 1) := by decide +kernel
theorem dX2_copyTo_20 : decode cX2_copyTo 20 = .ok (.bipush 72, 2) := by decide +kernel
theorem dX2_copyTo_22 : decode cX2_copyTo 22 = .ok (.invokestatic 18, 3) := by decide +kernel
theorem dX2_copyTo_25 : decode cX2_copyTo 25 = .ok (.return_, 1) := by decide +kernel
theorem dX2_copyFrom_0 : decode cX2_copyFrom 0 = .ok (.iload_n 2, 1) := by decide +kernel
theorem dX2_copyFrom_1 : decode cX2_copyFrom 1 = .ok (.ifCond .lt 24, 3) := by decide +kernel
theorem dX2_copyFrom_4 : decode cX2_copyFrom 4 = .ok (.iload_n 2, 1) := by decide +kernel
theorem dX2_copyFrom_5 : decode cX2_copyFrom 5 = .ok (.aload_n 1, 1) := by decide +kernel
theorem dX2_copyFrom_6 : decode cX2_copyFrom 6 = .ok (.arraylength, 1) := by decide +kernel
theorem dX2_copyFrom_7 : decode cX2_copyFrom 7 = .ok (.bipush 72, 2) := by decide +kernel
theorem dX2_copyFrom_9 : decode cX2_copyFrom 9 = .ok (.isub, 1) := by decide +kernel
theorem dX2_copyFrom_10 : decode cX2_copyFrom 10 = .ok (.if_icmp .gt 15, 3) := by decide +kernel
theorem dX2_copyFrom_13 : decode cX2_copyFrom 13 = .ok (.aload_n 1, 1) := by decide +kernel
theorem dX2_copyFrom_14 : decode cX2_copyFrom 14 = .ok (.iload_n 2, 1) := by decide +kernel
theorem dX2_copyFrom_15 : decode cX2_copyFrom 15 = .ok (.aload_n 0, 1) := by decide +kernel
theorem dX2_copyFrom_16 : decode cX2_copyFrom 16 = .ok (.getfield 9, 3) := by decide +kernel
theorem dX2_copyFrom_19 : decode cX2_copyFrom 19 = .ok (.iconst 0, 1) := by decide +kernel
theorem dX2_copyFrom_20 : decode cX2_copyFrom 20 = .ok (.bipush 72, 2) := by decide +kernel
theorem dX2_copyFrom_22 : decode cX2_copyFrom 22 = .ok (.invokestatic 18, 3) := by decide +kernel
theorem dX2_copyFrom_25 : decode cX2_copyFrom 25 = .ok (.return_, 1) := by decide +kernel
theorem dX3_init_0 : decode cX3_init 0 = .ok (.aload_n 0, 1) := by decide +kernel
theorem dX3_init_1 : decode cX3_init 1 = .ok (.invokespecial 3, 3) := by decide +kernel
theorem dX3_init_4 : decode cX3_init 4 = .ok (.aload_n 0, 1) := by decide +kernel
theorem dX3_init_5 : decode cX3_init 5 = .ok (.bipush 11, 2) := by decide +kernel
theorem dX3_init_7 : decode cX3_init 7 = .ok (.bipush 120, 2) := by decide +kernel
theorem dX3_init_9 : decode cX3_init 9 = .ok (.multianewarray 9 2, 4) := by decide +kernel
theorem dX3_init_13 : decode cX3_init 13 = .ok (.putfield 11, 3) := by decide +kernel
theorem dX3_init_16 : decode cX3_init 16 = .ok (.aload_n 0, 1) := by decide +kernel
theorem dX3_init_17 : decode cX3_init 17 = .ok (.aload_n 1, 1) := by decide +kernel
theorem dX3_init_18 : decode cX3_init 18 = .ok (.putfield 16, 3) := by decide +kernel
theorem dX3_init_21 : decode cX3_init 21 = .ok (.return_, 1) := by decide +kernel
theorem dX3_outdate_0 : decode cX3_outdate 0 = .ok (.aload_n 0, 1) := by decide +kernel
theorem dX3_outdate_1 : decode cX3_outdate 1 = .ok (.iconst 0, 1) := by decide +kernel
theorem dX3_outdate_2 : decode cX3_outdate 2 = .ok (.putfield 20, 3) := by decide +kernel
theorem dX3_outdate_5 : decode cX3_outdate 5 = .ok (.return_, 1) := by decide +kernel
theorem dX3_refresh_0 : decode cX3_refresh 0 = .ok (.aload_n 0, 1) := by decide +kernel
theorem dX3_refresh_1 : decode cX3_refresh 1 = .ok (.getfield 20, 3) := by decide +kernel
theorem dX3_refresh_4 : decode cX3_refresh 4 = .ok (.ifCond .ne 33, 3) := by decide +kernel
theorem dX3_refresh_7 : decode cX3_refresh 7 = .ok (.aload_n 0, 1) := by decide +kernel
theorem dX3_refresh_8 : decode cX3_refresh 8 = .ok (.iconst 1, 1) := by decide +kernel
theorem dX3_refresh_9 : decode cX3_refresh 9 = .ok (.putfield 20, 3) := by decide +kernel
theorem dX3_refresh_12 : decode cX3_refresh 12 = .ok (.aload_n 0, 1) := by decide +kernel
theorem dX3_refresh_13 : decode cX3_refresh 13 = .ok (.invokevirtual 24, 3) := by decide +kernel
theorem dX3_refresh_16 : decode cX3_refresh 16 = .ok (.iconst 0, 1) := by decide +kernel
theorem dX3_refresh_17 : decode cX3_refresh 17 = .ok (.istore_n 1, 1) := by decide +kernel
theorem dX3_refresh_18 : decode cX3_refresh 18 = .ok (.iload_n 1, 1) := by decide +kernel
theorem dX3_refresh_19 : decode cX3_refresh 19 = .ok (.aload_n 0, 1) := by decide +kernel
theorem dX3_refresh_20 : decode cX3_refresh 20 = .ok (.getfield 27, 3) := by decide +kernel
theorem dX3_refresh_23 : decode cX3_refresh 23 = .ok (.if_icmp .ge 14, 3) := by decide +kernel
theorem dX3_refresh_26 : decode cX3_refresh 26 = .ok (.aload_n 0, 1) := by decide +kernel
theorem dX3_refresh_27 : decode cX3_refresh 27 = .ok (.iload_n 1, 1) := by decide +kernel
theorem dX3_refresh_28 : decode cX3_refresh 28 = .ok (.invokevirtual 31, 3) := by decide +kernel
theorem dX3_refresh_31 : decode cX3_refresh 31 = .ok (.iinc 1 1, 3) := by decide +kernel
theorem dX3_refresh_34 : decode cX3_refresh 34 = .ok (.goto (-16), 3) := by decide +kernel
theorem dX3_refresh_37 : decode cX3_refresh 37 = .ok (.return_, 1) := by decide +kernel
theorem dX3_at_0 : decode cX3_at 0 = .ok (.iload_n 2, 1) := by decide +kernel
theorem dX3_at_1 : decode cX3_at 1 = .ok (.ifCond .ge 12, 3) := by decide +kernel
theorem dX3_at_4 : decode cX3_at 4 = .ok (.iload_n 2, 1) := by decide +kernel
theorem dX3_at_5 : decode cX3_at 5 = .ok (.aload_n 0, 1) := by decide +kernel
theorem dX3_at_6 : decode cX3_at 6 = .ok (.getfield 27, 3) := by decide +kernel
theorem dX3_at_9 : decode cX3_at 9 = .ok (.iadd, 1) := by decide +kernel
theorem dX3_at_10 : decode cX3_at 10 = .ok (.goto 21, 3) := by decide +kernel
theorem dX3_at_13 : decode cX3_at 13 = .ok (.iload_n 2, 1) := by decide +kernel
theorem dX3_at_14 : decode cX3_at 14 = .ok (.aload_n 0, 1) := by decide +kernel
theorem dX3_at_15 : decode cX3_at 15 = .ok (.getfield 27, 3) := by decide +kernel
theorem dX3_at_18 : decode cX3_at 18 = .ok (.if_icmp .lt 12, 3) := by decide +kernel
theorem dX3_at_21 : decode cX3_at 21 = .ok (.iload_n 2, 1) := by decide +kernel
theorem dX3_at_22 : decode cX3_at 22 = .ok (.aload_n 0, 1) := by decide +kernel
theorem dX3_at_23 : decode cX3_at 23 = .ok (.getfield 27, 3) := by decide +kernel
theorem dX3_at_26 : decode cX3_at 26 = .ok (.isub, 1) := by decide +kernel
theorem dX3_at_27 : decode cX3_at 27 = .ok (.goto 4, 3) := by decide +kernel
theorem dX3_at_30 : decode cX3_at 30 = .ok (.iload_n 2, 1) := by decide +kernel
theorem dX3_at_31 : decode cX3_at 31 = .ok (.istore_n 3, 1) := by decide +kernel
theorem dX3_at_32 : decode cX3_at 32 = .ok (.iload_n 1, 1) := by decide +kernel
theorem dX3_at_33 : decode cX3_at 33 = .ok (.ifCond .lt 30, 3) := by decide +kernel
theorem dX3_at_36 : decode cX3_at 36 = .ok (.iload_n 1, 1) := by decide +kernel
theorem dX3_at_37 : decode cX3_at 37 = .ok (.bipush 11, 2) := by decide +kernel
theorem dX3_at_39 : decode cX3_at 39 = .ok (.if_icmp .ge 24, 3) := by decide +kernel
theorem dX3_at_42 : decode cX3_at 42 = .ok (.iload_n 3, 1) := by decide +kernel
theorem dX3_at_43 : decode cX3_at 43 = .ok (.ifCond .lt 20, 3) := by decide +kernel
theorem dX3_at_46 : decode cX3_at 46 = .ok (.iload_n 3, 1) := by decide +kernel
theorem dX3_at_47 : decode cX3_at 47 = .ok (.bipush 120, 2) := by decide +kernel
theorem dX3_at_49 : decode cX3_at 49 = .ok (.if_icmp .ge 14, 3) := by decide +kernel
theorem dX3_at_52 : decode cX3_at 52 = .ok (.aload_n 0, 1) := by decide +kernel
theorem dX3_at_53 : decode cX3_at 53 = .ok (.getfield 11, 3) := by decide +kernel
theorem dX3_at_56 : decode cX3_at 56 = .ok (.iload_n 1, 1) := by decide +kernel
theorem dX3_at_57 : decode cX3_at 57 = .ok (.aaload, 1) := by decide +kernel
theorem dX3_at_58 : decode cX3_at 58 = .ok (.iload_n 3, 1) := by decide +kernel
theorem dX3_at_59 : decode cX3_at 59 = .ok (.laload, 1) := by decide +kernel
theorem dX3_at_60 : decode cX3_at 60 = .ok (.goto 4, 3) := by decide +kernel
theorem dX3_at_63 : decode cX3_at 63 = .ok (.lconst 0, 1) := by decide +kernel
theorem dX3_at_64 : decode cX3_at 64 = .ok (.lreturn, 1) := by decide +kernel
theorem dX3_put_0 : decode cX3_put 0 = .ok (.iload_n 1, 1) := by decide +kernel
theorem dX3_put_1 : decode cX3_put 1 = .ok (.ifCond .lt 28, 3) := by decide +kernel
theorem dX3_put_4 : decode cX3_put 4 = .ok (.iload_n 1, 1) := by decide +kernel
theorem dX3_put_5 : decode cX3_put 5 = .ok (.bipush 11, 2) := by decide +kernel
theorem dX3_put_7 : decode cX3_put 7 = .ok (.if_icmp .ge 22, 3) := by decide +kernel
theorem dX3_put_10 : decode cX3_put 10 = .ok (.iload_n 2, 1) := by decide +kernel
theorem dX3_put_11 : decode cX3_put 11 = .ok (.ifCond .lt 18, 3) := by decide +kernel
theorem dX3_put_14 : decode cX3_put 14 = .ok (.iload_n 2, 1) := by decide +kernel
theorem dX3_put_15 : decode cX3_put 15 = .ok (.bipush 120, 2) := by decide +kernel
theorem dX3_put_17 : decode cX3_put 17 = .ok (.if_icmp .ge 12, 3) := by decide +kernel
theorem dX3_put_20 : decode cX3_put 20 = .ok (.aload_n 0, 1) := by decide +kernel
theorem dX3_put_21 : decode cX3_put 21 = .ok (.getfield 11, 3) := by decide +kernel
theorem dX3_put_24 : decode cX3_put 24 = .ok (.iload_n 1, 1) := by decide +kernel
theorem dX3_put_25 : decode cX3_put 25 = .ok (.aaload, 1) := by decide +kernel
theorem dX3_put_26 : decode cX3_put 26 = .ok (.iload_n 2, 1) := by decide +kernel
theorem dX3_put_27 : decode cX3_put 27 = .ok (.lload_n 3, 1) := by decide +kernel
theorem dX3_put_28 : decode cX3_put 28 = .ok (.lastore, 1) := by decide +kernel
theorem dX3_put_29 : decode cX3_put 29 = .ok (.return_, 1) := by decide +kernel
theorem dX3_draw_0 : decode cX3_draw 0 = .ok (.aload_n 0, 1) := by decide +kernel
theorem dX3_draw_1 : decode cX3_draw 1 = .ok (.aload_n 0, 1) := by decide +kernel
theorem dX3_draw_2 : decode cX3_draw 2 = .ok (.getfield 16, 3) := by decide +kernel
theorem dX3_draw_5 : decode cX3_draw 5 = .ok (.iconst 0, 1) := by decide +kernel
theorem dX3_draw_6 : decode cX3_draw 6 = .ok (.invokevirtual 35, 3) := by decide +kernel
theorem dX3_draw_9 : decode cX3_draw 9 = .ok (.putfield 27, 3) := by decide +kernel
theorem dX3_draw_12 : decode cX3_draw 12 = .ok (.iconst 0, 1) := by decide +kernel
theorem dX3_draw_13 : decode cX3_draw 13 = .ok (.istore_n 1, 1) := by decide +kernel
theorem dX3_draw_14 : decode cX3_draw 14 = .ok (.iload_n 1, 1) := by decide +kernel
theorem dX3_draw_15 : decode cX3_draw 15 = .ok (.aload_n 0, 1) := by decide +kernel
theorem dX3_draw_16 : decode cX3_draw 16 = .ok (.getfield 16, 3) := by decide +kernel
theorem dX3_draw_19 : decode cX3_draw 19 = .ok (.iconst 1, 1) := by decide +kernel
theorem dX3_draw_20 : decode cX3_draw 20 = .ok (.invokevirtual 35, 3) := by decide +kernel
theorem dX3_draw_23 : decode cX3_draw 23 = .ok (.if_icmp .ge 26, 3) := by decide +kernel
theorem dX3_draw_26 : decode cX3_draw 26 = .ok (.aload_n 0, 1) := by decide +kernel
theorem dX3_draw_27 : decode cX3_draw 27 = .ok (.aload_n 0, 1) := by decide +kernel
theorem dX3_draw_28 : decode cX3_draw 28 = .ok (.getfield 16, 3) := by decide +kernel
theorem dX3_draw_31 : decode cX3_draw 31 = .ok (.iload_n 1, 1) := by decide +kernel
theorem dX3_draw_32 : decode cX3_draw 32 = .ok (.iconst 2, 1) := by decide +kernel
theorem dX3_draw_33 : decode cX3_draw 33 = .ok (.invokestatic 41, 3) := by decide +kernel
theorem dX3_draw_36 : decode cX3_draw 36 = .ok (.invokevirtual 35, 3) := by decide +kernel
theorem dX3_draw_39 : decode cX3_draw 39 = .ok (.iload_n 1, 1) := by decide +kernel
theorem dX3_draw_40 : decode cX3_draw 40 = .ok (.invokevirtual 45, 3) := by decide +kernel
theorem dX3_draw_43 : decode cX3_draw 43 = .ok (.iinc 1 1, 3) := by decide +kernel
theorem dX3_draw_46 : decode cX3_draw 46 = .ok (.goto (-32), 3) := by decide +kernel
theorem dX3_draw_49 : decode cX3_draw 49 = .ok (.return_, 1) := by decide +kernel
theorem dX3_drawBy_0 : decode cX3_drawBy 0 = .ok (.aload_n 0, 1) := by decide +kernel
theorem dX3_drawBy_1 : decode cX3_drawBy 1 = .ok (.getfield 16, 3) := by decide +kernel
theorem dX3_drawBy_4 : decode cX3_drawBy 4 = .ok (.iload_n 2, 1) := by decide +kernel
theorem dX3_drawBy_5 : decode cX3_drawBy 5 = .ok (.invokevirtual 49, 3) := by decide +kernel
theorem dX3_drawBy_8 : decode cX3_drawBy 8 = .ok (.istore_n 3, 1) := by decide +kernel
theorem dX3_drawBy_9 : decode cX3_drawBy 9 = .ok (.aload_n 0, 1) := by decide +kernel
theorem dX3_drawBy_10 : decode cX3_drawBy 10 = .ok (.getfield 16, 3) := by decide +kernel
theorem dX3_drawBy_13 : decode cX3_drawBy 13 = .ok (.iload_n 2, 1) := by decide +kernel
theorem dX3_drawBy_14 : decode cX3_drawBy 14 = .ok (.iconst 0, 1) := by decide +kernel
theorem dX3_drawBy_15 : decode cX3_drawBy 15 = .ok (.invokestatic 41, 3) := by decide +kernel
theorem dX3_drawBy_18 : decode cX3_drawBy 18 = .ok (.invokevirtual 35, 3) := by decide +kernel
theorem dX3_drawBy_21 : decode cX3_drawBy 21 = .ok (.istore 4, 2) := by decide +kernel
theorem dX3_drawBy_23 : decode cX3_drawBy 23 = .ok (.aload_n 0, 1) := by decide +kernel
theorem dX3_drawBy_24 : decode cX3_drawBy 24 = .ok (.getfield 16, 3) := by decide +kernel
theorem dX3_drawBy_27 : decode cX3_drawBy 27 = .ok (.iload_n 2, 1) := by decide +kernel
theorem dX3_drawBy_28 : decode cX3_drawBy 28 = .ok (.invokevirtual 52, 3) := by decide +kernel
theorem dX3_drawBy_31 : decode cX3_drawBy 31 = .ok (.istore 5, 2) := by decide +kernel
theorem dX3_drawBy_33 : decode cX3_drawBy 33 = .ok (.aload_n 0, 1) := by decide +kernel
theorem dX3_drawBy_34 : decode cX3_drawBy 34 = .ok (.getfield 16, 3) := by decide +kernel
theorem dX3_drawBy_37 : decode cX3_drawBy 37 = .ok (.iload_n 2, 1) := by decide +kernel
theorem dX3_drawBy_38 : decode cX3_drawBy 38 = .ok (.iconst 1, 1) := by decide +kernel
theorem dX3_drawBy_39 : decode cX3_drawBy 39 = .ok (.invokestatic 41, 3) := by decide +kernel
theorem dX3_drawBy_42 : decode cX3_drawBy 42 = .ok (.invokevirtual 35, 3) := by decide +kernel
theorem dX3_drawBy_45 : decode cX3_drawBy 45 = .ok (.iload 5, 2) := by decide +kernel
theorem dX3_drawBy_47 : decode cX3_drawBy 47 = .ok (.isub, 1) := by decide +kernel
theorem dX3_drawBy_48 : decode cX3_drawBy 48 = .ok (.istore 6, 2) := by decide +kernel
theorem dX3_drawBy_50 : decode cX3_drawBy 50 = .ok (.iconst 0, 1) := by decide +kernel
theorem dX3_drawBy_51 : decode cX3_drawBy 51 = .ok (.istore 7, 2) := by decide +kernel
theorem dX3_drawBy_53 : decode cX3_drawBy 53 = .ok (.iload 7, 2) := by decide +kernel
theorem dX3_drawBy_55 : decode cX3_drawBy 55 = .ok (.iload 4, 2) := by decide +kernel
theorem dX3_drawBy_57 : decode cX3_drawBy 57 = .ok (.if_icmp .ge 35, 3) := by decide +kernel
theorem dX3_drawBy_60 : decode cX3_drawBy 60 = .ok (.aload_n 0, 1) := by decide +kernel
theorem dX3_drawBy_61 : decode cX3_drawBy 61 = .ok (.iconst 0, 1) := by decide +kernel
theorem dX3_drawBy_62 : decode cX3_drawBy 62 = .ok (.iload_n 3, 1) := by decide +kernel
theorem dX3_drawBy_63 : decode cX3_drawBy 63 = .ok (.iload 7, 2) := by decide +kernel
theorem dX3_drawBy_65 : decode cX3_drawBy 65 = .ok (.iadd, 1) := by decide +kernel
theorem dX3_drawBy_66 : decode cX3_drawBy 66 = .ok (.iload 5, 2) := by decide +kernel
theorem dX3_drawBy_68 : decode cX3_drawBy 68 = .ok (.i2l, 1) := by decide +kernel
theorem dX3_drawBy_69 : decode cX3_drawBy 69 = .ok (.iload_n 1, 1) := by decide +kernel
theorem dX3_drawBy_70 : decode cX3_drawBy 70 = .ok (.iload 6, 2) := by decide +kernel
theorem dX3_drawBy_72 : decode cX3_drawBy 72 = .ok (.i2l, 1) := by decide +kernel
theorem dX3_drawBy_73 : decode cX3_drawBy 73 = .ok (.iload 7, 2) := by decide +kernel
theorem dX3_drawBy_75 : decode cX3_drawBy 75 = .ok (.i2l, 1) := by decide +kernel
theorem dX3_drawBy_76 : decode cX3_drawBy 76 = .ok (.iload 4, 2) := by decide +kernel
theorem dX3_drawBy_78 : decode cX3_drawBy 78 = .ok (.i2l, 1) := by decide +kernel
theorem dX3_drawBy_79 : decode cX3_drawBy 79 = .ok (.invokestatic 55, 3) := by decide +kernel
theorem dX3_drawBy_82 : decode cX3_drawBy 82 = .ok (.ladd, 1) := by decide +kernel
theorem dX3_drawBy_83 : decode cX3_drawBy 83 = .ok (.invokevirtual 59, 3) := by decide +kernel
theorem dX3_drawBy_86 : decode cX3_drawBy 86 = .ok (.iinc 7 1, 3) := by decide +kernel
theorem dX3_drawBy_89 : decode cX3_drawBy 89 = .ok (.goto (-36), 3) := by decide +kernel
theorem dX3_drawBy_92 : decode cX3_drawBy 92 = .ok (.return_, 1) := by decide +kernel
theorem dX3_riseBy_0 : decode cX3_riseBy 0 = .ok (.lload_n 3, 1) := by decide +kernel
theorem dX3_riseBy_1 : decode cX3_riseBy 1 = .ok (.lstore 7, 2) := by decide +kernel
theorem dX3_riseBy_3 : decode cX3_riseBy 3 = .ok (.lload 5, 2) := by decide +kernel
theorem dX3_riseBy_5 : decode cX3_riseBy 5 = .ok (.lstore 9, 2) := by decide +kernel
theorem dX3_riseBy_7 : decode cX3_riseBy 7 = .ok (.iload_n 0, 1) := by decide +kernel
theorem dX3_riseBy_8 : decode cX3_riseBy 8 = .ok (.tableswitch 210 1 3 #[28, 77, 130], 28) := by decide +kernel
theorem dX3_riseBy_36 : decode cX3_riseBy 36 = .ok (.lload 5, 2) := by decide +kernel
theorem dX3_riseBy_38 : decode cX3_riseBy 38 = .ok (.lload 5, 2) := by decide +kernel
theorem dX3_riseBy_40 : decode cX3_riseBy 40 = .ok (.lmul, 1) := by decide +kernel
theorem dX3_riseBy_41 : decode cX3_riseBy 41 = .ok (.lstore 9, 2) := by decide +kernel
theorem dX3_riseBy_43 : decode cX3_riseBy 43 = .ok (.ldc2_w 63, 3) := by decide +kernel
theorem dX3_riseBy_46 : decode cX3_riseBy 46 = .ok (.lload_n 3, 1) := by decide +kernel
theorem dX3_riseBy_47 : decode cX3_riseBy 47 = .ok (.lmul, 1) := by decide +kernel
theorem dX3_riseBy_48 : decode cX3_riseBy 48 = .ok (.lload 5, 2) := by decide +kernel
theorem dX3_riseBy_50 : decode cX3_riseBy 50 = .ok (.lcmp, 1) := by decide +kernel
theorem dX3_riseBy_51 : decode cX3_riseBy 51 = .ok (.ifCond .gt 13, 3) := by decide +kernel
theorem dX3_riseBy_54 : decode cX3_riseBy 54 = .ok (.ldc2_w 63, 3) := by decide +kernel
theorem dX3_riseBy_57 : decode cX3_riseBy 57 = .ok (.lload_n 3, 1) := by decide +kernel
theorem dX3_riseBy_58 : decode cX3_riseBy 58 = .ok (.lmul, 1) := by decide +kernel
theorem dX3_riseBy_59 : decode cX3_riseBy 59 = .ok (.lload_n 3, 1) := by decide +kernel
theorem dX3_riseBy_60 : decode cX3_riseBy 60 = .ok (.lmul, 1) := by decide +kernel
theorem dX3_riseBy_61 : decode cX3_riseBy 61 = .ok (.goto 19, 3) := by decide +kernel
theorem dX3_riseBy_64 : decode cX3_riseBy 64 = .ok (.lload 9, 2) := by decide +kernel
theorem dX3_riseBy_66 : decode cX3_riseBy 66 = .ok (.ldc2_w 63, 3) := by decide +kernel
theorem dX3_riseBy_69 : decode cX3_riseBy 69 = .ok (.lload 5, 2) := by decide +kernel
theorem dX3_riseBy_71 : decode cX3_riseBy 71 = .ok (.lload_n 3, 1) := by decide +kernel
theorem dX3_riseBy_72 : decode cX3_riseBy 72 = .ok (.lsub, 1) := by decide +kernel
theorem dX3_riseBy_73 : decode cX3_riseBy 73 = .ok (.lmul, 1) := by decide +kernel
theorem dX3_riseBy_74 : decode cX3_riseBy 74 = .ok (.lload 5, 2) := by decide +kernel
theorem dX3_riseBy_76 : decode cX3_riseBy 76 = .ok (.lload_n 3, 1) := by decide +kernel
theorem dX3_riseBy_77 : decode cX3_riseBy 77 = .ok (.lsub, 1) := by decide +kernel
theorem dX3_riseBy_78 : decode cX3_riseBy 78 = .ok (.lmul, 1) := by decide +kernel
theorem dX3_riseBy_79 : decode cX3_riseBy 79 = .ok (.lsub, 1) := by decide +kernel
theorem dX3_riseBy_80 : decode cX3_riseBy 80 = .ok (.lstore 7, 2) := by decide +kernel
theorem dX3_riseBy_82 : decode cX3_riseBy 82 = .ok (.goto 136, 3) := by decide +kernel
theorem dX3_riseBy_85 : decode cX3_riseBy 85 = .ok (.lload 5, 2) := by decide +kernel
theorem dX3_riseBy_87 : decode cX3_riseBy 87 = .ok (.lload 5, 2) := by decide +kernel
theorem dX3_riseBy_89 : decode cX3_riseBy 89 = .ok (.lmul, 1) := by decide +kernel
theorem dX3_riseBy_90 : decode cX3_riseBy 90 = .ok (.lload 5, 2) := by decide +kernel
theorem dX3_riseBy_92 : decode cX3_riseBy 92 = .ok (.lmul, 1) := by decide +kernel
theorem dX3_riseBy_93 : decode cX3_riseBy 93 = .ok (.lload 5, 2) := by decide +kernel
theorem dX3_riseBy_95 : decode cX3_riseBy 95 = .ok (.lmul, 1) := by decide +kernel
theorem dX3_riseBy_96 : decode cX3_riseBy 96 = .ok (.lload 5, 2) := by decide +kernel
theorem dX3_riseBy_98 : decode cX3_riseBy 98 = .ok (.lmul, 1) := by decide +kernel
theorem dX3_riseBy_99 : decode cX3_riseBy 99 = .ok (.lstore 9, 2) := by decide +kernel
theorem dX3_riseBy_101 : decode cX3_riseBy 101 = .ok (.lload_n 3, 1) := by decide +kernel
theorem dX3_riseBy_102 : decode cX3_riseBy 102 = .ok (.lload_n 3, 1) := by decide +kernel
theorem dX3_riseBy_103 : decode cX3_riseBy 103 = .ok (.lmul, 1) := by decide +kernel
theorem dX3_riseBy_104 : decode cX3_riseBy 104 = .ok (.lload_n 3, 1) := by decide +kernel
theorem dX3_riseBy_105 : decode cX3_riseBy 105 = .ok (.lmul, 1) := by decide +kernel
theorem dX3_riseBy_106 : decode cX3_riseBy 106 = .ok (.ldc2_w 65, 3) := by decide +kernel
theorem dX3_riseBy_109 : decode cX3_riseBy 109 = .ok (.lload 5, 2) := by decide +kernel
theorem dX3_riseBy_111 : decode cX3_riseBy 111 = .ok (.lmul, 1) := by decide +kernel
theorem dX3_riseBy_112 : decode cX3_riseBy 112 = .ok (.lload 5, 2) := by decide +kernel
theorem dX3_riseBy_114 : decode cX3_riseBy 114 = .ok (.lmul, 1) := by decide +kernel
theorem dX3_riseBy_115 : decode cX3_riseBy 115 = .ok (.ldc2_w 67, 3) := by decide +kernel
theorem dX3_riseBy_118 : decode cX3_riseBy 118 = .ok (.lload_n 3, 1) := by decide +kernel
theorem dX3_riseBy_119 : decode cX3_riseBy 119 = .ok (.lmul, 1) := by decide +kernel
theorem dX3_riseBy_120 : decode cX3_riseBy 120 = .ok (.lload 5, 2) := by decide +kernel
theorem dX3_riseBy_122 : decode cX3_riseBy 122 = .ok (.lmul, 1) := by decide +kernel
theorem dX3_riseBy_123 : decode cX3_riseBy 123 = .ok (.lsub, 1) := by decide +kernel
theorem dX3_riseBy_124 : decode cX3_riseBy 124 = .ok (.ldc2_w 69, 3) := by decide +kernel
theorem dX3_riseBy_127 : decode cX3_riseBy 127 = .ok (.lload_n 3, 1) := by decide +kernel
theorem dX3_riseBy_128 : decode cX3_riseBy 128 = .ok (.lmul, 1) := by decide +kernel
theorem dX3_riseBy_129 : decode cX3_riseBy 129 = .ok (.lload_n 3, 1) := by decide +kernel
theorem dX3_riseBy_130 : decode cX3_riseBy 130 = .ok (.lmul, 1) := by decide +kernel
theorem dX3_riseBy_131 : decode cX3_riseBy 131 = .ok (.ladd, 1) := by decide +kernel
theorem dX3_riseBy_132 : decode cX3_riseBy 132 = .ok (.lmul, 1) := by decide +kernel
theorem dX3_riseBy_133 : decode cX3_riseBy 133 = .ok (.lstore 7, 2) := by decide +kernel
theorem dX3_riseBy_135 : decode cX3_riseBy 135 = .ok (.goto 83, 3) := by decide +kernel
theorem dX3_riseBy_138 : decode cX3_riseBy 138 = .ok (.lload 5, 2) := by decide +kernel
theorem dX3_riseBy_140 : decode cX3_riseBy 140 = .ok (.lload 5, 2) := by decide +kernel
theorem dX3_riseBy_142 : decode cX3_riseBy 142 = .ok (.lmul, 1) := by decide +kernel
theorem dX3_riseBy_143 : decode cX3_riseBy 143 = .ok (.lload 5, 2) := by decide +kernel
theorem dX3_riseBy_145 : decode cX3_riseBy 145 = .ok (.lmul, 1) := by decide +kernel
theorem dX3_riseBy_146 : decode cX3_riseBy 146 = .ok (.lload 5, 2) := by decide +kernel
theorem dX3_riseBy_148 : decode cX3_riseBy 148 = .ok (.lmul, 1) := by decide +kernel
theorem dX3_riseBy_149 : decode cX3_riseBy 149 = .ok (.lload 5, 2) := by decide +kernel
theorem dX3_riseBy_151 : decode cX3_riseBy 151 = .ok (.lmul, 1) := by decide +kernel
theorem dX3_riseBy_152 : decode cX3_riseBy 152 = .ok (.lload 5, 2) := by decide +kernel
theorem dX3_riseBy_154 : decode cX3_riseBy 154 = .ok (.lmul, 1) := by decide +kernel
theorem dX3_riseBy_155 : decode cX3_riseBy 155 = .ok (.lload 5, 2) := by decide +kernel
theorem dX3_riseBy_157 : decode cX3_riseBy 157 = .ok (.lmul, 1) := by decide +kernel
theorem dX3_riseBy_158 : decode cX3_riseBy 158 = .ok (.lstore 9, 2) := by decide +kernel
theorem dX3_riseBy_160 : decode cX3_riseBy 160 = .ok (.lload_n 3, 1) := by decide +kernel
theorem dX3_riseBy_161 : decode cX3_riseBy 161 = .ok (.lload_n 3, 1) := by decide +kernel
theorem dX3_riseBy_162 : decode cX3_riseBy 162 = .ok (.lmul, 1) := by decide +kernel
theorem dX3_riseBy_163 : decode cX3_riseBy 163 = .ok (.lload_n 3, 1) := by decide +kernel
theorem dX3_riseBy_164 : decode cX3_riseBy 164 = .ok (.lmul, 1) := by decide +kernel
theorem dX3_riseBy_165 : decode cX3_riseBy 165 = .ok (.lload_n 3, 1) := by decide +kernel
theorem dX3_riseBy_166 : decode cX3_riseBy 166 = .ok (.lmul, 1) := by decide +kernel
theorem dX3_riseBy_167 : decode cX3_riseBy 167 = .ok (.ldc2_w 71, 3) := by decide +kernel
theorem dX3_riseBy_170 : decode cX3_riseBy 170 = .ok (.lload 5, 2) := by decide +kernel
theorem dX3_riseBy_172 : decode cX3_riseBy 172 = .ok (.lmul, 1) := by decide +kernel
theorem dX3_riseBy_173 : decode cX3_riseBy 173 = .ok (.lload 5, 2) := by decide +kernel
theorem dX3_riseBy_175 : decode cX3_riseBy 175 = .ok (.lmul, 1) := by decide +kernel
theorem dX3_riseBy_176 : decode cX3_riseBy 176 = .ok (.lload 5, 2) := by decide +kernel
theorem dX3_riseBy_178 : decode cX3_riseBy 178 = .ok (.lmul, 1) := by decide +kernel
theorem dX3_riseBy_179 : decode cX3_riseBy 179 = .ok (.ldc2_w 73, 3) := by decide +kernel
theorem dX3_riseBy_182 : decode cX3_riseBy 182 = .ok (.lload_n 3, 1) := by decide +kernel
theorem dX3_riseBy_183 : decode cX3_riseBy 183 = .ok (.lmul, 1) := by decide +kernel
theorem dX3_riseBy_184 : decode cX3_riseBy 184 = .ok (.lload 5, 2) := by decide +kernel
theorem dX3_riseBy_186 : decode cX3_riseBy 186 = .ok (.lmul, 1) := by decide +kernel
theorem dX3_riseBy_187 : decode cX3_riseBy 187 = .ok (.lload 5, 2) := by decide +kernel
theorem dX3_riseBy_189 : decode cX3_riseBy 189 = .ok (.lmul, 1) := by decide +kernel
theorem dX3_riseBy_190 : decode cX3_riseBy 190 = .ok (.lsub, 1) := by decide +kernel
theorem dX3_riseBy_191 : decode cX3_riseBy 191 = .ok (.ldc2_w 75, 3) := by decide +kernel
theorem dX3_riseBy_194 : decode cX3_riseBy 194 = .ok (.lload_n 3, 1) := by decide +kernel
theorem dX3_riseBy_195 : decode cX3_riseBy 195 = .ok (.lmul, 1) := by decide +kernel
theorem dX3_riseBy_196 : decode cX3_riseBy 196 = .ok (.lload_n 3, 1) := by decide +kernel
theorem dX3_riseBy_197 : decode cX3_riseBy 197 = .ok (.lmul, 1) := by decide +kernel
theorem dX3_riseBy_198 : decode cX3_riseBy 198 = .ok (.lload 5, 2) := by decide +kernel
theorem dX3_riseBy_200 : decode cX3_riseBy 200 = .ok (.lmul, 1) := by decide +kernel
theorem dX3_riseBy_201 : decode cX3_riseBy 201 = .ok (.ladd, 1) := by decide +kernel
theorem dX3_riseBy_202 : decode cX3_riseBy 202 = .ok (.ldc2_w 77, 3) := by decide +kernel
theorem dX3_riseBy_205 : decode cX3_riseBy 205 = .ok (.lload_n 3, 1) := by decide +kernel
theorem dX3_riseBy_206 : decode cX3_riseBy 206 = .ok (.lmul, 1) := by decide +kernel
theorem dX3_riseBy_207 : decode cX3_riseBy 207 = .ok (.lload_n 3, 1) := by decide +kernel
theorem dX3_riseBy_208 : decode cX3_riseBy 208 = .ok (.lmul, 1) := by decide +kernel
theorem dX3_riseBy_209 : decode cX3_riseBy 209 = .ok (.lload_n 3, 1) := by decide +kernel
theorem dX3_riseBy_210 : decode cX3_riseBy 210 = .ok (.lmul, 1) := by decide +kernel
theorem dX3_riseBy_211 : decode cX3_riseBy 211 = .ok (.lsub, 1) := by decide +kernel
theorem dX3_riseBy_212 : decode cX3_riseBy 212 = .ok (.lmul, 1) := by decide +kernel
theorem dX3_riseBy_213 : decode cX3_riseBy 213 = .ok (.lstore 7, 2) := by decide +kernel
theorem dX3_riseBy_215 : decode cX3_riseBy 215 = .ok (.goto 3, 3) := by decide +kernel
theorem dX3_riseBy_218 : decode cX3_riseBy 218 = .ok (.lload 9, 2) := by decide +kernel
theorem dX3_riseBy_220 : decode cX3_riseBy 220 = .ok (.lconst 0, 1) := by decide +kernel
theorem dX3_riseBy_221 : decode cX3_riseBy 221 = .ok (.lcmp, 1) := by decide +kernel
theorem dX3_riseBy_222 : decode cX3_riseBy 222 = .ok (.ifCond .le 26, 3) := by decide +kernel
theorem dX3_riseBy_225 : decode cX3_riseBy 225 = .ok (.ldc2_w 63, 3) := by decide +kernel
theorem dX3_riseBy_228 : decode cX3_riseBy 228 = .ok (.lload_n 1, 1) := by decide +kernel
theorem dX3_riseBy_229 : decode cX3_riseBy 229 = .ok (.lmul, 1) := by decide +kernel
theorem dX3_riseBy_230 : decode cX3_riseBy 230 = .ok (.lload 7, 2) := by decide +kernel
theorem dX3_riseBy_232 : decode cX3_riseBy 232 = .ok (.lmul, 1) := by decide +kernel
theorem dX3_riseBy_233 : decode cX3_riseBy 233 = .ok (.lload 9, 2) := by decide +kernel
theorem dX3_riseBy_235 : decode cX3_riseBy 235 = .ok (.ladd, 1) := by decide +kernel
theorem dX3_riseBy_236 : decode cX3_riseBy 236 = .ok (.ldc2_w 63, 3) := by decide +kernel
theorem dX3_riseBy_239 : decode cX3_riseBy 239 = .ok (.lload 9, 2) := by decide +kernel
theorem dX3_riseBy_241 : decode cX3_riseBy 241 = .ok (.lmul, 1) := by decide +kernel
theorem dX3_riseBy_242 : decode cX3_riseBy 242 = .ok (.invokestatic 79, 3) := by decide +kernel
theorem dX3_riseBy_245 : decode cX3_riseBy 245 = .ok (.goto 4, 3) := by decide +kernel
theorem dX3_riseBy_248 : decode cX3_riseBy 248 = .ok (.lconst 0, 1) := by decide +kernel
theorem dX3_riseBy_249 : decode cX3_riseBy 249 = .ok (.lreturn, 1) := by decide +kernel
theorem dX3_measure_0 : decode cX3_measure 0 = .ok (.aload_n 0, 1) := by decide +kernel
theorem dX3_measure_1 : decode cX3_measure 1 = .ok (.iconst 0, 1) := by decide +kernel
theorem dX3_measure_2 : decode cX3_measure 2 = .ok (.iload_n 1, 1) := by decide +kernel
theorem dX3_measure_3 : decode cX3_measure 3 = .ok (.invokevirtual 85, 3) := by decide +kernel
theorem dX3_measure_6 : decode cX3_measure 6 = .ok (.lstore_n 2, 1) := by decide +kernel
theorem dX3_measure_7 : decode cX3_measure 7 = .ok (.aload_n 0, 1) := by decide +kernel
theorem dX3_measure_8 : decode cX3_measure 8 = .ok (.iconst 0, 1) := by decide +kernel
theorem dX3_measure_9 : decode cX3_measure 9 = .ok (.iload_n 1, 1) := by decide +kernel
theorem dX3_measure_10 : decode cX3_measure 10 = .ok (.iconst 1, 1) := by decide +kernel
theorem dX3_measure_11 : decode cX3_measure 11 = .ok (.isub, 1) := by decide +kernel
theorem dX3_measure_12 : decode cX3_measure 12 = .ok (.invokevirtual 85, 3) := by decide +kernel
theorem dX3_measure_15 : decode cX3_measure 15 = .ok (.lstore 4, 2) := by decide +kernel
theorem dX3_measure_17 : decode cX3_measure 17 = .ok (.aload_n 0, 1) := by decide +kernel
theorem dX3_measure_18 : decode cX3_measure 18 = .ok (.iconst 0, 1) := by decide +kernel
theorem dX3_measure_19 : decode cX3_measure 19 = .ok (.iload_n 1, 1) := by decide +kernel
theorem dX3_measure_20 : decode cX3_measure 20 = .ok (.iconst 1, 1) := by decide +kernel
theorem dX3_measure_21 : decode cX3_measure 21 = .ok (.iadd, 1) := by decide +kernel
theorem dX3_measure_22 : decode cX3_measure 22 = .ok (.invokevirtual 85, 3) := by decide +kernel
theorem dX3_measure_25 : decode cX3_measure 25 = .ok (.lstore 6, 2) := by decide +kernel
theorem dX3_measure_27 : decode cX3_measure 27 = .ok (.lload 6, 2) := by decide +kernel
theorem dX3_measure_29 : decode cX3_measure 29 = .ok (.ldc2_w 63, 3) := by decide +kernel
theorem dX3_measure_32 : decode cX3_measure 32 = .ok (.lload_n 2, 1) := by decide +kernel
theorem dX3_measure_33 : decode cX3_measure 33 = .ok (.lmul, 1) := by decide +kernel
theorem dX3_measure_34 : decode cX3_measure 34 = .ok (.lsub, 1) := by decide +kernel
theorem dX3_measure_35 : decode cX3_measure 35 = .ok (.lload 4, 2) := by decide +kernel
theorem dX3_measure_37 : decode cX3_measure 37 = .ok (.ladd, 1) := by decide +kernel
theorem dX3_measure_38 : decode cX3_measure 38 = .ok (.lstore 8, 2) := by decide +kernel
theorem dX3_measure_40 : decode cX3_measure 40 = .ok (.aload_n 0, 1) := by decide +kernel
theorem dX3_measure_41 : decode cX3_measure 41 = .ok (.iconst 0, 1) := by decide +kernel
theorem dX3_measure_42 : decode cX3_measure 42 = .ok (.iload_n 1, 1) := by decide +kernel
theorem dX3_measure_43 : decode cX3_measure 43 = .ok (.iconst 2, 1) := by decide +kernel
theorem dX3_measure_44 : decode cX3_measure 44 = .ok (.iadd, 1) := by decide +kernel
theorem dX3_measure_45 : decode cX3_measure 45 = .ok (.invokevirtual 85, 3) := by decide +kernel
theorem dX3_measure_48 : decode cX3_measure 48 = .ok (.ldc2_w 63, 3) := by decide +kernel
theorem dX3_measure_51 : decode cX3_measure 51 = .ok (.lload 6, 2) := by decide +kernel
theorem dX3_measure_53 : decode cX3_measure 53 = .ok (.lmul, 1) := by decide +kernel
theorem dX3_measure_54 : decode cX3_measure 54 = .ok (.lsub, 1) := by decide +kernel
theorem dX3_measure_55 : decode cX3_measure 55 = .ok (.lload_n 2, 1) := by decide +kernel
theorem dX3_measure_56 : decode cX3_measure 56 = .ok (.ladd, 1) := by decide +kernel
theorem dX3_measure_57 : decode cX3_measure 57 = .ok (.lstore 10, 2) := by decide +kernel
theorem dX3_measure_59 : decode cX3_measure 59 = .ok (.aload_n 0, 1) := by decide +kernel
theorem dX3_measure_60 : decode cX3_measure 60 = .ok (.iconst 1, 1) := by decide +kernel
theorem dX3_measure_61 : decode cX3_measure 61 = .ok (.iload_n 1, 1) := by decide +kernel
theorem dX3_measure_62 : decode cX3_measure 62 = .ok (.lload 6, 2) := by decide +kernel
theorem dX3_measure_64 : decode cX3_measure 64 = .ok (.lload_n 2, 1) := by decide +kernel
theorem dX3_measure_65 : decode cX3_measure 65 = .ok (.lsub, 1) := by decide +kernel
theorem dX3_measure_66 : decode cX3_measure 66 = .ok (.invokevirtual 59, 3) := by decide +kernel
theorem dX3_measure_69 : decode cX3_measure 69 = .ok (.aload_n 0, 1) := by decide +kernel
theorem dX3_measure_70 : decode cX3_measure 70 = .ok (.iconst 2, 1) := by decide +kernel
theorem dX3_measure_71 : decode cX3_measure 71 = .ok (.iload_n 1, 1) := by decide +kernel
theorem dX3_measure_72 : decode cX3_measure 72 = .ok (.lload 8, 2) := by decide +kernel
theorem dX3_measure_74 : decode cX3_measure 74 = .ok (.invokevirtual 59, 3) := by decide +kernel
theorem dX3_measure_77 : decode cX3_measure 77 = .ok (.aload_n 0, 1) := by decide +kernel
theorem dX3_measure_78 : decode cX3_measure 78 = .ok (.iconst 3, 1) := by decide +kernel
theorem dX3_measure_79 : decode cX3_measure 79 = .ok (.iload_n 1, 1) := by decide +kernel
theorem dX3_measure_80 : decode cX3_measure 80 = .ok (.lload 10, 2) := by decide +kernel
theorem dX3_measure_82 : decode cX3_measure 82 = .ok (.lload 8, 2) := by decide +kernel
theorem dX3_measure_84 : decode cX3_measure 84 = .ok (.lsub, 1) := by decide +kernel
theorem dX3_measure_85 : decode cX3_measure 85 = .ok (.invokevirtual 59, 3) := by decide +kernel
theorem dX3_measure_88 : decode cX3_measure 88 = .ok (.lload 6, 2) := by decide +kernel
theorem dX3_measure_90 : decode cX3_measure 90 = .ok (.lload 4, 2) := by decide +kernel
theorem dX3_measure_92 : decode cX3_measure 92 = .ok (.lsub, 1) := by decide +kernel
theorem dX3_measure_93 : decode cX3_measure 93 = .ok (.ldc2_w 89, 3) := by decide +kernel
theorem dX3_measure_96 : decode cX3_measure 96 = .ok (.lmul, 1) := by decide +kernel
theorem dX3_measure_97 : decode cX3_measure 97 = .ok (.aload_n 0, 1) := by decide +kernel
theorem dX3_measure_98 : decode cX3_measure 98 = .ok (.getfield 27, 3) := by decide +kernel
theorem dX3_measure_101 : decode cX3_measure 101 = .ok (.i2l, 1) := by decide +kernel
theorem dX3_measure_102 : decode cX3_measure 102 = .ok (.lmul, 1) := by decide +kernel
theorem dX3_measure_103 : decode cX3_measure 103 = .ok (.ldc2_w 91, 3) := by decide +kernel
theorem dX3_measure_106 : decode cX3_measure 106 = .ok (.invokestatic 79, 3) := by decide +kernel
theorem dX3_measure_109 : decode cX3_measure 109 = .ok (.lstore 12, 2) := by decide +kernel
theorem dX3_measure_111 : decode cX3_measure 111 = .ok (.lload 8, 2) := by decide +kernel
theorem dX3_measure_113 : decode cX3_measure 113 = .ok (.ldc2_w 93, 3) := by decide +kernel
theorem dX3_measure_116 : decode cX3_measure 116 = .ok (.lmul, 1) := by decide +kernel
theorem dX3_measure_117 : decode cX3_measure 117 = .ok (.aload_n 0, 1) := by decide +kernel
theorem dX3_measure_118 : decode cX3_measure 118 = .ok (.getfield 27, 3) := by decide +kernel
theorem dX3_measure_121 : decode cX3_measure 121 = .ok (.i2l, 1) := by decide +kernel
theorem dX3_measure_122 : decode cX3_measure 122 = .ok (.lmul, 1) := by decide +kernel
theorem dX3_measure_123 : decode cX3_measure 123 = .ok (.aload_n 0, 1) := by decide +kernel
theorem dX3_measure_124 : decode cX3_measure 124 = .ok (.getfield 27, 3) := by decide +kernel
theorem dX3_measure_127 : decode cX3_measure 127 = .ok (.i2l, 1) := by decide +kernel
theorem dX3_measure_128 : decode cX3_measure 128 = .ok (.lmul, 1) := by decide +kernel
theorem dX3_measure_129 : decode cX3_measure 129 = .ok (.ldc2_w 95, 3) := by decide +kernel
theorem dX3_measure_132 : decode cX3_measure 132 = .ok (.invokestatic 79, 3) := by decide +kernel
theorem dX3_measure_135 : decode cX3_measure 135 = .ok (.lstore 14, 2) := by decide +kernel
theorem dX3_measure_137 : decode cX3_measure 137 = .ok (.aload_n 0, 1) := by decide +kernel
theorem dX3_measure_138 : decode cX3_measure 138 = .ok (.iconst 5, 1) := by decide +kernel
theorem dX3_measure_139 : decode cX3_measure 139 = .ok (.iload_n 1, 1) := by decide +kernel
theorem dX3_measure_140 : decode cX3_measure 140 = .ok (.lload 12, 2) := by decide +kernel
theorem dX3_measure_142 : decode cX3_measure 142 = .ok (.invokevirtual 59, 3) := by decide +kernel
theorem dX3_measure_145 : decode cX3_measure 145 = .ok (.aload_n 0, 1) := by decide +kernel
theorem dX3_measure_146 : decode cX3_measure 146 = .ok (.bipush 6, 2) := by decide +kernel
theorem dX3_measure_148 : decode cX3_measure 148 = .ok (.iload_n 1, 1) := by decide +kernel
theorem dX3_measure_149 : decode cX3_measure 149 = .ok (.lload 14, 2) := by decide +kernel
theorem dX3_measure_151 : decode cX3_measure 151 = .ok (.invokevirtual 59, 3) := by decide +kernel
theorem dX3_measure_154 : decode cX3_measure 154 = .ok (.aload_n 0, 1) := by decide +kernel
theorem dX3_measure_155 : decode cX3_measure 155 = .ok (.iload_n 1, 1) := by decide +kernel
theorem dX3_measure_156 : decode cX3_measure 156 = .ok (.lload 12, 2) := by decide +kernel
theorem dX3_measure_158 : decode cX3_measure 158 = .ok (.lload 14, 2) := by decide +kernel
theorem dX3_measure_160 : decode cX3_measure 160 = .ok (.invokevirtual 97, 3) := by decide +kernel
theorem dX3_measure_163 : decode cX3_measure 163 = .ok (.aload_n 0, 1) := by decide +kernel
theorem dX3_measure_164 : decode cX3_measure 164 = .ok (.getfield 16, 3) := by decide +kernel
theorem dX3_measure_167 : decode cX3_measure 167 = .ok (.bipush 8, 2) := by decide +kernel
theorem dX3_measure_169 : decode cX3_measure 169 = .ok (.invokevirtual 35, 3) := by decide +kernel
theorem dX3_measure_172 : decode cX3_measure 172 = .ok (.i2l, 1) := by decide +kernel
theorem dX3_measure_173 : decode cX3_measure 173 = .ok (.lstore 16, 2) := by decide +kernel
theorem dX3_measure_175 : decode cX3_measure 175 = .ok (.aload_n 0, 1) := by decide +kernel
theorem dX3_measure_176 : decode cX3_measure 176 = .ok (.bipush 10, 2) := by decide +kernel
theorem dX3_measure_178 : decode cX3_measure 178 = .ok (.iload_n 1, 1) := by decide +kernel
theorem dX3_measure_179 : decode cX3_measure 179 = .ok (.aload_n 0, 1) := by decide +kernel
theorem dX3_measure_180 : decode cX3_measure 180 = .ok (.iload_n 1, 1) := by decide +kernel
theorem dX3_measure_181 : decode cX3_measure 181 = .ok (.invokevirtual 101, 3) := by decide +kernel
theorem dX3_measure_184 : decode cX3_measure 184 = .ok (.aload_n 0, 1) := by decide +kernel
theorem dX3_measure_185 : decode cX3_measure 185 = .ok (.getfield 16, 3) := by decide +kernel
theorem dX3_measure_188 : decode cX3_measure 188 = .ok (.bipush 7, 2) := by decide +kernel
theorem dX3_measure_190 : decode cX3_measure 190 = .ok (.invokevirtual 35, 3) := by decide +kernel
theorem dX3_measure_193 : decode cX3_measure 193 = .ok (.i2l, 1) := by decide +kernel
theorem dX3_measure_194 : decode cX3_measure 194 = .ok (.lload 16, 2) := by decide +kernel
theorem dX3_measure_196 : decode cX3_measure 196 = .ok (.lmul, 1) := by decide +kernel
theorem dX3_measure_197 : decode cX3_measure 197 = .ok (.lload 16, 2) := by decide +kernel
theorem dX3_measure_199 : decode cX3_measure 199 = .ok (.lmul, 1) := by decide +kernel
theorem dX3_measure_200 : decode cX3_measure 200 = .ok (.lload 8, 2) := by decide +kernel
theorem dX3_measure_202 : decode cX3_measure 202 = .ok (.lmul, 1) := by decide +kernel
theorem dX3_measure_203 : decode cX3_measure 203 = .ok (.ldc2_w 105, 3) := by decide +kernel
theorem dX3_measure_206 : decode cX3_measure 206 = .ok (.invokestatic 79, 3) := by decide +kernel
theorem dX3_measure_209 : decode cX3_measure 209 = .ok (.ladd, 1) := by decide +kernel
theorem dX3_measure_210 : decode cX3_measure 210 = .ok (.invokevirtual 59, 3) := by decide +kernel
theorem dX3_measure_213 : decode cX3_measure 213 = .ok (.return_, 1) := by decide +kernel
theorem dX3_measureRoller_0 : decode cX3_measureRoller 0 = .ok (.aload_n 0, 1) := by decide +kernel
theorem dX3_measureRoller_1 : decode cX3_measureRoller 1 = .ok (.getfield 16, 3) := by decide +kernel
theorem dX3_measureRoller_4 : decode cX3_measureRoller 4 = .ok (.iconst 4, 1) := by decide +kernel
theorem dX3_measureRoller_5 : decode cX3_measureRoller 5 = .ok (.invokevirtual 35, 3) := by decide +kernel
theorem dX3_measureRoller_8 : decode cX3_measureRoller 8 = .ok (.istore 6, 2) := by decide +kernel
theorem dX3_measureRoller_10 : decode cX3_measureRoller 10 = .ok (.aload_n 0, 1) := by decide +kernel
theorem dX3_measureRoller_11 : decode cX3_measureRoller 11 = .ok (.getfield 16, 3) := by decide +kernel
theorem dX3_measureRoller_14 : decode cX3_measureRoller 14 = .ok (.iconst 3, 1) := by decide +kernel
theorem dX3_measureRoller_15 : decode cX3_measureRoller 15 = .ok (.invokevirtual 35, 3) := by decide +kernel
theorem dX3_measureRoller_18 : decode cX3_measureRoller 18 = .ok (.iload 6, 2) := by decide +kernel
theorem dX3_measureRoller_20 : decode cX3_measureRoller 20 = .ok (.iadd, 1) := by decide +kernel
theorem dX3_measureRoller_21 : decode cX3_measureRoller 21 = .ok (.i2l, 1) := by decide +kernel
theorem dX3_measureRoller_22 : decode cX3_measureRoller 22 = .ok (.aload_n 0, 1) := by decide +kernel
theorem dX3_measureRoller_23 : decode cX3_measureRoller 23 = .ok (.iconst 0, 1) := by decide +kernel
theorem dX3_measureRoller_24 : decode cX3_measureRoller 24 = .ok (.iload_n 1, 1) := by decide +kernel
theorem dX3_measureRoller_25 : decode cX3_measureRoller 25 = .ok (.invokevirtual 85, 3) := by decide +kernel
theorem dX3_measureRoller_28 : decode cX3_measureRoller 28 = .ok (.ladd, 1) := by decide +kernel
theorem dX3_measureRoller_29 : decode cX3_measureRoller 29 = .ok (.lstore 7, 2) := by decide +kernel
theorem dX3_measureRoller_31 : decode cX3_measureRoller 31 = .ok (.lload 7, 2) := by decide +kernel
theorem dX3_measureRoller_33 : decode cX3_measureRoller 33 = .ok (.lload_n 2, 1) := by decide +kernel
theorem dX3_measureRoller_34 : decode cX3_measureRoller 34 = .ok (.lload 4, 2) := by decide +kernel
theorem dX3_measureRoller_36 : decode cX3_measureRoller 36 = .ok (.invokestatic 107, 3) := by decide +kernel
theorem dX3_measureRoller_39 : decode cX3_measureRoller 39 = .ok (.lstore 9, 2) := by decide +kernel
theorem dX3_measureRoller_41 : decode cX3_measureRoller 41 = .ok (.aload_n 0, 1) := by decide +kernel
theorem dX3_measureRoller_42 : decode cX3_measureRoller 42 = .ok (.iconst 4, 1) := by decide +kernel
theorem dX3_measureRoller_43 : decode cX3_measureRoller 43 = .ok (.iload_n 1, 1) := by decide +kernel
theorem dX3_measureRoller_44 : decode cX3_measureRoller 44 = .ok (.lload 7, 2) := by decide +kernel
theorem dX3_measureRoller_46 : decode cX3_measureRoller 46 = .ok (.invokevirtual 59, 3) := by decide +kernel
theorem dX3_measureRoller_49 : decode cX3_measureRoller 49 = .ok (.aload_n 0, 1) := by decide +kernel
theorem dX3_measureRoller_50 : decode cX3_measureRoller 50 = .ok (.bipush 7, 2) := by decide +kernel
theorem dX3_measureRoller_52 : decode cX3_measureRoller 52 = .ok (.iload_n 1, 1) := by decide +kernel
theorem dX3_measureRoller_53 : decode cX3_measureRoller 53 = .ok (.lload 9, 2) := by decide +kernel
theorem dX3_measureRoller_55 : decode cX3_measureRoller 55 = .ok (.invokevirtual 59, 3) := by decide +kernel
theorem dX3_measureRoller_58 : decode cX3_measureRoller 58 = .ok (.aload_n 0, 1) := by decide +kernel
theorem dX3_measureRoller_59 : decode cX3_measureRoller 59 = .ok (.bipush 8, 2) := by decide +kernel
theorem dX3_measureRoller_61 : decode cX3_measureRoller 61 = .ok (.iload_n 1, 1) := by decide +kernel
theorem dX3_measureRoller_62 : decode cX3_measureRoller 62 = .ok (.iload 6, 2) := by decide +kernel
theorem dX3_measureRoller_64 : decode cX3_measureRoller 64 = .ok (.i2l, 1) := by decide +kernel
theorem dX3_measureRoller_65 : decode cX3_measureRoller 65 = .ok (.lload 7, 2) := by decide +kernel
theorem dX3_measureRoller_67 : decode cX3_measureRoller 67 = .ok (.lload 7, 2) := by decide +kernel
theorem dX3_measureRoller_69 : decode cX3_measureRoller 69 = .ok (.lmul, 1) := by decide +kernel
theorem dX3_measureRoller_70 : decode cX3_measureRoller 70 = .ok (.lload_n 2, 1) := by decide +kernel
theorem dX3_measureRoller_71 : decode cX3_measureRoller 71 = .ok (.lload_n 2, 1) := by decide +kernel
theorem dX3_measureRoller_72 : decode cX3_measureRoller 72 = .ok (.lmul, 1) := by decide +kernel
theorem dX3_measureRoller_73 : decode cX3_measureRoller 73 = .ok (.ladd, 1) := by decide +kernel
theorem dX3_measureRoller_74 : decode cX3_measureRoller 74 = .ok (.lload 9, 2) := by decide +kernel
theorem dX3_measureRoller_76 : decode cX3_measureRoller 76 = .ok (.invokestatic 111, 3) := by decide +kernel
theorem dX3_measureRoller_79 : decode cX3_measureRoller 79 = .ok (.i2l, 1) := by decide +kernel
theorem dX3_measureRoller_80 : decode cX3_measureRoller 80 = .ok (.invokevirtual 59, 3) := by decide +kernel
theorem dX3_measureRoller_83 : decode cX3_measureRoller 83 = .ok (.aload_n 0, 1) := by decide +kernel
theorem dX3_measureRoller_84 : decode cX3_measureRoller 84 = .ok (.bipush 9, 2) := by decide +kernel
theorem dX3_measureRoller_86 : decode cX3_measureRoller 86 = .ok (.iload_n 1, 1) := by decide +kernel
theorem dX3_measureRoller_87 : decode cX3_measureRoller 87 = .ok (.lload 7, 2) := by decide +kernel
theorem dX3_measureRoller_89 : decode cX3_measureRoller 89 = .ok (.lconst 0, 1) := by decide +kernel
theorem dX3_measureRoller_90 : decode cX3_measureRoller 90 = .ok (.lcmp, 1) := by decide +kernel
theorem dX3_measureRoller_91 : decode cX3_measureRoller 91 = .ok (.ifCond .le 17, 3) := by decide +kernel
theorem dX3_measureRoller_94 : decode cX3_measureRoller 94 = .ok (.ldc2_w 105, 3) := by decide +kernel
theorem dX3_measureRoller_97 : decode cX3_measureRoller 97 = .ok (.lload_n 2, 1) := by decide +kernel
theorem dX3_measureRoller_98 : decode cX3_measureRoller 98 = .ok (.invokestatic 115, 3) := by decide +kernel
theorem dX3_measureRoller_101 : decode cX3_measureRoller 101 = .ok (.lmul, 1) := by decide +kernel
theorem dX3_measureRoller_102 : decode cX3_measureRoller 102 = .ok (.lload 7, 2) := by decide +kernel
theorem dX3_measureRoller_104 : decode cX3_measureRoller 104 = .ok (.ldiv, 1) := by decide +kernel
theorem dX3_measureRoller_105 : decode cX3_measureRoller 105 = .ok (.goto 4, 3) := by decide +kernel
theorem dX3_measureRoller_108 : decode cX3_measureRoller 108 = .ok (.lconst 0, 1) := by decide +kernel
theorem dX3_measureRoller_109 : decode cX3_measureRoller 109 = .ok (.invokevirtual 59, 3) := by decide +kernel
theorem dX3_measureRoller_112 : decode cX3_measureRoller 112 = .ok (.return_, 1) := by decide +kernel
theorem dX3_bend_0 : decode cX3_bend 0 = .ok (.lload_n 0, 1) := by decide +kernel
theorem dX3_bend_1 : decode cX3_bend 1 = .ok (.lload_n 0, 1) := by decide +kernel
theorem dX3_bend_2 : decode cX3_bend 2 = .ok (.lmul, 1) := by decide +kernel
theorem dX3_bend_3 : decode cX3_bend 3 = .ok (.ldc2_w 63, 3) := by decide +kernel
theorem dX3_bend_6 : decode cX3_bend 6 = .ok (.lload_n 2, 1) := by decide +kernel
theorem dX3_bend_7 : decode cX3_bend 7 = .ok (.lmul, 1) := by decide +kernel
theorem dX3_bend_8 : decode cX3_bend 8 = .ok (.lload_n 2, 1) := by decide +kernel
theorem dX3_bend_9 : decode cX3_bend 9 = .ok (.lmul, 1) := by decide +kernel
theorem dX3_bend_10 : decode cX3_bend 10 = .ok (.ladd, 1) := by decide +kernel
theorem dX3_bend_11 : decode cX3_bend 11 = .ok (.lload_n 0, 1) := by decide +kernel
theorem dX3_bend_12 : decode cX3_bend 12 = .ok (.lload 4, 2) := by decide +kernel
theorem dX3_bend_14 : decode cX3_bend 14 = .ok (.lmul, 1) := by decide +kernel
theorem dX3_bend_15 : decode cX3_bend 15 = .ok (.lsub, 1) := by decide +kernel
theorem dX3_bend_16 : decode cX3_bend 16 = .ok (.lreturn, 1) := by decide +kernel
theorem dX3_undercutOf_0 : decode cX3_undercutOf 0 = .ok (.lload 4, 2) := by decide +kernel
theorem dX3_undercutOf_2 : decode cX3_undercutOf 2 = .ok (.lconst 0, 1) := by decide +kernel
theorem dX3_undercutOf_3 : decode cX3_undercutOf 3 = .ok (.lcmp, 1) := by decide +kernel
theorem dX3_undercutOf_4 : decode cX3_undercutOf 4 = .ok (.ifCond .gt 5, 3) := by decide +kernel
theorem dX3_undercutOf_7 : decode cX3_undercutOf 7 = .ok (.iconst 0, 1) := by decide +kernel
theorem dX3_undercutOf_8 : decode cX3_undercutOf 8 = .ok (.ireturn, 1) := by decide +kernel
theorem dX3_undercutOf_9 : decode cX3_undercutOf 9 = .ok (.lload_n 0, 1) := by decide +kernel
theorem dX3_undercutOf_10 : decode cX3_undercutOf 10 = .ok (.lload 4, 2) := by decide +kernel
theorem dX3_undercutOf_12 : decode cX3_undercutOf 12 = .ok (.lmul, 1) := by decide +kernel
theorem dX3_undercutOf_13 : decode cX3_undercutOf 13 = .ok (.lstore 6, 2) := by decide +kernel
theorem dX3_undercutOf_15 : decode cX3_undercutOf 15 = .ok (.lload_n 2, 1) := by decide +kernel
theorem dX3_undercutOf_16 : decode cX3_undercutOf 16 = .ok (.ldc2_w 119, 3) := by decide +kernel
theorem dX3_undercutOf_19 : decode cX3_undercutOf 19 = .ok (.lcmp, 1) := by decide +kernel
theorem dX3_undercutOf_20 : decode cX3_undercutOf 20 = .ok (.ifCond .gt 12, 3) := by decide +kernel
theorem dX3_undercutOf_23 : decode cX3_undercutOf 23 = .ok (.lload 6, 2) := by decide +kernel
theorem dX3_undercutOf_25 : decode cX3_undercutOf 25 = .ok (.ldc2_w 121, 3) := by decide +kernel
theorem dX3_undercutOf_28 : decode cX3_undercutOf 28 = .ok (.lcmp, 1) := by decide +kernel
theorem dX3_undercutOf_29 : decode cX3_undercutOf 29 = .ok (.ifCond .le 5, 3) := by decide +kernel
theorem dX3_undercutOf_32 : decode cX3_undercutOf 32 = .ok (.iconst 2, 1) := by decide +kernel
theorem dX3_undercutOf_33 : decode cX3_undercutOf 33 = .ok (.ireturn, 1) := by decide +kernel
theorem dX3_undercutOf_34 : decode cX3_undercutOf 34 = .ok (.lload_n 2, 1) := by decide +kernel
theorem dX3_undercutOf_35 : decode cX3_undercutOf 35 = .ok (.lload_n 2, 1) := by decide +kernel
theorem dX3_undercutOf_36 : decode cX3_undercutOf 36 = .ok (.lmul, 1) := by decide +kernel
theorem dX3_undercutOf_37 : decode cX3_undercutOf 37 = .ok (.lload_n 2, 1) := by decide +kernel
theorem dX3_undercutOf_38 : decode cX3_undercutOf 38 = .ok (.lmul, 1) := by decide +kernel
theorem dX3_undercutOf_39 : decode cX3_undercutOf 39 = .ok (.lload 6, 2) := by decide +kernel
theorem dX3_undercutOf_41 : decode cX3_undercutOf 41 = .ok (.lload 6, 2) := by decide +kernel
theorem dX3_undercutOf_43 : decode cX3_undercutOf 43 = .ok (.lmul, 1) := by decide +kernel
theorem dX3_undercutOf_44 : decode cX3_undercutOf 44 = .ok (.lcmp, 1) := by decide +kernel
theorem dX3_undercutOf_45 : decode cX3_undercutOf 45 = .ok (.ifCond .ge 7, 3) := by decide +kernel
theorem dX3_undercutOf_48 : decode cX3_undercutOf 48 = .ok (.iconst 1, 1) := by decide +kernel
theorem dX3_undercutOf_49 : decode cX3_undercutOf 49 = .ok (.goto 4, 3) := by decide +kernel
theorem dX3_undercutOf_52 : decode cX3_undercutOf 52 = .ok (.iconst 0, 1) := by decide +kernel
theorem dX3_undercutOf_53 : decode cX3_undercutOf 53 = .ok (.ireturn, 1) := by decide +kernel
theorem dX3_rest_0 : decode cX3_rest 0 = .ok (.aload_n 0, 1) := by decide +kernel
theorem dX3_rest_1 : decode cX3_rest 1 = .ok (.getfield 16, 3) := by decide +kernel
theorem dX3_rest_4 : decode cX3_rest 4 = .ok (.iconst 5, 1) := by decide +kernel
theorem dX3_rest_5 : decode cX3_rest 5 = .ok (.invokevirtual 35, 3) := by decide +kernel
theorem dX3_rest_8 : decode cX3_rest 8 = .ok (.i2l, 1) := by decide +kernel
theorem dX3_rest_9 : decode cX3_rest 9 = .ok (.aload_n 0, 1) := by decide +kernel
theorem dX3_rest_10 : decode cX3_rest 10 = .ok (.getfield 16, 3) := by decide +kernel
theorem dX3_rest_13 : decode cX3_rest 13 = .ok (.bipush 6, 2) := by decide +kernel
theorem dX3_rest_15 : decode cX3_rest 15 = .ok (.invokevirtual 35, 3) := by decide +kernel
theorem dX3_rest_18 : decode cX3_rest 18 = .ok (.i2l, 1) := by decide +kernel
theorem dX3_rest_19 : decode cX3_rest 19 = .ok (.aload_n 0, 1) := by decide +kernel
theorem dX3_rest_20 : decode cX3_rest 20 = .ok (.iconst 0, 1) := by decide +kernel
theorem dX3_rest_21 : decode cX3_rest 21 = .ok (.iload_n 1, 1) := by decide +kernel
theorem dX3_rest_22 : decode cX3_rest 22 = .ok (.invokevirtual 85, 3) := by decide +kernel
theorem dX3_rest_25 : decode cX3_rest 25 = .ok (.lmul, 1) := by decide +kernel
theorem dX3_rest_26 : decode cX3_rest 26 = .ok (.ladd, 1) := by decide +kernel
theorem dX3_rest_27 : decode cX3_rest 27 = .ok (.lreturn, 1) := by decide +kernel
theorem dX3_greatestSize_0 : decode cX3_greatestSize 0 = .ok (.lconst 0, 1) := by decide +kernel
theorem dX3_greatestSize_1 : decode cX3_greatestSize 1 = .ok (.lstore_n 2, 1) := by decide +kernel
theorem dX3_greatestSize_2 : decode cX3_greatestSize 2 = .ok (.iconst 0, 1) := by decide +kernel
theorem dX3_greatestSize_3 : decode cX3_greatestSize 3 = .ok (.istore 4, 2) := by decide +kernel
theorem dX3_greatestSize_5 : decode cX3_greatestSize 5 = .ok (.iload 4, 2) := by decide +kernel
theorem dX3_greatestSize_7 : decode cX3_greatestSize 7 = .ok (.aload_n 0, 1) := by decide +kernel
theorem dX3_greatestSize_8 : decode cX3_greatestSize 8 = .ok (.getfield 27, 3) := by decide +kernel
theorem dX3_greatestSize_11 : decode cX3_greatestSize 11 = .ok (.if_icmp .ge 24, 3) := by decide +kernel
theorem dX3_greatestSize_14 : decode cX3_greatestSize 14 = .ok (.lload_n 2, 1) := by decide +kernel
theorem dX3_greatestSize_15 : decode cX3_greatestSize 15 = .ok (.aload_n 0, 1) := by decide +kernel
theorem dX3_greatestSize_16 : decode cX3_greatestSize 16 = .ok (.iload_n 1, 1) := by decide +kernel
theorem dX3_greatestSize_17 : decode cX3_greatestSize 17 = .ok (.iload 4, 2) := by decide +kernel
theorem dX3_greatestSize_19 : decode cX3_greatestSize 19 = .ok (.invokevirtual 85, 3) := by decide +kernel
theorem dX3_greatestSize_22 : decode cX3_greatestSize 22 = .ok (.invokestatic 115, 3) := by decide +kernel
theorem dX3_greatestSize_25 : decode cX3_greatestSize 25 = .ok (.invokestatic 123, 3) := by decide +kernel
theorem dX3_greatestSize_28 : decode cX3_greatestSize 28 = .ok (.lstore_n 2, 1) := by decide +kernel
theorem dX3_greatestSize_29 : decode cX3_greatestSize 29 = .ok (.iinc 4 1, 3) := by decide +kernel
theorem dX3_greatestSize_32 : decode cX3_greatestSize 32 = .ok (.goto (-27), 3) := by decide +kernel
theorem dX3_greatestSize_35 : decode cX3_greatestSize 35 = .ok (.lload_n 2, 1) := by decide +kernel
theorem dX3_greatestSize_36 : decode cX3_greatestSize 36 = .ok (.l2i, 1) := by decide +kernel
theorem dX3_greatestSize_37 : decode cX3_greatestSize 37 = .ok (.ireturn, 1) := by decide +kernel
theorem dX3_firstOfSize_0 : decode cX3_firstOfSize 0 = .ok (.iconst 0, 1) := by decide +kernel
theorem dX3_firstOfSize_1 : decode cX3_firstOfSize 1 = .ok (.istore_n 3, 1) := by decide +kernel
theorem dX3_firstOfSize_2 : decode cX3_firstOfSize 2 = .ok (.iload_n 3, 1) := by decide +kernel
theorem dX3_firstOfSize_3 : decode cX3_firstOfSize 3 = .ok (.aload_n 0, 1) := by decide +kernel
theorem dX3_firstOfSize_4 : decode cX3_firstOfSize 4 = .ok (.getfield 27, 3) := by decide +kernel
theorem dX3_firstOfSize_7 : decode cX3_firstOfSize 7 = .ok (.if_icmp .ge 26, 3) := by decide +kernel
theorem dX3_firstOfSize_10 : decode cX3_firstOfSize 10 = .ok (.aload_n 0, 1) := by decide +kernel
theorem dX3_firstOfSize_11 : decode cX3_firstOfSize 11 = .ok (.iload_n 1, 1) := by decide +kernel
theorem dX3_firstOfSize_12 : decode cX3_firstOfSize 12 = .ok (.iload_n 3, 1) := by decide +kernel
theorem dX3_firstOfSize_13 : decode cX3_firstOfSize 13 = .ok (.invokevirtual 85, 3) := by decide +kernel
theorem dX3_firstOfSize_16 : decode cX3_firstOfSize 16 = .ok (.invokestatic 115, 3) := by decide +kernel
theorem dX3_firstOfSize_19 : decode cX3_firstOfSize 19 = .ok (.iload_n 2, 1) := by decide +kernel
theorem dX3_firstOfSize_20 : decode cX3_firstOfSize 20 = .ok (.i2l, 1) := by decide +kernel
theorem dX3_firstOfSize_21 : decode cX3_firstOfSize 21 = .ok (.lcmp, 1) := by decide +kernel
theorem dX3_firstOfSize_22 : decode cX3_firstOfSize 22 = .ok (.ifCond .ne 5, 3) := by decide +kernel
theorem dX3_firstOfSize_25 : decode cX3_firstOfSize 25 = .ok (.iload_n 3, 1) := by decide +kernel
theorem dX3_firstOfSize_26 : decode cX3_firstOfSize 26 = .ok (.ireturn, 1) := by decide +kernel
theorem dX3_firstOfSize_27 : decode cX3_firstOfSize 27 = .ok (.iinc 3 1, 3) := by decide +kernel
theorem dX3_firstOfSize_30 : decode cX3_firstOfSize 30 = .ok (.goto (-28), 3) := by decide +kernel
theorem dX3_firstOfSize_33 : decode cX3_firstOfSize 33 = .ok (.iconst (-1), 1) := by decide +kernel
theorem dX3_firstOfSize_34 : decode cX3_firstOfSize 34 = .ok (.ireturn, 1) := by decide +kernel
theorem dX3_timesOfSize_0 : decode cX3_timesOfSize 0 = .ok (.iconst 0, 1) := by decide +kernel
theorem dX3_timesOfSize_1 : decode cX3_timesOfSize 1 = .ok (.istore_n 3, 1) := by decide +kernel
theorem dX3_timesOfSize_2 : decode cX3_timesOfSize 2 = .ok (.iconst 0, 1) := by decide +kernel
theorem dX3_timesOfSize_3 : decode cX3_timesOfSize 3 = .ok (.istore 4, 2) := by decide +kernel
theorem dX3_timesOfSize_5 : decode cX3_timesOfSize 5 = .ok (.iload 4, 2) := by decide +kernel
theorem dX3_timesOfSize_7 : decode cX3_timesOfSize 7 = .ok (.aload_n 0, 1) := by decide +kernel
theorem dX3_timesOfSize_8 : decode cX3_timesOfSize 8 = .ok (.getfield 27, 3) := by decide +kernel
theorem dX3_timesOfSize_11 : decode cX3_timesOfSize 11 = .ok (.if_icmp .ge 33, 3) := by decide +kernel
theorem dX3_timesOfSize_14 : decode cX3_timesOfSize 14 = .ok (.iload_n 3, 1) := by decide +kernel
theorem dX3_timesOfSize_15 : decode cX3_timesOfSize 15 = .ok (.aload_n 0, 1) := by decide +kernel
theorem dX3_timesOfSize_16 : decode cX3_timesOfSize 16 = .ok (.iload_n 1, 1) := by decide +kernel
theorem dX3_timesOfSize_17 : decode cX3_timesOfSize 17 = .ok (.iload 4, 2) := by decide +kernel
theorem dX3_timesOfSize_19 : decode cX3_timesOfSize 19 = .ok (.invokevirtual 85, 3) := by decide +kernel
theorem dX3_timesOfSize_22 : decode cX3_timesOfSize 22 = .ok (.invokestatic 115, 3) := by decide +kernel
theorem dX3_timesOfSize_25 : decode cX3_timesOfSize 25 = .ok (.iload_n 2, 1) := by decide +kernel
theorem dX3_timesOfSize_26 : decode cX3_timesOfSize 26 = .ok (.i2l, 1) := by decide +kernel
theorem dX3_timesOfSize_27 : decode cX3_timesOfSize 27 = .ok (.lcmp, 1) := by decide +kernel
theorem dX3_timesOfSize_28 : decode cX3_timesOfSize 28 = .ok (.ifCond .ne 7, 3) := by decide +kernel
theorem dX3_timesOfSize_31 : decode cX3_timesOfSize 31 = .ok (.iconst 1, 1) := by decide +kernel
theorem dX3_timesOfSize_32 : decode cX3_timesOfSize 32 = .ok (.goto 4, 3) := by decide +kernel
theorem dX3_timesOfSize_35 : decode cX3_timesOfSize 35 = .ok (.iconst 0, 1) := by decide +kernel
theorem dX3_timesOfSize_36 : decode cX3_timesOfSize 36 = .ok (.iadd, 1) := by decide +kernel
theorem dX3_timesOfSize_37 : decode cX3_timesOfSize 37 = .ok (.istore_n 3, 1) := by decide +kernel
theorem dX3_timesOfSize_38 : decode cX3_timesOfSize 38 = .ok (.iinc 4 1, 3) := by decide +kernel
theorem dX3_timesOfSize_41 : decode cX3_timesOfSize 41 = .ok (.goto (-36), 3) := by decide +kernel
theorem dX3_timesOfSize_44 : decode cX3_timesOfSize 44 = .ok (.iload_n 3, 1) := by decide +kernel
theorem dX3_timesOfSize_45 : decode cX3_timesOfSize 45 = .ok (.ireturn, 1) := by decide +kernel
theorem dX3_evenness_0 : decode cX3_evenness 0 = .ok (.aload_n 0, 1) := by decide +kernel
theorem dX3_evenness_1 : decode cX3_evenness 1 = .ok (.getfield 16, 3) := by decide +kernel
theorem dX3_evenness_4 : decode cX3_evenness 4 = .ok (.bipush 10, 2) := by decide +kernel
theorem dX3_evenness_6 : decode cX3_evenness 6 = .ok (.invokevirtual 35, 3) := by decide +kernel
theorem dX3_evenness_9 : decode cX3_evenness 9 = .ok (.istore_n 2, 1) := by decide +kernel
theorem dX3_evenness_10 : decode cX3_evenness 10 = .ok (.iconst 0, 1) := by decide +kernel
theorem dX3_evenness_11 : decode cX3_evenness 11 = .ok (.istore_n 3, 1) := by decide +kernel
theorem dX3_evenness_12 : decode cX3_evenness 12 = .ok (.iload_n 3, 1) := by decide +kernel
theorem dX3_evenness_13 : decode cX3_evenness 13 = .ok (.iconst 3, 1) := by decide +kernel
theorem dX3_evenness_14 : decode cX3_evenness 14 = .ok (.if_icmp .ge 37, 3) := by decide +kernel
theorem dX3_evenness_17 : decode cX3_evenness 17 = .ok (.aload_n 0, 1) := by decide +kernel
theorem dX3_evenness_18 : decode cX3_evenness 18 = .ok (.iload_n 3, 1) := by decide +kernel
theorem dX3_evenness_19 : decode cX3_evenness 19 = .ok (.iconst 1, 1) := by decide +kernel
theorem dX3_evenness_20 : decode cX3_evenness 20 = .ok (.iadd, 1) := by decide +kernel
theorem dX3_evenness_21 : decode cX3_evenness 21 = .ok (.iload_n 1, 1) := by decide +kernel
theorem dX3_evenness_22 : decode cX3_evenness 22 = .ok (.invokevirtual 85, 3) := by decide +kernel
theorem dX3_evenness_25 : decode cX3_evenness 25 = .ok (.aload_n 0, 1) := by decide +kernel
theorem dX3_evenness_26 : decode cX3_evenness 26 = .ok (.iload_n 3, 1) := by decide +kernel
theorem dX3_evenness_27 : decode cX3_evenness 27 = .ok (.iconst 1, 1) := by decide +kernel
theorem dX3_evenness_28 : decode cX3_evenness 28 = .ok (.iadd, 1) := by decide +kernel
theorem dX3_evenness_29 : decode cX3_evenness 29 = .ok (.iload_n 1, 1) := by decide +kernel
theorem dX3_evenness_30 : decode cX3_evenness 30 = .ok (.iconst 1, 1) := by decide +kernel
theorem dX3_evenness_31 : decode cX3_evenness 31 = .ok (.isub, 1) := by decide +kernel
theorem dX3_evenness_32 : decode cX3_evenness 32 = .ok (.invokevirtual 85, 3) := by decide +kernel
theorem dX3_evenness_35 : decode cX3_evenness 35 = .ok (.lsub, 1) := by decide +kernel
theorem dX3_evenness_36 : decode cX3_evenness 36 = .ok (.invokestatic 115, 3) := by decide +kernel
theorem dX3_evenness_39 : decode cX3_evenness 39 = .ok (.iload_n 2, 1) := by decide +kernel
theorem dX3_evenness_40 : decode cX3_evenness 40 = .ok (.i2l, 1) := by decide +kernel
theorem dX3_evenness_41 : decode cX3_evenness 41 = .ok (.lcmp, 1) := by decide +kernel
theorem dX3_evenness_42 : decode cX3_evenness 42 = .ok (.ifCond .gt 9, 3) := by decide +kernel
theorem dX3_evenness_45 : decode cX3_evenness 45 = .ok (.iinc 3 1, 3) := by decide +kernel
theorem dX3_evenness_48 : decode cX3_evenness 48 = .ok (.goto (-36), 3) := by decide +kernel
theorem dX3_evenness_51 : decode cX3_evenness 51 = .ok (.iload_n 3, 1) := by decide +kernel
theorem dX3_evenness_52 : decode cX3_evenness 52 = .ok (.ireturn, 1) := by decide +kernel
theorem dX3_isBad_0 : decode cX3_isBad 0 = .ok (.iload_n 1, 1) := by decide +kernel
theorem dX3_isBad_1 : decode cX3_isBad 1 = .ok (.tableswitch 92 0 2 #[27, 45, 65], 27) := by decide +kernel
theorem dX3_isBad_28 : decode cX3_isBad 28 = .ok (.aload_n 0, 1) := by decide +kernel
theorem dX3_isBad_29 : decode cX3_isBad 29 = .ok (.bipush 8, 2) := by decide +kernel
theorem dX3_isBad_31 : decode cX3_isBad 31 = .ok (.iload_n 2, 1) := by decide +kernel
theorem dX3_isBad_32 : decode cX3_isBad 32 = .ok (.invokevirtual 85, 3) := by decide +kernel
theorem dX3_isBad_35 : decode cX3_isBad 35 = .ok (.lconst 1, 1) := by decide +kernel
theorem dX3_isBad_36 : decode cX3_isBad 36 = .ok (.lcmp, 1) := by decide +kernel
theorem dX3_isBad_37 : decode cX3_isBad 37 = .ok (.ifCond .ne 7, 3) := by decide +kernel
theorem dX3_isBad_40 : decode cX3_isBad 40 = .ok (.iconst 1, 1) := by decide +kernel
theorem dX3_isBad_41 : decode cX3_isBad 41 = .ok (.goto 4, 3) := by decide +kernel
theorem dX3_isBad_44 : decode cX3_isBad 44 = .ok (.iconst 0, 1) := by decide +kernel
theorem dX3_isBad_45 : decode cX3_isBad 45 = .ok (.ireturn, 1) := by decide +kernel
theorem dX3_isBad_46 : decode cX3_isBad 46 = .ok (.aload_n 0, 1) := by decide +kernel
theorem dX3_isBad_47 : decode cX3_isBad 47 = .ok (.bipush 8, 2) := by decide +kernel
theorem dX3_isBad_49 : decode cX3_isBad 49 = .ok (.iload_n 2, 1) := by decide +kernel
theorem dX3_isBad_50 : decode cX3_isBad 50 = .ok (.invokevirtual 85, 3) := by decide +kernel
theorem dX3_isBad_53 : decode cX3_isBad 53 = .ok (.ldc2_w 63, 3) := by decide +kernel
theorem dX3_isBad_56 : decode cX3_isBad 56 = .ok (.lcmp, 1) := by decide +kernel
theorem dX3_isBad_57 : decode cX3_isBad 57 = .ok (.ifCond .ne 7, 3) := by decide +kernel
theorem dX3_isBad_60 : decode cX3_isBad 60 = .ok (.iconst 1, 1) := by decide +kernel
theorem dX3_isBad_61 : decode cX3_isBad 61 = .ok (.goto 4, 3) := by decide +kernel
theorem dX3_isBad_64 : decode cX3_isBad 64 = .ok (.iconst 0, 1) := by decide +kernel
theorem dX3_isBad_65 : decode cX3_isBad 65 = .ok (.ireturn, 1) := by decide +kernel
theorem dX3_isBad_66 : decode cX3_isBad 66 = .ok (.aload_n 0, 1) := by decide +kernel
theorem dX3_isBad_67 : decode cX3_isBad 67 = .ok (.bipush 9, 2) := by decide +kernel
theorem dX3_isBad_69 : decode cX3_isBad 69 = .ok (.iload_n 2, 1) := by decide +kernel
theorem dX3_isBad_70 : decode cX3_isBad 70 = .ok (.invokevirtual 85, 3) := by decide +kernel
theorem dX3_isBad_73 : decode cX3_isBad 73 = .ok (.aload_n 0, 1) := by decide +kernel
theorem dX3_isBad_74 : decode cX3_isBad 74 = .ok (.getfield 16, 3) := by decide +kernel
theorem dX3_isBad_77 : decode cX3_isBad 77 = .ok (.bipush 9, 2) := by decide +kernel
theorem dX3_isBad_79 : decode cX3_isBad 79 = .ok (.invokevirtual 35, 3) := by decide +kernel
theorem dX3_isBad_82 : decode cX3_isBad 82 = .ok (.i2l, 1) := by decide +kernel
theorem dX3_isBad_83 : decode cX3_isBad 83 = .ok (.lcmp, 1) := by decide +kernel
theorem dX3_isBad_84 : decode cX3_isBad 84 = .ok (.ifCond .le 7, 3) := by decide +kernel
theorem dX3_isBad_87 : decode cX3_isBad 87 = .ok (.iconst 1, 1) := by decide +kernel
theorem dX3_isBad_88 : decode cX3_isBad 88 = .ok (.goto 4, 3) := by decide +kernel
theorem dX3_isBad_91 : decode cX3_isBad 91 = .ok (.iconst 0, 1) := by decide +kernel
theorem dX3_isBad_92 : decode cX3_isBad 92 = .ok (.ireturn, 1) := by decide +kernel
theorem dX3_isBad_93 : decode cX3_isBad 93 = .ok (.aload_n 0, 1) := by decide +kernel
theorem dX3_isBad_94 : decode cX3_isBad 94 = .ok (.bipush 10, 2) := by decide +kernel
theorem dX3_isBad_96 : decode cX3_isBad 96 = .ok (.iload_n 2, 1) := by decide +kernel
theorem dX3_isBad_97 : decode cX3_isBad 97 = .ok (.invokevirtual 85, 3) := by decide +kernel
theorem dX3_isBad_100 : decode cX3_isBad 100 = .ok (.lconst 0, 1) := by decide +kernel
theorem dX3_isBad_101 : decode cX3_isBad 101 = .ok (.lcmp, 1) := by decide +kernel
theorem dX3_isBad_102 : decode cX3_isBad 102 = .ok (.ifCond .ge 7, 3) := by decide +kernel
theorem dX3_isBad_105 : decode cX3_isBad 105 = .ok (.iconst 1, 1) := by decide +kernel
theorem dX3_isBad_106 : decode cX3_isBad 106 = .ok (.goto 4, 3) := by decide +kernel
theorem dX3_isBad_109 : decode cX3_isBad 109 = .ok (.iconst 0, 1) := by decide +kernel
theorem dX3_isBad_110 : decode cX3_isBad 110 = .ok (.ireturn, 1) := by decide +kernel
theorem dX3_countBad_0 : decode cX3_countBad 0 = .ok (.iconst 0, 1) := by decide +kernel
theorem dX3_countBad_1 : decode cX3_countBad 1 = .ok (.istore_n 2, 1) := by decide +kernel
theorem dX3_countBad_2 : decode cX3_countBad 2 = .ok (.iconst 0, 1) := by decide +kernel
theorem dX3_countBad_3 : decode cX3_countBad 3 = .ok (.istore_n 3, 1) := by decide +kernel
theorem dX3_countBad_4 : decode cX3_countBad 4 = .ok (.iload_n 3, 1) := by decide +kernel
theorem dX3_countBad_5 : decode cX3_countBad 5 = .ok (.aload_n 0, 1) := by decide +kernel
theorem dX3_countBad_6 : decode cX3_countBad 6 = .ok (.getfield 27, 3) := by decide +kernel
theorem dX3_countBad_9 : decode cX3_countBad 9 = .ok (.if_icmp .ge 26, 3) := by decide +kernel
theorem dX3_countBad_12 : decode cX3_countBad 12 = .ok (.iload_n 2, 1) := by decide +kernel
theorem dX3_countBad_13 : decode cX3_countBad 13 = .ok (.aload_n 0, 1) := by decide +kernel
theorem dX3_countBad_14 : decode cX3_countBad 14 = .ok (.iload_n 1, 1) := by decide +kernel
theorem dX3_countBad_15 : decode cX3_countBad 15 = .ok (.iload_n 3, 1) := by decide +kernel
theorem dX3_countBad_16 : decode cX3_countBad 16 = .ok (.invokevirtual 126, 3) := by decide +kernel
theorem dX3_countBad_19 : decode cX3_countBad 19 = .ok (.ifCond .eq 7, 3) := by decide +kernel
theorem dX3_countBad_22 : decode cX3_countBad 22 = .ok (.iconst 1, 1) := by decide +kernel
theorem dX3_countBad_23 : decode cX3_countBad 23 = .ok (.goto 4, 3) := by decide +kernel
theorem dX3_countBad_26 : decode cX3_countBad 26 = .ok (.iconst 0, 1) := by decide +kernel
theorem dX3_countBad_27 : decode cX3_countBad 27 = .ok (.iadd, 1) := by decide +kernel
theorem dX3_countBad_28 : decode cX3_countBad 28 = .ok (.istore_n 2, 1) := by decide +kernel
theorem dX3_countBad_29 : decode cX3_countBad 29 = .ok (.iinc 3 1, 3) := by decide +kernel
theorem dX3_countBad_32 : decode cX3_countBad 32 = .ok (.goto (-28), 3) := by decide +kernel
theorem dX3_countBad_35 : decode cX3_countBad 35 = .ok (.iload_n 2, 1) := by decide +kernel
theorem dX3_countBad_36 : decode cX3_countBad 36 = .ok (.ireturn, 1) := by decide +kernel
theorem dX3_findBad_0 : decode cX3_findBad 0 = .ok (.iconst 0, 1) := by decide +kernel
theorem dX3_findBad_1 : decode cX3_findBad 1 = .ok (.istore_n 3, 1) := by decide +kernel
theorem dX3_findBad_2 : decode cX3_findBad 2 = .ok (.iconst 0, 1) := by decide +kernel
theorem dX3_findBad_3 : decode cX3_findBad 3 = .ok (.istore 4, 2) := by decide +kernel
theorem dX3_findBad_5 : decode cX3_findBad 5 = .ok (.iload 4, 2) := by decide +kernel
theorem dX3_findBad_7 : decode cX3_findBad 7 = .ok (.aload_n 0, 1) := by decide +kernel
theorem dX3_findBad_8 : decode cX3_findBad 8 = .ok (.getfield 27, 3) := by decide +kernel
theorem dX3_findBad_11 : decode cX3_findBad 11 = .ok (.if_icmp .ge 30, 3) := by decide +kernel
theorem dX3_findBad_14 : decode cX3_findBad 14 = .ok (.aload_n 0, 1) := by decide +kernel
theorem dX3_findBad_15 : decode cX3_findBad 15 = .ok (.iload_n 1, 1) := by decide +kernel
theorem dX3_findBad_16 : decode cX3_findBad 16 = .ok (.iload 4, 2) := by decide +kernel
theorem dX3_findBad_18 : decode cX3_findBad 18 = .ok (.invokevirtual 126, 3) := by decide +kernel
theorem dX3_findBad_21 : decode cX3_findBad 21 = .ok (.ifCond .eq 14, 3) := by decide +kernel
theorem dX3_findBad_24 : decode cX3_findBad 24 = .ok (.iload_n 3, 1) := by decide +kernel
theorem dX3_findBad_25 : decode cX3_findBad 25 = .ok (.iload_n 2, 1) := by decide +kernel
theorem dX3_findBad_26 : decode cX3_findBad 26 = .ok (.if_icmp .ne 6, 3) := by decide +kernel
theorem dX3_findBad_29 : decode cX3_findBad 29 = .ok (.iload 4, 2) := by decide +kernel
theorem dX3_findBad_31 : decode cX3_findBad 31 = .ok (.ireturn, 1) := by decide +kernel
theorem dX3_findBad_32 : decode cX3_findBad 32 = .ok (.iinc 3 1, 3) := by decide +kernel
theorem dX3_findBad_35 : decode cX3_findBad 35 = .ok (.iinc 4 1, 3) := by decide +kernel
theorem dX3_findBad_38 : decode cX3_findBad 38 = .ok (.goto (-33), 3) := by decide +kernel
theorem dX3_findBad_41 : decode cX3_findBad 41 = .ok (.iconst (-1), 1) := by decide +kernel
theorem dX3_findBad_42 : decode cX3_findBad 42 = .ok (.ireturn, 1) := by decide +kernel
theorem dX3_firstGreatest_0 : decode cX3_firstGreatest 0 = .ok (.iconst 0, 1) := by decide +kernel
theorem dX3_firstGreatest_1 : decode cX3_firstGreatest 1 = .ok (.istore_n 2, 1) := by decide +kernel
theorem dX3_firstGreatest_2 : decode cX3_firstGreatest 2 = .ok (.iconst 1, 1) := by decide +kernel
theorem dX3_firstGreatest_3 : decode cX3_firstGreatest 3 = .ok (.istore_n 3, 1) := by decide +kernel
theorem dX3_firstGreatest_4 : decode cX3_firstGreatest 4 = .ok (.iload_n 3, 1) := by decide +kernel
theorem dX3_firstGreatest_5 : decode cX3_firstGreatest 5 = .ok (.aload_n 0, 1) := by decide +kernel
theorem dX3_firstGreatest_6 : decode cX3_firstGreatest 6 = .ok (.getfield 27, 3) := by decide +kernel
theorem dX3_firstGreatest_9 : decode cX3_firstGreatest 9 = .ok (.if_icmp .ge 31, 3) := by decide +kernel
theorem dX3_firstGreatest_12 : decode cX3_firstGreatest 12 = .ok (.aload_n 0, 1) := by decide +kernel
theorem dX3_firstGreatest_13 : decode cX3_firstGreatest 13 = .ok (.iload_n 1, 1) := by decide +kernel
theorem dX3_firstGreatest_14 : decode cX3_firstGreatest 14 = .ok (.iload_n 3, 1) := by decide +kernel
theorem dX3_firstGreatest_15 : decode cX3_firstGreatest 15 = .ok (.invokevirtual 85, 3) := by decide +kernel
theorem dX3_firstGreatest_18 : decode cX3_firstGreatest 18 = .ok (.aload_n 0, 1) := by decide +kernel
theorem dX3_firstGreatest_19 : decode cX3_firstGreatest 19 = .ok (.iload_n 1, 1) := by decide +kernel
theorem dX3_firstGreatest_20 : decode cX3_firstGreatest 20 = .ok (.iload_n 2, 1) := by decide +kernel
theorem dX3_firstGreatest_21 : decode cX3_firstGreatest 21 = .ok (.invokevirtual 85, 3) := by decide +kernel
theorem dX3_firstGreatest_24 : decode cX3_firstGreatest 24 = .ok (.lcmp, 1) := by decide +kernel
theorem dX3_firstGreatest_25 : decode cX3_firstGreatest 25 = .ok (.ifCond .le 7, 3) := by decide +kernel
theorem dX3_firstGreatest_28 : decode cX3_firstGreatest 28 = .ok (.iload_n 3, 1) := by decide +kernel
theorem dX3_firstGreatest_29 : decode cX3_firstGreatest 29 = .ok (.goto 4, 3) := by decide +kernel
theorem dX3_firstGreatest_32 : decode cX3_firstGreatest 32 = .ok (.iload_n 2, 1) := by decide +kernel
theorem dX3_firstGreatest_33 : decode cX3_firstGreatest 33 = .ok (.istore_n 2, 1) := by decide +kernel
theorem dX3_firstGreatest_34 : decode cX3_firstGreatest 34 = .ok (.iinc 3 1, 3) := by decide +kernel
theorem dX3_firstGreatest_37 : decode cX3_firstGreatest 37 = .ok (.goto (-33), 3) := by decide +kernel
theorem dX3_firstGreatest_40 : decode cX3_firstGreatest 40 = .ok (.iload_n 2, 1) := by decide +kernel
theorem dX3_firstGreatest_41 : decode cX3_firstGreatest 41 = .ok (.ireturn, 1) := by decide +kernel
theorem dX3_firstLeast_0 : decode cX3_firstLeast 0 = .ok (.iconst 0, 1) := by decide +kernel
theorem dX3_firstLeast_1 : decode cX3_firstLeast 1 = .ok (.istore_n 2, 1) := by decide +kernel
theorem dX3_firstLeast_2 : decode cX3_firstLeast 2 = .ok (.iconst 1, 1) := by decide +kernel
theorem dX3_firstLeast_3 : decode cX3_firstLeast 3 = .ok (.istore_n 3, 1) := by decide +kernel
theorem dX3_firstLeast_4 : decode cX3_firstLeast 4 = .ok (.iload_n 3, 1) := by decide +kernel
theorem dX3_firstLeast_5 : decode cX3_firstLeast 5 = .ok (.aload_n 0, 1) := by decide +kernel
theorem dX3_firstLeast_6 : decode cX3_firstLeast 6 = .ok (.getfield 27, 3) := by decide +kernel
theorem dX3_firstLeast_9 : decode cX3_firstLeast 9 = .ok (.if_icmp .ge 31, 3) := by decide +kernel
theorem dX3_firstLeast_12 : decode cX3_firstLeast 12 = .ok (.aload_n 0, 1) := by decide +kernel
theorem dX3_firstLeast_13 : decode cX3_firstLeast 13 = .ok (.iload_n 1, 1) := by decide +kernel
theorem dX3_firstLeast_14 : decode cX3_firstLeast 14 = .ok (.iload_n 3, 1) := by decide +kernel
theorem dX3_firstLeast_15 : decode cX3_firstLeast 15 = .ok (.invokevirtual 85, 3) := by decide +kernel
theorem dX3_firstLeast_18 : decode cX3_firstLeast 18 = .ok (.aload_n 0, 1) := by decide +kernel
theorem dX3_firstLeast_19 : decode cX3_firstLeast 19 = .ok (.iload_n 1, 1) := by decide +kernel
theorem dX3_firstLeast_20 : decode cX3_firstLeast 20 = .ok (.iload_n 2, 1) := by decide +kernel
theorem dX3_firstLeast_21 : decode cX3_firstLeast 21 = .ok (.invokevirtual 85, 3) := by decide +kernel
theorem dX3_firstLeast_24 : decode cX3_firstLeast 24 = .ok (.lcmp, 1) := by decide +kernel
theorem dX3_firstLeast_25 : decode cX3_firstLeast 25 = .ok (.ifCond .ge 7, 3) := by decide +kernel
theorem dX3_firstLeast_28 : decode cX3_firstLeast 28 = .ok (.iload_n 3, 1) := by decide +kernel
theorem dX3_firstLeast_29 : decode cX3_firstLeast 29 = .ok (.goto 4, 3) := by decide +kernel
theorem dX3_firstLeast_32 : decode cX3_firstLeast 32 = .ok (.iload_n 2, 1) := by decide +kernel
theorem dX3_firstLeast_33 : decode cX3_firstLeast 33 = .ok (.istore_n 2, 1) := by decide +kernel
theorem dX3_firstLeast_34 : decode cX3_firstLeast 34 = .ok (.iinc 3 1, 3) := by decide +kernel
theorem dX3_firstLeast_37 : decode cX3_firstLeast 37 = .ok (.goto (-33), 3) := by decide +kernel
theorem dX3_firstLeast_40 : decode cX3_firstLeast 40 = .ok (.iload_n 2, 1) := by decide +kernel
theorem dX3_firstLeast_41 : decode cX3_firstLeast 41 = .ok (.ireturn, 1) := by decide +kernel
theorem dX3_liftTogether_0 : decode cX3_liftTogether 0 = .ok (.iconst 0, 1) := by decide +kernel
theorem dX3_liftTogether_1 : decode cX3_liftTogether 1 = .ok (.istore_n 1, 1) := by decide +kernel
theorem dX3_liftTogether_2 : decode cX3_liftTogether 2 = .ok (.iconst 0, 1) := by decide +kernel
theorem dX3_liftTogether_3 : decode cX3_liftTogether 3 = .ok (.istore_n 2, 1) := by decide +kernel
theorem dX3_liftTogether_4 : decode cX3_liftTogether 4 = .ok (.iload_n 2, 1) := by decide +kernel
theorem dX3_liftTogether_5 : decode cX3_liftTogether 5 = .ok (.aload_n 0, 1) := by decide +kernel
theorem dX3_liftTogether_6 : decode cX3_liftTogether 6 = .ok (.getfield 27, 3) := by decide +kernel
theorem dX3_liftTogether_9 : decode cX3_liftTogether 9 = .ok (.if_icmp .ge 19, 3) := by decide +kernel
theorem dX3_liftTogether_12 : decode cX3_liftTogether 12 = .ok (.iload_n 1, 1) := by decide +kernel
theorem dX3_liftTogether_13 : decode cX3_liftTogether 13 = .ok (.aload_n 0, 1) := by decide +kernel
theorem dX3_liftTogether_14 : decode cX3_liftTogether 14 = .ok (.iconst 0, 1) := by decide +kernel
theorem dX3_liftTogether_15 : decode cX3_liftTogether 15 = .ok (.iload_n 2, 1) := by decide +kernel
theorem dX3_liftTogether_16 : decode cX3_liftTogether 16 = .ok (.invokevirtual 85, 3) := by decide +kernel
theorem dX3_liftTogether_19 : decode cX3_liftTogether 19 = .ok (.l2i, 1) := by decide +kernel
theorem dX3_liftTogether_20 : decode cX3_liftTogether 20 = .ok (.iadd, 1) := by decide +kernel
theorem dX3_liftTogether_21 : decode cX3_liftTogether 21 = .ok (.istore_n 1, 1) := by decide +kernel
theorem dX3_liftTogether_22 : decode cX3_liftTogether 22 = .ok (.iinc 2 1, 3) := by decide +kernel
theorem dX3_liftTogether_25 : decode cX3_liftTogether 25 = .ok (.goto (-21), 3) := by decide +kernel
theorem dX3_liftTogether_28 : decode cX3_liftTogether 28 = .ok (.iload_n 1, 1) := by decide +kernel
theorem dX3_liftTogether_29 : decode cX3_liftTogether 29 = .ok (.ireturn, 1) := by decide +kernel
theorem dX3_missOf_0 : decode cX3_missOf 0 = .ok (.aload_n 0, 1) := by decide +kernel
theorem dX3_missOf_1 : decode cX3_missOf 1 = .ok (.iconst 0, 1) := by decide +kernel
theorem dX3_missOf_2 : decode cX3_missOf 2 = .ok (.aload_n 0, 1) := by decide +kernel
theorem dX3_missOf_3 : decode cX3_missOf 3 = .ok (.getfield 16, 3) := by decide +kernel
theorem dX3_missOf_6 : decode cX3_missOf 6 = .ok (.iload_n 1, 1) := by decide +kernel
theorem dX3_missOf_7 : decode cX3_missOf 7 = .ok (.iconst 0, 1) := by decide +kernel
theorem dX3_missOf_8 : decode cX3_missOf 8 = .ok (.invokestatic 130, 3) := by decide +kernel
theorem dX3_missOf_11 : decode cX3_missOf 11 = .ok (.invokevirtual 35, 3) := by decide +kernel
theorem dX3_missOf_14 : decode cX3_missOf 14 = .ok (.invokevirtual 85, 3) := by decide +kernel
theorem dX3_missOf_17 : decode cX3_missOf 17 = .ok (.lstore_n 2, 1) := by decide +kernel
theorem dX3_missOf_18 : decode cX3_missOf 18 = .ok (.lload_n 2, 1) := by decide +kernel
theorem dX3_missOf_19 : decode cX3_missOf 19 = .ok (.aload_n 0, 1) := by decide +kernel
theorem dX3_missOf_20 : decode cX3_missOf 20 = .ok (.getfield 16, 3) := by decide +kernel
theorem dX3_missOf_23 : decode cX3_missOf 23 = .ok (.iload_n 1, 1) := by decide +kernel
theorem dX3_missOf_24 : decode cX3_missOf 24 = .ok (.iconst 1, 1) := by decide +kernel
theorem dX3_missOf_25 : decode cX3_missOf 25 = .ok (.invokestatic 130, 3) := by decide +kernel
theorem dX3_missOf_28 : decode cX3_missOf 28 = .ok (.invokevirtual 35, 3) := by decide +kernel
theorem dX3_missOf_31 : decode cX3_missOf 31 = .ok (.i2l, 1) := by decide +kernel
theorem dX3_missOf_32 : decode cX3_missOf 32 = .ok (.lsub, 1) := by decide +kernel
theorem dX3_missOf_33 : decode cX3_missOf 33 = .ok (.invokestatic 115, 3) := by decide +kernel
theorem dX3_missOf_36 : decode cX3_missOf 36 = .ok (.l2i, 1) := by decide +kernel
theorem dX3_missOf_37 : decode cX3_missOf 37 = .ok (.ireturn, 1) := by decide +kernel
theorem dX3_metBits_0 : decode cX3_metBits 0 = .ok (.iconst 0, 1) := by decide +kernel
theorem dX3_metBits_1 : decode cX3_metBits 1 = .ok (.istore_n 1, 1) := by decide +kernel
theorem dX3_metBits_2 : decode cX3_metBits 2 = .ok (.iconst 0, 1) := by decide +kernel
theorem dX3_metBits_3 : decode cX3_metBits 3 = .ok (.istore_n 2, 1) := by decide +kernel
theorem dX3_metBits_4 : decode cX3_metBits 4 = .ok (.iload_n 2, 1) := by decide +kernel
theorem dX3_metBits_5 : decode cX3_metBits 5 = .ok (.aload_n 0, 1) := by decide +kernel
theorem dX3_metBits_6 : decode cX3_metBits 6 = .ok (.getfield 16, 3) := by decide +kernel
theorem dX3_metBits_9 : decode cX3_metBits 9 = .ok (.bipush 11, 2) := by decide +kernel
theorem dX3_metBits_11 : decode cX3_metBits 11 = .ok (.invokevirtual 35, 3) := by decide +kernel
theorem dX3_metBits_14 : decode cX3_metBits 14 = .ok (.if_icmp .ge 39, 3) := by decide +kernel
theorem dX3_metBits_17 : decode cX3_metBits 17 = .ok (.iload_n 1, 1) := by decide +kernel
theorem dX3_metBits_18 : decode cX3_metBits 18 = .ok (.aload_n 0, 1) := by decide +kernel
theorem dX3_metBits_19 : decode cX3_metBits 19 = .ok (.iload_n 2, 1) := by decide +kernel
theorem dX3_metBits_20 : decode cX3_metBits 20 = .ok (.invokevirtual 133, 3) := by decide +kernel
theorem dX3_metBits_23 : decode cX3_metBits 23 = .ok (.aload_n 0, 1) := by decide +kernel
theorem dX3_metBits_24 : decode cX3_metBits 24 = .ok (.getfield 16, 3) := by decide +kernel
theorem dX3_metBits_27 : decode cX3_metBits 27 = .ok (.iload_n 2, 1) := by decide +kernel
theorem dX3_metBits_28 : decode cX3_metBits 28 = .ok (.iconst 2, 1) := by decide +kernel
theorem dX3_metBits_29 : decode cX3_metBits 29 = .ok (.invokestatic 130, 3) := by decide +kernel
theorem dX3_metBits_32 : decode cX3_metBits 32 = .ok (.invokevirtual 35, 3) := by decide +kernel
theorem dX3_metBits_35 : decode cX3_metBits 35 = .ok (.if_icmp .gt 9, 3) := by decide +kernel
theorem dX3_metBits_38 : decode cX3_metBits 38 = .ok (.iconst 1, 1) := by decide +kernel
theorem dX3_metBits_39 : decode cX3_metBits 39 = .ok (.iload_n 2, 1) := by decide +kernel
theorem dX3_metBits_40 : decode cX3_metBits 40 = .ok (.ishl, 1) := by decide +kernel
theorem dX3_metBits_41 : decode cX3_metBits 41 = .ok (.goto 4, 3) := by decide +kernel
theorem dX3_metBits_44 : decode cX3_metBits 44 = .ok (.iconst 0, 1) := by decide +kernel
theorem dX3_metBits_45 : decode cX3_metBits 45 = .ok (.ior, 1) := by decide +kernel
theorem dX3_metBits_46 : decode cX3_metBits 46 = .ok (.istore_n 1, 1) := by decide +kernel
theorem dX3_metBits_47 : decode cX3_metBits 47 = .ok (.iinc 2 1, 3) := by decide +kernel
theorem dX3_metBits_50 : decode cX3_metBits 50 = .ok (.goto (-46), 3) := by decide +kernel
theorem dX3_metBits_53 : decode cX3_metBits 53 = .ok (.iload_n 1, 1) := by decide +kernel
theorem dX3_metBits_54 : decode cX3_metBits 54 = .ok (.ireturn, 1) := by decide +kernel
theorem dX3_isGoodAt_0 : decode cX3_isGoodAt 0 = .ok (.aload_n 0, 1) := by decide +kernel
theorem dX3_isGoodAt_1 : decode cX3_isGoodAt 1 = .ok (.bipush 8, 2) := by decide +kernel
theorem dX3_isGoodAt_3 : decode cX3_isGoodAt 3 = .ok (.iload_n 1, 1) := by decide +kernel
theorem dX3_isGoodAt_4 : decode cX3_isGoodAt 4 = .ok (.invokevirtual 85, 3) := by decide +kernel
theorem dX3_isGoodAt_7 : decode cX3_isGoodAt 7 = .ok (.lconst 0, 1) := by decide +kernel
theorem dX3_isGoodAt_8 : decode cX3_isGoodAt 8 = .ok (.lcmp, 1) := by decide +kernel
theorem dX3_isGoodAt_9 : decode cX3_isGoodAt 9 = .ok (.ifCond .ne 21, 3) := by decide +kernel
theorem dX3_isGoodAt_12 : decode cX3_isGoodAt 12 = .ok (.aload_n 0, 1) := by decide +kernel
theorem dX3_isGoodAt_13 : decode cX3_isGoodAt 13 = .ok (.iconst 2, 1) := by decide +kernel
theorem dX3_isGoodAt_14 : decode cX3_isGoodAt 14 = .ok (.iload_n 1, 1) := by decide +kernel
theorem dX3_isGoodAt_15 : decode cX3_isGoodAt 15 = .ok (.invokevirtual 126, 3) := by decide +kernel
theorem dX3_isGoodAt_18 : decode cX3_isGoodAt 18 = .ok (.ifCond .ne 12, 3) := by decide +kernel
theorem dX3_isGoodAt_21 : decode cX3_isGoodAt 21 = .ok (.aload_n 0, 1) := by decide +kernel
theorem dX3_isGoodAt_22 : decode cX3_isGoodAt 22 = .ok (.iconst 3, 1) := by decide +kernel
theorem dX3_isGoodAt_23 : decode cX3_isGoodAt 23 = .ok (.iload_n 1, 1) := by decide +kernel
theorem dX3_isGoodAt_24 : decode cX3_isGoodAt 24 = .ok (.invokevirtual 126, 3) := by decide +kernel
theorem dX3_isGoodAt_27 : decode cX3_isGoodAt 27 = .ok (.ifCond .eq 5, 3) := by decide +kernel
theorem dX3_isGoodAt_30 : decode cX3_isGoodAt 30 = .ok (.iconst 0, 1) := by decide +kernel
theorem dX3_isGoodAt_31 : decode cX3_isGoodAt 31 = .ok (.ireturn, 1) := by decide +kernel
theorem dX3_isGoodAt_32 : decode cX3_isGoodAt 32 = .ok (.iconst 0, 1) := by decide +kernel
theorem dX3_isGoodAt_33 : decode cX3_isGoodAt 33 = .ok (.istore_n 2, 1) := by decide +kernel
theorem dX3_isGoodAt_34 : decode cX3_isGoodAt 34 = .ok (.iload_n 2, 1) := by decide +kernel
theorem dX3_isGoodAt_35 : decode cX3_isGoodAt 35 = .ok (.aload_n 0, 1) := by decide +kernel
theorem dX3_isGoodAt_36 : decode cX3_isGoodAt 36 = .ok (.getfield 16, 3) := by decide +kernel
theorem dX3_isGoodAt_39 : decode cX3_isGoodAt 39 = .ok (.bipush 11, 2) := by decide +kernel
theorem dX3_isGoodAt_41 : decode cX3_isGoodAt 41 = .ok (.invokevirtual 35, 3) := by decide +kernel
theorem dX3_isGoodAt_44 : decode cX3_isGoodAt 44 = .ok (.if_icmp .ge 47, 3) := by decide +kernel
theorem dX3_isGoodAt_47 : decode cX3_isGoodAt 47 = .ok (.aload_n 0, 1) := by decide +kernel
theorem dX3_isGoodAt_48 : decode cX3_isGoodAt 48 = .ok (.getfield 16, 3) := by decide +kernel
theorem dX3_isGoodAt_51 : decode cX3_isGoodAt 51 = .ok (.iload_n 2, 1) := by decide +kernel
theorem dX3_isGoodAt_52 : decode cX3_isGoodAt 52 = .ok (.iconst 0, 1) := by decide +kernel
theorem dX3_isGoodAt_53 : decode cX3_isGoodAt 53 = .ok (.invokestatic 130, 3) := by decide +kernel
theorem dX3_isGoodAt_56 : decode cX3_isGoodAt 56 = .ok (.invokevirtual 35, 3) := by decide +kernel
theorem dX3_isGoodAt_59 : decode cX3_isGoodAt 59 = .ok (.iload_n 1, 1) := by decide +kernel
theorem dX3_isGoodAt_60 : decode cX3_isGoodAt 60 = .ok (.if_icmp .ne 25, 3) := by decide +kernel
theorem dX3_isGoodAt_63 : decode cX3_isGoodAt 63 = .ok (.aload_n 0, 1) := by decide +kernel
theorem dX3_isGoodAt_64 : decode cX3_isGoodAt 64 = .ok (.iload_n 2, 1) := by decide +kernel
theorem dX3_isGoodAt_65 : decode cX3_isGoodAt 65 = .ok (.invokevirtual 133, 3) := by decide +kernel
theorem dX3_isGoodAt_68 : decode cX3_isGoodAt 68 = .ok (.aload_n 0, 1) := by decide +kernel
theorem dX3_isGoodAt_69 : decode cX3_isGoodAt 69 = .ok (.getfield 16, 3) := by decide +kernel
theorem dX3_isGoodAt_72 : decode cX3_isGoodAt 72 = .ok (.iload_n 2, 1) := by decide +kernel
theorem dX3_isGoodAt_73 : decode cX3_isGoodAt 73 = .ok (.iconst 2, 1) := by decide +kernel
theorem dX3_isGoodAt_74 : decode cX3_isGoodAt 74 = .ok (.invokestatic 130, 3) := by decide +kernel
theorem dX3_isGoodAt_77 : decode cX3_isGoodAt 77 = .ok (.invokevirtual 35, 3) := by decide +kernel
theorem dX3_isGoodAt_80 : decode cX3_isGoodAt 80 = .ok (.if_icmp .le 5, 3) := by decide +kernel
theorem dX3_isGoodAt_83 : decode cX3_isGoodAt 83 = .ok (.iconst 0, 1) := by decide +kernel
theorem dX3_isGoodAt_84 : decode cX3_isGoodAt 84 = .ok (.ireturn, 1) := by decide +kernel
theorem dX3_isGoodAt_85 : decode cX3_isGoodAt 85 = .ok (.iinc 2 1, 3) := by decide +kernel
theorem dX3_isGoodAt_88 : decode cX3_isGoodAt 88 = .ok (.goto (-54), 3) := by decide +kernel
theorem dX3_isGoodAt_91 : decode cX3_isGoodAt 91 = .ok (.iconst 1, 1) := by decide +kernel
theorem dX3_isGoodAt_92 : decode cX3_isGoodAt 92 = .ok (.ireturn, 1) := by decide +kernel
theorem dX3_isGood_0 : decode cX3_isGood 0 = .ok (.iconst 0, 1) := by decide +kernel
theorem dX3_isGood_1 : decode cX3_isGood 1 = .ok (.istore_n 1, 1) := by decide +kernel
theorem dX3_isGood_2 : decode cX3_isGood 2 = .ok (.iload_n 1, 1) := by decide +kernel
theorem dX3_isGood_3 : decode cX3_isGood 3 = .ok (.aload_n 0, 1) := by decide +kernel
theorem dX3_isGood_4 : decode cX3_isGood 4 = .ok (.getfield 27, 3) := by decide +kernel
theorem dX3_isGood_7 : decode cX3_isGood 7 = .ok (.if_icmp .ge 19, 3) := by decide +kernel
theorem dX3_isGood_10 : decode cX3_isGood 10 = .ok (.aload_n 0, 1) := by decide +kernel
theorem dX3_isGood_11 : decode cX3_isGood 11 = .ok (.iload_n 1, 1) := by decide +kernel
theorem dX3_isGood_12 : decode cX3_isGood 12 = .ok (.invokevirtual 136, 3) := by decide +kernel
theorem dX3_isGood_15 : decode cX3_isGood 15 = .ok (.ifCond .ne 5, 3) := by decide +kernel
theorem dX3_isGood_18 : decode cX3_isGood 18 = .ok (.iconst 0, 1) := by decide +kernel
theorem dX3_isGood_19 : decode cX3_isGood 19 = .ok (.ireturn, 1) := by decide +kernel
theorem dX3_isGood_20 : decode cX3_isGood 20 = .ok (.iinc 1 1, 3) := by decide +kernel
theorem dX3_isGood_23 : decode cX3_isGood 23 = .ok (.goto (-21), 3) := by decide +kernel
theorem dX3_isGood_26 : decode cX3_isGood 26 = .ok (.iconst 1, 1) := by decide +kernel
theorem dX3_isGood_27 : decode cX3_isGood 27 = .ok (.ireturn, 1) := by decide +kernel
theorem dX3_greatestRoller_0 : decode cX3_greatestRoller 0 = .ok (.getstatic 140, 3) := by decide +kernel
theorem dX3_greatestRoller_3 : decode cX3_greatestRoller 3 = .ok (.iconst 4, 1) := by decide +kernel
theorem dX3_greatestRoller_4 : decode cX3_greatestRoller 4 = .ok (.iaload, 1) := by decide +kernel
theorem dX3_greatestRoller_5 : decode cX3_greatestRoller 5 = .ok (.iconst 0, 1) := by decide +kernel
theorem dX3_greatestRoller_6 : decode cX3_greatestRoller 6 = .ok (.sipush 1448, 3) := by decide +kernel
theorem dX3_greatestRoller_9 : decode cX3_greatestRoller 9 = .ok (.aload_n 0, 1) := by decide +kernel
theorem dX3_greatestRoller_10 : decode cX3_greatestRoller 10 = .ok (.getfield 16, 3) := by decide +kernel
theorem dX3_greatestRoller_13 : decode cX3_greatestRoller 13 = .ok (.iconst 3, 1) := by decide +kernel
theorem dX3_greatestRoller_14 : decode cX3_greatestRoller 14 = .ok (.invokevirtual 35, 3) := by decide +kernel
theorem dX3_greatestRoller_17 : decode cX3_greatestRoller 17 = .ok (.isub, 1) := by decide +kernel
theorem dX3_greatestRoller_18 : decode cX3_greatestRoller 18 = .ok (.invokestatic 144, 3) := by decide +kernel
theorem dX3_greatestRoller_21 : decode cX3_greatestRoller 21 = .ok (.invokestatic 146, 3) := by decide +kernel
theorem dX3_greatestRoller_24 : decode cX3_greatestRoller 24 = .ok (.istore_n 1, 1) := by decide +kernel
theorem dX3_greatestRoller_25 : decode cX3_greatestRoller 25 = .ok (.iconst 0, 1) := by decide +kernel
theorem dX3_greatestRoller_26 : decode cX3_greatestRoller 26 = .ok (.istore_n 2, 1) := by decide +kernel
theorem dX3_greatestRoller_27 : decode cX3_greatestRoller 27 = .ok (.iload_n 2, 1) := by decide +kernel
theorem dX3_greatestRoller_28 : decode cX3_greatestRoller 28 = .ok (.aload_n 0, 1) := by decide +kernel
theorem dX3_greatestRoller_29 : decode cX3_greatestRoller 29 = .ok (.getfield 27, 3) := by decide +kernel
theorem dX3_greatestRoller_32 : decode cX3_greatestRoller 32 = .ok (.if_icmp .ge 28, 3) := by decide +kernel
theorem dX3_greatestRoller_35 : decode cX3_greatestRoller 35 = .ok (.aload_n 0, 1) := by decide +kernel
theorem dX3_greatestRoller_36 : decode cX3_greatestRoller 36 = .ok (.iload_n 2, 1) := by decide +kernel
theorem dX3_greatestRoller_37 : decode cX3_greatestRoller 37 = .ok (.invokevirtual 149, 3) := by decide +kernel
theorem dX3_greatestRoller_40 : decode cX3_greatestRoller 40 = .ok (.ifCond .eq 12, 3) := by decide +kernel
theorem dX3_greatestRoller_43 : decode cX3_greatestRoller 43 = .ok (.aload_n 0, 1) := by decide +kernel
theorem dX3_greatestRoller_44 : decode cX3_greatestRoller 44 = .ok (.iload_n 2, 1) := by decide +kernel
theorem dX3_greatestRoller_45 : decode cX3_greatestRoller 45 = .ok (.iload_n 1, 1) := by decide +kernel
theorem dX3_greatestRoller_46 : decode cX3_greatestRoller 46 = .ok (.invokevirtual 152, 3) := by decide +kernel
theorem dX3_greatestRoller_49 : decode cX3_greatestRoller 49 = .ok (.goto 4, 3) := by decide +kernel
theorem dX3_greatestRoller_52 : decode cX3_greatestRoller 52 = .ok (.iload_n 1, 1) := by decide +kernel
theorem dX3_greatestRoller_53 : decode cX3_greatestRoller 53 = .ok (.istore_n 1, 1) := by decide +kernel
theorem dX3_greatestRoller_54 : decode cX3_greatestRoller 54 = .ok (.iinc 2 1, 3) := by decide +kernel
theorem dX3_greatestRoller_57 : decode cX3_greatestRoller 57 = .ok (.goto (-30), 3) := by decide +kernel
theorem dX3_greatestRoller_60 : decode cX3_greatestRoller 60 = .ok (.iconst 0, 1) := by decide +kernel
theorem dX3_greatestRoller_61 : decode cX3_greatestRoller 61 = .ok (.istore_n 2, 1) := by decide +kernel
theorem dX3_greatestRoller_62 : decode cX3_greatestRoller 62 = .ok (.iload_n 2, 1) := by decide +kernel
theorem dX3_greatestRoller_63 : decode cX3_greatestRoller 63 = .ok (.aload_n 0, 1) := by decide +kernel
theorem dX3_greatestRoller_64 : decode cX3_greatestRoller 64 = .ok (.getfield 27, 3) := by decide +kernel
theorem dX3_greatestRoller_67 : decode cX3_greatestRoller 67 = .ok (.if_icmp .ge 28, 3) := by decide +kernel
theorem dX3_greatestRoller_70 : decode cX3_greatestRoller 70 = .ok (.aload_n 0, 1) := by decide +kernel
theorem dX3_greatestRoller_71 : decode cX3_greatestRoller 71 = .ok (.iload_n 2, 1) := by decide +kernel
theorem dX3_greatestRoller_72 : decode cX3_greatestRoller 72 = .ok (.invokevirtual 149, 3) := by decide +kernel
theorem dX3_greatestRoller_75 : decode cX3_greatestRoller 75 = .ok (.ifCond .eq 7, 3) := by decide +kernel
theorem dX3_greatestRoller_78 : decode cX3_greatestRoller 78 = .ok (.iload_n 1, 1) := by decide +kernel
theorem dX3_greatestRoller_79 : decode cX3_greatestRoller 79 = .ok (.goto 9, 3) := by decide +kernel
theorem dX3_greatestRoller_82 : decode cX3_greatestRoller 82 = .ok (.aload_n 0, 1) := by decide +kernel
theorem dX3_greatestRoller_83 : decode cX3_greatestRoller 83 = .ok (.iload_n 2, 1) := by decide +kernel
theorem dX3_greatestRoller_84 : decode cX3_greatestRoller 84 = .ok (.iload_n 1, 1) := by decide +kernel
theorem dX3_greatestRoller_85 : decode cX3_greatestRoller 85 = .ok (.invokevirtual 155, 3) := by decide +kernel
theorem dX3_greatestRoller_88 : decode cX3_greatestRoller 88 = .ok (.istore_n 1, 1) := by decide +kernel
theorem dX3_greatestRoller_89 : decode cX3_greatestRoller 89 = .ok (.iinc 2 1, 3) := by decide +kernel
theorem dX3_greatestRoller_92 : decode cX3_greatestRoller 92 = .ok (.goto (-30), 3) := by decide +kernel
theorem dX3_greatestRoller_95 : decode cX3_greatestRoller 95 = .ok (.iload_n 1, 1) := by decide +kernel
theorem dX3_greatestRoller_96 : decode cX3_greatestRoller 96 = .ok (.ireturn, 1) := by decide +kernel
theorem dX3_isCalm_0 : decode cX3_isCalm 0 = .ok (.aload_n 0, 1) := by decide +kernel
theorem dX3_isCalm_1 : decode cX3_isCalm 1 = .ok (.getfield 16, 3) := by decide +kernel
theorem dX3_isCalm_4 : decode cX3_isCalm 4 = .ok (.iconst 3, 1) := by decide +kernel
theorem dX3_isCalm_5 : decode cX3_isCalm 5 = .ok (.invokevirtual 35, 3) := by decide +kernel
theorem dX3_isCalm_8 : decode cX3_isCalm 8 = .ok (.i2l, 1) := by decide +kernel
theorem dX3_isCalm_9 : decode cX3_isCalm 9 = .ok (.aload_n 0, 1) := by decide +kernel
theorem dX3_isCalm_10 : decode cX3_isCalm 10 = .ok (.iconst 0, 1) := by decide +kernel
theorem dX3_isCalm_11 : decode cX3_isCalm 11 = .ok (.iload_n 1, 1) := by decide +kernel
theorem dX3_isCalm_12 : decode cX3_isCalm 12 = .ok (.invokevirtual 85, 3) := by decide +kernel
theorem dX3_isCalm_15 : decode cX3_isCalm 15 = .ok (.ladd, 1) := by decide +kernel
theorem dX3_isCalm_16 : decode cX3_isCalm 16 = .ok (.lstore_n 2, 1) := by decide +kernel
theorem dX3_isCalm_17 : decode cX3_isCalm 17 = .ok (.aload_n 0, 1) := by decide +kernel
theorem dX3_isCalm_18 : decode cX3_isCalm 18 = .ok (.iconst 5, 1) := by decide +kernel
theorem dX3_isCalm_19 : decode cX3_isCalm 19 = .ok (.iload_n 1, 1) := by decide +kernel
theorem dX3_isCalm_20 : decode cX3_isCalm 20 = .ok (.invokevirtual 85, 3) := by decide +kernel
theorem dX3_isCalm_23 : decode cX3_isCalm 23 = .ok (.invokestatic 115, 3) := by decide +kernel
theorem dX3_isCalm_26 : decode cX3_isCalm 26 = .ok (.lload_n 2, 1) := by decide +kernel
theorem dX3_isCalm_27 : decode cX3_isCalm 27 = .ok (.lcmp, 1) := by decide +kernel
theorem dX3_isCalm_28 : decode cX3_isCalm 28 = .ok (.ifCond .gt 22, 3) := by decide +kernel
theorem dX3_isCalm_31 : decode cX3_isCalm 31 = .ok (.aload_n 0, 1) := by decide +kernel
theorem dX3_isCalm_32 : decode cX3_isCalm 32 = .ok (.bipush 6, 2) := by decide +kernel
theorem dX3_isCalm_34 : decode cX3_isCalm 34 = .ok (.iload_n 1, 1) := by decide +kernel
theorem dX3_isCalm_35 : decode cX3_isCalm 35 = .ok (.invokevirtual 85, 3) := by decide +kernel
theorem dX3_isCalm_38 : decode cX3_isCalm 38 = .ok (.invokestatic 115, 3) := by decide +kernel
theorem dX3_isCalm_41 : decode cX3_isCalm 41 = .ok (.lload_n 2, 1) := by decide +kernel
theorem dX3_isCalm_42 : decode cX3_isCalm 42 = .ok (.lcmp, 1) := by decide +kernel
theorem dX3_isCalm_43 : decode cX3_isCalm 43 = .ok (.ifCond .gt 7, 3) := by decide +kernel
theorem dX3_isCalm_46 : decode cX3_isCalm 46 = .ok (.iconst 1, 1) := by decide +kernel
theorem dX3_isCalm_47 : decode cX3_isCalm 47 = .ok (.goto 4, 3) := by decide +kernel
theorem dX3_isCalm_50 : decode cX3_isCalm 50 = .ok (.iconst 0, 1) := by decide +kernel
theorem dX3_isCalm_51 : decode cX3_isCalm 51 = .ok (.ireturn, 1) := by decide +kernel
theorem dX3_lowerToClear_0 : decode cX3_lowerToClear 0 = .ok (.iload_n 2, 1) := by decide +kernel
theorem dX3_lowerToClear_1 : decode cX3_lowerToClear 1 = .ok (.istore_n 3, 1) := by decide +kernel
theorem dX3_lowerToClear_2 : decode cX3_lowerToClear 2 = .ok (.iload_n 3, 1) := by decide +kernel
theorem dX3_lowerToClear_3 : decode cX3_lowerToClear 3 = .ok (.ifCond .le 18, 3) := by decide +kernel
theorem dX3_lowerToClear_6 : decode cX3_lowerToClear 6 = .ok (.aload_n 0, 1) := by decide +kernel
theorem dX3_lowerToClear_7 : decode cX3_lowerToClear 7 = .ok (.iload_n 3, 1) := by decide +kernel
theorem dX3_lowerToClear_8 : decode cX3_lowerToClear 8 = .ok (.iload_n 1, 1) := by decide +kernel
theorem dX3_lowerToClear_9 : decode cX3_lowerToClear 9 = .ok (.invokevirtual 158, 3) := by decide +kernel
theorem dX3_lowerToClear_12 : decode cX3_lowerToClear 12 = .ok (.ifCond .eq 9, 3) := by decide +kernel
theorem dX3_lowerToClear_15 : decode cX3_lowerToClear 15 = .ok (.iinc 3 (-1), 3) := by decide +kernel
theorem dX3_lowerToClear_18 : decode cX3_lowerToClear 18 = .ok (.goto (-16), 3) := by decide +kernel
theorem dX3_lowerToClear_21 : decode cX3_lowerToClear 21 = .ok (.iload_n 3, 1) := by decide +kernel
theorem dX3_lowerToClear_22 : decode cX3_lowerToClear 22 = .ok (.ireturn, 1) := by decide +kernel
theorem dX3_clearUpTo_0 : decode cX3_clearUpTo 0 = .ok (.iconst 1, 1) := by decide +kernel
theorem dX3_clearUpTo_1 : decode cX3_clearUpTo 1 = .ok (.istore_n 3, 1) := by decide +kernel
theorem dX3_clearUpTo_2 : decode cX3_clearUpTo 2 = .ok (.iload_n 3, 1) := by decide +kernel
theorem dX3_clearUpTo_3 : decode cX3_clearUpTo 3 = .ok (.iload_n 2, 1) := by decide +kernel
theorem dX3_clearUpTo_4 : decode cX3_clearUpTo 4 = .ok (.if_icmp .gt 22, 3) := by decide +kernel
theorem dX3_clearUpTo_7 : decode cX3_clearUpTo 7 = .ok (.aload_n 0, 1) := by decide +kernel
theorem dX3_clearUpTo_8 : decode cX3_clearUpTo 8 = .ok (.iload_n 3, 1) := by decide +kernel
theorem dX3_clearUpTo_9 : decode cX3_clearUpTo 9 = .ok (.iload_n 1, 1) := by decide +kernel
theorem dX3_clearUpTo_10 : decode cX3_clearUpTo 10 = .ok (.invokevirtual 158, 3) := by decide +kernel
theorem dX3_clearUpTo_13 : decode cX3_clearUpTo 13 = .ok (.ifCond .eq 7, 3) := by decide +kernel
theorem dX3_clearUpTo_16 : decode cX3_clearUpTo 16 = .ok (.iload_n 3, 1) := by decide +kernel
theorem dX3_clearUpTo_17 : decode cX3_clearUpTo 17 = .ok (.iconst 1, 1) := by decide +kernel
theorem dX3_clearUpTo_18 : decode cX3_clearUpTo 18 = .ok (.isub, 1) := by decide +kernel
theorem dX3_clearUpTo_19 : decode cX3_clearUpTo 19 = .ok (.ireturn, 1) := by decide +kernel
theorem dX3_clearUpTo_20 : decode cX3_clearUpTo 20 = .ok (.iinc 3 1, 3) := by decide +kernel
theorem dX3_clearUpTo_23 : decode cX3_clearUpTo 23 = .ok (.goto (-21), 3) := by decide +kernel
theorem dX3_clearUpTo_26 : decode cX3_clearUpTo 26 = .ok (.iload_n 2, 1) := by decide +kernel
theorem dX3_clearUpTo_27 : decode cX3_clearUpTo 27 = .ok (.ireturn, 1) := by decide +kernel
theorem dX3_undercutBy_0 : decode cX3_undercutBy 0 = .ok (.aload_n 0, 1) := by decide +kernel
theorem dX3_undercutBy_1 : decode cX3_undercutBy 1 = .ok (.getfield 16, 3) := by decide +kernel
theorem dX3_undercutBy_4 : decode cX3_undercutBy 4 = .ok (.iconst 3, 1) := by decide +kernel
theorem dX3_undercutBy_5 : decode cX3_undercutBy 5 = .ok (.invokevirtual 35, 3) := by decide +kernel
theorem dX3_undercutBy_8 : decode cX3_undercutBy 8 = .ok (.iload_n 1, 1) := by decide +kernel
theorem dX3_undercutBy_9 : decode cX3_undercutBy 9 = .ok (.iadd, 1) := by decide +kernel
theorem dX3_undercutBy_10 : decode cX3_undercutBy 10 = .ok (.i2l, 1) := by decide +kernel
theorem dX3_undercutBy_11 : decode cX3_undercutBy 11 = .ok (.aload_n 0, 1) := by decide +kernel
theorem dX3_undercutBy_12 : decode cX3_undercutBy 12 = .ok (.iconst 0, 1) := by decide +kernel
theorem dX3_undercutBy_13 : decode cX3_undercutBy 13 = .ok (.iload_n 2, 1) := by decide +kernel
theorem dX3_undercutBy_14 : decode cX3_undercutBy 14 = .ok (.invokevirtual 85, 3) := by decide +kernel
theorem dX3_undercutBy_17 : decode cX3_undercutBy 17 = .ok (.ladd, 1) := by decide +kernel
theorem dX3_undercutBy_18 : decode cX3_undercutBy 18 = .ok (.lstore_n 3, 1) := by decide +kernel
theorem dX3_undercutBy_19 : decode cX3_undercutBy 19 = .ok (.aload_n 0, 1) := by decide +kernel
theorem dX3_undercutBy_20 : decode cX3_undercutBy 20 = .ok (.iconst 5, 1) := by decide +kernel
theorem dX3_undercutBy_21 : decode cX3_undercutBy 21 = .ok (.iload_n 2, 1) := by decide +kernel
theorem dX3_undercutBy_22 : decode cX3_undercutBy 22 = .ok (.invokevirtual 85, 3) := by decide +kernel
theorem dX3_undercutBy_25 : decode cX3_undercutBy 25 = .ok (.lstore 5, 2) := by decide +kernel
theorem dX3_undercutBy_27 : decode cX3_undercutBy 27 = .ok (.iload_n 1, 1) := by decide +kernel
theorem dX3_undercutBy_28 : decode cX3_undercutBy 28 = .ok (.i2l, 1) := by decide +kernel
theorem dX3_undercutBy_29 : decode cX3_undercutBy 29 = .ok (.lload_n 3, 1) := by decide +kernel
theorem dX3_undercutBy_30 : decode cX3_undercutBy 30 = .ok (.lload_n 3, 1) := by decide +kernel
theorem dX3_undercutBy_31 : decode cX3_undercutBy 31 = .ok (.lmul, 1) := by decide +kernel
theorem dX3_undercutBy_32 : decode cX3_undercutBy 32 = .ok (.lload 5, 2) := by decide +kernel
theorem dX3_undercutBy_34 : decode cX3_undercutBy 34 = .ok (.lload 5, 2) := by decide +kernel
theorem dX3_undercutBy_36 : decode cX3_undercutBy 36 = .ok (.lmul, 1) := by decide +kernel
theorem dX3_undercutBy_37 : decode cX3_undercutBy 37 = .ok (.ladd, 1) := by decide +kernel
theorem dX3_undercutBy_38 : decode cX3_undercutBy 38 = .ok (.lload_n 3, 1) := by decide +kernel
theorem dX3_undercutBy_39 : decode cX3_undercutBy 39 = .ok (.lload 5, 2) := by decide +kernel
theorem dX3_undercutBy_41 : decode cX3_undercutBy 41 = .ok (.aload_n 0, 1) := by decide +kernel
theorem dX3_undercutBy_42 : decode cX3_undercutBy 42 = .ok (.bipush 6, 2) := by decide +kernel
theorem dX3_undercutBy_44 : decode cX3_undercutBy 44 = .ok (.iload_n 2, 1) := by decide +kernel
theorem dX3_undercutBy_45 : decode cX3_undercutBy 45 = .ok (.invokevirtual 85, 3) := by decide +kernel
theorem dX3_undercutBy_48 : decode cX3_undercutBy 48 = .ok (.invokestatic 107, 3) := by decide +kernel
theorem dX3_undercutBy_51 : decode cX3_undercutBy 51 = .ok (.invokestatic 111, 3) := by decide +kernel
theorem dX3_undercutBy_54 : decode cX3_undercutBy 54 = .ok (.ireturn, 1) := by decide +kernel
theorem dX3_leastBase_0 : decode cX3_leastBase 0 = .ok (.getstatic 161, 3) := by decide +kernel
theorem dX3_leastBase_3 : decode cX3_leastBase 3 = .ok (.iconst 3, 1) := by decide +kernel
theorem dX3_leastBase_4 : decode cX3_leastBase 4 = .ok (.iaload, 1) := by decide +kernel
theorem dX3_leastBase_5 : decode cX3_leastBase 5 = .ok (.i2l, 1) := by decide +kernel
theorem dX3_leastBase_6 : decode cX3_leastBase 6 = .ok (.lstore_n 1, 1) := by decide +kernel
theorem dX3_leastBase_7 : decode cX3_leastBase 7 = .ok (.aload_n 0, 1) := by decide +kernel
theorem dX3_leastBase_8 : decode cX3_leastBase 8 = .ok (.getfield 16, 3) := by decide +kernel
theorem dX3_leastBase_11 : decode cX3_leastBase 11 = .ok (.bipush 9, 2) := by decide +kernel
theorem dX3_leastBase_13 : decode cX3_leastBase 13 = .ok (.invokevirtual 35, 3) := by decide +kernel
theorem dX3_leastBase_16 : decode cX3_leastBase 16 = .ok (.i2l, 1) := by decide +kernel
theorem dX3_leastBase_17 : decode cX3_leastBase 17 = .ok (.lconst 1, 1) := by decide +kernel
theorem dX3_leastBase_18 : decode cX3_leastBase 18 = .ok (.ladd, 1) := by decide +kernel
theorem dX3_leastBase_19 : decode cX3_leastBase 19 = .ok (.lstore_n 3, 1) := by decide +kernel
theorem dX3_leastBase_20 : decode cX3_leastBase 20 = .ok (.iconst 0, 1) := by decide +kernel
theorem dX3_leastBase_21 : decode cX3_leastBase 21 = .ok (.istore 5, 2) := by decide +kernel
theorem dX3_leastBase_23 : decode cX3_leastBase 23 = .ok (.iload 5, 2) := by decide +kernel
theorem dX3_leastBase_25 : decode cX3_leastBase 25 = .ok (.aload_n 0, 1) := by decide +kernel
theorem dX3_leastBase_26 : decode cX3_leastBase 26 = .ok (.getfield 27, 3) := by decide +kernel
theorem dX3_leastBase_29 : decode cX3_leastBase 29 = .ok (.if_icmp .ge 60, 3) := by decide +kernel
theorem dX3_leastBase_32 : decode cX3_leastBase 32 = .ok (.lload_n 3, 1) := by decide +kernel
theorem dX3_leastBase_33 : decode cX3_leastBase 33 = .ok (.lconst 0, 1) := by decide +kernel
theorem dX3_leastBase_34 : decode cX3_leastBase 34 = .ok (.lcmp, 1) := by decide +kernel
theorem dX3_leastBase_35 : decode cX3_leastBase 35 = .ok (.ifCond .le 54, 3) := by decide +kernel
theorem dX3_leastBase_38 : decode cX3_leastBase 38 = .ok (.ldc2_w 105, 3) := by decide +kernel
theorem dX3_leastBase_41 : decode cX3_leastBase 41 = .ok (.aload_n 0, 1) := by decide +kernel
theorem dX3_leastBase_42 : decode cX3_leastBase 42 = .ok (.iconst 5, 1) := by decide +kernel
theorem dX3_leastBase_43 : decode cX3_leastBase 43 = .ok (.iload 5, 2) := by decide +kernel
theorem dX3_leastBase_45 : decode cX3_leastBase 45 = .ok (.invokevirtual 85, 3) := by decide +kernel
theorem dX3_leastBase_48 : decode cX3_leastBase 48 = .ok (.invokestatic 115, 3) := by decide +kernel
theorem dX3_leastBase_51 : decode cX3_leastBase 51 = .ok (.lmul, 1) := by decide +kernel
theorem dX3_leastBase_52 : decode cX3_leastBase 52 = .ok (.lload_n 3, 1) := by decide +kernel
theorem dX3_leastBase_53 : decode cX3_leastBase 53 = .ok (.ldiv, 1) := by decide +kernel
theorem dX3_leastBase_54 : decode cX3_leastBase 54 = .ok (.lconst 1, 1) := by decide +kernel
theorem dX3_leastBase_55 : decode cX3_leastBase 55 = .ok (.ladd, 1) := by decide +kernel
theorem dX3_leastBase_56 : decode cX3_leastBase 56 = .ok (.lstore 6, 2) := by decide +kernel
theorem dX3_leastBase_58 : decode cX3_leastBase 58 = .ok (.lload_n 1, 1) := by decide +kernel
theorem dX3_leastBase_59 : decode cX3_leastBase 59 = .ok (.lload 6, 2) := by decide +kernel
theorem dX3_leastBase_61 : decode cX3_leastBase 61 = .ok (.aload_n 0, 1) := by decide +kernel
theorem dX3_leastBase_62 : decode cX3_leastBase 62 = .ok (.getfield 16, 3) := by decide +kernel
theorem dX3_leastBase_65 : decode cX3_leastBase 65 = .ok (.iconst 4, 1) := by decide +kernel
theorem dX3_leastBase_66 : decode cX3_leastBase 66 = .ok (.invokevirtual 35, 3) := by decide +kernel
theorem dX3_leastBase_69 : decode cX3_leastBase 69 = .ok (.i2l, 1) := by decide +kernel
theorem dX3_leastBase_70 : decode cX3_leastBase 70 = .ok (.lsub, 1) := by decide +kernel
theorem dX3_leastBase_71 : decode cX3_leastBase 71 = .ok (.aload_n 0, 1) := by decide +kernel
theorem dX3_leastBase_72 : decode cX3_leastBase 72 = .ok (.iconst 0, 1) := by decide +kernel
theorem dX3_leastBase_73 : decode cX3_leastBase 73 = .ok (.iload 5, 2) := by decide +kernel
theorem dX3_leastBase_75 : decode cX3_leastBase 75 = .ok (.invokevirtual 85, 3) := by decide +kernel
theorem dX3_leastBase_78 : decode cX3_leastBase 78 = .ok (.lsub, 1) := by decide +kernel
theorem dX3_leastBase_79 : decode cX3_leastBase 79 = .ok (.invokestatic 123, 3) := by decide +kernel
theorem dX3_leastBase_82 : decode cX3_leastBase 82 = .ok (.lstore_n 1, 1) := by decide +kernel
theorem dX3_leastBase_83 : decode cX3_leastBase 83 = .ok (.iinc 5 1, 3) := by decide +kernel
theorem dX3_leastBase_86 : decode cX3_leastBase 86 = .ok (.goto (-63), 3) := by decide +kernel
theorem dX3_leastBase_89 : decode cX3_leastBase 89 = .ok (.lload_n 1, 1) := by decide +kernel
theorem dX3_leastBase_90 : decode cX3_leastBase 90 = .ok (.getstatic 140, 3) := by decide +kernel
theorem dX3_leastBase_93 : decode cX3_leastBase 93 = .ok (.iconst 3, 1) := by decide +kernel
theorem dX3_leastBase_94 : decode cX3_leastBase 94 = .ok (.iaload, 1) := by decide +kernel
theorem dX3_leastBase_95 : decode cX3_leastBase 95 = .ok (.i2l, 1) := by decide +kernel
theorem dX3_leastBase_96 : decode cX3_leastBase 96 = .ok (.lcmp, 1) := by decide +kernel
theorem dX3_leastBase_97 : decode cX3_leastBase 97 = .ok (.ifCond .gt 8, 3) := by decide +kernel
theorem dX3_leastBase_100 : decode cX3_leastBase 100 = .ok (.lload_n 1, 1) := by decide +kernel
theorem dX3_leastBase_101 : decode cX3_leastBase 101 = .ok (.l2i, 1) := by decide +kernel
theorem dX3_leastBase_102 : decode cX3_leastBase 102 = .ok (.goto 4, 3) := by decide +kernel
theorem dX3_leastBase_105 : decode cX3_leastBase 105 = .ok (.iconst (-1), 1) := by decide +kernel
theorem dX3_leastBase_106 : decode cX3_leastBase 106 = .ok (.ireturn, 1) := by decide +kernel
theorem dX3_greatestSpeed_0 : decode cX3_greatestSpeed 0 = .ok (.getstatic 140, 3) := by decide +kernel
theorem dX3_greatestSpeed_3 : decode cX3_greatestSpeed 3 = .ok (.bipush 8, 2) := by decide +kernel
theorem dX3_greatestSpeed_5 : decode cX3_greatestSpeed 5 = .ok (.iaload, 1) := by decide +kernel
theorem dX3_greatestSpeed_6 : decode cX3_greatestSpeed 6 = .ok (.i2l, 1) := by decide +kernel
theorem dX3_greatestSpeed_7 : decode cX3_greatestSpeed 7 = .ok (.getstatic 140, 3) := by decide +kernel
theorem dX3_greatestSpeed_10 : decode cX3_greatestSpeed 10 = .ok (.bipush 8, 2) := by decide +kernel
theorem dX3_greatestSpeed_12 : decode cX3_greatestSpeed 12 = .ok (.iaload, 1) := by decide +kernel
theorem dX3_greatestSpeed_13 : decode cX3_greatestSpeed 13 = .ok (.i2l, 1) := by decide +kernel
theorem dX3_greatestSpeed_14 : decode cX3_greatestSpeed 14 = .ok (.lmul, 1) := by decide +kernel
theorem dX3_greatestSpeed_15 : decode cX3_greatestSpeed 15 = .ok (.lstore_n 1, 1) := by decide +kernel
theorem dX3_greatestSpeed_16 : decode cX3_greatestSpeed 16 = .ok (.iconst 0, 1) := by decide +kernel
theorem dX3_greatestSpeed_17 : decode cX3_greatestSpeed 17 = .ok (.istore_n 3, 1) := by decide +kernel
theorem dX3_greatestSpeed_18 : decode cX3_greatestSpeed 18 = .ok (.iload_n 3, 1) := by decide +kernel
theorem dX3_greatestSpeed_19 : decode cX3_greatestSpeed 19 = .ok (.aload_n 0, 1) := by decide +kernel
theorem dX3_greatestSpeed_20 : decode cX3_greatestSpeed 20 = .ok (.getfield 27, 3) := by decide +kernel
theorem dX3_greatestSpeed_23 : decode cX3_greatestSpeed 23 = .ok (.if_icmp .ge 53, 3) := by decide +kernel
theorem dX3_greatestSpeed_26 : decode cX3_greatestSpeed 26 = .ok (.aload_n 0, 1) := by decide +kernel
theorem dX3_greatestSpeed_27 : decode cX3_greatestSpeed 27 = .ok (.getfield 16, 3) := by decide +kernel
theorem dX3_greatestSpeed_30 : decode cX3_greatestSpeed 30 = .ok (.bipush 7, 2) := by decide +kernel
theorem dX3_greatestSpeed_32 : decode cX3_greatestSpeed 32 = .ok (.invokevirtual 35, 3) := by decide +kernel
theorem dX3_greatestSpeed_35 : decode cX3_greatestSpeed 35 = .ok (.i2l, 1) := by decide +kernel
theorem dX3_greatestSpeed_36 : decode cX3_greatestSpeed 36 = .ok (.aload_n 0, 1) := by decide +kernel
theorem dX3_greatestSpeed_37 : decode cX3_greatestSpeed 37 = .ok (.iconst 2, 1) := by decide +kernel
theorem dX3_greatestSpeed_38 : decode cX3_greatestSpeed 38 = .ok (.iload_n 3, 1) := by decide +kernel
theorem dX3_greatestSpeed_39 : decode cX3_greatestSpeed 39 = .ok (.invokevirtual 85, 3) := by decide +kernel
theorem dX3_greatestSpeed_42 : decode cX3_greatestSpeed 42 = .ok (.lneg, 1) := by decide +kernel
theorem dX3_greatestSpeed_43 : decode cX3_greatestSpeed 43 = .ok (.lmul, 1) := by decide +kernel
theorem dX3_greatestSpeed_44 : decode cX3_greatestSpeed 44 = .ok (.lstore 4, 2) := by decide +kernel
theorem dX3_greatestSpeed_46 : decode cX3_greatestSpeed 46 = .ok (.lload 4, 2) := by decide +kernel
theorem dX3_greatestSpeed_48 : decode cX3_greatestSpeed 48 = .ok (.lconst 0, 1) := by decide +kernel
theorem dX3_greatestSpeed_49 : decode cX3_greatestSpeed 49 = .ok (.lcmp, 1) := by decide +kernel
theorem dX3_greatestSpeed_50 : decode cX3_greatestSpeed 50 = .ok (.ifCond .le 20, 3) := by decide +kernel
theorem dX3_greatestSpeed_53 : decode cX3_greatestSpeed 53 = .ok (.lload_n 1, 1) := by decide +kernel
theorem dX3_greatestSpeed_54 : decode cX3_greatestSpeed 54 = .ok (.ldc2_w 105, 3) := by decide +kernel
theorem dX3_greatestSpeed_57 : decode cX3_greatestSpeed 57 = .ok (.aload_n 0, 1) := by decide +kernel
theorem dX3_greatestSpeed_58 : decode cX3_greatestSpeed 58 = .ok (.iload_n 3, 1) := by decide +kernel
theorem dX3_greatestSpeed_59 : decode cX3_greatestSpeed 59 = .ok (.invokevirtual 101, 3) := by decide +kernel
theorem dX3_greatestSpeed_62 : decode cX3_greatestSpeed 62 = .ok (.lmul, 1) := by decide +kernel
theorem dX3_greatestSpeed_63 : decode cX3_greatestSpeed 63 = .ok (.lload 4, 2) := by decide +kernel
theorem dX3_greatestSpeed_65 : decode cX3_greatestSpeed 65 = .ok (.ldiv, 1) := by decide +kernel
theorem dX3_greatestSpeed_66 : decode cX3_greatestSpeed 66 = .ok (.invokestatic 164, 3) := by decide +kernel
theorem dX3_greatestSpeed_69 : decode cX3_greatestSpeed 69 = .ok (.lstore_n 1, 1) := by decide +kernel
theorem dX3_greatestSpeed_70 : decode cX3_greatestSpeed 70 = .ok (.iinc 3 1, 3) := by decide +kernel
theorem dX3_greatestSpeed_73 : decode cX3_greatestSpeed 73 = .ok (.goto (-55), 3) := by decide +kernel
theorem dX3_greatestSpeed_76 : decode cX3_greatestSpeed 76 = .ok (.iconst 0, 1) := by decide +kernel
theorem dX3_greatestSpeed_77 : decode cX3_greatestSpeed 77 = .ok (.istore_n 3, 1) := by decide +kernel
theorem dX3_greatestSpeed_78 : decode cX3_greatestSpeed 78 = .ok (.sipush 8192, 3) := by decide +kernel
theorem dX3_greatestSpeed_81 : decode cX3_greatestSpeed 81 = .ok (.istore 4, 2) := by decide +kernel
theorem dX3_greatestSpeed_83 : decode cX3_greatestSpeed 83 = .ok (.iload 4, 2) := by decide +kernel
theorem dX3_greatestSpeed_85 : decode cX3_greatestSpeed 85 = .ok (.ifCond .le 38, 3) := by decide +kernel
theorem dX3_greatestSpeed_88 : decode cX3_greatestSpeed 88 = .ok (.iload_n 3, 1) := by decide +kernel
theorem dX3_greatestSpeed_89 : decode cX3_greatestSpeed 89 = .ok (.iload 4, 2) := by decide +kernel
theorem dX3_greatestSpeed_91 : decode cX3_greatestSpeed 91 = .ok (.iadd, 1) := by decide +kernel
theorem dX3_greatestSpeed_92 : decode cX3_greatestSpeed 92 = .ok (.i2l, 1) := by decide +kernel
theorem dX3_greatestSpeed_93 : decode cX3_greatestSpeed 93 = .ok (.lstore 5, 2) := by decide +kernel
theorem dX3_greatestSpeed_95 : decode cX3_greatestSpeed 95 = .ok (.iload_n 3, 1) := by decide +kernel
theorem dX3_greatestSpeed_96 : decode cX3_greatestSpeed 96 = .ok (.lload 5, 2) := by decide +kernel
theorem dX3_greatestSpeed_98 : decode cX3_greatestSpeed 98 = .ok (.lload 5, 2) := by decide +kernel
theorem dX3_greatestSpeed_100 : decode cX3_greatestSpeed 100 = .ok (.lmul, 1) := by decide +kernel
theorem dX3_greatestSpeed_101 : decode cX3_greatestSpeed 101 = .ok (.lload_n 1, 1) := by decide +kernel
theorem dX3_greatestSpeed_102 : decode cX3_greatestSpeed 102 = .ok (.lcmp, 1) := by decide +kernel
theorem dX3_greatestSpeed_103 : decode cX3_greatestSpeed 103 = .ok (.ifCond .gt 8, 3) := by decide +kernel
theorem dX3_greatestSpeed_106 : decode cX3_greatestSpeed 106 = .ok (.iload 4, 2) := by decide +kernel
theorem dX3_greatestSpeed_108 : decode cX3_greatestSpeed 108 = .ok (.goto 4, 3) := by decide +kernel
theorem dX3_greatestSpeed_111 : decode cX3_greatestSpeed 111 = .ok (.iconst 0, 1) := by decide +kernel
theorem dX3_greatestSpeed_112 : decode cX3_greatestSpeed 112 = .ok (.iadd, 1) := by decide +kernel
theorem dX3_greatestSpeed_113 : decode cX3_greatestSpeed 113 = .ok (.istore_n 3, 1) := by decide +kernel
theorem dX3_greatestSpeed_114 : decode cX3_greatestSpeed 114 = .ok (.iload 4, 2) := by decide +kernel
theorem dX3_greatestSpeed_116 : decode cX3_greatestSpeed 116 = .ok (.iconst 1, 1) := by decide +kernel
theorem dX3_greatestSpeed_117 : decode cX3_greatestSpeed 117 = .ok (.ishr, 1) := by decide +kernel
theorem dX3_greatestSpeed_118 : decode cX3_greatestSpeed 118 = .ok (.istore 4, 2) := by decide +kernel
theorem dX3_greatestSpeed_120 : decode cX3_greatestSpeed 120 = .ok (.goto (-37), 3) := by decide +kernel
theorem dX3_greatestSpeed_123 : decode cX3_greatestSpeed 123 = .ok (.iload_n 3, 1) := by decide +kernel
theorem dX3_greatestSpeed_124 : decode cX3_greatestSpeed 124 = .ok (.ireturn, 1) := by decide +kernel
theorem dX4_init_0 : decode cX4_init 0 = .ok (.aload_n 0, 1) := by decide +kernel
theorem dX4_init_1 : decode cX4_init 1 = .ok (.invokespecial 3, 3) := by decide +kernel
theorem dX4_init_4 : decode cX4_init 4 = .ok (.new 9, 3) := by decide +kernel
theorem dX4_init_7 : decode cX4_init 7 = .ok (.dup, 1) := by decide +kernel
theorem dX4_init_8 : decode cX4_init 8 = .ok (.invokespecial 11, 3) := by decide +kernel
theorem dX4_init_11 : decode cX4_init 11 = .ok (.astore_n 1, 1) := by decide +kernel
theorem dX4_init_12 : decode cX4_init 12 = .ok (.aload_n 0, 1) := by decide +kernel
theorem dX4_init_13 : decode cX4_init 13 = .ok (.aload_n 1, 1) := by decide +kernel
theorem dX4_init_14 : decode cX4_init 14 = .ok (.putfield 12, 3) := by decide +kernel
theorem dX4_init_17 : decode cX4_init 17 = .ok (.aload_n 0, 1) := by decide +kernel
theorem dX4_init_18 : decode cX4_init 18 = .ok (.new 16, 3) := by decide +kernel
theorem dX4_init_21 : decode cX4_init 21 = .ok (.dup, 1) := by decide +kernel
theorem dX4_init_22 : decode cX4_init 22 = .ok (.invokespecial 18, 3) := by decide +kernel
theorem dX4_init_25 : decode cX4_init 25 = .ok (.putfield 19, 3) := by decide +kernel
theorem dX4_init_28 : decode cX4_init 28 = .ok (.aload_n 0, 1) := by decide +kernel
theorem dX4_init_29 : decode cX4_init 29 = .ok (.new 23, 3) := by decide +kernel
theorem dX4_init_32 : decode cX4_init 32 = .ok (.dup, 1) := by decide +kernel
theorem dX4_init_33 : decode cX4_init 33 = .ok (.aload_n 1, 1) := by decide +kernel
theorem dX4_init_34 : decode cX4_init 34 = .ok (.invokespecial 25, 3) := by decide +kernel
theorem dX4_init_37 : decode cX4_init 37 = .ok (.putfield 28, 3) := by decide +kernel
theorem dX4_init_40 : decode cX4_init 40 = .ok (.aload_n 0, 1) := by decide +kernel
theorem dX4_init_41 : decode cX4_init 41 = .ok (.new 32, 3) := by decide +kernel
theorem dX4_init_44 : decode cX4_init 44 = .ok (.dup, 1) := by decide +kernel
theorem dX4_init_45 : decode cX4_init 45 = .ok (.aload_n 1, 1) := by decide +kernel
theorem dX4_init_46 : decode cX4_init 46 = .ok (.new 23, 3) := by decide +kernel
theorem dX4_init_49 : decode cX4_init 49 = .ok (.dup, 1) := by decide +kernel
theorem dX4_init_50 : decode cX4_init 50 = .ok (.aload_n 1, 1) := by decide +kernel
theorem dX4_init_51 : decode cX4_init 51 = .ok (.invokespecial 25, 3) := by decide +kernel
theorem dX4_init_54 : decode cX4_init 54 = .ok (.invokespecial 34, 3) := by decide +kernel
theorem dX4_init_57 : decode cX4_init 57 = .ok (.putfield 37, 3) := by decide +kernel
theorem dX4_init_60 : decode cX4_init 60 = .ok (.return_, 1) := by decide +kernel
theorem dX4_steps_0 : decode cX4_steps 0 = .ok (.iconst 0, 1) := by decide +kernel
theorem dX4_steps_1 : decode cX4_steps 1 = .ok (.iload_n 1, 1) := by decide +kernel
theorem dX4_steps_2 : decode cX4_steps 2 = .ok (.invokestatic 41, 3) := by decide +kernel
theorem dX4_steps_5 : decode cX4_steps 5 = .ok (.ifCond .ne 5, 3) := by decide +kernel
theorem dX4_steps_8 : decode cX4_steps 8 = .ok (.iconst (-1), 1) := by decide +kernel
theorem dX4_steps_9 : decode cX4_steps 9 = .ok (.ireturn, 1) := by decide +kernel
theorem dX4_steps_10 : decode cX4_steps 10 = .ok (.aload_n 0, 1) := by decide +kernel
theorem dX4_steps_11 : decode cX4_steps 11 = .ok (.getfield 12, 3) := by decide +kernel
theorem dX4_steps_14 : decode cX4_steps 14 = .ok (.iconst 1, 1) := by decide +kernel
theorem dX4_steps_15 : decode cX4_steps 15 = .ok (.invokevirtual 45, 3) := by decide +kernel
theorem dX4_steps_18 : decode cX4_steps 18 = .ok (.istore_n 2, 1) := by decide +kernel
theorem dX4_steps_19 : decode cX4_steps 19 = .ok (.aload_n 0, 1) := by decide +kernel
theorem dX4_steps_20 : decode cX4_steps 20 = .ok (.getfield 19, 3) := by decide +kernel
theorem dX4_steps_23 : decode cX4_steps 23 = .ok (.invokevirtual 49, 3) := by decide +kernel
theorem dX4_steps_26 : decode cX4_steps 26 = .ok (.aload_n 0, 1) := by decide +kernel
theorem dX4_steps_27 : decode cX4_steps 27 = .ok (.invokevirtual 52, 3) := by decide +kernel
theorem dX4_steps_30 : decode cX4_steps 30 = .ok (.aload_n 0, 1) := by decide +kernel
theorem dX4_steps_31 : decode cX4_steps 31 = .ok (.getfield 12, 3) := by decide +kernel
theorem dX4_steps_34 : decode cX4_steps 34 = .ok (.iconst 0, 1) := by decide +kernel
theorem dX4_steps_35 : decode cX4_steps 35 = .ok (.iload_n 1, 1) := by decide +kernel
theorem dX4_steps_36 : decode cX4_steps 36 = .ok (.invokevirtual 55, 3) := by decide +kernel
theorem dX4_steps_39 : decode cX4_steps 39 = .ok (.aload_n 0, 1) := by decide +kernel
theorem dX4_steps_40 : decode cX4_steps 40 = .ok (.getfield 12, 3) := by decide +kernel
theorem dX4_steps_43 : decode cX4_steps 43 = .ok (.iconst 1, 1) := by decide +kernel
theorem dX4_steps_44 : decode cX4_steps 44 = .ok (.iconst 0, 1) := by decide +kernel
theorem dX4_steps_45 : decode cX4_steps 45 = .ok (.invokevirtual 55, 3) := by decide +kernel
theorem dX4_steps_48 : decode cX4_steps 48 = .ok (.aload_n 0, 1) := by decide +kernel
theorem dX4_steps_49 : decode cX4_steps 49 = .ok (.getfield 12, 3) := by decide +kernel
theorem dX4_steps_52 : decode cX4_steps 52 = .ok (.bipush 11, 2) := by decide +kernel
theorem dX4_steps_54 : decode cX4_steps 54 = .ok (.iconst 0, 1) := by decide +kernel
theorem dX4_steps_55 : decode cX4_steps 55 = .ok (.invokevirtual 55, 3) := by decide +kernel
theorem dX4_steps_58 : decode cX4_steps 58 = .ok (.iload_n 2, 1) := by decide +kernel
theorem dX4_steps_59 : decode cX4_steps 59 = .ok (.ireturn, 1) := by decide +kernel
theorem dX4_segment_0 : decode cX4_segment 0 = .ok (.aload_n 0, 1) := by decide +kernel
theorem dX4_segment_1 : decode cX4_segment 1 = .ok (.getfield 12, 3) := by decide +kernel
theorem dX4_segment_4 : decode cX4_segment 4 = .ok (.iconst 1, 1) := by decide +kernel
theorem dX4_segment_5 : decode cX4_segment 5 = .ok (.invokevirtual 45, 3) := by decide +kernel
theorem dX4_segment_8 : decode cX4_segment 8 = .ok (.istore 4, 2) := by decide +kernel
theorem dX4_segment_10 : decode cX4_segment 10 = .ok (.iload 4, 2) := by decide +kernel
theorem dX4_segment_12 : decode cX4_segment 12 = .ok (.bipush 12, 2) := by decide +kernel
theorem dX4_segment_14 : decode cX4_segment 14 = .ok (.if_icmp .ge 27, 3) := by decide +kernel
theorem dX4_segment_17 : decode cX4_segment 17 = .ok (.iconst 0, 1) := by decide +kernel
theorem dX4_segment_18 : decode cX4_segment 18 = .ok (.iload_n 1, 1) := by decide +kernel
theorem dX4_segment_19 : decode cX4_segment 19 = .ok (.invokestatic 59, 3) := by decide +kernel
theorem dX4_segment_22 : decode cX4_segment 22 = .ok (.ifCond .eq 19, 3) := by decide +kernel
theorem dX4_segment_25 : decode cX4_segment 25 = .ok (.iconst 1, 1) := by decide +kernel
theorem dX4_segment_26 : decode cX4_segment 26 = .ok (.iload_n 2, 1) := by decide +kernel
theorem dX4_segment_27 : decode cX4_segment 27 = .ok (.invokestatic 59, 3) := by decide +kernel
theorem dX4_segment_30 : decode cX4_segment 30 = .ok (.ifCond .eq 11, 3) := by decide +kernel
theorem dX4_segment_33 : decode cX4_segment 33 = .ok (.iconst 2, 1) := by decide +kernel
theorem dX4_segment_34 : decode cX4_segment 34 = .ok (.iload_n 3, 1) := by decide +kernel
theorem dX4_segment_35 : decode cX4_segment 35 = .ok (.invokestatic 59, 3) := by decide +kernel
theorem dX4_segment_38 : decode cX4_segment 38 = .ok (.ifCond .ne 5, 3) := by decide +kernel
theorem dX4_segment_41 : decode cX4_segment 41 = .ok (.iconst (-1), 1) := by decide +kernel
theorem dX4_segment_42 : decode cX4_segment 42 = .ok (.ireturn, 1) := by decide +kernel
theorem dX4_segment_43 : decode cX4_segment 43 = .ok (.aload_n 0, 1) := by decide +kernel
theorem dX4_segment_44 : decode cX4_segment 44 = .ok (.invokevirtual 62, 3) := by decide +kernel
theorem dX4_segment_47 : decode cX4_segment 47 = .ok (.aload_n 0, 1) := by decide +kernel
theorem dX4_segment_48 : decode cX4_segment 48 = .ok (.getfield 12, 3) := by decide +kernel
theorem dX4_segment_51 : decode cX4_segment 51 = .ok (.iconst 1, 1) := by decide +kernel
theorem dX4_segment_52 : decode cX4_segment 52 = .ok (.iload 4, 2) := by decide +kernel
theorem dX4_segment_54 : decode cX4_segment 54 = .ok (.iconst 1, 1) := by decide +kernel
theorem dX4_segment_55 : decode cX4_segment 55 = .ok (.iadd, 1) := by decide +kernel
theorem dX4_segment_56 : decode cX4_segment 56 = .ok (.invokevirtual 55, 3) := by decide +kernel
theorem dX4_segment_59 : decode cX4_segment 59 = .ok (.aload_n 0, 1) := by decide +kernel
theorem dX4_segment_60 : decode cX4_segment 60 = .ok (.getfield 12, 3) := by decide +kernel
theorem dX4_segment_63 : decode cX4_segment 63 = .ok (.iload 4, 2) := by decide +kernel
theorem dX4_segment_65 : decode cX4_segment 65 = .ok (.iconst 0, 1) := by decide +kernel
theorem dX4_segment_66 : decode cX4_segment 66 = .ok (.invokestatic 65, 3) := by decide +kernel
theorem dX4_segment_69 : decode cX4_segment 69 = .ok (.iload_n 1, 1) := by decide +kernel
theorem dX4_segment_70 : decode cX4_segment 70 = .ok (.invokevirtual 55, 3) := by decide +kernel
theorem dX4_segment_73 : decode cX4_segment 73 = .ok (.aload_n 0, 1) := by decide +kernel
theorem dX4_segment_74 : decode cX4_segment 74 = .ok (.getfield 12, 3) := by decide +kernel
theorem dX4_segment_77 : decode cX4_segment 77 = .ok (.iload 4, 2) := by decide +kernel
theorem dX4_segment_79 : decode cX4_segment 79 = .ok (.iconst 1, 1) := by decide +kernel
theorem dX4_segment_80 : decode cX4_segment 80 = .ok (.invokestatic 65, 3) := by decide +kernel
theorem dX4_segment_83 : decode cX4_segment 83 = .ok (.iload_n 2, 1) := by decide +kernel
theorem dX4_segment_84 : decode cX4_segment 84 = .ok (.invokevirtual 55, 3) := by decide +kernel
theorem dX4_segment_87 : decode cX4_segment 87 = .ok (.aload_n 0, 1) := by decide +kernel
theorem dX4_segment_88 : decode cX4_segment 88 = .ok (.getfield 12, 3) := by decide +kernel
theorem dX4_segment_91 : decode cX4_segment 91 = .ok (.iload 4, 2) := by decide +kernel
theorem dX4_segment_93 : decode cX4_segment 93 = .ok (.iconst 2, 1) := by decide +kernel
theorem dX4_segment_94 : decode cX4_segment 94 = .ok (.invokestatic 65, 3) := by decide +kernel
theorem dX4_segment_97 : decode cX4_segment 97 = .ok (.iload_n 3, 1) := by decide +kernel
theorem dX4_segment_98 : decode cX4_segment 98 = .ok (.invokevirtual 55, 3) := by decide +kernel
theorem dX4_segment_101 : decode cX4_segment 101 = .ok (.iload 4, 2) := by decide +kernel
theorem dX4_segment_103 : decode cX4_segment 103 = .ok (.ireturn, 1) := by decide +kernel
theorem dX4_alter_0 : decode cX4_alter 0 = .ok (.aload_n 0, 1) := by decide +kernel
theorem dX4_alter_1 : decode cX4_alter 1 = .ok (.getfield 12, 3) := by decide +kernel
theorem dX4_alter_4 : decode cX4_alter 4 = .ok (.iload_n 1, 1) := by decide +kernel
theorem dX4_alter_5 : decode cX4_alter 5 = .ok (.invokevirtual 69, 3) := by decide +kernel
theorem dX4_alter_8 : decode cX4_alter 8 = .ok (.ifCond .eq 11, 3) := by decide +kernel
theorem dX4_alter_11 : decode cX4_alter 11 = .ok (.iload_n 2, 1) := by decide +kernel
theorem dX4_alter_12 : decode cX4_alter 12 = .ok (.iload_n 3, 1) := by decide +kernel
theorem dX4_alter_13 : decode cX4_alter 13 = .ok (.invokestatic 59, 3) := by decide +kernel
theorem dX4_alter_16 : decode cX4_alter 16 = .ok (.ifCond .ne 5, 3) := by decide +kernel
theorem dX4_alter_19 : decode cX4_alter 19 = .ok (.iconst (-1), 1) := by decide +kernel
theorem dX4_alter_20 : decode cX4_alter 20 = .ok (.ireturn, 1) := by decide +kernel
theorem dX4_alter_21 : decode cX4_alter 21 = .ok (.aload_n 0, 1) := by decide +kernel
theorem dX4_alter_22 : decode cX4_alter 22 = .ok (.invokevirtual 62, 3) := by decide +kernel
theorem dX4_alter_25 : decode cX4_alter 25 = .ok (.aload_n 0, 1) := by decide +kernel
theorem dX4_alter_26 : decode cX4_alter 26 = .ok (.getfield 12, 3) := by decide +kernel
theorem dX4_alter_29 : decode cX4_alter 29 = .ok (.iload_n 1, 1) := by decide +kernel
theorem dX4_alter_30 : decode cX4_alter 30 = .ok (.iload_n 2, 1) := by decide +kernel
theorem dX4_alter_31 : decode cX4_alter 31 = .ok (.invokestatic 65, 3) := by decide +kernel
theorem dX4_alter_34 : decode cX4_alter 34 = .ok (.iload_n 3, 1) := by decide +kernel
theorem dX4_alter_35 : decode cX4_alter 35 = .ok (.invokevirtual 73, 3) := by decide +kernel
theorem dX4_alter_38 : decode cX4_alter 38 = .ok (.ireturn, 1) := by decide +kernel
theorem dX4_drop_0 : decode cX4_drop 0 = .ok (.aload_n 0, 1) := by decide +kernel
theorem dX4_drop_1 : decode cX4_drop 1 = .ok (.getfield 12, 3) := by decide +kernel
theorem dX4_drop_4 : decode cX4_drop 4 = .ok (.iconst 1, 1) := by decide +kernel
theorem dX4_drop_5 : decode cX4_drop 5 = .ok (.invokevirtual 45, 3) := by decide +kernel
theorem dX4_drop_8 : decode cX4_drop 8 = .ok (.iconst 1, 1) := by decide +kernel
theorem dX4_drop_9 : decode cX4_drop 9 = .ok (.isub, 1) := by decide +kernel
theorem dX4_drop_10 : decode cX4_drop 10 = .ok (.istore_n 1, 1) := by decide +kernel
theorem dX4_drop_11 : decode cX4_drop 11 = .ok (.iload_n 1, 1) := by decide +kernel
theorem dX4_drop_12 : decode cX4_drop 12 = .ok (.ifCond .ge 5, 3) := by decide +kernel
theorem dX4_drop_15 : decode cX4_drop 15 = .ok (.iconst (-1), 1) := by decide +kernel
theorem dX4_drop_16 : decode cX4_drop 16 = .ok (.ireturn, 1) := by decide +kernel
theorem dX4_drop_17 : decode cX4_drop 17 = .ok (.aload_n 0, 1) := by decide +kernel
theorem dX4_drop_18 : decode cX4_drop 18 = .ok (.invokevirtual 62, 3) := by decide +kernel
theorem dX4_drop_21 : decode cX4_drop 21 = .ok (.aload_n 0, 1) := by decide +kernel
theorem dX4_drop_22 : decode cX4_drop 22 = .ok (.getfield 12, 3) := by decide +kernel
theorem dX4_drop_25 : decode cX4_drop 25 = .ok (.iconst 1, 1) := by decide +kernel
theorem dX4_drop_26 : decode cX4_drop 26 = .ok (.iload_n 1, 1) := by decide +kernel
theorem dX4_drop_27 : decode cX4_drop 27 = .ok (.invokevirtual 55, 3) := by decide +kernel
theorem dX4_drop_30 : decode cX4_drop 30 = .ok (.iload_n 1, 1) := by decide +kernel
theorem dX4_drop_31 : decode cX4_drop 31 = .ok (.ireturn, 1) := by decide +kernel
theorem dX4_start_0 : decode cX4_start 0 = .ok (.aload_n 0, 1) := by decide +kernel
theorem dX4_start_1 : decode cX4_start 1 = .ok (.iconst 2, 1) := by decide +kernel
theorem dX4_start_2 : decode cX4_start 2 = .ok (.iload_n 1, 1) := by decide +kernel
theorem dX4_start_3 : decode cX4_start 3 = .ok (.invokevirtual 76, 3) := by decide +kernel
theorem dX4_start_6 : decode cX4_start 6 = .ok (.ireturn, 1) := by decide +kernel
theorem dX4_base_0 : decode cX4_base 0 = .ok (.aload_n 0, 1) := by decide +kernel
theorem dX4_base_1 : decode cX4_base 1 = .ok (.iconst 3, 1) := by decide +kernel
theorem dX4_base_2 : decode cX4_base 2 = .ok (.iload_n 1, 1) := by decide +kernel
theorem dX4_base_3 : decode cX4_base 3 = .ok (.invokevirtual 76, 3) := by decide +kernel
theorem dX4_base_6 : decode cX4_base 6 = .ok (.ireturn, 1) := by decide +kernel
theorem dX4_roller_0 : decode cX4_roller 0 = .ok (.aload_n 0, 1) := by decide +kernel
theorem dX4_roller_1 : decode cX4_roller 1 = .ok (.iconst 4, 1) := by decide +kernel
theorem dX4_roller_2 : decode cX4_roller 2 = .ok (.iload_n 1, 1) := by decide +kernel
theorem dX4_roller_3 : decode cX4_roller 3 = .ok (.invokevirtual 76, 3) := by decide +kernel
theorem dX4_roller_6 : decode cX4_roller 6 = .ok (.ireturn, 1) := by decide +kernel
theorem dX4_spring_0 : decode cX4_spring 0 = .ok (.iconst 5, 1) := by decide +kernel
theorem dX4_spring_1 : decode cX4_spring 1 = .ok (.iload_n 1, 1) := by decide +kernel
theorem dX4_spring_2 : decode cX4_spring 2 = .ok (.invokestatic 41, 3) := by decide +kernel
theorem dX4_spring_5 : decode cX4_spring 5 = .ok (.ifCond .eq 21, 3) := by decide +kernel
theorem dX4_spring_8 : decode cX4_spring 8 = .ok (.bipush 6, 2) := by decide +kernel
theorem dX4_spring_10 : decode cX4_spring 10 = .ok (.iload_n 2, 1) := by decide +kernel
theorem dX4_spring_11 : decode cX4_spring 11 = .ok (.invokestatic 41, 3) := by decide +kernel
theorem dX4_spring_14 : decode cX4_spring 14 = .ok (.ifCond .eq 12, 3) := by decide +kernel
theorem dX4_spring_17 : decode cX4_spring 17 = .ok (.bipush 7, 2) := by decide +kernel
theorem dX4_spring_19 : decode cX4_spring 19 = .ok (.iload_n 3, 1) := by decide +kernel
theorem dX4_spring_20 : decode cX4_spring 20 = .ok (.invokestatic 41, 3) := by decide +kernel
theorem dX4_spring_23 : decode cX4_spring 23 = .ok (.ifCond .ne 5, 3) := by decide +kernel
theorem dX4_spring_26 : decode cX4_spring 26 = .ok (.iconst 0, 1) := by decide +kernel
theorem dX4_spring_27 : decode cX4_spring 27 = .ok (.ireturn, 1) := by decide +kernel
theorem dX4_spring_28 : decode cX4_spring 28 = .ok (.aload_n 0, 1) := by decide +kernel
theorem dX4_spring_29 : decode cX4_spring 29 = .ok (.invokevirtual 62, 3) := by decide +kernel
theorem dX4_spring_32 : decode cX4_spring 32 = .ok (.aload_n 0, 1) := by decide +kernel
theorem dX4_spring_33 : decode cX4_spring 33 = .ok (.getfield 12, 3) := by decide +kernel
theorem dX4_spring_36 : decode cX4_spring 36 = .ok (.iconst 5, 1) := by decide +kernel
theorem dX4_spring_37 : decode cX4_spring 37 = .ok (.iload_n 1, 1) := by decide +kernel
theorem dX4_spring_38 : decode cX4_spring 38 = .ok (.invokevirtual 55, 3) := by decide +kernel
theorem dX4_spring_41 : decode cX4_spring 41 = .ok (.aload_n 0, 1) := by decide +kernel
theorem dX4_spring_42 : decode cX4_spring 42 = .ok (.getfield 12, 3) := by decide +kernel
theorem dX4_spring_45 : decode cX4_spring 45 = .ok (.bipush 6, 2) := by decide +kernel
theorem dX4_spring_47 : decode cX4_spring 47 = .ok (.iload_n 2, 1) := by decide +kernel
theorem dX4_spring_48 : decode cX4_spring 48 = .ok (.invokevirtual 55, 3) := by decide +kernel
theorem dX4_spring_51 : decode cX4_spring 51 = .ok (.aload_n 0, 1) := by decide +kernel
theorem dX4_spring_52 : decode cX4_spring 52 = .ok (.getfield 12, 3) := by decide +kernel
theorem dX4_spring_55 : decode cX4_spring 55 = .ok (.bipush 7, 2) := by decide +kernel
theorem dX4_spring_57 : decode cX4_spring 57 = .ok (.iload_n 3, 1) := by decide +kernel
theorem dX4_spring_58 : decode cX4_spring 58 = .ok (.invokevirtual 55, 3) := by decide +kernel
theorem dX4_spring_61 : decode cX4_spring 61 = .ok (.iconst 1, 1) := by decide +kernel
theorem dX4_spring_62 : decode cX4_spring 62 = .ok (.ireturn, 1) := by decide +kernel
theorem dX4_speed_0 : decode cX4_speed 0 = .ok (.aload_n 0, 1) := by decide +kernel
theorem dX4_speed_1 : decode cX4_speed 1 = .ok (.bipush 8, 2) := by decide +kernel
theorem dX4_speed_3 : decode cX4_speed 3 = .ok (.iload_n 1, 1) := by decide +kernel
theorem dX4_speed_4 : decode cX4_speed 4 = .ok (.invokevirtual 76, 3) := by decide +kernel
theorem dX4_speed_7 : decode cX4_speed 7 = .ok (.ireturn, 1) := by decide +kernel
theorem dX4_steepest_0 : decode cX4_steepest 0 = .ok (.aload_n 0, 1) := by decide +kernel
theorem dX4_steepest_1 : decode cX4_steepest 1 = .ok (.bipush 9, 2) := by decide +kernel
theorem dX4_steepest_3 : decode cX4_steepest 3 = .ok (.iload_n 1, 1) := by decide +kernel
theorem dX4_steepest_4 : decode cX4_steepest 4 = .ok (.invokevirtual 76, 3) := by decide +kernel
theorem dX4_steepest_7 : decode cX4_steepest 7 = .ok (.ireturn, 1) := by decide +kernel
theorem dX4_slack_0 : decode cX4_slack 0 = .ok (.aload_n 0, 1) := by decide +kernel
theorem dX4_slack_1 : decode cX4_slack 1 = .ok (.bipush 10, 2) := by decide +kernel
theorem dX4_slack_3 : decode cX4_slack 3 = .ok (.iload_n 1, 1) := by decide +kernel
theorem dX4_slack_4 : decode cX4_slack 4 = .ok (.invokevirtual 76, 3) := by decide +kernel
theorem dX4_slack_7 : decode cX4_slack 7 = .ok (.ireturn, 1) := by decide +kernel
theorem dX4_mark_0 : decode cX4_mark 0 = .ok (.aload_n 0, 1) := by decide +kernel
theorem dX4_mark_1 : decode cX4_mark 1 = .ok (.getfield 12, 3) := by decide +kernel
theorem dX4_mark_4 : decode cX4_mark 4 = .ok (.bipush 11, 2) := by decide +kernel
theorem dX4_mark_6 : decode cX4_mark 6 = .ok (.invokevirtual 45, 3) := by decide +kernel
theorem dX4_mark_9 : decode cX4_mark 9 = .ok (.istore 4, 2) := by decide +kernel
theorem dX4_mark_11 : decode cX4_mark 11 = .ok (.iload 4, 2) := by decide +kernel
theorem dX4_mark_13 : decode cX4_mark 13 = .ok (.bipush 8, 2) := by decide +kernel
theorem dX4_mark_15 : decode cX4_mark 15 = .ok (.if_icmp .ge 31, 3) := by decide +kernel
theorem dX4_mark_18 : decode cX4_mark 18 = .ok (.aload_n 0, 1) := by decide +kernel
theorem dX4_mark_19 : decode cX4_mark 19 = .ok (.getfield 12, 3) := by decide +kernel
theorem dX4_mark_22 : decode cX4_mark 22 = .ok (.iload_n 1, 1) := by decide +kernel
theorem dX4_mark_23 : decode cX4_mark 23 = .ok (.invokevirtual 79, 3) := by decide +kernel
theorem dX4_mark_26 : decode cX4_mark 26 = .ok (.ifCond .eq 20, 3) := by decide +kernel
theorem dX4_mark_29 : decode cX4_mark 29 = .ok (.iconst 2, 1) := by decide +kernel
theorem dX4_mark_30 : decode cX4_mark 30 = .ok (.iload_n 2, 1) := by decide +kernel
theorem dX4_mark_31 : decode cX4_mark 31 = .ok (.invokestatic 41, 3) := by decide +kernel
theorem dX4_mark_34 : decode cX4_mark 34 = .ok (.ifCond .eq 12, 3) := by decide +kernel
theorem dX4_mark_37 : decode cX4_mark 37 = .ok (.bipush 10, 2) := by decide +kernel
theorem dX4_mark_39 : decode cX4_mark 39 = .ok (.iload_n 3, 1) := by decide +kernel
theorem dX4_mark_40 : decode cX4_mark 40 = .ok (.invokestatic 41, 3) := by decide +kernel
theorem dX4_mark_43 : decode cX4_mark 43 = .ok (.ifCond .ne 5, 3) := by decide +kernel
theorem dX4_mark_46 : decode cX4_mark 46 = .ok (.iconst (-1), 1) := by decide +kernel
theorem dX4_mark_47 : decode cX4_mark 47 = .ok (.ireturn, 1) := by decide +kernel
theorem dX4_mark_48 : decode cX4_mark 48 = .ok (.aload_n 0, 1) := by decide +kernel
theorem dX4_mark_49 : decode cX4_mark 49 = .ok (.invokevirtual 62, 3) := by decide +kernel
theorem dX4_mark_52 : decode cX4_mark 52 = .ok (.aload_n 0, 1) := by decide +kernel
theorem dX4_mark_53 : decode cX4_mark 53 = .ok (.getfield 12, 3) := by decide +kernel
theorem dX4_mark_56 : decode cX4_mark 56 = .ok (.bipush 11, 2) := by decide +kernel
theorem dX4_mark_58 : decode cX4_mark 58 = .ok (.iload 4, 2) := by decide +kernel
theorem dX4_mark_60 : decode cX4_mark 60 = .ok (.iconst 1, 1) := by decide +kernel
theorem dX4_mark_61 : decode cX4_mark 61 = .ok (.iadd, 1) := by decide +kernel
theorem dX4_mark_62 : decode cX4_mark 62 = .ok (.invokevirtual 55, 3) := by decide +kernel
theorem dX4_mark_65 : decode cX4_mark 65 = .ok (.aload_n 0, 1) := by decide +kernel
theorem dX4_mark_66 : decode cX4_mark 66 = .ok (.getfield 12, 3) := by decide +kernel
theorem dX4_mark_69 : decode cX4_mark 69 = .ok (.iload 4, 2) := by decide +kernel
theorem dX4_mark_71 : decode cX4_mark 71 = .ok (.iconst 0, 1) := by decide +kernel
theorem dX4_mark_72 : decode cX4_mark 72 = .ok (.invokestatic 82, 3) := by decide +kernel
theorem dX4_mark_75 : decode cX4_mark 75 = .ok (.iload_n 1, 1) := by decide +kernel
theorem dX4_mark_76 : decode cX4_mark 76 = .ok (.invokevirtual 55, 3) := by decide +kernel
theorem dX4_mark_79 : decode cX4_mark 79 = .ok (.aload_n 0, 1) := by decide +kernel
theorem dX4_mark_80 : decode cX4_mark 80 = .ok (.getfield 12, 3) := by decide +kernel
theorem dX4_mark_83 : decode cX4_mark 83 = .ok (.iload 4, 2) := by decide +kernel
theorem dX4_mark_85 : decode cX4_mark 85 = .ok (.iconst 1, 1) := by decide +kernel
theorem dX4_mark_86 : decode cX4_mark 86 = .ok (.invokestatic 82, 3) := by decide +kernel
theorem dX4_mark_89 : decode cX4_mark 89 = .ok (.iload_n 2, 1) := by decide +kernel
theorem dX4_mark_90 : decode cX4_mark 90 = .ok (.invokevirtual 55, 3) := by decide +kernel
theorem dX4_mark_93 : decode cX4_mark 93 = .ok (.aload_n 0, 1) := by decide +kernel
theorem dX4_mark_94 : decode cX4_mark 94 = .ok (.getfield 12, 3) := by decide +kernel
theorem dX4_mark_97 : decode cX4_mark 97 = .ok (.iload 4, 2) := by decide +kernel
theorem dX4_mark_99 : decode cX4_mark 99 = .ok (.iconst 2, 1) := by decide +kernel
theorem dX4_mark_100 : decode cX4_mark 100 = .ok (.invokestatic 82, 3) := by decide +kernel
theorem dX4_mark_103 : decode cX4_mark 103 = .ok (.iload_n 3, 1) := by decide +kernel
theorem dX4_mark_104 : decode cX4_mark 104 = .ok (.invokevirtual 55, 3) := by decide +kernel
theorem dX4_mark_107 : decode cX4_mark 107 = .ok (.iload 4, 2) := by decide +kernel
theorem dX4_mark_109 : decode cX4_mark 109 = .ok (.ireturn, 1) := by decide +kernel
theorem dX4_unmark_0 : decode cX4_unmark 0 = .ok (.aload_n 0, 1) := by decide +kernel
theorem dX4_unmark_1 : decode cX4_unmark 1 = .ok (.getfield 12, 3) := by decide +kernel
theorem dX4_unmark_4 : decode cX4_unmark 4 = .ok (.iload_n 1, 1) := by decide +kernel
theorem dX4_unmark_5 : decode cX4_unmark 5 = .ok (.invokevirtual 85, 3) := by decide +kernel
theorem dX4_unmark_8 : decode cX4_unmark 8 = .ok (.ifCond .ne 5, 3) := by decide +kernel
theorem dX4_unmark_11 : decode cX4_unmark 11 = .ok (.iconst 0, 1) := by decide +kernel
theorem dX4_unmark_12 : decode cX4_unmark 12 = .ok (.ireturn, 1) := by decide +kernel
theorem dX4_unmark_13 : decode cX4_unmark 13 = .ok (.aload_n 0, 1) := by decide +kernel
theorem dX4_unmark_14 : decode cX4_unmark 14 = .ok (.invokevirtual 62, 3) := by decide +kernel
theorem dX4_unmark_17 : decode cX4_unmark 17 = .ok (.aload_n 0, 1) := by decide +kernel
theorem dX4_unmark_18 : decode cX4_unmark 18 = .ok (.getfield 12, 3) := by decide +kernel
theorem dX4_unmark_21 : decode cX4_unmark 21 = .ok (.iload_n 1, 1) := by decide +kernel
theorem dX4_unmark_22 : decode cX4_unmark 22 = .ok (.invokevirtual 88, 3) := by decide +kernel
theorem dX4_unmark_25 : decode cX4_unmark 25 = .ok (.iconst 1, 1) := by decide +kernel
theorem dX4_unmark_26 : decode cX4_unmark 26 = .ok (.ireturn, 1) := by decide +kernel
theorem dX4_back_0 : decode cX4_back 0 = .ok (.aload_n 0, 1) := by decide +kernel
theorem dX4_back_1 : decode cX4_back 1 = .ok (.getfield 19, 3) := by decide +kernel
theorem dX4_back_4 : decode cX4_back 4 = .ok (.invokevirtual 92, 3) := by decide +kernel
theorem dX4_back_7 : decode cX4_back 7 = .ok (.ifCond .ne 5, 3) := by decide +kernel
theorem dX4_back_10 : decode cX4_back 10 = .ok (.iconst 0, 1) := by decide +kernel
theorem dX4_back_11 : decode cX4_back 11 = .ok (.ireturn, 1) := by decide +kernel
theorem dX4_back_12 : decode cX4_back 12 = .ok (.aload_n 0, 1) := by decide +kernel
theorem dX4_back_13 : decode cX4_back 13 = .ok (.invokevirtual 52, 3) := by decide +kernel
theorem dX4_back_16 : decode cX4_back 16 = .ok (.aload_n 0, 1) := by decide +kernel
theorem dX4_back_17 : decode cX4_back 17 = .ok (.getfield 19, 3) := by decide +kernel
theorem dX4_back_20 : decode cX4_back 20 = .ok (.aload_n 0, 1) := by decide +kernel
theorem dX4_back_21 : decode cX4_back 21 = .ok (.getfield 12, 3) := by decide +kernel
theorem dX4_back_24 : decode cX4_back 24 = .ok (.invokevirtual 96, 3) := by decide +kernel
theorem dX4_back_27 : decode cX4_back 27 = .ok (.iconst 1, 1) := by decide +kernel
theorem dX4_back_28 : decode cX4_back 28 = .ok (.ireturn, 1) := by decide +kernel
theorem dX4_of_0 : decode cX4_of 0 = .ok (.aload_n 0, 1) := by decide +kernel
theorem dX4_of_1 : decode cX4_of 1 = .ok (.getfield 12, 3) := by decide +kernel
theorem dX4_of_4 : decode cX4_of 4 = .ok (.iload_n 1, 1) := by decide +kernel
theorem dX4_of_5 : decode cX4_of 5 = .ok (.invokevirtual 69, 3) := by decide +kernel
theorem dX4_of_8 : decode cX4_of 8 = .ok (.ifCond .ne 5, 3) := by decide +kernel
theorem dX4_of_11 : decode cX4_of 11 = .ok (.iconst (-1), 1) := by decide +kernel
theorem dX4_of_12 : decode cX4_of 12 = .ok (.ireturn, 1) := by decide +kernel
theorem dX4_of_13 : decode cX4_of 13 = .ok (.iload_n 2, 1) := by decide +kernel
theorem dX4_of_14 : decode cX4_of 14 = .ok (.tableswitch 86 0 5 #[38, 38, 38, 51, 60, 69], 38) := by decide +kernel
theorem dX4_of_52 : decode cX4_of 52 = .ok (.aload_n 0, 1) := by decide +kernel
theorem dX4_of_53 : decode cX4_of 53 = .ok (.getfield 12, 3) := by decide +kernel
theorem dX4_of_56 : decode cX4_of 56 = .ok (.iload_n 1, 1) := by decide +kernel
theorem dX4_of_57 : decode cX4_of 57 = .ok (.iload_n 2, 1) := by decide +kernel
theorem dX4_of_58 : decode cX4_of 58 = .ok (.invokestatic 65, 3) := by decide +kernel
theorem dX4_of_61 : decode cX4_of 61 = .ok (.invokevirtual 45, 3) := by decide +kernel
theorem dX4_of_64 : decode cX4_of 64 = .ok (.ireturn, 1) := by decide +kernel
theorem dX4_of_65 : decode cX4_of 65 = .ok (.aload_n 0, 1) := by decide +kernel
theorem dX4_of_66 : decode cX4_of 66 = .ok (.getfield 12, 3) := by decide +kernel
theorem dX4_of_69 : decode cX4_of 69 = .ok (.iload_n 1, 1) := by decide +kernel
theorem dX4_of_70 : decode cX4_of 70 = .ok (.invokevirtual 99, 3) := by decide +kernel
theorem dX4_of_73 : decode cX4_of 73 = .ok (.ireturn, 1) := by decide +kernel
theorem dX4_of_74 : decode cX4_of 74 = .ok (.aload_n 0, 1) := by decide +kernel
theorem dX4_of_75 : decode cX4_of 75 = .ok (.getfield 12, 3) := by decide +kernel
theorem dX4_of_78 : decode cX4_of 78 = .ok (.iload_n 1, 1) := by decide +kernel
theorem dX4_of_79 : decode cX4_of 79 = .ok (.invokevirtual 102, 3) := by decide +kernel
theorem dX4_of_82 : decode cX4_of 82 = .ok (.ireturn, 1) := by decide +kernel
theorem dX4_of_83 : decode cX4_of 83 = .ok (.aload_n 0, 1) := by decide +kernel
theorem dX4_of_84 : decode cX4_of 84 = .ok (.getfield 12, 3) := by decide +kernel
theorem dX4_of_87 : decode cX4_of 87 = .ok (.iload_n 1, 1) := by decide +kernel
theorem dX4_of_88 : decode cX4_of 88 = .ok (.invokevirtual 105, 3) := by decide +kernel
theorem dX4_of_91 : decode cX4_of 91 = .ok (.ifCond .eq 7, 3) := by decide +kernel
theorem dX4_of_94 : decode cX4_of 94 = .ok (.iconst 1, 1) := by decide +kernel
theorem dX4_of_95 : decode cX4_of 95 = .ok (.goto 4, 3) := by decide +kernel
theorem dX4_of_98 : decode cX4_of 98 = .ok (.iconst 0, 1) := by decide +kernel
theorem dX4_of_99 : decode cX4_of 99 = .ok (.ireturn, 1) := by decide +kernel
theorem dX4_of_100 : decode cX4_of 100 = .ok (.iconst (-1), 1) := by decide +kernel
theorem dX4_of_101 : decode cX4_of 101 = .ok (.ireturn, 1) := by decide +kernel
theorem dX4_lift_0 : decode cX4_lift 0 = .ok (.aload_n 0, 1) := by decide +kernel
theorem dX4_lift_1 : decode cX4_lift 1 = .ok (.invokevirtual 108, 3) := by decide +kernel
theorem dX4_lift_4 : decode cX4_lift 4 = .ok (.ifCond .eq 27, 3) := by decide +kernel
theorem dX4_lift_7 : decode cX4_lift 7 = .ok (.aload_n 0, 1) := by decide +kernel
theorem dX4_lift_8 : decode cX4_lift 8 = .ok (.getfield 12, 3) := by decide +kernel
theorem dX4_lift_11 : decode cX4_lift 11 = .ok (.iload_n 1, 1) := by decide +kernel
theorem dX4_lift_12 : decode cX4_lift 12 = .ok (.invokevirtual 79, 3) := by decide +kernel
theorem dX4_lift_15 : decode cX4_lift 15 = .ok (.ifCond .eq 16, 3) := by decide +kernel
theorem dX4_lift_18 : decode cX4_lift 18 = .ok (.aload_n 0, 1) := by decide +kernel
theorem dX4_lift_19 : decode cX4_lift 19 = .ok (.getfield 28, 3) := by decide +kernel
theorem dX4_lift_22 : decode cX4_lift 22 = .ok (.iconst 0, 1) := by decide +kernel
theorem dX4_lift_23 : decode cX4_lift 23 = .ok (.iload_n 1, 1) := by decide +kernel
theorem dX4_lift_24 : decode cX4_lift 24 = .ok (.invokevirtual 112, 3) := by decide +kernel
theorem dX4_lift_27 : decode cX4_lift 27 = .ok (.l2i, 1) := by decide +kernel
theorem dX4_lift_28 : decode cX4_lift 28 = .ok (.goto 4, 3) := by decide +kernel
theorem dX4_lift_31 : decode cX4_lift 31 = .ok (.iconst (-1), 1) := by decide +kernel
theorem dX4_lift_32 : decode cX4_lift 32 = .ok (.ireturn, 1) := by decide +kernel
theorem dX4_diff_0 : decode cX4_diff 0 = .ok (.iload_n 2, 1) := by decide +kernel
theorem dX4_diff_1 : decode cX4_diff 1 = .ok (.invokestatic 116, 3) := by decide +kernel
theorem dX4_diff_4 : decode cX4_diff 4 = .ok (.ifCond .eq 21, 3) := by decide +kernel
theorem dX4_diff_7 : decode cX4_diff 7 = .ok (.aload_n 0, 1) := by decide +kernel
theorem dX4_diff_8 : decode cX4_diff 8 = .ok (.invokevirtual 108, 3) := by decide +kernel
theorem dX4_diff_11 : decode cX4_diff 11 = .ok (.ifCond .eq 14, 3) := by decide +kernel
theorem dX4_diff_14 : decode cX4_diff 14 = .ok (.aload_n 0, 1) := by decide +kernel
theorem dX4_diff_15 : decode cX4_diff 15 = .ok (.getfield 12, 3) := by decide +kernel
theorem dX4_diff_18 : decode cX4_diff 18 = .ok (.iload_n 1, 1) := by decide +kernel
theorem dX4_diff_19 : decode cX4_diff 19 = .ok (.invokevirtual 79, 3) := by decide +kernel
theorem dX4_diff_22 : decode cX4_diff 22 = .ok (.ifCond .ne 11, 3) := by decide +kernel
theorem dX4_diff_25 : decode cX4_diff 25 = .ok (.new 119, 3) := by decide +kernel
theorem dX4_diff_28 : decode cX4_diff 28 = .ok (.dup, 1) := by decide +kernel
theorem dX4_diff_29 : decode cX4_diff 29 = .ok (.invokespecial 121, 3) := by decide +kernel
theorem dX4_diff_32 : decode cX4_diff 32 = .ok (.athrow, 1) := by decide +kernel
theorem dX4_diff_33 : decode cX4_diff 33 = .ok (.aload_n 0, 1) := by decide +kernel
theorem dX4_diff_34 : decode cX4_diff 34 = .ok (.getfield 28, 3) := by decide +kernel
theorem dX4_diff_37 : decode cX4_diff 37 = .ok (.iload_n 2, 1) := by decide +kernel
theorem dX4_diff_38 : decode cX4_diff 38 = .ok (.iload_n 1, 1) := by decide +kernel
theorem dX4_diff_39 : decode cX4_diff 39 = .ok (.invokevirtual 112, 3) := by decide +kernel
theorem dX4_diff_42 : decode cX4_diff 42 = .ok (.l2i, 1) := by decide +kernel
theorem dX4_diff_43 : decode cX4_diff 43 = .ok (.ireturn, 1) := by decide +kernel
theorem dX4_most_0 : decode cX4_most 0 = .ok (.iload_n 1, 1) := by decide +kernel
theorem dX4_most_1 : decode cX4_most 1 = .ok (.invokestatic 116, 3) := by decide +kernel
theorem dX4_most_4 : decode cX4_most 4 = .ok (.ifCond .eq 10, 3) := by decide +kernel
theorem dX4_most_7 : decode cX4_most 7 = .ok (.aload_n 0, 1) := by decide +kernel
theorem dX4_most_8 : decode cX4_most 8 = .ok (.invokevirtual 108, 3) := by decide +kernel
theorem dX4_most_11 : decode cX4_most 11 = .ok (.ifCond .ne 5, 3) := by decide +kernel
theorem dX4_most_14 : decode cX4_most 14 = .ok (.iconst (-1), 1) := by decide +kernel
theorem dX4_most_15 : decode cX4_most 15 = .ok (.ireturn, 1) := by decide +kernel
theorem dX4_most_16 : decode cX4_most 16 = .ok (.iload_n 2, 1) := by decide +kernel
theorem dX4_most_17 : decode cX4_most 17 = .ok (.tableswitch 70 0 2 #[27, 36, 53], 27) := by decide +kernel
theorem dX4_most_44 : decode cX4_most 44 = .ok (.aload_n 0, 1) := by decide +kernel
theorem dX4_most_45 : decode cX4_most 45 = .ok (.getfield 28, 3) := by decide +kernel
theorem dX4_most_48 : decode cX4_most 48 = .ok (.iload_n 1, 1) := by decide +kernel
theorem dX4_most_49 : decode cX4_most 49 = .ok (.invokevirtual 122, 3) := by decide +kernel
theorem dX4_most_52 : decode cX4_most 52 = .ok (.ireturn, 1) := by decide +kernel
theorem dX4_most_53 : decode cX4_most 53 = .ok (.aload_n 0, 1) := by decide +kernel
theorem dX4_most_54 : decode cX4_most 54 = .ok (.getfield 28, 3) := by decide +kernel
theorem dX4_most_57 : decode cX4_most 57 = .ok (.iload_n 1, 1) := by decide +kernel
theorem dX4_most_58 : decode cX4_most 58 = .ok (.aload_n 0, 1) := by decide +kernel
theorem dX4_most_59 : decode cX4_most 59 = .ok (.getfield 28, 3) := by decide +kernel
theorem dX4_most_62 : decode cX4_most 62 = .ok (.iload_n 1, 1) := by decide +kernel
theorem dX4_most_63 : decode cX4_most 63 = .ok (.invokevirtual 122, 3) := by decide +kernel
theorem dX4_most_66 : decode cX4_most 66 = .ok (.invokevirtual 125, 3) := by decide +kernel
theorem dX4_most_69 : decode cX4_most 69 = .ok (.ireturn, 1) := by decide +kernel
theorem dX4_most_70 : decode cX4_most 70 = .ok (.aload_n 0, 1) := by decide +kernel
theorem dX4_most_71 : decode cX4_most 71 = .ok (.getfield 28, 3) := by decide +kernel
theorem dX4_most_74 : decode cX4_most 74 = .ok (.iload_n 1, 1) := by decide +kernel
theorem dX4_most_75 : decode cX4_most 75 = .ok (.aload_n 0, 1) := by decide +kernel
theorem dX4_most_76 : decode cX4_most 76 = .ok (.getfield 28, 3) := by decide +kernel
theorem dX4_most_79 : decode cX4_most 79 = .ok (.iload_n 1, 1) := by decide +kernel
theorem dX4_most_80 : decode cX4_most 80 = .ok (.invokevirtual 122, 3) := by decide +kernel
theorem dX4_most_83 : decode cX4_most 83 = .ok (.invokevirtual 128, 3) := by decide +kernel
theorem dX4_most_86 : decode cX4_most 86 = .ok (.ireturn, 1) := by decide +kernel
theorem dX4_most_87 : decode cX4_most 87 = .ok (.iconst (-1), 1) := by decide +kernel
theorem dX4_most_88 : decode cX4_most 88 = .ok (.ireturn, 1) := by decide +kernel
theorem dX4_border_0 : decode cX4_border 0 = .ok (.aload_n 0, 1) := by decide +kernel
theorem dX4_border_1 : decode cX4_border 1 = .ok (.getfield 12, 3) := by decide +kernel
theorem dX4_border_4 : decode cX4_border 4 = .ok (.iload_n 1, 1) := by decide +kernel
theorem dX4_border_5 : decode cX4_border 5 = .ok (.invokevirtual 69, 3) := by decide +kernel
theorem dX4_border_8 : decode cX4_border 8 = .ok (.ifCond .eq 10, 3) := by decide +kernel
theorem dX4_border_11 : decode cX4_border 11 = .ok (.aload_n 0, 1) := by decide +kernel
theorem dX4_border_12 : decode cX4_border 12 = .ok (.invokevirtual 108, 3) := by decide +kernel
theorem dX4_border_15 : decode cX4_border 15 = .ok (.ifCond .ne 5, 3) := by decide +kernel
theorem dX4_border_18 : decode cX4_border 18 = .ok (.iconst (-1), 1) := by decide +kernel
theorem dX4_border_19 : decode cX4_border 19 = .ok (.ireturn, 1) := by decide +kernel
theorem dX4_border_20 : decode cX4_border 20 = .ok (.aload_n 0, 1) := by decide +kernel
theorem dX4_border_21 : decode cX4_border 21 = .ok (.getfield 28, 3) := by decide +kernel
theorem dX4_border_24 : decode cX4_border 24 = .ok (.aload_n 0, 1) := by decide +kernel
theorem dX4_border_25 : decode cX4_border 25 = .ok (.getfield 12, 3) := by decide +kernel
theorem dX4_border_28 : decode cX4_border 28 = .ok (.iload_n 1, 1) := by decide +kernel
theorem dX4_border_29 : decode cX4_border 29 = .ok (.invokevirtual 102, 3) := by decide +kernel
theorem dX4_border_32 : decode cX4_border 32 = .ok (.invokevirtual 131, 3) := by decide +kernel
theorem dX4_border_35 : decode cX4_border 35 = .ok (.ireturn, 1) := by decide +kernel
theorem dX4_shape_0 : decode cX4_shape 0 = .ok (.iload_n 2, 1) := by decide +kernel
theorem dX4_shape_1 : decode cX4_shape 1 = .ok (.ifCond .lt 26, 3) := by decide +kernel
theorem dX4_shape_4 : decode cX4_shape 4 = .ok (.iload_n 2, 1) := by decide +kernel
theorem dX4_shape_5 : decode cX4_shape 5 = .ok (.iconst 3, 1) := by decide +kernel
theorem dX4_shape_6 : decode cX4_shape 6 = .ok (.if_icmp .gt 21, 3) := by decide +kernel
theorem dX4_shape_9 : decode cX4_shape 9 = .ok (.aload_n 0, 1) := by decide +kernel
theorem dX4_shape_10 : decode cX4_shape 10 = .ok (.invokevirtual 108, 3) := by decide +kernel
theorem dX4_shape_13 : decode cX4_shape 13 = .ok (.ifCond .eq 14, 3) := by decide +kernel
theorem dX4_shape_16 : decode cX4_shape 16 = .ok (.aload_n 0, 1) := by decide +kernel
theorem dX4_shape_17 : decode cX4_shape 17 = .ok (.getfield 12, 3) := by decide +kernel
theorem dX4_shape_20 : decode cX4_shape 20 = .ok (.iload_n 1, 1) := by decide +kernel
theorem dX4_shape_21 : decode cX4_shape 21 = .ok (.invokevirtual 79, 3) := by decide +kernel
theorem dX4_shape_24 : decode cX4_shape 24 = .ok (.ifCond .ne 11, 3) := by decide +kernel
theorem dX4_shape_27 : decode cX4_shape 27 = .ok (.new 119, 3) := by decide +kernel
theorem dX4_shape_30 : decode cX4_shape 30 = .ok (.dup, 1) := by decide +kernel
theorem dX4_shape_31 : decode cX4_shape 31 = .ok (.invokespecial 121, 3) := by decide +kernel
theorem dX4_shape_34 : decode cX4_shape 34 = .ok (.athrow, 1) := by decide +kernel
theorem dX4_shape_35 : decode cX4_shape 35 = .ok (.aload_n 0, 1) := by decide +kernel
theorem dX4_shape_36 : decode cX4_shape 36 = .ok (.getfield 28, 3) := by decide +kernel
theorem dX4_shape_39 : decode cX4_shape 39 = .ok (.iconst 4, 1) := by decide +kernel
theorem dX4_shape_40 : decode cX4_shape 40 = .ok (.iload_n 2, 1) := by decide +kernel
theorem dX4_shape_41 : decode cX4_shape 41 = .ok (.iadd, 1) := by decide +kernel
theorem dX4_shape_42 : decode cX4_shape 42 = .ok (.iload_n 1, 1) := by decide +kernel
theorem dX4_shape_43 : decode cX4_shape 43 = .ok (.invokevirtual 112, 3) := by decide +kernel
theorem dX4_shape_46 : decode cX4_shape 46 = .ok (.lreturn, 1) := by decide +kernel
theorem dX4_undercut_0 : decode cX4_undercut 0 = .ok (.aload_n 0, 1) := by decide +kernel
theorem dX4_undercut_1 : decode cX4_undercut 1 = .ok (.invokevirtual 108, 3) := by decide +kernel
theorem dX4_undercut_4 : decode cX4_undercut 4 = .ok (.ifCond .eq 28, 3) := by decide +kernel
theorem dX4_undercut_7 : decode cX4_undercut 7 = .ok (.aload_n 0, 1) := by decide +kernel
theorem dX4_undercut_8 : decode cX4_undercut 8 = .ok (.getfield 12, 3) := by decide +kernel
theorem dX4_undercut_11 : decode cX4_undercut 11 = .ok (.iload_n 1, 1) := by decide +kernel
theorem dX4_undercut_12 : decode cX4_undercut 12 = .ok (.invokevirtual 79, 3) := by decide +kernel
theorem dX4_undercut_15 : decode cX4_undercut 15 = .ok (.ifCond .eq 17, 3) := by decide +kernel
theorem dX4_undercut_18 : decode cX4_undercut 18 = .ok (.aload_n 0, 1) := by decide +kernel
theorem dX4_undercut_19 : decode cX4_undercut 19 = .ok (.getfield 28, 3) := by decide +kernel
theorem dX4_undercut_22 : decode cX4_undercut 22 = .ok (.bipush 8, 2) := by decide +kernel
theorem dX4_undercut_24 : decode cX4_undercut 24 = .ok (.iload_n 1, 1) := by decide +kernel
theorem dX4_undercut_25 : decode cX4_undercut 25 = .ok (.invokevirtual 112, 3) := by decide +kernel
theorem dX4_undercut_28 : decode cX4_undercut 28 = .ok (.l2i, 1) := by decide +kernel
theorem dX4_undercut_29 : decode cX4_undercut 29 = .ok (.goto 4, 3) := by decide +kernel
theorem dX4_undercut_32 : decode cX4_undercut 32 = .ok (.iconst (-1), 1) := by decide +kernel
theorem dX4_undercut_33 : decode cX4_undercut 33 = .ok (.ireturn, 1) := by decide +kernel
theorem dX4_press_0 : decode cX4_press 0 = .ok (.aload_n 0, 1) := by decide +kernel
theorem dX4_press_1 : decode cX4_press 1 = .ok (.invokevirtual 108, 3) := by decide +kernel
theorem dX4_press_4 : decode cX4_press 4 = .ok (.ifCond .eq 28, 3) := by decide +kernel
theorem dX4_press_7 : decode cX4_press 7 = .ok (.aload_n 0, 1) := by decide +kernel
theorem dX4_press_8 : decode cX4_press 8 = .ok (.getfield 12, 3) := by decide +kernel
theorem dX4_press_11 : decode cX4_press 11 = .ok (.iload_n 1, 1) := by decide +kernel
theorem dX4_press_12 : decode cX4_press 12 = .ok (.invokevirtual 79, 3) := by decide +kernel
theorem dX4_press_15 : decode cX4_press 15 = .ok (.ifCond .eq 17, 3) := by decide +kernel
theorem dX4_press_18 : decode cX4_press 18 = .ok (.aload_n 0, 1) := by decide +kernel
theorem dX4_press_19 : decode cX4_press 19 = .ok (.getfield 28, 3) := by decide +kernel
theorem dX4_press_22 : decode cX4_press 22 = .ok (.bipush 9, 2) := by decide +kernel
theorem dX4_press_24 : decode cX4_press 24 = .ok (.iload_n 1, 1) := by decide +kernel
theorem dX4_press_25 : decode cX4_press 25 = .ok (.invokevirtual 112, 3) := by decide +kernel
theorem dX4_press_28 : decode cX4_press 28 = .ok (.l2i, 1) := by decide +kernel
theorem dX4_press_29 : decode cX4_press 29 = .ok (.goto 4, 3) := by decide +kernel
theorem dX4_press_32 : decode cX4_press 32 = .ok (.iconst (-1), 1) := by decide +kernel
theorem dX4_press_33 : decode cX4_press 33 = .ok (.ireturn, 1) := by decide +kernel
theorem dX4_force_0 : decode cX4_force 0 = .ok (.aload_n 0, 1) := by decide +kernel
theorem dX4_force_1 : decode cX4_force 1 = .ok (.invokevirtual 108, 3) := by decide +kernel
theorem dX4_force_4 : decode cX4_force 4 = .ok (.ifCond .eq 14, 3) := by decide +kernel
theorem dX4_force_7 : decode cX4_force 7 = .ok (.aload_n 0, 1) := by decide +kernel
theorem dX4_force_8 : decode cX4_force 8 = .ok (.getfield 12, 3) := by decide +kernel
theorem dX4_force_11 : decode cX4_force 11 = .ok (.iload_n 1, 1) := by decide +kernel
theorem dX4_force_12 : decode cX4_force 12 = .ok (.invokevirtual 79, 3) := by decide +kernel
theorem dX4_force_15 : decode cX4_force 15 = .ok (.ifCond .ne 11, 3) := by decide +kernel
theorem dX4_force_18 : decode cX4_force 18 = .ok (.new 119, 3) := by decide +kernel
theorem dX4_force_21 : decode cX4_force 21 = .ok (.dup, 1) := by decide +kernel
theorem dX4_force_22 : decode cX4_force 22 = .ok (.invokespecial 121, 3) := by decide +kernel
theorem dX4_force_25 : decode cX4_force 25 = .ok (.athrow, 1) := by decide +kernel
theorem dX4_force_26 : decode cX4_force 26 = .ok (.aload_n 0, 1) := by decide +kernel
theorem dX4_force_27 : decode cX4_force 27 = .ok (.getfield 28, 3) := by decide +kernel
theorem dX4_force_30 : decode cX4_force 30 = .ok (.bipush 10, 2) := by decide +kernel
theorem dX4_force_32 : decode cX4_force 32 = .ok (.iload_n 1, 1) := by decide +kernel
theorem dX4_force_33 : decode cX4_force 33 = .ok (.invokevirtual 112, 3) := by decide +kernel
theorem dX4_force_36 : decode cX4_force 36 = .ok (.lreturn, 1) := by decide +kernel
theorem dX4_bad_0 : decode cX4_bad 0 = .ok (.iload_n 1, 1) := by decide +kernel
theorem dX4_bad_1 : decode cX4_bad 1 = .ok (.ifCond .lt 20, 3) := by decide +kernel
theorem dX4_bad_4 : decode cX4_bad 4 = .ok (.iload_n 1, 1) := by decide +kernel
theorem dX4_bad_5 : decode cX4_bad 5 = .ok (.iconst 3, 1) := by decide +kernel
theorem dX4_bad_6 : decode cX4_bad 6 = .ok (.if_icmp .gt 15, 3) := by decide +kernel
theorem dX4_bad_9 : decode cX4_bad 9 = .ok (.iload_n 2, 1) := by decide +kernel
theorem dX4_bad_10 : decode cX4_bad 10 = .ok (.iconst (-1), 1) := by decide +kernel
theorem dX4_bad_11 : decode cX4_bad 11 = .ok (.if_icmp .lt 10, 3) := by decide +kernel
theorem dX4_bad_14 : decode cX4_bad 14 = .ok (.aload_n 0, 1) := by decide +kernel
theorem dX4_bad_15 : decode cX4_bad 15 = .ok (.invokevirtual 108, 3) := by decide +kernel
theorem dX4_bad_18 : decode cX4_bad 18 = .ok (.ifCond .ne 5, 3) := by decide +kernel
theorem dX4_bad_21 : decode cX4_bad 21 = .ok (.iconst (-1), 1) := by decide +kernel
theorem dX4_bad_22 : decode cX4_bad 22 = .ok (.ireturn, 1) := by decide +kernel
theorem dX4_bad_23 : decode cX4_bad 23 = .ok (.iload_n 2, 1) := by decide +kernel
theorem dX4_bad_24 : decode cX4_bad 24 = .ok (.iconst (-1), 1) := by decide +kernel
theorem dX4_bad_25 : decode cX4_bad 25 = .ok (.if_icmp .ne 14, 3) := by decide +kernel
theorem dX4_bad_28 : decode cX4_bad 28 = .ok (.aload_n 0, 1) := by decide +kernel
theorem dX4_bad_29 : decode cX4_bad 29 = .ok (.getfield 28, 3) := by decide +kernel
theorem dX4_bad_32 : decode cX4_bad 32 = .ok (.iload_n 1, 1) := by decide +kernel
theorem dX4_bad_33 : decode cX4_bad 33 = .ok (.invokevirtual 134, 3) := by decide +kernel
theorem dX4_bad_36 : decode cX4_bad 36 = .ok (.goto 12, 3) := by decide +kernel
theorem dX4_bad_39 : decode cX4_bad 39 = .ok (.aload_n 0, 1) := by decide +kernel
theorem dX4_bad_40 : decode cX4_bad 40 = .ok (.getfield 28, 3) := by decide +kernel
theorem dX4_bad_43 : decode cX4_bad 43 = .ok (.iload_n 1, 1) := by decide +kernel
theorem dX4_bad_44 : decode cX4_bad 44 = .ok (.iload_n 2, 1) := by decide +kernel
theorem dX4_bad_45 : decode cX4_bad 45 = .ok (.invokevirtual 137, 3) := by decide +kernel
theorem dX4_bad_48 : decode cX4_bad 48 = .ok (.ireturn, 1) := by decide +kernel
theorem dX4_top_0 : decode cX4_top 0 = .ok (.aload_n 0, 1) := by decide +kernel
theorem dX4_top_1 : decode cX4_top 1 = .ok (.invokevirtual 108, 3) := by decide +kernel
theorem dX4_top_4 : decode cX4_top 4 = .ok (.ifCond .ne 5, 3) := by decide +kernel
theorem dX4_top_7 : decode cX4_top 7 = .ok (.iconst (-1), 1) := by decide +kernel
theorem dX4_top_8 : decode cX4_top 8 = .ok (.ireturn, 1) := by decide +kernel
theorem dX4_top_9 : decode cX4_top 9 = .ok (.iload_n 1, 1) := by decide +kernel
theorem dX4_top_10 : decode cX4_top 10 = .ok (.tableswitch 113 0 5 #[38, 58, 68, 78, 96, 105], 38) := by decide +kernel
theorem dX4_top_48 : decode cX4_top 48 = .ok (.aload_n 0, 1) := by decide +kernel
theorem dX4_top_49 : decode cX4_top 49 = .ok (.getfield 28, 3) := by decide +kernel
theorem dX4_top_52 : decode cX4_top 52 = .ok (.bipush 9, 2) := by decide +kernel
theorem dX4_top_54 : decode cX4_top 54 = .ok (.aload_n 0, 1) := by decide +kernel
theorem dX4_top_55 : decode cX4_top 55 = .ok (.getfield 28, 3) := by decide +kernel
theorem dX4_top_58 : decode cX4_top 58 = .ok (.bipush 9, 2) := by decide +kernel
theorem dX4_top_60 : decode cX4_top 60 = .ok (.invokevirtual 140, 3) := by decide +kernel
theorem dX4_top_63 : decode cX4_top 63 = .ok (.invokevirtual 112, 3) := by decide +kernel
theorem dX4_top_66 : decode cX4_top 66 = .ok (.l2i, 1) := by decide +kernel
theorem dX4_top_67 : decode cX4_top 67 = .ok (.ireturn, 1) := by decide +kernel
theorem dX4_top_68 : decode cX4_top 68 = .ok (.aload_n 0, 1) := by decide +kernel
theorem dX4_top_69 : decode cX4_top 69 = .ok (.getfield 28, 3) := by decide +kernel
theorem dX4_top_72 : decode cX4_top 72 = .ok (.bipush 9, 2) := by decide +kernel
theorem dX4_top_74 : decode cX4_top 74 = .ok (.invokevirtual 140, 3) := by decide +kernel
theorem dX4_top_77 : decode cX4_top 77 = .ok (.ireturn, 1) := by decide +kernel
theorem dX4_top_78 : decode cX4_top 78 = .ok (.aload_n 0, 1) := by decide +kernel
theorem dX4_top_79 : decode cX4_top 79 = .ok (.getfield 28, 3) := by decide +kernel
theorem dX4_top_82 : decode cX4_top 82 = .ok (.bipush 10, 2) := by decide +kernel
theorem dX4_top_84 : decode cX4_top 84 = .ok (.invokevirtual 143, 3) := by decide +kernel
theorem dX4_top_87 : decode cX4_top 87 = .ok (.ireturn, 1) := by decide +kernel
theorem dX4_top_88 : decode cX4_top 88 = .ok (.aload_n 0, 1) := by decide +kernel
theorem dX4_top_89 : decode cX4_top 89 = .ok (.getfield 28, 3) := by decide +kernel
theorem dX4_top_92 : decode cX4_top 92 = .ok (.iconst 0, 1) := by decide +kernel
theorem dX4_top_93 : decode cX4_top 93 = .ok (.aload_n 0, 1) := by decide +kernel
theorem dX4_top_94 : decode cX4_top 94 = .ok (.getfield 28, 3) := by decide +kernel
theorem dX4_top_97 : decode cX4_top 97 = .ok (.iconst 0, 1) := by decide +kernel
theorem dX4_top_98 : decode cX4_top 98 = .ok (.invokevirtual 140, 3) := by decide +kernel
theorem dX4_top_101 : decode cX4_top 101 = .ok (.invokevirtual 112, 3) := by decide +kernel
theorem dX4_top_104 : decode cX4_top 104 = .ok (.l2i, 1) := by decide +kernel
theorem dX4_top_105 : decode cX4_top 105 = .ok (.ireturn, 1) := by decide +kernel
theorem dX4_top_106 : decode cX4_top 106 = .ok (.aload_n 0, 1) := by decide +kernel
theorem dX4_top_107 : decode cX4_top 107 = .ok (.getfield 28, 3) := by decide +kernel
theorem dX4_top_110 : decode cX4_top 110 = .ok (.iconst 0, 1) := by decide +kernel
theorem dX4_top_111 : decode cX4_top 111 = .ok (.invokevirtual 140, 3) := by decide +kernel
theorem dX4_top_114 : decode cX4_top 114 = .ok (.ireturn, 1) := by decide +kernel
theorem dX4_top_115 : decode cX4_top 115 = .ok (.aload_n 0, 1) := by decide +kernel
theorem dX4_top_116 : decode cX4_top 116 = .ok (.getfield 28, 3) := by decide +kernel
theorem dX4_top_119 : decode cX4_top 119 = .ok (.invokevirtual 146, 3) := by decide +kernel
theorem dX4_top_122 : decode cX4_top 122 = .ok (.ireturn, 1) := by decide +kernel
theorem dX4_top_123 : decode cX4_top 123 = .ok (.iconst (-1), 1) := by decide +kernel
theorem dX4_top_124 : decode cX4_top 124 = .ok (.ireturn, 1) := by decide +kernel
theorem dX4_met_0 : decode cX4_met 0 = .ok (.aload_n 0, 1) := by decide +kernel
theorem dX4_met_1 : decode cX4_met 1 = .ok (.invokevirtual 108, 3) := by decide +kernel
theorem dX4_met_4 : decode cX4_met 4 = .ok (.ifCond .eq 13, 3) := by decide +kernel
theorem dX4_met_7 : decode cX4_met 7 = .ok (.aload_n 0, 1) := by decide +kernel
theorem dX4_met_8 : decode cX4_met 8 = .ok (.getfield 28, 3) := by decide +kernel
theorem dX4_met_11 : decode cX4_met 11 = .ok (.invokevirtual 149, 3) := by decide +kernel
theorem dX4_met_14 : decode cX4_met 14 = .ok (.goto 4, 3) := by decide +kernel
theorem dX4_met_17 : decode cX4_met 17 = .ok (.iconst (-1), 1) := by decide +kernel
theorem dX4_met_18 : decode cX4_met 18 = .ok (.ireturn, 1) := by decide +kernel
theorem dX4_marked_0 : decode cX4_marked 0 = .ok (.aload_n 0, 1) := by decide +kernel
theorem dX4_marked_1 : decode cX4_marked 1 = .ok (.getfield 12, 3) := by decide +kernel
theorem dX4_marked_4 : decode cX4_marked 4 = .ok (.iload_n 1, 1) := by decide +kernel
theorem dX4_marked_5 : decode cX4_marked 5 = .ok (.invokevirtual 85, 3) := by decide +kernel
theorem dX4_marked_8 : decode cX4_marked 8 = .ok (.ifCond .eq 12, 3) := by decide +kernel
theorem dX4_marked_11 : decode cX4_marked 11 = .ok (.iload_n 2, 1) := by decide +kernel
theorem dX4_marked_12 : decode cX4_marked 12 = .ok (.ifCond .lt 8, 3) := by decide +kernel
theorem dX4_marked_15 : decode cX4_marked 15 = .ok (.iload_n 2, 1) := by decide +kernel
theorem dX4_marked_16 : decode cX4_marked 16 = .ok (.iconst 3, 1) := by decide +kernel
theorem dX4_marked_17 : decode cX4_marked 17 = .ok (.if_icmp .le 5, 3) := by decide +kernel
theorem dX4_marked_20 : decode cX4_marked 20 = .ok (.iconst (-1), 1) := by decide +kernel
theorem dX4_marked_21 : decode cX4_marked 21 = .ok (.ireturn, 1) := by decide +kernel
theorem dX4_marked_22 : decode cX4_marked 22 = .ok (.iload_n 2, 1) := by decide +kernel
theorem dX4_marked_23 : decode cX4_marked 23 = .ok (.iconst 3, 1) := by decide +kernel
theorem dX4_marked_24 : decode cX4_marked 24 = .ok (.if_icmp .ne 23, 3) := by decide +kernel
theorem dX4_marked_27 : decode cX4_marked 27 = .ok (.aload_n 0, 1) := by decide +kernel
theorem dX4_marked_28 : decode cX4_marked 28 = .ok (.invokevirtual 108, 3) := by decide +kernel
theorem dX4_marked_31 : decode cX4_marked 31 = .ok (.ifCond .eq 14, 3) := by decide +kernel
theorem dX4_marked_34 : decode cX4_marked 34 = .ok (.aload_n 0, 1) := by decide +kernel
theorem dX4_marked_35 : decode cX4_marked 35 = .ok (.getfield 28, 3) := by decide +kernel
theorem dX4_marked_38 : decode cX4_marked 38 = .ok (.iload_n 1, 1) := by decide +kernel
theorem dX4_marked_39 : decode cX4_marked 39 = .ok (.invokevirtual 152, 3) := by decide +kernel
theorem dX4_marked_42 : decode cX4_marked 42 = .ok (.goto 4, 3) := by decide +kernel
theorem dX4_marked_45 : decode cX4_marked 45 = .ok (.iconst (-1), 1) := by decide +kernel
theorem dX4_marked_46 : decode cX4_marked 46 = .ok (.ireturn, 1) := by decide +kernel
theorem dX4_marked_47 : decode cX4_marked 47 = .ok (.aload_n 0, 1) := by decide +kernel
theorem dX4_marked_48 : decode cX4_marked 48 = .ok (.getfield 12, 3) := by decide +kernel
theorem dX4_marked_51 : decode cX4_marked 51 = .ok (.iload_n 1, 1) := by decide +kernel
theorem dX4_marked_52 : decode cX4_marked 52 = .ok (.iload_n 2, 1) := by decide +kernel
theorem dX4_marked_53 : decode cX4_marked 53 = .ok (.invokestatic 82, 3) := by decide +kernel
theorem dX4_marked_56 : decode cX4_marked 56 = .ok (.invokevirtual 45, 3) := by decide +kernel
theorem dX4_marked_59 : decode cX4_marked 59 = .ok (.ireturn, 1) := by decide +kernel
theorem dX4_best_0 : decode cX4_best 0 = .ok (.aload_n 0, 1) := by decide +kernel
theorem dX4_best_1 : decode cX4_best 1 = .ok (.getfield 12, 3) := by decide +kernel
theorem dX4_best_4 : decode cX4_best 4 = .ok (.invokevirtual 155, 3) := by decide +kernel
theorem dX4_best_7 : decode cX4_best 7 = .ok (.ifCond .eq 15, 3) := by decide +kernel
theorem dX4_best_10 : decode cX4_best 10 = .ok (.aload_n 0, 1) := by decide +kernel
theorem dX4_best_11 : decode cX4_best 11 = .ok (.getfield 12, 3) := by decide +kernel
theorem dX4_best_14 : decode cX4_best 14 = .ok (.invokevirtual 158, 3) := by decide +kernel
theorem dX4_best_17 : decode cX4_best 17 = .ok (.bipush 6, 2) := by decide +kernel
theorem dX4_best_19 : decode cX4_best 19 = .ok (.if_icmp .le 5, 3) := by decide +kernel
theorem dX4_best_22 : decode cX4_best 22 = .ok (.iconst (-1), 1) := by decide +kernel
theorem dX4_best_23 : decode cX4_best 23 = .ok (.ireturn, 1) := by decide +kernel
theorem dX4_best_24 : decode cX4_best 24 = .ok (.aload_n 0, 1) := by decide +kernel
theorem dX4_best_25 : decode cX4_best 25 = .ok (.getfield 37, 3) := by decide +kernel
theorem dX4_best_28 : decode cX4_best 28 = .ok (.invokevirtual 161, 3) := by decide +kernel
theorem dX4_best_31 : decode cX4_best 31 = .ok (.iload_n 1, 1) := by decide +kernel
theorem dX4_best_32 : decode cX4_best 32 = .ok (.ifCond .lt 33, 3) := by decide +kernel
theorem dX4_best_35 : decode cX4_best 35 = .ok (.iload_n 1, 1) := by decide +kernel
theorem dX4_best_36 : decode cX4_best 36 = .ok (.bipush 12, 2) := by decide +kernel
theorem dX4_best_38 : decode cX4_best 38 = .ok (.if_icmp .ge 27, 3) := by decide +kernel
theorem dX4_best_41 : decode cX4_best 41 = .ok (.aload_n 0, 1) := by decide +kernel
theorem dX4_best_42 : decode cX4_best 42 = .ok (.getfield 12, 3) := by decide +kernel
theorem dX4_best_45 : decode cX4_best 45 = .ok (.iload_n 1, 1) := by decide +kernel
theorem dX4_best_46 : decode cX4_best 46 = .ok (.invokevirtual 69, 3) := by decide +kernel
theorem dX4_best_49 : decode cX4_best 49 = .ok (.ifCond .eq 14, 3) := by decide +kernel
theorem dX4_best_52 : decode cX4_best 52 = .ok (.aload_n 0, 1) := by decide +kernel
theorem dX4_best_53 : decode cX4_best 53 = .ok (.getfield 37, 3) := by decide +kernel
theorem dX4_best_56 : decode cX4_best 56 = .ok (.iload_n 1, 1) := by decide +kernel
theorem dX4_best_57 : decode cX4_best 57 = .ok (.invokevirtual 164, 3) := by decide +kernel
theorem dX4_best_60 : decode cX4_best 60 = .ok (.goto 4, 3) := by decide +kernel
theorem dX4_best_63 : decode cX4_best 63 = .ok (.iconst (-1), 1) := by decide +kernel
theorem dX4_best_64 : decode cX4_best 64 = .ok (.ireturn, 1) := by decide +kernel
theorem dX4_best_65 : decode cX4_best 65 = .ok (.iload_n 1, 1) := by decide +kernel
theorem dX4_best_66 : decode cX4_best 66 = .ok (.tableswitch 58 12 14 #[26, 34, 42], 26) := by decide +kernel
theorem dX4_best_92 : decode cX4_best 92 = .ok (.aload_n 0, 1) := by decide +kernel
theorem dX4_best_93 : decode cX4_best 93 = .ok (.getfield 37, 3) := by decide +kernel
theorem dX4_best_96 : decode cX4_best 96 = .ok (.invokevirtual 167, 3) := by decide +kernel
theorem dX4_best_99 : decode cX4_best 99 = .ok (.ireturn, 1) := by decide +kernel
theorem dX4_best_100 : decode cX4_best 100 = .ok (.aload_n 0, 1) := by decide +kernel
theorem dX4_best_101 : decode cX4_best 101 = .ok (.getfield 37, 3) := by decide +kernel
theorem dX4_best_104 : decode cX4_best 104 = .ok (.invokevirtual 170, 3) := by decide +kernel
theorem dX4_best_107 : decode cX4_best 107 = .ok (.ireturn, 1) := by decide +kernel
theorem dX4_best_108 : decode cX4_best 108 = .ok (.aload_n 0, 1) := by decide +kernel
theorem dX4_best_109 : decode cX4_best 109 = .ok (.getfield 37, 3) := by decide +kernel
theorem dX4_best_112 : decode cX4_best 112 = .ok (.invokevirtual 173, 3) := by decide +kernel
theorem dX4_best_115 : decode cX4_best 115 = .ok (.ifCond .eq 7, 3) := by decide +kernel
theorem dX4_best_118 : decode cX4_best 118 = .ok (.iconst 1, 1) := by decide +kernel
theorem dX4_best_119 : decode cX4_best 119 = .ok (.goto 4, 3) := by decide +kernel
theorem dX4_best_122 : decode cX4_best 122 = .ok (.iconst 0, 1) := by decide +kernel
theorem dX4_best_123 : decode cX4_best 123 = .ok (.ireturn, 1) := by decide +kernel
theorem dX4_best_124 : decode cX4_best 124 = .ok (.iconst (-1), 1) := by decide +kernel
theorem dX4_best_125 : decode cX4_best 125 = .ok (.ireturn, 1) := by decide +kernel
theorem dX4_limit_0 : decode cX4_limit 0 = .ok (.aload_n 0, 1) := by decide +kernel
theorem dX4_limit_1 : decode cX4_limit 1 = .ok (.invokevirtual 108, 3) := by decide +kernel
theorem dX4_limit_4 : decode cX4_limit 4 = .ok (.ifCond .ne 5, 3) := by decide +kernel
theorem dX4_limit_7 : decode cX4_limit 7 = .ok (.iconst (-1), 1) := by decide +kernel
theorem dX4_limit_8 : decode cX4_limit 8 = .ok (.ireturn, 1) := by decide +kernel
theorem dX4_limit_9 : decode cX4_limit 9 = .ok (.iload_n 1, 1) := by decide +kernel
theorem dX4_limit_10 : decode cX4_limit 10 = .ok (.tableswitch 50 0 2 #[26, 34, 42], 26) := by decide +kernel
theorem dX4_limit_36 : decode cX4_limit 36 = .ok (.aload_n 0, 1) := by decide +kernel
theorem dX4_limit_37 : decode cX4_limit 37 = .ok (.getfield 28, 3) := by decide +kernel
theorem dX4_limit_40 : decode cX4_limit 40 = .ok (.invokevirtual 176, 3) := by decide +kernel
theorem dX4_limit_43 : decode cX4_limit 43 = .ok (.ireturn, 1) := by decide +kernel
theorem dX4_limit_44 : decode cX4_limit 44 = .ok (.aload_n 0, 1) := by decide +kernel
theorem dX4_limit_45 : decode cX4_limit 45 = .ok (.getfield 28, 3) := by decide +kernel
theorem dX4_limit_48 : decode cX4_limit 48 = .ok (.invokevirtual 179, 3) := by decide +kernel
theorem dX4_limit_51 : decode cX4_limit 51 = .ok (.ireturn, 1) := by decide +kernel
theorem dX4_limit_52 : decode cX4_limit 52 = .ok (.aload_n 0, 1) := by decide +kernel
theorem dX4_limit_53 : decode cX4_limit 53 = .ok (.getfield 28, 3) := by decide +kernel
theorem dX4_limit_56 : decode cX4_limit 56 = .ok (.invokevirtual 182, 3) := by decide +kernel
theorem dX4_limit_59 : decode cX4_limit 59 = .ok (.ireturn, 1) := by decide +kernel
theorem dX4_limit_60 : decode cX4_limit 60 = .ok (.iconst (-1), 1) := by decide +kernel
theorem dX4_limit_61 : decode cX4_limit 61 = .ok (.ireturn, 1) := by decide +kernel
theorem dX4_count_0 : decode cX4_count 0 = .ok (.iload_n 1, 1) := by decide +kernel
theorem dX4_count_1 : decode cX4_count 1 = .ok (.ifCond .lt 18, 3) := by decide +kernel
theorem dX4_count_4 : decode cX4_count 4 = .ok (.iload_n 1, 1) := by decide +kernel
theorem dX4_count_5 : decode cX4_count 5 = .ok (.bipush 12, 2) := by decide +kernel
theorem dX4_count_7 : decode cX4_count 7 = .ok (.if_icmp .ge 12, 3) := by decide +kernel
theorem dX4_count_10 : decode cX4_count 10 = .ok (.aload_n 0, 1) := by decide +kernel
theorem dX4_count_11 : decode cX4_count 11 = .ok (.getfield 12, 3) := by decide +kernel
theorem dX4_count_14 : decode cX4_count 14 = .ok (.iload_n 1, 1) := by decide +kernel
theorem dX4_count_15 : decode cX4_count 15 = .ok (.invokevirtual 45, 3) := by decide +kernel
theorem dX4_count_18 : decode cX4_count 18 = .ok (.ireturn, 1) := by decide +kernel
theorem dX4_count_19 : decode cX4_count 19 = .ok (.iload_n 1, 1) := by decide +kernel
theorem dX4_count_20 : decode cX4_count 20 = .ok (.tableswitch 95 12 15 #[32, 48, 71, 79], 32) := by decide +kernel
theorem dX4_count_52 : decode cX4_count 52 = .ok (.aload_n 0, 1) := by decide +kernel
theorem dX4_count_53 : decode cX4_count 53 = .ok (.getfield 12, 3) := by decide +kernel
theorem dX4_count_56 : decode cX4_count 56 = .ok (.invokevirtual 155, 3) := by decide +kernel
theorem dX4_count_59 : decode cX4_count 59 = .ok (.ifCond .eq 7, 3) := by decide +kernel
theorem dX4_count_62 : decode cX4_count 62 = .ok (.iconst 1, 1) := by decide +kernel
theorem dX4_count_63 : decode cX4_count 63 = .ok (.goto 4, 3) := by decide +kernel
theorem dX4_count_66 : decode cX4_count 66 = .ok (.iconst 0, 1) := by decide +kernel
theorem dX4_count_67 : decode cX4_count 67 = .ok (.ireturn, 1) := by decide +kernel
theorem dX4_count_68 : decode cX4_count 68 = .ok (.aload_n 0, 1) := by decide +kernel
theorem dX4_count_69 : decode cX4_count 69 = .ok (.invokevirtual 108, 3) := by decide +kernel
theorem dX4_count_72 : decode cX4_count 72 = .ok (.ifCond .eq 17, 3) := by decide +kernel
theorem dX4_count_75 : decode cX4_count 75 = .ok (.aload_n 0, 1) := by decide +kernel
theorem dX4_count_76 : decode cX4_count 76 = .ok (.getfield 28, 3) := by decide +kernel
theorem dX4_count_79 : decode cX4_count 79 = .ok (.invokevirtual 185, 3) := by decide +kernel
theorem dX4_count_82 : decode cX4_count 82 = .ok (.ifCond .eq 7, 3) := by decide +kernel
theorem dX4_count_85 : decode cX4_count 85 = .ok (.iconst 1, 1) := by decide +kernel
theorem dX4_count_86 : decode cX4_count 86 = .ok (.goto 4, 3) := by decide +kernel
theorem dX4_count_89 : decode cX4_count 89 = .ok (.iconst 0, 1) := by decide +kernel
theorem dX4_count_90 : decode cX4_count 90 = .ok (.ireturn, 1) := by decide +kernel
theorem dX4_count_91 : decode cX4_count 91 = .ok (.aload_n 0, 1) := by decide +kernel
theorem dX4_count_92 : decode cX4_count 92 = .ok (.getfield 19, 3) := by decide +kernel
theorem dX4_count_95 : decode cX4_count 95 = .ok (.invokevirtual 92, 3) := by decide +kernel
theorem dX4_count_98 : decode cX4_count 98 = .ok (.ireturn, 1) := by decide +kernel
theorem dX4_count_99 : decode cX4_count 99 = .ok (.aload_n 0, 1) := by decide +kernel
theorem dX4_count_100 : decode cX4_count 100 = .ok (.getfield 12, 3) := by decide +kernel
theorem dX4_count_103 : decode cX4_count 103 = .ok (.aload_n 0, 1) := by decide +kernel
theorem dX4_count_104 : decode cX4_count 104 = .ok (.getfield 12, 3) := by decide +kernel
theorem dX4_count_107 : decode cX4_count 107 = .ok (.iconst 1, 1) := by decide +kernel
theorem dX4_count_108 : decode cX4_count 108 = .ok (.invokevirtual 45, 3) := by decide +kernel
theorem dX4_count_111 : decode cX4_count 111 = .ok (.invokevirtual 102, 3) := by decide +kernel
theorem dX4_count_114 : decode cX4_count 114 = .ok (.ireturn, 1) := by decide +kernel
theorem dX4_count_115 : decode cX4_count 115 = .ok (.iconst (-1), 1) := by decide +kernel
theorem dX4_count_116 : decode cX4_count 116 = .ok (.ireturn, 1) := by decide +kernel
theorem dX4_change_0 : decode cX4_change 0 = .ok (.iload_n 1, 1) := by decide +kernel
theorem dX4_change_1 : decode cX4_change 1 = .ok (.iload_n 2, 1) := by decide +kernel
theorem dX4_change_2 : decode cX4_change 2 = .ok (.invokestatic 41, 3) := by decide +kernel
theorem dX4_change_5 : decode cX4_change 5 = .ok (.ifCond .ne 5, 3) := by decide +kernel
theorem dX4_change_8 : decode cX4_change 8 = .ok (.iconst (-1), 1) := by decide +kernel
theorem dX4_change_9 : decode cX4_change 9 = .ok (.ireturn, 1) := by decide +kernel
theorem dX4_change_10 : decode cX4_change 10 = .ok (.aload_n 0, 1) := by decide +kernel
theorem dX4_change_11 : decode cX4_change 11 = .ok (.invokevirtual 62, 3) := by decide +kernel
theorem dX4_change_14 : decode cX4_change 14 = .ok (.aload_n 0, 1) := by decide +kernel
theorem dX4_change_15 : decode cX4_change 15 = .ok (.getfield 12, 3) := by decide +kernel
theorem dX4_change_18 : decode cX4_change 18 = .ok (.iload_n 1, 1) := by decide +kernel
theorem dX4_change_19 : decode cX4_change 19 = .ok (.iload_n 2, 1) := by decide +kernel
theorem dX4_change_20 : decode cX4_change 20 = .ok (.invokevirtual 73, 3) := by decide +kernel
theorem dX4_change_23 : decode cX4_change 23 = .ok (.ireturn, 1) := by decide +kernel
theorem dX4_remember_0 : decode cX4_remember 0 = .ok (.aload_n 0, 1) := by decide +kernel
theorem dX4_remember_1 : decode cX4_remember 1 = .ok (.getfield 19, 3) := by decide +kernel
theorem dX4_remember_4 : decode cX4_remember 4 = .ok (.aload_n 0, 1) := by decide +kernel
theorem dX4_remember_5 : decode cX4_remember 5 = .ok (.getfield 12, 3) := by decide +kernel
theorem dX4_remember_8 : decode cX4_remember 8 = .ok (.invokevirtual 186, 3) := by decide +kernel
theorem dX4_remember_11 : decode cX4_remember 11 = .ok (.aload_n 0, 1) := by decide +kernel
theorem dX4_remember_12 : decode cX4_remember 12 = .ok (.invokevirtual 52, 3) := by decide +kernel
theorem dX4_remember_15 : decode cX4_remember 15 = .ok (.return_, 1) := by decide +kernel
theorem dX4_outdate_0 : decode cX4_outdate 0 = .ok (.aload_n 0, 1) := by decide +kernel
theorem dX4_outdate_1 : decode cX4_outdate 1 = .ok (.getfield 28, 3) := by decide +kernel
theorem dX4_outdate_4 : decode cX4_outdate 4 = .ok (.invokevirtual 189, 3) := by decide +kernel
theorem dX4_outdate_7 : decode cX4_outdate 7 = .ok (.aload_n 0, 1) := by decide +kernel
theorem dX4_outdate_8 : decode cX4_outdate 8 = .ok (.getfield 37, 3) := by decide +kernel
theorem dX4_outdate_11 : decode cX4_outdate 11 = .ok (.invokevirtual 190, 3) := by decide +kernel
theorem dX4_outdate_14 : decode cX4_outdate 14 = .ok (.return_, 1) := by decide +kernel
theorem dX4_isDrawn_0 : decode cX4_isDrawn 0 = .ok (.aload_n 0, 1) := by decide +kernel
theorem dX4_isDrawn_1 : decode cX4_isDrawn 1 = .ok (.getfield 12, 3) := by decide +kernel
theorem dX4_isDrawn_4 : decode cX4_isDrawn 4 = .ok (.invokevirtual 155, 3) := by decide +kernel
theorem dX4_isDrawn_7 : decode cX4_isDrawn 7 = .ok (.ifCond .ne 5, 3) := by decide +kernel
theorem dX4_isDrawn_10 : decode cX4_isDrawn 10 = .ok (.iconst 0, 1) := by decide +kernel
theorem dX4_isDrawn_11 : decode cX4_isDrawn 11 = .ok (.ireturn, 1) := by decide +kernel
theorem dX4_isDrawn_12 : decode cX4_isDrawn 12 = .ok (.aload_n 0, 1) := by decide +kernel
theorem dX4_isDrawn_13 : decode cX4_isDrawn 13 = .ok (.getfield 28, 3) := by decide +kernel
theorem dX4_isDrawn_16 : decode cX4_isDrawn 16 = .ok (.invokevirtual 191, 3) := by decide +kernel
theorem dX4_isDrawn_19 : decode cX4_isDrawn 19 = .ok (.iconst 1, 1) := by decide +kernel
theorem dX4_isDrawn_20 : decode cX4_isDrawn 20 = .ok (.ireturn, 1) := by decide +kernel
theorem dX4_isDifference_0 : decode cX4_isDifference 0 = .ok (.iload_n 0, 1) := by decide +kernel
theorem dX4_isDifference_1 : decode cX4_isDifference 1 = .ok (.iconst 1, 1) := by decide +kernel
theorem dX4_isDifference_2 : decode cX4_isDifference 2 = .ok (.if_icmp .lt 12, 3) := by decide +kernel
theorem dX4_isDifference_5 : decode cX4_isDifference 5 = .ok (.iload_n 0, 1) := by decide +kernel
theorem dX4_isDifference_6 : decode cX4_isDifference 6 = .ok (.iconst 3, 1) := by decide +kernel
theorem dX4_isDifference_7 : decode cX4_isDifference 7 = .ok (.if_icmp .gt 7, 3) := by decide +kernel
theorem dX4_isDifference_10 : decode cX4_isDifference 10 = .ok (.iconst 1, 1) := by decide +kernel
theorem dX4_isDifference_11 : decode cX4_isDifference 11 = .ok (.goto 4, 3) := by decide +kernel
theorem dX4_isDifference_14 : decode cX4_isDifference 14 = .ok (.iconst 0, 1) := by decide +kernel
theorem dX4_isDifference_15 : decode cX4_isDifference 15 = .ok (.ireturn, 1) := by decide +kernel
theorem dX4_fits_0 : decode cX4_fits 0 = .ok (.iload_n 1, 1) := by decide +kernel
theorem dX4_fits_1 : decode cX4_fits 1 = .ok (.iload_n 0, 1) := by decide +kernel
theorem dX4_fits_2 : decode cX4_fits 2 = .ok (.getstatic 192, 3) := by decide +kernel
theorem dX4_fits_5 : decode cX4_fits 5 = .ok (.getstatic 196, 3) := by decide +kernel
theorem dX4_fits_8 : decode cX4_fits 8 = .ok (.invokestatic 199, 3) := by decide +kernel
theorem dX4_fits_11 : decode cX4_fits 11 = .ok (.ireturn, 1) := by decide +kernel
theorem dX4_fitsPart_0 : decode cX4_fitsPart 0 = .ok (.iload_n 1, 1) := by decide +kernel
theorem dX4_fitsPart_1 : decode cX4_fitsPart 1 = .ok (.iload_n 0, 1) := by decide +kernel
theorem dX4_fitsPart_2 : decode cX4_fitsPart 2 = .ok (.getstatic 203, 3) := by decide +kernel
theorem dX4_fitsPart_5 : decode cX4_fitsPart 5 = .ok (.getstatic 206, 3) := by decide +kernel
theorem dX4_fitsPart_8 : decode cX4_fitsPart 8 = .ok (.invokestatic 199, 3) := by decide +kernel
theorem dX4_fitsPart_11 : decode cX4_fitsPart 11 = .ok (.ireturn, 1) := by decide +kernel
theorem dX4_lies_0 : decode cX4_lies 0 = .ok (.iload_n 1, 1) := by decide +kernel
theorem dX4_lies_1 : decode cX4_lies 1 = .ok (.ifCond .lt 33, 3) := by decide +kernel
theorem dX4_lies_4 : decode cX4_lies 4 = .ok (.iload_n 1, 1) := by decide +kernel
theorem dX4_lies_5 : decode cX4_lies 5 = .ok (.aload_n 2, 1) := by decide +kernel
theorem dX4_lies_6 : decode cX4_lies 6 = .ok (.arraylength, 1) := by decide +kernel
theorem dX4_lies_7 : decode cX4_lies 7 = .ok (.if_icmp .ge 27, 3) := by decide +kernel
theorem dX4_lies_10 : decode cX4_lies 10 = .ok (.iload_n 1, 1) := by decide +kernel
theorem dX4_lies_11 : decode cX4_lies 11 = .ok (.aload_n 3, 1) := by decide +kernel
theorem dX4_lies_12 : decode cX4_lies 12 = .ok (.arraylength, 1) := by decide +kernel
theorem dX4_lies_13 : decode cX4_lies 13 = .ok (.if_icmp .ge 21, 3) := by decide +kernel
theorem dX4_lies_16 : decode cX4_lies 16 = .ok (.iload_n 0, 1) := by decide +kernel
theorem dX4_lies_17 : decode cX4_lies 17 = .ok (.aload_n 2, 1) := by decide +kernel
theorem dX4_lies_18 : decode cX4_lies 18 = .ok (.iload_n 1, 1) := by decide +kernel
theorem dX4_lies_19 : decode cX4_lies 19 = .ok (.iaload, 1) := by decide +kernel
theorem dX4_lies_20 : decode cX4_lies 20 = .ok (.if_icmp .lt 14, 3) := by decide +kernel
theorem dX4_lies_23 : decode cX4_lies 23 = .ok (.iload_n 0, 1) := by decide +kernel
theorem dX4_lies_24 : decode cX4_lies 24 = .ok (.aload_n 3, 1) := by decide +kernel
theorem dX4_lies_25 : decode cX4_lies 25 = .ok (.iload_n 1, 1) := by decide +kernel
theorem dX4_lies_26 : decode cX4_lies 26 = .ok (.iaload, 1) := by decide +kernel
theorem dX4_lies_27 : decode cX4_lies 27 = .ok (.if_icmp .gt 7, 3) := by decide +kernel
theorem dX4_lies_30 : decode cX4_lies 30 = .ok (.iconst 1, 1) := by decide +kernel
theorem dX4_lies_31 : decode cX4_lies 31 = .ok (.goto 4, 3) := by decide +kernel
theorem dX4_lies_34 : decode cX4_lies 34 = .ok (.iconst 0, 1) := by decide +kernel
theorem dX4_lies_35 : decode cX4_lies 35 = .ok (.ireturn, 1) := by decide +kernel
theorem dJ9_floorDiv_f86c9_0 : decode cJ9_floorDiv_f86c9 0 = .ok (.lload_n 0, 1) := by decide +kernel
theorem dJ9_floorDiv_f86c9_1 : decode cJ9_floorDiv_f86c9 1 = .ok (.lload_n 2, 1) := by decide +kernel
theorem dJ9_floorDiv_f86c9_2 : decode cJ9_floorDiv_f86c9 2 = .ok (.ldiv, 1) := by decide +kernel
theorem dJ9_floorDiv_f86c9_3 : decode cJ9_floorDiv_f86c9 3 = .ok (.lstore 4, 2) := by decide +kernel
theorem dJ9_floorDiv_f86c9_5 : decode cJ9_floorDiv_f86c9 5 = .ok (.lload_n 0, 1) := by decide +kernel
theorem dJ9_floorDiv_f86c9_6 : decode cJ9_floorDiv_f86c9 6 = .ok (.lload_n 2, 1) := by decide +kernel
theorem dJ9_floorDiv_f86c9_7 : decode cJ9_floorDiv_f86c9 7 = .ok (.lxor, 1) := by decide +kernel
theorem dJ9_floorDiv_f86c9_8 : decode cJ9_floorDiv_f86c9 8 = .ok (.lconst 0, 1) := by decide +kernel
theorem dJ9_floorDiv_f86c9_9 : decode cJ9_floorDiv_f86c9 9 = .ok (.lcmp, 1) := by decide +kernel
theorem dJ9_floorDiv_f86c9_10 : decode cJ9_floorDiv_f86c9 10 = .ok (.ifCond .ge 17, 3) := by decide +kernel
theorem dJ9_floorDiv_f86c9_13 : decode cJ9_floorDiv_f86c9 13 = .ok (.lload 4, 2) := by decide +kernel
theorem dJ9_floorDiv_f86c9_15 : decode cJ9_floorDiv_f86c9 15 = .ok (.lload_n 2, 1) := by decide +kernel
theorem dJ9_floorDiv_f86c9_16 : decode cJ9_floorDiv_f86c9 16 = .ok (.lmul, 1) := by decide +kernel
theorem dJ9_floorDiv_f86c9_17 : decode cJ9_floorDiv_f86c9 17 = .ok (.lload_n 0, 1) := by decide +kernel
theorem dJ9_floorDiv_f86c9_18 : decode cJ9_floorDiv_f86c9 18 = .ok (.lcmp, 1) := by decide +kernel
theorem dJ9_floorDiv_f86c9_19 : decode cJ9_floorDiv_f86c9 19 = .ok (.ifCond .eq 8, 3) := by decide +kernel
theorem dJ9_floorDiv_f86c9_22 : decode cJ9_floorDiv_f86c9 22 = .ok (.lload 4, 2) := by decide +kernel
theorem dJ9_floorDiv_f86c9_24 : decode cJ9_floorDiv_f86c9 24 = .ok (.lconst 1, 1) := by decide +kernel
theorem dJ9_floorDiv_f86c9_25 : decode cJ9_floorDiv_f86c9 25 = .ok (.lsub, 1) := by decide +kernel
theorem dJ9_floorDiv_f86c9_26 : decode cJ9_floorDiv_f86c9 26 = .ok (.lreturn, 1) := by decide +kernel
theorem dJ9_floorDiv_f86c9_27 : decode cJ9_floorDiv_f86c9 27 = .ok (.lload 4, 2) := by decide +kernel
theorem dJ9_floorDiv_f86c9_29 : decode cJ9_floorDiv_f86c9 29 = .ok (.lreturn, 1) := by decide +kernel
theorem dJ9_abs_067f4_0 : decode cJ9_abs_067f4 0 = .ok (.lload_n 0, 1) := by decide +kernel
theorem dJ9_abs_067f4_1 : decode cJ9_abs_067f4 1 = .ok (.lconst 0, 1) := by decide +kernel
theorem dJ9_abs_067f4_2 : decode cJ9_abs_067f4 2 = .ok (.lcmp, 1) := by decide +kernel
theorem dJ9_abs_067f4_3 : decode cJ9_abs_067f4 3 = .ok (.ifCond .ge 8, 3) := by decide +kernel
theorem dJ9_abs_067f4_6 : decode cJ9_abs_067f4 6 = .ok (.lload_n 0, 1) := by decide +kernel
theorem dJ9_abs_067f4_7 : decode cJ9_abs_067f4 7 = .ok (.lneg, 1) := by decide +kernel
theorem dJ9_abs_067f4_8 : decode cJ9_abs_067f4 8 = .ok (.goto 4, 3) := by decide +kernel
theorem dJ9_abs_067f4_11 : decode cJ9_abs_067f4 11 = .ok (.lload_n 0, 1) := by decide +kernel
theorem dJ9_abs_067f4_12 : decode cJ9_abs_067f4 12 = .ok (.lreturn, 1) := by decide +kernel
theorem dJ9_max_7cf53_0 : decode cJ9_max_7cf53 0 = .ok (.iload_n 0, 1) := by decide +kernel
theorem dJ9_max_7cf53_1 : decode cJ9_max_7cf53 1 = .ok (.iload_n 1, 1) := by decide +kernel
theorem dJ9_max_7cf53_2 : decode cJ9_max_7cf53 2 = .ok (.if_icmp .lt 7, 3) := by decide +kernel
theorem dJ9_max_7cf53_5 : decode cJ9_max_7cf53 5 = .ok (.iload_n 0, 1) := by decide +kernel
theorem dJ9_max_7cf53_6 : decode cJ9_max_7cf53 6 = .ok (.goto 4, 3) := by decide +kernel
theorem dJ9_max_7cf53_9 : decode cJ9_max_7cf53 9 = .ok (.iload_n 1, 1) := by decide +kernel
theorem dJ9_max_7cf53_10 : decode cJ9_max_7cf53 10 = .ok (.ireturn, 1) := by decide +kernel
theorem dJ9_max_f86c9_0 : decode cJ9_max_f86c9 0 = .ok (.lload_n 0, 1) := by decide +kernel
theorem dJ9_max_f86c9_1 : decode cJ9_max_f86c9 1 = .ok (.lload_n 2, 1) := by decide +kernel
theorem dJ9_max_f86c9_2 : decode cJ9_max_f86c9 2 = .ok (.lcmp, 1) := by decide +kernel
theorem dJ9_max_f86c9_3 : decode cJ9_max_f86c9 3 = .ok (.ifCond .lt 7, 3) := by decide +kernel
theorem dJ9_max_f86c9_6 : decode cJ9_max_f86c9 6 = .ok (.lload_n 0, 1) := by decide +kernel
theorem dJ9_max_f86c9_7 : decode cJ9_max_f86c9 7 = .ok (.goto 4, 3) := by decide +kernel
theorem dJ9_max_f86c9_10 : decode cJ9_max_f86c9 10 = .ok (.lload_n 2, 1) := by decide +kernel
theorem dJ9_max_f86c9_11 : decode cJ9_max_f86c9 11 = .ok (.lreturn, 1) := by decide +kernel
theorem dJ9_min_7cf53_0 : decode cJ9_min_7cf53 0 = .ok (.iload_n 0, 1) := by decide +kernel
theorem dJ9_min_7cf53_1 : decode cJ9_min_7cf53 1 = .ok (.iload_n 1, 1) := by decide +kernel
theorem dJ9_min_7cf53_2 : decode cJ9_min_7cf53 2 = .ok (.if_icmp .gt 7, 3) := by decide +kernel
theorem dJ9_min_7cf53_5 : decode cJ9_min_7cf53 5 = .ok (.iload_n 0, 1) := by decide +kernel
theorem dJ9_min_7cf53_6 : decode cJ9_min_7cf53 6 = .ok (.goto 4, 3) := by decide +kernel
theorem dJ9_min_7cf53_9 : decode cJ9_min_7cf53 9 = .ok (.iload_n 1, 1) := by decide +kernel
theorem dJ9_min_7cf53_10 : decode cJ9_min_7cf53 10 = .ok (.ireturn, 1) := by decide +kernel
theorem dJ9_min_f86c9_0 : decode cJ9_min_f86c9 0 = .ok (.lload_n 0, 1) := by decide +kernel
theorem dJ9_min_f86c9_1 : decode cJ9_min_f86c9 1 = .ok (.lload_n 2, 1) := by decide +kernel
theorem dJ9_min_f86c9_2 : decode cJ9_min_f86c9 2 = .ok (.lcmp, 1) := by decide +kernel
theorem dJ9_min_f86c9_3 : decode cJ9_min_f86c9 3 = .ok (.ifCond .gt 7, 3) := by decide +kernel
theorem dJ9_min_f86c9_6 : decode cJ9_min_f86c9 6 = .ok (.lload_n 0, 1) := by decide +kernel
theorem dJ9_min_f86c9_7 : decode cJ9_min_f86c9 7 = .ok (.goto 4, 3) := by decide +kernel
theorem dJ9_min_f86c9_10 : decode cJ9_min_f86c9 10 = .ok (.lload_n 2, 1) := by decide +kernel
theorem dJ9_min_f86c9_11 : decode cJ9_min_f86c9 11 = .ok (.lreturn, 1) := by decide +kernel
