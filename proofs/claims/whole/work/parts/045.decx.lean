theorem dX0_init_0 : decode cX0_init 0 = .ok (.aload_n 0, 1) := by decide +kernel
theorem dX0_init_1 : decode cX0_init 1 = .ok (.invokespecial 1, 3) := by decide +kernel
theorem dX0_init_4 : decode cX0_init 4 = .ok (.aload_n 0, 1) := by decide +kernel
theorem dX0_init_5 : decode cX0_init 5 = .ok (.iload_n 1, 1) := by decide +kernel
theorem dX0_init_6 : decode cX0_init 6 = .ok (.putfield 7, 3) := by decide +kernel
theorem dX0_init_9 : decode cX0_init 9 = .ok (.aload_n 0, 1) := by decide +kernel
theorem dX0_init_10 : decode cX0_init 10 = .ok (.iload_n 2, 1) := by decide +kernel
theorem dX0_init_11 : decode cX0_init 11 = .ok (.putfield 13, 3) := by decide +kernel
theorem dX0_init_14 : decode cX0_init 14 = .ok (.aload_n 0, 1) := by decide +kernel
theorem dX0_init_15 : decode cX0_init 15 = .ok (.iload_n 3, 1) := by decide +kernel
theorem dX0_init_16 : decode cX0_init 16 = .ok (.putfield 16, 3) := by decide +kernel
theorem dX0_init_19 : decode cX0_init 19 = .ok (.aload_n 0, 1) := by decide +kernel
theorem dX0_init_20 : decode cX0_init 20 = .ok (.iload 4, 2) := by decide +kernel
theorem dX0_init_22 : decode cX0_init 22 = .ok (.putfield 19, 3) := by decide +kernel
theorem dX0_init_25 : decode cX0_init 25 = .ok (.return_, 1) := by decide +kernel
theorem dX0_names_0 : decode cX0_names 0 = .ok (.iload_n 1, 1) := by decide +kernel
theorem dX0_names_1 : decode cX0_names 1 = .ok (.aload_n 0, 1) := by decide +kernel
theorem dX0_names_2 : decode cX0_names 2 = .ok (.getfield 7, 3) := by decide +kernel
theorem dX0_names_5 : decode cX0_names 5 = .ok (.if_icmp .lt 27, 3) := by decide +kernel
theorem dX0_names_8 : decode cX0_names 8 = .ok (.iload_n 1, 1) := by decide +kernel
theorem dX0_names_9 : decode cX0_names 9 = .ok (.aload_n 0, 1) := by decide +kernel
theorem dX0_names_10 : decode cX0_names 10 = .ok (.getfield 13, 3) := by decide +kernel
theorem dX0_names_13 : decode cX0_names 13 = .ok (.if_icmp .ge 19, 3) := by decide +kernel
theorem dX0_names_16 : decode cX0_names 16 = .ok (.aload_n 0, 1) := by decide +kernel
theorem dX0_names_17 : decode cX0_names 17 = .ok (.getfield 16, 3) := by decide +kernel
theorem dX0_names_20 : decode cX0_names 20 = .ok (.iload_n 2, 1) := by decide +kernel
theorem dX0_names_21 : decode cX0_names 21 = .ok (.iushr, 1) := by decide +kernel
theorem dX0_names_22 : decode cX0_names 22 = .ok (.iconst 1, 1) := by decide +kernel
theorem dX0_names_23 : decode cX0_names 23 = .ok (.iand, 1) := by decide +kernel
theorem dX0_names_24 : decode cX0_names 24 = .ok (.iconst 1, 1) := by decide +kernel
theorem dX0_names_25 : decode cX0_names 25 = .ok (.if_icmp .ne 7, 3) := by decide +kernel
theorem dX0_names_28 : decode cX0_names 28 = .ok (.iconst 1, 1) := by decide +kernel
theorem dX0_names_29 : decode cX0_names 29 = .ok (.goto 4, 3) := by decide +kernel
theorem dX0_names_32 : decode cX0_names 32 = .ok (.iconst 0, 1) := by decide +kernel
theorem dX0_names_33 : decode cX0_names 33 = .ok (.ireturn, 1) := by decide +kernel
theorem dX1_init_0 : decode cX1_init 0 = .ok (.aload_n 0, 1) := by decide +kernel
theorem dX1_init_1 : decode cX1_init 1 = .ok (.invokespecial 3, 3) := by decide +kernel
theorem dX1_init_4 : decode cX1_init 4 = .ok (.aload_n 0, 1) := by decide +kernel
theorem dX1_init_5 : decode cX1_init 5 = .ok (.sipush 150, 3) := by decide +kernel
theorem dX1_init_8 : decode cX1_init 8 = .ok (.anewarray 9, 3) := by decide +kernel
theorem dX1_init_11 : decode cX1_init 11 = .ok (.putfield 11, 3) := by decide +kernel
theorem dX1_init_14 : decode cX1_init 14 = .ok (.aload_n 0, 1) := by decide +kernel
theorem dX1_init_15 : decode cX1_init 15 = .ok (.bipush 16, 2) := by decide +kernel
theorem dX1_init_17 : decode cX1_init 17 = .ok (.anewarray 17, 3) := by decide +kernel
theorem dX1_init_20 : decode cX1_init 20 = .ok (.putfield 19, 3) := by decide +kernel
theorem dX1_init_23 : decode cX1_init 23 = .ok (.return_, 1) := by decide +kernel
theorem dX1_addStep_0 : decode cX1_addStep 0 = .ok (.aload_n 0, 1) := by decide +kernel
theorem dX1_addStep_1 : decode cX1_addStep 1 = .ok (.getfield 23, 3) := by decide +kernel
theorem dX1_addStep_4 : decode cX1_addStep 4 = .ok (.ifCond .lt 35, 3) := by decide +kernel
theorem dX1_addStep_7 : decode cX1_addStep 7 = .ok (.aload_n 0, 1) := by decide +kernel
theorem dX1_addStep_8 : decode cX1_addStep 8 = .ok (.getfield 23, 3) := by decide +kernel
theorem dX1_addStep_11 : decode cX1_addStep 11 = .ok (.aload_n 0, 1) := by decide +kernel
theorem dX1_addStep_12 : decode cX1_addStep 12 = .ok (.getfield 11, 3) := by decide +kernel
theorem dX1_addStep_15 : decode cX1_addStep 15 = .ok (.arraylength, 1) := by decide +kernel
theorem dX1_addStep_16 : decode cX1_addStep 16 = .ok (.if_icmp .ge 23, 3) := by decide +kernel
theorem dX1_addStep_19 : decode cX1_addStep 19 = .ok (.aload_n 0, 1) := by decide +kernel
theorem dX1_addStep_20 : decode cX1_addStep 20 = .ok (.getfield 11, 3) := by decide +kernel
theorem dX1_addStep_23 : decode cX1_addStep 23 = .ok (.aload_n 0, 1) := by decide +kernel
theorem dX1_addStep_24 : decode cX1_addStep 24 = .ok (.getfield 23, 3) := by decide +kernel
theorem dX1_addStep_27 : decode cX1_addStep 27 = .ok (.aload_n 1, 1) := by decide +kernel
theorem dX1_addStep_28 : decode cX1_addStep 28 = .ok (.aastore, 1) := by decide +kernel
theorem dX1_addStep_29 : decode cX1_addStep 29 = .ok (.aload_n 0, 1) := by decide +kernel
theorem dX1_addStep_30 : decode cX1_addStep 30 = .ok (.dup, 1) := by decide +kernel
theorem dX1_addStep_31 : decode cX1_addStep 31 = .ok (.getfield 23, 3) := by decide +kernel
theorem dX1_addStep_34 : decode cX1_addStep 34 = .ok (.iconst 1, 1) := by decide +kernel
theorem dX1_addStep_35 : decode cX1_addStep 35 = .ok (.iadd, 1) := by decide +kernel
theorem dX1_addStep_36 : decode cX1_addStep 36 = .ok (.putfield 23, 3) := by decide +kernel
theorem dX1_addStep_39 : decode cX1_addStep 39 = .ok (.aload_n 0, 1) := by decide +kernel
theorem dX1_addStep_40 : decode cX1_addStep 40 = .ok (.getfield 23, 3) := by decide +kernel
theorem dX1_addStep_43 : decode cX1_addStep 43 = .ok (.ireturn, 1) := by decide +kernel
theorem dX1_addHandler_0 : decode cX1_addHandler 0 = .ok (.aload_n 0, 1) := by decide +kernel
theorem dX1_addHandler_1 : decode cX1_addHandler 1 = .ok (.getfield 27, 3) := by decide +kernel
theorem dX1_addHandler_4 : decode cX1_addHandler 4 = .ok (.ifCond .lt 35, 3) := by decide +kernel
theorem dX1_addHandler_7 : decode cX1_addHandler 7 = .ok (.aload_n 0, 1) := by decide +kernel
theorem dX1_addHandler_8 : decode cX1_addHandler 8 = .ok (.getfield 27, 3) := by decide +kernel
theorem dX1_addHandler_11 : decode cX1_addHandler 11 = .ok (.aload_n 0, 1) := by decide +kernel
theorem dX1_addHandler_12 : decode cX1_addHandler 12 = .ok (.getfield 19, 3) := by decide +kernel
theorem dX1_addHandler_15 : decode cX1_addHandler 15 = .ok (.arraylength, 1) := by decide +kernel
theorem dX1_addHandler_16 : decode cX1_addHandler 16 = .ok (.if_icmp .ge 23, 3) := by decide +kernel
theorem dX1_addHandler_19 : decode cX1_addHandler 19 = .ok (.aload_n 0, 1) := by decide +kernel
theorem dX1_addHandler_20 : decode cX1_addHandler 20 = .ok (.getfield 19, 3) := by decide +kernel
theorem dX1_addHandler_23 : decode cX1_addHandler 23 = .ok (.aload_n 0, 1) := by decide +kernel
theorem dX1_addHandler_24 : decode cX1_addHandler 24 = .ok (.getfield 27, 3) := by decide +kernel
theorem dX1_addHandler_27 : decode cX1_addHandler 27 = .ok (.aload_n 1, 1) := by decide +kernel
theorem dX1_addHandler_28 : decode cX1_addHandler 28 = .ok (.aastore, 1) := by decide +kernel
theorem dX1_addHandler_29 : decode cX1_addHandler 29 = .ok (.aload_n 0, 1) := by decide +kernel
theorem dX1_addHandler_30 : decode cX1_addHandler 30 = .ok (.dup, 1) := by decide +kernel
theorem dX1_addHandler_31 : decode cX1_addHandler 31 = .ok (.getfield 27, 3) := by decide +kernel
theorem dX1_addHandler_34 : decode cX1_addHandler 34 = .ok (.iconst 1, 1) := by decide +kernel
theorem dX1_addHandler_35 : decode cX1_addHandler 35 = .ok (.iadd, 1) := by decide +kernel
theorem dX1_addHandler_36 : decode cX1_addHandler 36 = .ok (.putfield 27, 3) := by decide +kernel
theorem dX1_addHandler_39 : decode cX1_addHandler 39 = .ok (.aload_n 0, 1) := by decide +kernel
theorem dX1_addHandler_40 : decode cX1_addHandler 40 = .ok (.getfield 27, 3) := by decide +kernel
theorem dX1_addHandler_43 : decode cX1_addHandler 43 = .ok (.ireturn, 1) := by decide +kernel
theorem dX1_forget_0 : decode cX1_forget 0 = .ok (.aload_n 0, 1) := by decide +kernel
theorem dX1_forget_1 : decode cX1_forget 1 = .ok (.iconst 0, 1) := by decide +kernel
theorem dX1_forget_2 : decode cX1_forget 2 = .ok (.putfield 23, 3) := by decide +kernel
theorem dX1_forget_5 : decode cX1_forget 5 = .ok (.aload_n 0, 1) := by decide +kernel
theorem dX1_forget_6 : decode cX1_forget 6 = .ok (.iconst 0, 1) := by decide +kernel
theorem dX1_forget_7 : decode cX1_forget 7 = .ok (.putfield 27, 3) := by decide +kernel
theorem dX1_forget_10 : decode cX1_forget 10 = .ok (.return_, 1) := by decide +kernel
theorem dX1_getStep_0 : decode cX1_getStep 0 = .ok (.iload_n 1, 1) := by decide +kernel
theorem dX1_getStep_1 : decode cX1_getStep 1 = .ok (.ifCond .lt 29, 3) := by decide +kernel
theorem dX1_getStep_4 : decode cX1_getStep 4 = .ok (.iload_n 1, 1) := by decide +kernel
theorem dX1_getStep_5 : decode cX1_getStep 5 = .ok (.aload_n 0, 1) := by decide +kernel
theorem dX1_getStep_6 : decode cX1_getStep 6 = .ok (.getfield 23, 3) := by decide +kernel
theorem dX1_getStep_9 : decode cX1_getStep 9 = .ok (.if_icmp .ge 21, 3) := by decide +kernel
theorem dX1_getStep_12 : decode cX1_getStep 12 = .ok (.iload_n 1, 1) := by decide +kernel
theorem dX1_getStep_13 : decode cX1_getStep 13 = .ok (.aload_n 0, 1) := by decide +kernel
theorem dX1_getStep_14 : decode cX1_getStep 14 = .ok (.getfield 11, 3) := by decide +kernel
theorem dX1_getStep_17 : decode cX1_getStep 17 = .ok (.arraylength, 1) := by decide +kernel
theorem dX1_getStep_18 : decode cX1_getStep 18 = .ok (.if_icmp .ge 12, 3) := by decide +kernel
theorem dX1_getStep_21 : decode cX1_getStep 21 = .ok (.aload_n 0, 1) := by decide +kernel
theorem dX1_getStep_22 : decode cX1_getStep 22 = .ok (.getfield 11, 3) := by decide +kernel
theorem dX1_getStep_25 : decode cX1_getStep 25 = .ok (.iload_n 1, 1) := by decide +kernel
theorem dX1_getStep_26 : decode cX1_getStep 26 = .ok (.aaload, 1) := by decide +kernel
theorem dX1_getStep_27 : decode cX1_getStep 27 = .ok (.goto 4, 3) := by decide +kernel
theorem dX1_getStep_30 : decode cX1_getStep 30 = .ok (.aconst_null, 1) := by decide +kernel
theorem dX1_getStep_31 : decode cX1_getStep 31 = .ok (.areturn, 1) := by decide +kernel
theorem dX1_seekHandler_0 : decode cX1_seekHandler 0 = .ok (.iconst 0, 1) := by decide +kernel
theorem dX1_seekHandler_1 : decode cX1_seekHandler 1 = .ok (.istore_n 3, 1) := by decide +kernel
theorem dX1_seekHandler_2 : decode cX1_seekHandler 2 = .ok (.iload_n 3, 1) := by decide +kernel
theorem dX1_seekHandler_3 : decode cX1_seekHandler 3 = .ok (.aload_n 0, 1) := by decide +kernel
theorem dX1_seekHandler_4 : decode cX1_seekHandler 4 = .ok (.getfield 27, 3) := by decide +kernel
theorem dX1_seekHandler_7 : decode cX1_seekHandler 7 = .ok (.if_icmp .ge 47, 3) := by decide +kernel
theorem dX1_seekHandler_10 : decode cX1_seekHandler 10 = .ok (.iload_n 3, 1) := by decide +kernel
theorem dX1_seekHandler_11 : decode cX1_seekHandler 11 = .ok (.aload_n 0, 1) := by decide +kernel
theorem dX1_seekHandler_12 : decode cX1_seekHandler 12 = .ok (.getfield 19, 3) := by decide +kernel
theorem dX1_seekHandler_15 : decode cX1_seekHandler 15 = .ok (.arraylength, 1) := by decide +kernel
theorem dX1_seekHandler_16 : decode cX1_seekHandler 16 = .ok (.if_icmp .ge 38, 3) := by decide +kernel
theorem dX1_seekHandler_19 : decode cX1_seekHandler 19 = .ok (.aload_n 0, 1) := by decide +kernel
theorem dX1_seekHandler_20 : decode cX1_seekHandler 20 = .ok (.getfield 19, 3) := by decide +kernel
theorem dX1_seekHandler_23 : decode cX1_seekHandler 23 = .ok (.iload_n 3, 1) := by decide +kernel
theorem dX1_seekHandler_24 : decode cX1_seekHandler 24 = .ok (.aaload, 1) := by decide +kernel
theorem dX1_seekHandler_25 : decode cX1_seekHandler 25 = .ok (.astore 4, 2) := by decide +kernel
theorem dX1_seekHandler_27 : decode cX1_seekHandler 27 = .ok (.aload 4, 2) := by decide +kernel
theorem dX1_seekHandler_29 : decode cX1_seekHandler 29 = .ok (.ifnull 19, 3) := by decide +kernel
theorem dX1_seekHandler_32 : decode cX1_seekHandler 32 = .ok (.aload 4, 2) := by decide +kernel
theorem dX1_seekHandler_34 : decode cX1_seekHandler 34 = .ok (.iload_n 1, 1) := by decide +kernel
theorem dX1_seekHandler_35 : decode cX1_seekHandler 35 = .ok (.iload_n 2, 1) := by decide +kernel
theorem dX1_seekHandler_36 : decode cX1_seekHandler 36 = .ok (.invokevirtual 30, 3) := by decide +kernel
theorem dX1_seekHandler_39 : decode cX1_seekHandler 39 = .ok (.ifCond .eq 9, 3) := by decide +kernel
theorem dX1_seekHandler_42 : decode cX1_seekHandler 42 = .ok (.aload 4, 2) := by decide +kernel
theorem dX1_seekHandler_44 : decode cX1_seekHandler 44 = .ok (.getfield 34, 3) := by decide +kernel
theorem dX1_seekHandler_47 : decode cX1_seekHandler 47 = .ok (.ireturn, 1) := by decide +kernel
theorem dX1_seekHandler_48 : decode cX1_seekHandler 48 = .ok (.iinc 3 1, 3) := by decide +kernel
theorem dX1_seekHandler_51 : decode cX1_seekHandler 51 = .ok (.goto (-49), 3) := by decide +kernel
theorem dX1_seekHandler_54 : decode cX1_seekHandler 54 = .ok (.iconst (-1), 1) := by decide +kernel
theorem dX1_seekHandler_55 : decode cX1_seekHandler 55 = .ok (.ireturn, 1) := by decide +kernel
theorem dX2_init_0 : decode cX2_init 0 = .ok (.aload_n 0, 1) := by decide +kernel
theorem dX2_init_1 : decode cX2_init 1 = .ok (.invokespecial 3, 3) := by decide +kernel
theorem dX2_init_4 : decode cX2_init 4 = .ok (.aload_n 0, 1) := by decide +kernel
theorem dX2_init_5 : decode cX2_init 5 = .ok (.aload_n 1, 1) := by decide +kernel
theorem dX2_init_6 : decode cX2_init 6 = .ok (.putfield 9, 3) := by decide +kernel
theorem dX2_init_9 : decode cX2_init 9 = .ok (.return_, 1) := by decide +kernel
theorem dX2_reckon_0 : decode cX2_reckon 0 = .ok (.aload_n 1, 1) := by decide +kernel
theorem dX2_reckon_1 : decode cX2_reckon 1 = .ok (.getfield 15, 3) := by decide +kernel
theorem dX2_reckon_4 : decode cX2_reckon 4 = .ok (.bipush 14, 2) := by decide +kernel
theorem dX2_reckon_6 : decode cX2_reckon 6 = .ok (.if_icmp .gt 11, 3) := by decide +kernel
theorem dX2_reckon_9 : decode cX2_reckon 9 = .ok (.aload_n 0, 1) := by decide +kernel
theorem dX2_reckon_10 : decode cX2_reckon 10 = .ok (.aload_n 1, 1) := by decide +kernel
theorem dX2_reckon_11 : decode cX2_reckon 11 = .ok (.invokevirtual 21, 3) := by decide +kernel
theorem dX2_reckon_14 : decode cX2_reckon 14 = .ok (.goto 8, 3) := by decide +kernel
theorem dX2_reckon_17 : decode cX2_reckon 17 = .ok (.aload_n 0, 1) := by decide +kernel
theorem dX2_reckon_18 : decode cX2_reckon 18 = .ok (.aload_n 1, 1) := by decide +kernel
theorem dX2_reckon_19 : decode cX2_reckon 19 = .ok (.invokevirtual 25, 3) := by decide +kernel
theorem dX2_reckon_22 : decode cX2_reckon 22 = .ok (.ireturn, 1) := by decide +kernel
theorem dX2_reckonWhole_0 : decode cX2_reckonWhole 0 = .ok (.aload_n 0, 1) := by decide +kernel
theorem dX2_reckonWhole_1 : decode cX2_reckonWhole 1 = .ok (.getfield 9, 3) := by decide +kernel
theorem dX2_reckonWhole_4 : decode cX2_reckonWhole 4 = .ok (.aload_n 1, 1) := by decide +kernel
theorem dX2_reckonWhole_5 : decode cX2_reckonWhole 5 = .ok (.getfield 28, 3) := by decide +kernel
theorem dX2_reckonWhole_8 : decode cX2_reckonWhole 8 = .ok (.invokevirtual 31, 3) := by decide +kernel
theorem dX2_reckonWhole_11 : decode cX2_reckonWhole 11 = .ok (.istore_n 2, 1) := by decide +kernel
theorem dX2_reckonWhole_12 : decode cX2_reckonWhole 12 = .ok (.aload_n 0, 1) := by decide +kernel
theorem dX2_reckonWhole_13 : decode cX2_reckonWhole 13 = .ok (.getfield 9, 3) := by decide +kernel
theorem dX2_reckonWhole_16 : decode cX2_reckonWhole 16 = .ok (.aload_n 1, 1) := by decide +kernel
theorem dX2_reckonWhole_17 : decode cX2_reckonWhole 17 = .ok (.getfield 37, 3) := by decide +kernel
theorem dX2_reckonWhole_20 : decode cX2_reckonWhole 20 = .ok (.invokevirtual 31, 3) := by decide +kernel
theorem dX2_reckonWhole_23 : decode cX2_reckonWhole 23 = .ok (.istore_n 3, 1) := by decide +kernel
theorem dX2_reckonWhole_24 : decode cX2_reckonWhole 24 = .ok (.aload_n 0, 1) := by decide +kernel
theorem dX2_reckonWhole_25 : decode cX2_reckonWhole 25 = .ok (.getfield 9, 3) := by decide +kernel
theorem dX2_reckonWhole_28 : decode cX2_reckonWhole 28 = .ok (.aload_n 1, 1) := by decide +kernel
theorem dX2_reckonWhole_29 : decode cX2_reckonWhole 29 = .ok (.getfield 28, 3) := by decide +kernel
theorem dX2_reckonWhole_32 : decode cX2_reckonWhole 32 = .ok (.invokevirtual 40, 3) := by decide +kernel
theorem dX2_reckonWhole_35 : decode cX2_reckonWhole 35 = .ok (.lstore 4, 2) := by decide +kernel
theorem dX2_reckonWhole_37 : decode cX2_reckonWhole 37 = .ok (.aload_n 0, 1) := by decide +kernel
theorem dX2_reckonWhole_38 : decode cX2_reckonWhole 38 = .ok (.getfield 9, 3) := by decide +kernel
theorem dX2_reckonWhole_41 : decode cX2_reckonWhole 41 = .ok (.aload_n 1, 1) := by decide +kernel
theorem dX2_reckonWhole_42 : decode cX2_reckonWhole 42 = .ok (.getfield 37, 3) := by decide +kernel
theorem dX2_reckonWhole_45 : decode cX2_reckonWhole 45 = .ok (.invokevirtual 40, 3) := by decide +kernel
theorem dX2_reckonWhole_48 : decode cX2_reckonWhole 48 = .ok (.lstore 6, 2) := by decide +kernel
theorem dX2_reckonWhole_50 : decode cX2_reckonWhole 50 = .ok (.aload_n 1, 1) := by decide +kernel
theorem dX2_reckonWhole_51 : decode cX2_reckonWhole 51 = .ok (.getfield 15, 3) := by decide +kernel
theorem dX2_reckonWhole_54 : decode cX2_reckonWhole 54 = .ok (.tableswitch 254 1 13 #[66, 84, 116, 131, 148, 165, 182, 182, 190, 209, 228, 228, 238], 66) := by decide +kernel
theorem dX2_reckonWhole_120 : decode cX2_reckonWhole 120 = .ok (.aload_n 0, 1) := by decide +kernel
theorem dX2_reckonWhole_121 : decode cX2_reckonWhole 121 = .ok (.getfield 9, 3) := by decide +kernel
theorem dX2_reckonWhole_124 : decode cX2_reckonWhole 124 = .ok (.aload_n 1, 1) := by decide +kernel
theorem dX2_reckonWhole_125 : decode cX2_reckonWhole 125 = .ok (.getfield 44, 3) := by decide +kernel
theorem dX2_reckonWhole_128 : decode cX2_reckonWhole 128 = .ok (.aload_n 1, 1) := by decide +kernel
theorem dX2_reckonWhole_129 : decode cX2_reckonWhole 129 = .ok (.getfield 28, 3) := by decide +kernel
theorem dX2_reckonWhole_132 : decode cX2_reckonWhole 132 = .ok (.invokevirtual 47, 3) := by decide +kernel
theorem dX2_reckonWhole_135 : decode cX2_reckonWhole 135 = .ok (.goto 187, 3) := by decide +kernel
theorem dX2_reckonWhole_138 : decode cX2_reckonWhole 138 = .ok (.aload_n 0, 1) := by decide +kernel
theorem dX2_reckonWhole_139 : decode cX2_reckonWhole 139 = .ok (.getfield 9, 3) := by decide +kernel
theorem dX2_reckonWhole_142 : decode cX2_reckonWhole 142 = .ok (.aload_n 1, 1) := by decide +kernel
theorem dX2_reckonWhole_143 : decode cX2_reckonWhole 143 = .ok (.getfield 44, 3) := by decide +kernel
theorem dX2_reckonWhole_146 : decode cX2_reckonWhole 146 = .ok (.aload_n 1, 1) := by decide +kernel
theorem dX2_reckonWhole_147 : decode cX2_reckonWhole 147 = .ok (.getfield 28, 3) := by decide +kernel
theorem dX2_reckonWhole_150 : decode cX2_reckonWhole 150 = .ok (.i2l, 1) := by decide +kernel
theorem dX2_reckonWhole_151 : decode cX2_reckonWhole 151 = .ok (.bipush 32, 2) := by decide +kernel
theorem dX2_reckonWhole_153 : decode cX2_reckonWhole 153 = .ok (.lshl, 1) := by decide +kernel
theorem dX2_reckonWhole_154 : decode cX2_reckonWhole 154 = .ok (.aload_n 1, 1) := by decide +kernel
theorem dX2_reckonWhole_155 : decode cX2_reckonWhole 155 = .ok (.getfield 37, 3) := by decide +kernel
theorem dX2_reckonWhole_158 : decode cX2_reckonWhole 158 = .ok (.i2l, 1) := by decide +kernel
theorem dX2_reckonWhole_159 : decode cX2_reckonWhole 159 = .ok (.ldc2_w 51, 3) := by decide +kernel
theorem dX2_reckonWhole_162 : decode cX2_reckonWhole 162 = .ok (.land, 1) := by decide +kernel
theorem dX2_reckonWhole_163 : decode cX2_reckonWhole 163 = .ok (.ladd, 1) := by decide +kernel
theorem dX2_reckonWhole_164 : decode cX2_reckonWhole 164 = .ok (.invokevirtual 53, 3) := by decide +kernel
theorem dX2_reckonWhole_167 : decode cX2_reckonWhole 167 = .ok (.goto 155, 3) := by decide +kernel
theorem dX2_reckonWhole_170 : decode cX2_reckonWhole 170 = .ok (.aload_n 0, 1) := by decide +kernel
theorem dX2_reckonWhole_171 : decode cX2_reckonWhole 171 = .ok (.getfield 9, 3) := by decide +kernel
theorem dX2_reckonWhole_174 : decode cX2_reckonWhole 174 = .ok (.aload_n 1, 1) := by decide +kernel
theorem dX2_reckonWhole_175 : decode cX2_reckonWhole 175 = .ok (.getfield 44, 3) := by decide +kernel
theorem dX2_reckonWhole_178 : decode cX2_reckonWhole 178 = .ok (.iload_n 2, 1) := by decide +kernel
theorem dX2_reckonWhole_179 : decode cX2_reckonWhole 179 = .ok (.invokevirtual 47, 3) := by decide +kernel
theorem dX2_reckonWhole_182 : decode cX2_reckonWhole 182 = .ok (.goto 140, 3) := by decide +kernel
theorem dX2_reckonWhole_185 : decode cX2_reckonWhole 185 = .ok (.aload_n 0, 1) := by decide +kernel
theorem dX2_reckonWhole_186 : decode cX2_reckonWhole 186 = .ok (.getfield 9, 3) := by decide +kernel
theorem dX2_reckonWhole_189 : decode cX2_reckonWhole 189 = .ok (.aload_n 1, 1) := by decide +kernel
theorem dX2_reckonWhole_190 : decode cX2_reckonWhole 190 = .ok (.getfield 44, 3) := by decide +kernel
theorem dX2_reckonWhole_193 : decode cX2_reckonWhole 193 = .ok (.iload_n 2, 1) := by decide +kernel
theorem dX2_reckonWhole_194 : decode cX2_reckonWhole 194 = .ok (.iload_n 3, 1) := by decide +kernel
theorem dX2_reckonWhole_195 : decode cX2_reckonWhole 195 = .ok (.iadd, 1) := by decide +kernel
theorem dX2_reckonWhole_196 : decode cX2_reckonWhole 196 = .ok (.invokevirtual 47, 3) := by decide +kernel
theorem dX2_reckonWhole_199 : decode cX2_reckonWhole 199 = .ok (.goto 123, 3) := by decide +kernel
theorem dX2_reckonWhole_202 : decode cX2_reckonWhole 202 = .ok (.aload_n 0, 1) := by decide +kernel
theorem dX2_reckonWhole_203 : decode cX2_reckonWhole 203 = .ok (.getfield 9, 3) := by decide +kernel
theorem dX2_reckonWhole_206 : decode cX2_reckonWhole 206 = .ok (.aload_n 1, 1) := by decide +kernel
theorem dX2_reckonWhole_207 : decode cX2_reckonWhole 207 = .ok (.getfield 44, 3) := by decide +kernel
theorem dX2_reckonWhole_210 : decode cX2_reckonWhole 210 = .ok (.iload_n 2, 1) := by decide +kernel
theorem dX2_reckonWhole_211 : decode cX2_reckonWhole 211 = .ok (.iload_n 3, 1) := by decide +kernel
theorem dX2_reckonWhole_212 : decode cX2_reckonWhole 212 = .ok (.isub, 1) := by decide +kernel
theorem dX2_reckonWhole_213 : decode cX2_reckonWhole 213 = .ok (.invokevirtual 47, 3) := by decide +kernel
theorem dX2_reckonWhole_216 : decode cX2_reckonWhole 216 = .ok (.goto 106, 3) := by decide +kernel
theorem dX2_reckonWhole_219 : decode cX2_reckonWhole 219 = .ok (.aload_n 0, 1) := by decide +kernel
theorem dX2_reckonWhole_220 : decode cX2_reckonWhole 220 = .ok (.getfield 9, 3) := by decide +kernel
theorem dX2_reckonWhole_223 : decode cX2_reckonWhole 223 = .ok (.aload_n 1, 1) := by decide +kernel
theorem dX2_reckonWhole_224 : decode cX2_reckonWhole 224 = .ok (.getfield 44, 3) := by decide +kernel
theorem dX2_reckonWhole_227 : decode cX2_reckonWhole 227 = .ok (.iload_n 2, 1) := by decide +kernel
theorem dX2_reckonWhole_228 : decode cX2_reckonWhole 228 = .ok (.iload_n 3, 1) := by decide +kernel
theorem dX2_reckonWhole_229 : decode cX2_reckonWhole 229 = .ok (.imul, 1) := by decide +kernel
theorem dX2_reckonWhole_230 : decode cX2_reckonWhole 230 = .ok (.invokevirtual 47, 3) := by decide +kernel
theorem dX2_reckonWhole_233 : decode cX2_reckonWhole 233 = .ok (.goto 89, 3) := by decide +kernel
theorem dX2_reckonWhole_236 : decode cX2_reckonWhole 236 = .ok (.aload_n 0, 1) := by decide +kernel
theorem dX2_reckonWhole_237 : decode cX2_reckonWhole 237 = .ok (.aload_n 1, 1) := by decide +kernel
theorem dX2_reckonWhole_238 : decode cX2_reckonWhole 238 = .ok (.iload_n 2, 1) := by decide +kernel
theorem dX2_reckonWhole_239 : decode cX2_reckonWhole 239 = .ok (.iload_n 3, 1) := by decide +kernel
theorem dX2_reckonWhole_240 : decode cX2_reckonWhole 240 = .ok (.invokevirtual 57, 3) := by decide +kernel
theorem dX2_reckonWhole_243 : decode cX2_reckonWhole 243 = .ok (.ireturn, 1) := by decide +kernel
theorem dX2_reckonWhole_244 : decode cX2_reckonWhole 244 = .ok (.aload_n 0, 1) := by decide +kernel
theorem dX2_reckonWhole_245 : decode cX2_reckonWhole 245 = .ok (.getfield 9, 3) := by decide +kernel
theorem dX2_reckonWhole_248 : decode cX2_reckonWhole 248 = .ok (.aload_n 1, 1) := by decide +kernel
theorem dX2_reckonWhole_249 : decode cX2_reckonWhole 249 = .ok (.getfield 44, 3) := by decide +kernel
theorem dX2_reckonWhole_252 : decode cX2_reckonWhole 252 = .ok (.lload 4, 2) := by decide +kernel
theorem dX2_reckonWhole_254 : decode cX2_reckonWhole 254 = .ok (.lload 6, 2) := by decide +kernel
theorem dX2_reckonWhole_256 : decode cX2_reckonWhole 256 = .ok (.ladd, 1) := by decide +kernel
theorem dX2_reckonWhole_257 : decode cX2_reckonWhole 257 = .ok (.invokevirtual 53, 3) := by decide +kernel
theorem dX2_reckonWhole_260 : decode cX2_reckonWhole 260 = .ok (.goto 62, 3) := by decide +kernel
theorem dX2_reckonWhole_263 : decode cX2_reckonWhole 263 = .ok (.aload_n 0, 1) := by decide +kernel
theorem dX2_reckonWhole_264 : decode cX2_reckonWhole 264 = .ok (.getfield 9, 3) := by decide +kernel
theorem dX2_reckonWhole_267 : decode cX2_reckonWhole 267 = .ok (.aload_n 1, 1) := by decide +kernel
theorem dX2_reckonWhole_268 : decode cX2_reckonWhole 268 = .ok (.getfield 44, 3) := by decide +kernel
theorem dX2_reckonWhole_271 : decode cX2_reckonWhole 271 = .ok (.lload 4, 2) := by decide +kernel
theorem dX2_reckonWhole_273 : decode cX2_reckonWhole 273 = .ok (.lload 6, 2) := by decide +kernel
theorem dX2_reckonWhole_275 : decode cX2_reckonWhole 275 = .ok (.lmul, 1) := by decide +kernel
theorem dX2_reckonWhole_276 : decode cX2_reckonWhole 276 = .ok (.invokevirtual 53, 3) := by decide +kernel
theorem dX2_reckonWhole_279 : decode cX2_reckonWhole 279 = .ok (.goto 43, 3) := by decide +kernel
theorem dX2_reckonWhole_282 : decode cX2_reckonWhole 282 = .ok (.aload_n 0, 1) := by decide +kernel
theorem dX2_reckonWhole_283 : decode cX2_reckonWhole 283 = .ok (.aload_n 1, 1) := by decide +kernel
theorem dX2_reckonWhole_284 : decode cX2_reckonWhole 284 = .ok (.lload 4, 2) := by decide +kernel
theorem dX2_reckonWhole_286 : decode cX2_reckonWhole 286 = .ok (.lload 6, 2) := by decide +kernel
theorem dX2_reckonWhole_288 : decode cX2_reckonWhole 288 = .ok (.invokevirtual 61, 3) := by decide +kernel
theorem dX2_reckonWhole_291 : decode cX2_reckonWhole 291 = .ok (.ireturn, 1) := by decide +kernel
theorem dX2_reckonWhole_292 : decode cX2_reckonWhole 292 = .ok (.aload_n 0, 1) := by decide +kernel
theorem dX2_reckonWhole_293 : decode cX2_reckonWhole 293 = .ok (.getfield 9, 3) := by decide +kernel
theorem dX2_reckonWhole_296 : decode cX2_reckonWhole 296 = .ok (.aload_n 1, 1) := by decide +kernel
theorem dX2_reckonWhole_297 : decode cX2_reckonWhole 297 = .ok (.getfield 44, 3) := by decide +kernel
theorem dX2_reckonWhole_300 : decode cX2_reckonWhole 300 = .ok (.iload_n 2, 1) := by decide +kernel
theorem dX2_reckonWhole_301 : decode cX2_reckonWhole 301 = .ok (.i2l, 1) := by decide +kernel
theorem dX2_reckonWhole_302 : decode cX2_reckonWhole 302 = .ok (.invokevirtual 53, 3) := by decide +kernel
theorem dX2_reckonWhole_305 : decode cX2_reckonWhole 305 = .ok (.goto 17, 3) := by decide +kernel
theorem dX2_reckonWhole_308 : decode cX2_reckonWhole 308 = .ok (.aload_n 0, 1) := by decide +kernel
theorem dX2_reckonWhole_309 : decode cX2_reckonWhole 309 = .ok (.getfield 9, 3) := by decide +kernel
theorem dX2_reckonWhole_312 : decode cX2_reckonWhole 312 = .ok (.aload_n 1, 1) := by decide +kernel
theorem dX2_reckonWhole_313 : decode cX2_reckonWhole 313 = .ok (.getfield 44, 3) := by decide +kernel
theorem dX2_reckonWhole_316 : decode cX2_reckonWhole 316 = .ok (.lload 4, 2) := by decide +kernel
theorem dX2_reckonWhole_318 : decode cX2_reckonWhole 318 = .ok (.l2i, 1) := by decide +kernel
theorem dX2_reckonWhole_319 : decode cX2_reckonWhole 319 = .ok (.invokevirtual 47, 3) := by decide +kernel
theorem dX2_reckonWhole_322 : decode cX2_reckonWhole 322 = .ok (.iconst 0, 1) := by decide +kernel
theorem dX2_reckonWhole_323 : decode cX2_reckonWhole 323 = .ok (.ireturn, 1) := by decide +kernel
theorem dX2_divideWords_0 : decode cX2_divideWords 0 = .ok (.iload_n 3, 1) := by decide +kernel
theorem dX2_divideWords_1 : decode cX2_divideWords 1 = .ok (.ifCond .ne 6, 3) := by decide +kernel
theorem dX2_divideWords_4 : decode cX2_divideWords 4 = .ok (.bipush 6, 2) := by decide +kernel
theorem dX2_divideWords_6 : decode cX2_divideWords 6 = .ok (.ireturn, 1) := by decide +kernel
theorem dX2_divideWords_7 : decode cX2_divideWords 7 = .ok (.aload_n 0, 1) := by decide +kernel
theorem dX2_divideWords_8 : decode cX2_divideWords 8 = .ok (.getfield 9, 3) := by decide +kernel
theorem dX2_divideWords_11 : decode cX2_divideWords 11 = .ok (.aload_n 1, 1) := by decide +kernel
theorem dX2_divideWords_12 : decode cX2_divideWords 12 = .ok (.getfield 44, 3) := by decide +kernel
theorem dX2_divideWords_15 : decode cX2_divideWords 15 = .ok (.aload_n 1, 1) := by decide +kernel
theorem dX2_divideWords_16 : decode cX2_divideWords 16 = .ok (.getfield 15, 3) := by decide +kernel
theorem dX2_divideWords_19 : decode cX2_divideWords 19 = .ok (.bipush 7, 2) := by decide +kernel
theorem dX2_divideWords_21 : decode cX2_divideWords 21 = .ok (.if_icmp .ne 9, 3) := by decide +kernel
theorem dX2_divideWords_24 : decode cX2_divideWords 24 = .ok (.iload_n 2, 1) := by decide +kernel
theorem dX2_divideWords_25 : decode cX2_divideWords 25 = .ok (.iload_n 3, 1) := by decide +kernel
theorem dX2_divideWords_26 : decode cX2_divideWords 26 = .ok (.idiv, 1) := by decide +kernel
theorem dX2_divideWords_27 : decode cX2_divideWords 27 = .ok (.goto 6, 3) := by decide +kernel
theorem dX2_divideWords_30 : decode cX2_divideWords 30 = .ok (.iload_n 2, 1) := by decide +kernel
theorem dX2_divideWords_31 : decode cX2_divideWords 31 = .ok (.iload_n 3, 1) := by decide +kernel
theorem dX2_divideWords_32 : decode cX2_divideWords 32 = .ok (.irem, 1) := by decide +kernel
theorem dX2_divideWords_33 : decode cX2_divideWords 33 = .ok (.invokevirtual 47, 3) := by decide +kernel
theorem dX2_divideWords_36 : decode cX2_divideWords 36 = .ok (.iconst 0, 1) := by decide +kernel
theorem dX2_divideWords_37 : decode cX2_divideWords 37 = .ok (.ireturn, 1) := by decide +kernel
theorem dX2_divideLongs_0 : decode cX2_divideLongs 0 = .ok (.lload 4, 2) := by decide +kernel
theorem dX2_divideLongs_2 : decode cX2_divideLongs 2 = .ok (.lconst 0, 1) := by decide +kernel
theorem dX2_divideLongs_3 : decode cX2_divideLongs 3 = .ok (.lcmp, 1) := by decide +kernel
theorem dX2_divideLongs_4 : decode cX2_divideLongs 4 = .ok (.ifCond .ne 6, 3) := by decide +kernel
theorem dX2_divideLongs_7 : decode cX2_divideLongs 7 = .ok (.bipush 6, 2) := by decide +kernel
theorem dX2_divideLongs_9 : decode cX2_divideLongs 9 = .ok (.ireturn, 1) := by decide +kernel
theorem dX2_divideLongs_10 : decode cX2_divideLongs 10 = .ok (.aload_n 0, 1) := by decide +kernel
theorem dX2_divideLongs_11 : decode cX2_divideLongs 11 = .ok (.getfield 9, 3) := by decide +kernel
theorem dX2_divideLongs_14 : decode cX2_divideLongs 14 = .ok (.aload_n 1, 1) := by decide +kernel
theorem dX2_divideLongs_15 : decode cX2_divideLongs 15 = .ok (.getfield 44, 3) := by decide +kernel
theorem dX2_divideLongs_18 : decode cX2_divideLongs 18 = .ok (.aload_n 1, 1) := by decide +kernel
theorem dX2_divideLongs_19 : decode cX2_divideLongs 19 = .ok (.getfield 15, 3) := by decide +kernel
theorem dX2_divideLongs_22 : decode cX2_divideLongs 22 = .ok (.bipush 11, 2) := by decide +kernel
theorem dX2_divideLongs_24 : decode cX2_divideLongs 24 = .ok (.if_icmp .ne 10, 3) := by decide +kernel
theorem dX2_divideLongs_27 : decode cX2_divideLongs 27 = .ok (.lload_n 2, 1) := by decide +kernel
theorem dX2_divideLongs_28 : decode cX2_divideLongs 28 = .ok (.lload 4, 2) := by decide +kernel
theorem dX2_divideLongs_30 : decode cX2_divideLongs 30 = .ok (.ldiv, 1) := by decide +kernel
theorem dX2_divideLongs_31 : decode cX2_divideLongs 31 = .ok (.goto 7, 3) := by decide +kernel
theorem dX2_divideLongs_34 : decode cX2_divideLongs 34 = .ok (.lload_n 2, 1) := by decide +kernel
theorem dX2_divideLongs_35 : decode cX2_divideLongs 35 = .ok (.lload 4, 2) := by decide +kernel
theorem dX2_divideLongs_37 : decode cX2_divideLongs 37 = .ok (.lrem, 1) := by decide +kernel
theorem dX2_divideLongs_38 : decode cX2_divideLongs 38 = .ok (.invokevirtual 53, 3) := by decide +kernel
theorem dX2_divideLongs_41 : decode cX2_divideLongs 41 = .ok (.iconst 0, 1) := by decide +kernel
theorem dX2_divideLongs_42 : decode cX2_divideLongs 42 = .ok (.ireturn, 1) := by decide +kernel
theorem dX2_reckonBroken_0 : decode cX2_reckonBroken 0 = .ok (.aload_n 0, 1) := by decide +kernel
theorem dX2_reckonBroken_1 : decode cX2_reckonBroken 1 = .ok (.getfield 9, 3) := by decide +kernel
theorem dX2_reckonBroken_4 : decode cX2_reckonBroken 4 = .ok (.aload_n 1, 1) := by decide +kernel
theorem dX2_reckonBroken_5 : decode cX2_reckonBroken 5 = .ok (.getfield 28, 3) := by decide +kernel
theorem dX2_reckonBroken_8 : decode cX2_reckonBroken 8 = .ok (.invokevirtual 65, 3) := by decide +kernel
theorem dX2_reckonBroken_11 : decode cX2_reckonBroken 11 = .ok (.fstore_n 2, 1) := by decide +kernel
theorem dX2_reckonBroken_12 : decode cX2_reckonBroken 12 = .ok (.aload_n 0, 1) := by decide +kernel
theorem dX2_reckonBroken_13 : decode cX2_reckonBroken 13 = .ok (.getfield 9, 3) := by decide +kernel
theorem dX2_reckonBroken_16 : decode cX2_reckonBroken 16 = .ok (.aload_n 1, 1) := by decide +kernel
theorem dX2_reckonBroken_17 : decode cX2_reckonBroken 17 = .ok (.getfield 28, 3) := by decide +kernel
theorem dX2_reckonBroken_20 : decode cX2_reckonBroken 20 = .ok (.invokevirtual 69, 3) := by decide +kernel
theorem dX2_reckonBroken_23 : decode cX2_reckonBroken 23 = .ok (.dstore_n 3, 1) := by decide +kernel
theorem dX2_reckonBroken_24 : decode cX2_reckonBroken 24 = .ok (.aload_n 1, 1) := by decide +kernel
theorem dX2_reckonBroken_25 : decode cX2_reckonBroken 25 = .ok (.getfield 15, 3) := by decide +kernel
theorem dX2_reckonBroken_28 : decode cX2_reckonBroken 28 = .ok (.tableswitch 292 15 25 #[60, 86, 112, 128, 144, 160, 176, 193, 212, 230, 248], 60) := by decide +kernel
theorem dX2_reckonBroken_88 : decode cX2_reckonBroken 88 = .ok (.aload_n 0, 1) := by decide +kernel
theorem dX2_reckonBroken_89 : decode cX2_reckonBroken 89 = .ok (.getfield 9, 3) := by decide +kernel
theorem dX2_reckonBroken_92 : decode cX2_reckonBroken 92 = .ok (.aload_n 1, 1) := by decide +kernel
theorem dX2_reckonBroken_93 : decode cX2_reckonBroken 93 = .ok (.getfield 44, 3) := by decide +kernel
theorem dX2_reckonBroken_96 : decode cX2_reckonBroken 96 = .ok (.aload_n 0, 1) := by decide +kernel
theorem dX2_reckonBroken_97 : decode cX2_reckonBroken 97 = .ok (.getfield 9, 3) := by decide +kernel
theorem dX2_reckonBroken_100 : decode cX2_reckonBroken 100 = .ok (.aload_n 1, 1) := by decide +kernel
theorem dX2_reckonBroken_101 : decode cX2_reckonBroken 101 = .ok (.getfield 28, 3) := by decide +kernel
theorem dX2_reckonBroken_104 : decode cX2_reckonBroken 104 = .ok (.invokevirtual 40, 3) := by decide +kernel
theorem dX2_reckonBroken_107 : decode cX2_reckonBroken 107 = .ok (.l2f, 1) := by decide +kernel
theorem dX2_reckonBroken_108 : decode cX2_reckonBroken 108 = .ok (.invokevirtual 73, 3) := by decide +kernel
theorem dX2_reckonBroken_111 : decode cX2_reckonBroken 111 = .ok (.goto 241, 3) := by decide +kernel
theorem dX2_reckonBroken_114 : decode cX2_reckonBroken 114 = .ok (.aload_n 0, 1) := by decide +kernel
theorem dX2_reckonBroken_115 : decode cX2_reckonBroken 115 = .ok (.getfield 9, 3) := by decide +kernel
theorem dX2_reckonBroken_118 : decode cX2_reckonBroken 118 = .ok (.aload_n 1, 1) := by decide +kernel
theorem dX2_reckonBroken_119 : decode cX2_reckonBroken 119 = .ok (.getfield 44, 3) := by decide +kernel
theorem dX2_reckonBroken_122 : decode cX2_reckonBroken 122 = .ok (.aload_n 0, 1) := by decide +kernel
theorem dX2_reckonBroken_123 : decode cX2_reckonBroken 123 = .ok (.getfield 9, 3) := by decide +kernel
theorem dX2_reckonBroken_126 : decode cX2_reckonBroken 126 = .ok (.aload_n 1, 1) := by decide +kernel
theorem dX2_reckonBroken_127 : decode cX2_reckonBroken 127 = .ok (.getfield 28, 3) := by decide +kernel
theorem dX2_reckonBroken_130 : decode cX2_reckonBroken 130 = .ok (.invokevirtual 40, 3) := by decide +kernel
theorem dX2_reckonBroken_133 : decode cX2_reckonBroken 133 = .ok (.l2d, 1) := by decide +kernel
theorem dX2_reckonBroken_134 : decode cX2_reckonBroken 134 = .ok (.invokevirtual 77, 3) := by decide +kernel
theorem dX2_reckonBroken_137 : decode cX2_reckonBroken 137 = .ok (.goto 215, 3) := by decide +kernel
theorem dX2_reckonBroken_140 : decode cX2_reckonBroken 140 = .ok (.aload_n 0, 1) := by decide +kernel
theorem dX2_reckonBroken_141 : decode cX2_reckonBroken 141 = .ok (.getfield 9, 3) := by decide +kernel
theorem dX2_reckonBroken_144 : decode cX2_reckonBroken 144 = .ok (.aload_n 1, 1) := by decide +kernel
theorem dX2_reckonBroken_145 : decode cX2_reckonBroken 145 = .ok (.getfield 44, 3) := by decide +kernel
theorem dX2_reckonBroken_148 : decode cX2_reckonBroken 148 = .ok (.fload_n 2, 1) := by decide +kernel
theorem dX2_reckonBroken_149 : decode cX2_reckonBroken 149 = .ok (.f2l, 1) := by decide +kernel
theorem dX2_reckonBroken_150 : decode cX2_reckonBroken 150 = .ok (.invokevirtual 53, 3) := by decide +kernel
theorem dX2_reckonBroken_153 : decode cX2_reckonBroken 153 = .ok (.goto 199, 3) := by decide +kernel
theorem dX2_reckonBroken_156 : decode cX2_reckonBroken 156 = .ok (.aload_n 0, 1) := by decide +kernel
theorem dX2_reckonBroken_157 : decode cX2_reckonBroken 157 = .ok (.getfield 9, 3) := by decide +kernel
theorem dX2_reckonBroken_160 : decode cX2_reckonBroken 160 = .ok (.aload_n 1, 1) := by decide +kernel
theorem dX2_reckonBroken_161 : decode cX2_reckonBroken 161 = .ok (.getfield 44, 3) := by decide +kernel
theorem dX2_reckonBroken_164 : decode cX2_reckonBroken 164 = .ok (.dload_n 3, 1) := by decide +kernel
theorem dX2_reckonBroken_165 : decode cX2_reckonBroken 165 = .ok (.d2i, 1) := by decide +kernel
theorem dX2_reckonBroken_166 : decode cX2_reckonBroken 166 = .ok (.invokevirtual 47, 3) := by decide +kernel
theorem dX2_reckonBroken_169 : decode cX2_reckonBroken 169 = .ok (.goto 183, 3) := by decide +kernel
theorem dX2_reckonBroken_172 : decode cX2_reckonBroken 172 = .ok (.aload_n 0, 1) := by decide +kernel
theorem dX2_reckonBroken_173 : decode cX2_reckonBroken 173 = .ok (.getfield 9, 3) := by decide +kernel
theorem dX2_reckonBroken_176 : decode cX2_reckonBroken 176 = .ok (.aload_n 1, 1) := by decide +kernel
theorem dX2_reckonBroken_177 : decode cX2_reckonBroken 177 = .ok (.getfield 44, 3) := by decide +kernel
theorem dX2_reckonBroken_180 : decode cX2_reckonBroken 180 = .ok (.fload_n 2, 1) := by decide +kernel
theorem dX2_reckonBroken_181 : decode cX2_reckonBroken 181 = .ok (.f2d, 1) := by decide +kernel
theorem dX2_reckonBroken_182 : decode cX2_reckonBroken 182 = .ok (.invokevirtual 77, 3) := by decide +kernel
theorem dX2_reckonBroken_185 : decode cX2_reckonBroken 185 = .ok (.goto 167, 3) := by decide +kernel
theorem dX2_reckonBroken_188 : decode cX2_reckonBroken 188 = .ok (.aload_n 0, 1) := by decide +kernel
theorem dX2_reckonBroken_189 : decode cX2_reckonBroken 189 = .ok (.getfield 9, 3) := by decide +kernel
theorem dX2_reckonBroken_192 : decode cX2_reckonBroken 192 = .ok (.aload_n 1, 1) := by decide +kernel
theorem dX2_reckonBroken_193 : decode cX2_reckonBroken 193 = .ok (.getfield 44, 3) := by decide +kernel
theorem dX2_reckonBroken_196 : decode cX2_reckonBroken 196 = .ok (.dload_n 3, 1) := by decide +kernel
theorem dX2_reckonBroken_197 : decode cX2_reckonBroken 197 = .ok (.d2f, 1) := by decide +kernel
theorem dX2_reckonBroken_198 : decode cX2_reckonBroken 198 = .ok (.invokevirtual 73, 3) := by decide +kernel
theorem dX2_reckonBroken_201 : decode cX2_reckonBroken 201 = .ok (.goto 151, 3) := by decide +kernel
theorem dX2_reckonBroken_204 : decode cX2_reckonBroken 204 = .ok (.aload_n 0, 1) := by decide +kernel
theorem dX2_reckonBroken_205 : decode cX2_reckonBroken 205 = .ok (.getfield 9, 3) := by decide +kernel
theorem dX2_reckonBroken_208 : decode cX2_reckonBroken 208 = .ok (.aload_n 1, 1) := by decide +kernel
theorem dX2_reckonBroken_209 : decode cX2_reckonBroken 209 = .ok (.getfield 44, 3) := by decide +kernel
theorem dX2_reckonBroken_212 : decode cX2_reckonBroken 212 = .ok (.fload_n 2, 1) := by decide +kernel
theorem dX2_reckonBroken_213 : decode cX2_reckonBroken 213 = .ok (.fconst 2, 1) := by decide +kernel
theorem dX2_reckonBroken_214 : decode cX2_reckonBroken 214 = .ok (.fdiv, 1) := by decide +kernel
theorem dX2_reckonBroken_215 : decode cX2_reckonBroken 215 = .ok (.invokevirtual 73, 3) := by decide +kernel
theorem dX2_reckonBroken_218 : decode cX2_reckonBroken 218 = .ok (.goto 134, 3) := by decide +kernel
theorem dX2_reckonBroken_221 : decode cX2_reckonBroken 221 = .ok (.aload_n 0, 1) := by decide +kernel
theorem dX2_reckonBroken_222 : decode cX2_reckonBroken 222 = .ok (.getfield 9, 3) := by decide +kernel
theorem dX2_reckonBroken_225 : decode cX2_reckonBroken 225 = .ok (.aload_n 1, 1) := by decide +kernel
theorem dX2_reckonBroken_226 : decode cX2_reckonBroken 226 = .ok (.getfield 44, 3) := by decide +kernel
theorem dX2_reckonBroken_229 : decode cX2_reckonBroken 229 = .ok (.dload_n 3, 1) := by decide +kernel
theorem dX2_reckonBroken_230 : decode cX2_reckonBroken 230 = .ok (.ldc2_w 81, 3) := by decide +kernel
theorem dX2_reckonBroken_233 : decode cX2_reckonBroken 233 = .ok (.ddiv, 1) := by decide +kernel
theorem dX2_reckonBroken_234 : decode cX2_reckonBroken 234 = .ok (.invokevirtual 77, 3) := by decide +kernel
theorem dX2_reckonBroken_237 : decode cX2_reckonBroken 237 = .ok (.goto 115, 3) := by decide +kernel
theorem dX2_reckonBroken_240 : decode cX2_reckonBroken 240 = .ok (.aload_n 0, 1) := by decide +kernel
theorem dX2_reckonBroken_241 : decode cX2_reckonBroken 241 = .ok (.aload_n 1, 1) := by decide +kernel
theorem dX2_reckonBroken_242 : decode cX2_reckonBroken 242 = .ok (.fload_n 2, 1) := by decide +kernel
theorem dX2_reckonBroken_243 : decode cX2_reckonBroken 243 = .ok (.aload_n 0, 1) := by decide +kernel
theorem dX2_reckonBroken_244 : decode cX2_reckonBroken 244 = .ok (.getfield 9, 3) := by decide +kernel
theorem dX2_reckonBroken_247 : decode cX2_reckonBroken 247 = .ok (.aload_n 1, 1) := by decide +kernel
theorem dX2_reckonBroken_248 : decode cX2_reckonBroken 248 = .ok (.getfield 37, 3) := by decide +kernel
theorem dX2_reckonBroken_251 : decode cX2_reckonBroken 251 = .ok (.invokevirtual 65, 3) := by decide +kernel
theorem dX2_reckonBroken_254 : decode cX2_reckonBroken 254 = .ok (.invokevirtual 83, 3) := by decide +kernel
theorem dX2_reckonBroken_257 : decode cX2_reckonBroken 257 = .ok (.ireturn, 1) := by decide +kernel
theorem dX2_reckonBroken_258 : decode cX2_reckonBroken 258 = .ok (.aload_n 0, 1) := by decide +kernel
theorem dX2_reckonBroken_259 : decode cX2_reckonBroken 259 = .ok (.aload_n 1, 1) := by decide +kernel
theorem dX2_reckonBroken_260 : decode cX2_reckonBroken 260 = .ok (.dload_n 3, 1) := by decide +kernel
theorem dX2_reckonBroken_261 : decode cX2_reckonBroken 261 = .ok (.aload_n 0, 1) := by decide +kernel
theorem dX2_reckonBroken_262 : decode cX2_reckonBroken 262 = .ok (.getfield 9, 3) := by decide +kernel
theorem dX2_reckonBroken_265 : decode cX2_reckonBroken 265 = .ok (.aload_n 1, 1) := by decide +kernel
theorem dX2_reckonBroken_266 : decode cX2_reckonBroken 266 = .ok (.getfield 37, 3) := by decide +kernel
theorem dX2_reckonBroken_269 : decode cX2_reckonBroken 269 = .ok (.invokevirtual 69, 3) := by decide +kernel
theorem dX2_reckonBroken_272 : decode cX2_reckonBroken 272 = .ok (.invokevirtual 87, 3) := by decide +kernel
theorem dX2_reckonBroken_275 : decode cX2_reckonBroken 275 = .ok (.ireturn, 1) := by decide +kernel
theorem dX2_reckonBroken_276 : decode cX2_reckonBroken 276 = .ok (.aload_n 0, 1) := by decide +kernel
theorem dX2_reckonBroken_277 : decode cX2_reckonBroken 277 = .ok (.getfield 9, 3) := by decide +kernel
theorem dX2_reckonBroken_280 : decode cX2_reckonBroken 280 = .ok (.aload_n 1, 1) := by decide +kernel
theorem dX2_reckonBroken_281 : decode cX2_reckonBroken 281 = .ok (.getfield 44, 3) := by decide +kernel
theorem dX2_reckonBroken_284 : decode cX2_reckonBroken 284 = .ok (.aload_n 0, 1) := by decide +kernel
theorem dX2_reckonBroken_285 : decode cX2_reckonBroken 285 = .ok (.getfield 9, 3) := by decide +kernel
theorem dX2_reckonBroken_288 : decode cX2_reckonBroken 288 = .ok (.aload_n 1, 1) := by decide +kernel
theorem dX2_reckonBroken_289 : decode cX2_reckonBroken 289 = .ok (.getfield 28, 3) := by decide +kernel
theorem dX2_reckonBroken_292 : decode cX2_reckonBroken 292 = .ok (.invokevirtual 31, 3) := by decide +kernel
theorem dX2_reckonBroken_295 : decode cX2_reckonBroken 295 = .ok (.aload_n 0, 1) := by decide +kernel
theorem dX2_reckonBroken_296 : decode cX2_reckonBroken 296 = .ok (.getfield 9, 3) := by decide +kernel
theorem dX2_reckonBroken_299 : decode cX2_reckonBroken 299 = .ok (.aload_n 1, 1) := by decide +kernel
theorem dX2_reckonBroken_300 : decode cX2_reckonBroken 300 = .ok (.getfield 37, 3) := by decide +kernel
theorem dX2_reckonBroken_303 : decode cX2_reckonBroken 303 = .ok (.invokevirtual 31, 3) := by decide +kernel
theorem dX2_reckonBroken_306 : decode cX2_reckonBroken 306 = .ok (.if_icmp .ge 7, 3) := by decide +kernel
theorem dX2_reckonBroken_309 : decode cX2_reckonBroken 309 = .ok (.iconst 1, 1) := by decide +kernel
theorem dX2_reckonBroken_310 : decode cX2_reckonBroken 310 = .ok (.goto 4, 3) := by decide +kernel
theorem dX2_reckonBroken_313 : decode cX2_reckonBroken 313 = .ok (.iconst 0, 1) := by decide +kernel
theorem dX2_reckonBroken_314 : decode cX2_reckonBroken 314 = .ok (.invokevirtual 47, 3) := by decide +kernel
theorem dX2_reckonBroken_317 : decode cX2_reckonBroken 317 = .ok (.goto 35, 3) := by decide +kernel
theorem dX2_reckonBroken_320 : decode cX2_reckonBroken 320 = .ok (.aload_n 0, 1) := by decide +kernel
theorem dX2_reckonBroken_321 : decode cX2_reckonBroken 321 = .ok (.getfield 9, 3) := by decide +kernel
theorem dX2_reckonBroken_324 : decode cX2_reckonBroken 324 = .ok (.aload_n 1, 1) := by decide +kernel
theorem dX2_reckonBroken_325 : decode cX2_reckonBroken 325 = .ok (.getfield 44, 3) := by decide +kernel
theorem dX2_reckonBroken_328 : decode cX2_reckonBroken 328 = .ok (.dload_n 3, 1) := by decide +kernel
theorem dX2_reckonBroken_329 : decode cX2_reckonBroken 329 = .ok (.aload_n 0, 1) := by decide +kernel
theorem dX2_reckonBroken_330 : decode cX2_reckonBroken 330 = .ok (.getfield 9, 3) := by decide +kernel
theorem dX2_reckonBroken_333 : decode cX2_reckonBroken 333 = .ok (.aload_n 1, 1) := by decide +kernel
theorem dX2_reckonBroken_334 : decode cX2_reckonBroken 334 = .ok (.getfield 37, 3) := by decide +kernel
theorem dX2_reckonBroken_337 : decode cX2_reckonBroken 337 = .ok (.invokevirtual 69, 3) := by decide +kernel
theorem dX2_reckonBroken_340 : decode cX2_reckonBroken 340 = .ok (.dcmp .g, 1) := by decide +kernel
theorem dX2_reckonBroken_341 : decode cX2_reckonBroken 341 = .ok (.ifCond .ge 7, 3) := by decide +kernel
theorem dX2_reckonBroken_344 : decode cX2_reckonBroken 344 = .ok (.iconst 1, 1) := by decide +kernel
theorem dX2_reckonBroken_345 : decode cX2_reckonBroken 345 = .ok (.goto 4, 3) := by decide +kernel
theorem dX2_reckonBroken_348 : decode cX2_reckonBroken 348 = .ok (.iconst 0, 1) := by decide +kernel
theorem dX2_reckonBroken_349 : decode cX2_reckonBroken 349 = .ok (.invokevirtual 47, 3) := by decide +kernel
theorem dX2_reckonBroken_352 : decode cX2_reckonBroken 352 = .ok (.iconst 0, 1) := by decide +kernel
theorem dX2_reckonBroken_353 : decode cX2_reckonBroken 353 = .ok (.ireturn, 1) := by decide +kernel
theorem dX2_restOfSingles_0 : decode cX2_restOfSingles 0 = .ok (.fload_n 3, 1) := by decide +kernel
theorem dX2_restOfSingles_1 : decode cX2_restOfSingles 1 = .ok (.fconst 0, 1) := by decide +kernel
theorem dX2_restOfSingles_2 : decode cX2_restOfSingles 2 = .ok (.fcmp .l, 1) := by decide +kernel
theorem dX2_restOfSingles_3 : decode cX2_restOfSingles 3 = .ok (.ifCond .ne 6, 3) := by decide +kernel
theorem dX2_restOfSingles_6 : decode cX2_restOfSingles 6 = .ok (.bipush 6, 2) := by decide +kernel
theorem dX2_restOfSingles_8 : decode cX2_restOfSingles 8 = .ok (.ireturn, 1) := by decide +kernel
theorem dX2_restOfSingles_9 : decode cX2_restOfSingles 9 = .ok (.aload_n 0, 1) := by decide +kernel
theorem dX2_restOfSingles_10 : decode cX2_restOfSingles 10 = .ok (.getfield 9, 3) := by decide +kernel
theorem dX2_restOfSingles_13 : decode cX2_restOfSingles 13 = .ok (.aload_n 1, 1) := by decide +kernel
theorem dX2_restOfSingles_14 : decode cX2_restOfSingles 14 = .ok (.getfield 44, 3) := by decide +kernel
theorem dX2_restOfSingles_17 : decode cX2_restOfSingles 17 = .ok (.fload_n 2, 1) := by decide +kernel
theorem dX2_restOfSingles_18 : decode cX2_restOfSingles 18 = .ok (.f2d, 1) := by decide +kernel
theorem dX2_restOfSingles_19 : decode cX2_restOfSingles 19 = .ok (.fload_n 3, 1) := by decide +kernel
theorem dX2_restOfSingles_20 : decode cX2_restOfSingles 20 = .ok (.f2d, 1) := by decide +kernel
theorem dX2_restOfSingles_21 : decode cX2_restOfSingles 21 = .ok (.invokestatic 91, 3) := by decide +kernel
theorem dX2_restOfSingles_24 : decode cX2_restOfSingles 24 = .ok (.d2f, 1) := by decide +kernel
theorem dX2_restOfSingles_25 : decode cX2_restOfSingles 25 = .ok (.invokevirtual 73, 3) := by decide +kernel
theorem dX2_restOfSingles_28 : decode cX2_restOfSingles 28 = .ok (.iconst 0, 1) := by decide +kernel
theorem dX2_restOfSingles_29 : decode cX2_restOfSingles 29 = .ok (.ireturn, 1) := by decide +kernel
theorem dX2_restOfDoubles_0 : decode cX2_restOfDoubles 0 = .ok (.dload 4, 2) := by decide +kernel
theorem dX2_restOfDoubles_2 : decode cX2_restOfDoubles 2 = .ok (.dconst 0, 1) := by decide +kernel
theorem dX2_restOfDoubles_3 : decode cX2_restOfDoubles 3 = .ok (.dcmp .l, 1) := by decide +kernel
theorem dX2_restOfDoubles_4 : decode cX2_restOfDoubles 4 = .ok (.ifCond .ne 6, 3) := by decide +kernel
theorem dX2_restOfDoubles_7 : decode cX2_restOfDoubles 7 = .ok (.bipush 6, 2) := by decide +kernel
theorem dX2_restOfDoubles_9 : decode cX2_restOfDoubles 9 = .ok (.ireturn, 1) := by decide +kernel
theorem dX2_restOfDoubles_10 : decode cX2_restOfDoubles 10 = .ok (.aload_n 0, 1) := by decide +kernel
theorem dX2_restOfDoubles_11 : decode cX2_restOfDoubles 11 = .ok (.getfield 9, 3) := by decide +kernel
theorem dX2_restOfDoubles_14 : decode cX2_restOfDoubles 14 = .ok (.aload_n 1, 1) := by decide +kernel
theorem dX2_restOfDoubles_15 : decode cX2_restOfDoubles 15 = .ok (.getfield 44, 3) := by decide +kernel
theorem dX2_restOfDoubles_18 : decode cX2_restOfDoubles 18 = .ok (.dload_n 2, 1) := by decide +kernel
theorem dX2_restOfDoubles_19 : decode cX2_restOfDoubles 19 = .ok (.dload 4, 2) := by decide +kernel
theorem dX2_restOfDoubles_21 : decode cX2_restOfDoubles 21 = .ok (.invokestatic 91, 3) := by decide +kernel
theorem dX2_restOfDoubles_24 : decode cX2_restOfDoubles 24 = .ok (.invokevirtual 77, 3) := by decide +kernel
theorem dX2_restOfDoubles_27 : decode cX2_restOfDoubles 27 = .ok (.iconst 0, 1) := by decide +kernel
theorem dX2_restOfDoubles_28 : decode cX2_restOfDoubles 28 = .ok (.ireturn, 1) := by decide +kernel
theorem dX2_restOf_0 : decode cX2_restOf 0 = .ok (.dload_n 0, 1) := by decide +kernel
theorem dX2_restOf_1 : decode cX2_restOf 1 = .ok (.dconst 0, 1) := by decide +kernel
theorem dX2_restOf_2 : decode cX2_restOf 2 = .ok (.dcmp .g, 1) := by decide +kernel
theorem dX2_restOf_3 : decode cX2_restOf 3 = .ok (.ifCond .ge 8, 3) := by decide +kernel
theorem dX2_restOf_6 : decode cX2_restOf 6 = .ok (.dload_n 0, 1) := by decide +kernel
theorem dX2_restOf_7 : decode cX2_restOf 7 = .ok (.dneg, 1) := by decide +kernel
theorem dX2_restOf_8 : decode cX2_restOf 8 = .ok (.goto 4, 3) := by decide +kernel
theorem dX2_restOf_11 : decode cX2_restOf 11 = .ok (.dload_n 0, 1) := by decide +kernel
theorem dX2_restOf_12 : decode cX2_restOf 12 = .ok (.dstore 4, 2) := by decide +kernel
theorem dX2_restOf_14 : decode cX2_restOf 14 = .ok (.dload_n 2, 1) := by decide +kernel
theorem dX2_restOf_15 : decode cX2_restOf 15 = .ok (.dconst 0, 1) := by decide +kernel
theorem dX2_restOf_16 : decode cX2_restOf 16 = .ok (.dcmp .g, 1) := by decide +kernel
theorem dX2_restOf_17 : decode cX2_restOf 17 = .ok (.ifCond .ge 8, 3) := by decide +kernel
theorem dX2_restOf_20 : decode cX2_restOf 20 = .ok (.dload_n 2, 1) := by decide +kernel
theorem dX2_restOf_21 : decode cX2_restOf 21 = .ok (.dneg, 1) := by decide +kernel
theorem dX2_restOf_22 : decode cX2_restOf 22 = .ok (.goto 4, 3) := by decide +kernel
theorem dX2_restOf_25 : decode cX2_restOf 25 = .ok (.dload_n 2, 1) := by decide +kernel
theorem dX2_restOf_26 : decode cX2_restOf 26 = .ok (.dstore 6, 2) := by decide +kernel
theorem dX2_restOf_28 : decode cX2_restOf 28 = .ok (.iconst 0, 1) := by decide +kernel
theorem dX2_restOf_29 : decode cX2_restOf 29 = .ok (.istore 8, 2) := by decide +kernel
theorem dX2_restOf_31 : decode cX2_restOf 31 = .ok (.iload 8, 2) := by decide +kernel
theorem dX2_restOf_33 : decode cX2_restOf 33 = .ok (.sipush 1137, 3) := by decide +kernel
theorem dX2_restOf_36 : decode cX2_restOf 36 = .ok (.if_icmp .ge 27, 3) := by decide +kernel
theorem dX2_restOf_39 : decode cX2_restOf 39 = .ok (.dload 6, 2) := by decide +kernel
theorem dX2_restOf_41 : decode cX2_restOf 41 = .ok (.dload 6, 2) := by decide +kernel
theorem dX2_restOf_43 : decode cX2_restOf 43 = .ok (.dadd, 1) := by decide +kernel
theorem dX2_restOf_44 : decode cX2_restOf 44 = .ok (.dload 4, 2) := by decide +kernel
theorem dX2_restOf_46 : decode cX2_restOf 46 = .ok (.dcmp .g, 1) := by decide +kernel
theorem dX2_restOf_47 : decode cX2_restOf 47 = .ok (.ifCond .gt 16, 3) := by decide +kernel
theorem dX2_restOf_50 : decode cX2_restOf 50 = .ok (.dload 6, 2) := by decide +kernel
theorem dX2_restOf_52 : decode cX2_restOf 52 = .ok (.dload 6, 2) := by decide +kernel
theorem dX2_restOf_54 : decode cX2_restOf 54 = .ok (.dadd, 1) := by decide +kernel
theorem dX2_restOf_55 : decode cX2_restOf 55 = .ok (.dstore 6, 2) := by decide +kernel
theorem dX2_restOf_57 : decode cX2_restOf 57 = .ok (.iinc 8 1, 3) := by decide +kernel
theorem dX2_restOf_60 : decode cX2_restOf 60 = .ok (.goto (-29), 3) := by decide +kernel
theorem dX2_restOf_63 : decode cX2_restOf 63 = .ok (.iload 8, 2) := by decide +kernel
theorem dX2_restOf_65 : decode cX2_restOf 65 = .ok (.istore 9, 2) := by decide +kernel
theorem dX2_restOf_67 : decode cX2_restOf 67 = .ok (.iload 9, 2) := by decide +kernel
theorem dX2_restOf_69 : decode cX2_restOf 69 = .ok (.ifCond .lt 37, 3) := by decide +kernel
theorem dX2_restOf_72 : decode cX2_restOf 72 = .ok (.dload 6, 2) := by decide +kernel
theorem dX2_restOf_74 : decode cX2_restOf 74 = .ok (.dload 4, 2) := by decide +kernel
theorem dX2_restOf_76 : decode cX2_restOf 76 = .ok (.dcmp .g, 1) := by decide +kernel
theorem dX2_restOf_77 : decode cX2_restOf 77 = .ok (.ifCond .gt 10, 3) := by decide +kernel
theorem dX2_restOf_80 : decode cX2_restOf 80 = .ok (.dload 4, 2) := by decide +kernel
theorem dX2_restOf_82 : decode cX2_restOf 82 = .ok (.dload 6, 2) := by decide +kernel
theorem dX2_restOf_84 : decode cX2_restOf 84 = .ok (.dsub, 1) := by decide +kernel
theorem dX2_restOf_85 : decode cX2_restOf 85 = .ok (.dstore 4, 2) := by decide +kernel
theorem dX2_restOf_87 : decode cX2_restOf 87 = .ok (.iload 9, 2) := by decide +kernel
theorem dX2_restOf_89 : decode cX2_restOf 89 = .ok (.ifCond .le 11, 3) := by decide +kernel
theorem dX2_restOf_92 : decode cX2_restOf 92 = .ok (.dload 6, 2) := by decide +kernel
theorem dX2_restOf_94 : decode cX2_restOf 94 = .ok (.ldc2_w 81, 3) := by decide +kernel
theorem dX2_restOf_97 : decode cX2_restOf 97 = .ok (.ddiv, 1) := by decide +kernel
theorem dX2_restOf_98 : decode cX2_restOf 98 = .ok (.dstore 6, 2) := by decide +kernel
theorem dX2_restOf_100 : decode cX2_restOf 100 = .ok (.iinc 9 (-1), 3) := by decide +kernel
theorem dX2_restOf_103 : decode cX2_restOf 103 = .ok (.goto (-36), 3) := by decide +kernel
theorem dX2_restOf_106 : decode cX2_restOf 106 = .ok (.dload_n 0, 1) := by decide +kernel
theorem dX2_restOf_107 : decode cX2_restOf 107 = .ok (.dconst 0, 1) := by decide +kernel
theorem dX2_restOf_108 : decode cX2_restOf 108 = .ok (.dcmp .g, 1) := by decide +kernel
theorem dX2_restOf_109 : decode cX2_restOf 109 = .ok (.ifCond .ge 9, 3) := by decide +kernel
theorem dX2_restOf_112 : decode cX2_restOf 112 = .ok (.dload 4, 2) := by decide +kernel
theorem dX2_restOf_114 : decode cX2_restOf 114 = .ok (.dneg, 1) := by decide +kernel
theorem dX2_restOf_115 : decode cX2_restOf 115 = .ok (.goto 5, 3) := by decide +kernel
theorem dX2_restOf_118 : decode cX2_restOf 118 = .ok (.dload 4, 2) := by decide +kernel
theorem dX2_restOf_120 : decode cX2_restOf 120 = .ok (.dreturn, 1) := by decide +kernel
theorem dX3_init_0 : decode cX3_init 0 = .ok (.aload_n 0, 1) := by decide +kernel
theorem dX3_init_1 : decode cX3_init 1 = .ok (.invokespecial 3, 3) := by decide +kernel
theorem dX3_init_4 : decode cX3_init 4 = .ok (.aload_n 0, 1) := by decide +kernel
theorem dX3_init_5 : decode cX3_init 5 = .ok (.bipush 8, 2) := by decide +kernel
theorem dX3_init_7 : decode cX3_init 7 = .ok (.newarray .int, 2) := by decide +kernel
theorem dX3_init_9 : decode cX3_init 9 = .ok (.putfield 9, 3) := by decide +kernel
theorem dX3_init_12 : decode cX3_init 12 = .ok (.aload_n 0, 1) := by decide +kernel
theorem dX3_init_13 : decode cX3_init 13 = .ok (.iconst 4, 1) := by decide +kernel
theorem dX3_init_14 : decode cX3_init 14 = .ok (.newarray .long, 2) := by decide +kernel
theorem dX3_init_16 : decode cX3_init 16 = .ok (.putfield 15, 3) := by decide +kernel
theorem dX3_init_19 : decode cX3_init 19 = .ok (.aload_n 0, 1) := by decide +kernel
theorem dX3_init_20 : decode cX3_init 20 = .ok (.iconst 4, 1) := by decide +kernel
theorem dX3_init_21 : decode cX3_init 21 = .ok (.newarray .float, 2) := by decide +kernel
theorem dX3_init_23 : decode cX3_init 23 = .ok (.putfield 19, 3) := by decide +kernel
theorem dX3_init_26 : decode cX3_init 26 = .ok (.aload_n 0, 1) := by decide +kernel
theorem dX3_init_27 : decode cX3_init 27 = .ok (.iconst 4, 1) := by decide +kernel
theorem dX3_init_28 : decode cX3_init 28 = .ok (.newarray .double, 2) := by decide +kernel
theorem dX3_init_30 : decode cX3_init 30 = .ok (.putfield 23, 3) := by decide +kernel
theorem dX3_init_33 : decode cX3_init 33 = .ok (.aload_n 0, 1) := by decide +kernel
theorem dX3_init_34 : decode cX3_init 34 = .ok (.bipush 8, 2) := by decide +kernel
theorem dX3_init_36 : decode cX3_init 36 = .ok (.anewarray 27, 3) := by decide +kernel
theorem dX3_init_39 : decode cX3_init 39 = .ok (.putfield 29, 3) := by decide +kernel
theorem dX3_init_42 : decode cX3_init 42 = .ok (.return_, 1) := by decide +kernel
theorem dX3_reset_0 : decode cX3_reset 0 = .ok (.iconst 0, 1) := by decide +kernel
theorem dX3_reset_1 : decode cX3_reset 1 = .ok (.istore_n 1, 1) := by decide +kernel
theorem dX3_reset_2 : decode cX3_reset 2 = .ok (.iload_n 1, 1) := by decide +kernel
theorem dX3_reset_3 : decode cX3_reset 3 = .ok (.bipush 8, 2) := by decide +kernel
theorem dX3_reset_5 : decode cX3_reset 5 = .ok (.if_icmp .ge 21, 3) := by decide +kernel
theorem dX3_reset_8 : decode cX3_reset 8 = .ok (.aload_n 0, 1) := by decide +kernel
theorem dX3_reset_9 : decode cX3_reset 9 = .ok (.iload_n 1, 1) := by decide +kernel
theorem dX3_reset_10 : decode cX3_reset 10 = .ok (.iconst 0, 1) := by decide +kernel
theorem dX3_reset_11 : decode cX3_reset 11 = .ok (.invokevirtual 33, 3) := by decide +kernel
theorem dX3_reset_14 : decode cX3_reset 14 = .ok (.aload_n 0, 1) := by decide +kernel
theorem dX3_reset_15 : decode cX3_reset 15 = .ok (.iload_n 1, 1) := by decide +kernel
theorem dX3_reset_16 : decode cX3_reset 16 = .ok (.aconst_null, 1) := by decide +kernel
theorem dX3_reset_17 : decode cX3_reset 17 = .ok (.invokevirtual 37, 3) := by decide +kernel
theorem dX3_reset_20 : decode cX3_reset 20 = .ok (.iinc 1 1, 3) := by decide +kernel
theorem dX3_reset_23 : decode cX3_reset 23 = .ok (.goto (-21), 3) := by decide +kernel
theorem dX3_reset_26 : decode cX3_reset 26 = .ok (.iconst 0, 1) := by decide +kernel
theorem dX3_reset_27 : decode cX3_reset 27 = .ok (.istore_n 1, 1) := by decide +kernel
theorem dX3_reset_28 : decode cX3_reset 28 = .ok (.iload_n 1, 1) := by decide +kernel
theorem dX3_reset_29 : decode cX3_reset 29 = .ok (.iconst 4, 1) := by decide +kernel
theorem dX3_reset_30 : decode cX3_reset 30 = .ok (.if_icmp .ge 27, 3) := by decide +kernel
theorem dX3_reset_33 : decode cX3_reset 33 = .ok (.aload_n 0, 1) := by decide +kernel
theorem dX3_reset_34 : decode cX3_reset 34 = .ok (.iload_n 1, 1) := by decide +kernel
theorem dX3_reset_35 : decode cX3_reset 35 = .ok (.lconst 0, 1) := by decide +kernel
theorem dX3_reset_36 : decode cX3_reset 36 = .ok (.invokevirtual 41, 3) := by decide +kernel
theorem dX3_reset_39 : decode cX3_reset 39 = .ok (.aload_n 0, 1) := by decide +kernel
theorem dX3_reset_40 : decode cX3_reset 40 = .ok (.iload_n 1, 1) := by decide +kernel
theorem dX3_reset_41 : decode cX3_reset 41 = .ok (.fconst 0, 1) := by decide +kernel
theorem dX3_reset_42 : decode cX3_reset 42 = .ok (.invokevirtual 45, 3) := by decide +kernel
theorem dX3_reset_45 : decode cX3_reset 45 = .ok (.aload_n 0, 1) := by decide +kernel
theorem dX3_reset_46 : decode cX3_reset 46 = .ok (.iload_n 1, 1) := by decide +kernel
theorem dX3_reset_47 : decode cX3_reset 47 = .ok (.dconst 0, 1) := by decide +kernel
theorem dX3_reset_48 : decode cX3_reset 48 = .ok (.invokevirtual 49, 3) := by decide +kernel
theorem dX3_reset_51 : decode cX3_reset 51 = .ok (.iinc 1 1, 3) := by decide +kernel
theorem dX3_reset_54 : decode cX3_reset 54 = .ok (.goto (-26), 3) := by decide +kernel
theorem dX3_reset_57 : decode cX3_reset 57 = .ok (.return_, 1) := by decide +kernel
theorem dX3_getWord_0 : decode cX3_getWord 0 = .ok (.iload_n 1, 1) := by decide +kernel
theorem dX3_getWord_1 : decode cX3_getWord 1 = .ok (.ifCond .lt 21, 3) := by decide +kernel
theorem dX3_getWord_4 : decode cX3_getWord 4 = .ok (.iload_n 1, 1) := by decide +kernel
theorem dX3_getWord_5 : decode cX3_getWord 5 = .ok (.aload_n 0, 1) := by decide +kernel
theorem dX3_getWord_6 : decode cX3_getWord 6 = .ok (.getfield 9, 3) := by decide +kernel
theorem dX3_getWord_9 : decode cX3_getWord 9 = .ok (.arraylength, 1) := by decide +kernel
theorem dX3_getWord_10 : decode cX3_getWord 10 = .ok (.if_icmp .ge 12, 3) := by decide +kernel
theorem dX3_getWord_13 : decode cX3_getWord 13 = .ok (.aload_n 0, 1) := by decide +kernel
theorem dX3_getWord_14 : decode cX3_getWord 14 = .ok (.getfield 9, 3) := by decide +kernel
theorem dX3_getWord_17 : decode cX3_getWord 17 = .ok (.iload_n 1, 1) := by decide +kernel
theorem dX3_getWord_18 : decode cX3_getWord 18 = .ok (.iaload, 1) := by decide +kernel
theorem dX3_getWord_19 : decode cX3_getWord 19 = .ok (.goto 4, 3) := by decide +kernel
theorem dX3_getWord_22 : decode cX3_getWord 22 = .ok (.iconst 0, 1) := by decide +kernel
theorem dX3_getWord_23 : decode cX3_getWord 23 = .ok (.ireturn, 1) := by decide +kernel
theorem dX3_setWord_0 : decode cX3_setWord 0 = .ok (.iload_n 1, 1) := by decide +kernel
theorem dX3_setWord_1 : decode cX3_setWord 1 = .ok (.ifCond .lt 19, 3) := by decide +kernel
theorem dX3_setWord_4 : decode cX3_setWord 4 = .ok (.iload_n 1, 1) := by decide +kernel
theorem dX3_setWord_5 : decode cX3_setWord 5 = .ok (.aload_n 0, 1) := by decide +kernel
theorem dX3_setWord_6 : decode cX3_setWord 6 = .ok (.getfield 9, 3) := by decide +kernel
theorem dX3_setWord_9 : decode cX3_setWord 9 = .ok (.arraylength, 1) := by decide +kernel
theorem dX3_setWord_10 : decode cX3_setWord 10 = .ok (.if_icmp .ge 10, 3) := by decide +kernel
theorem dX3_setWord_13 : decode cX3_setWord 13 = .ok (.aload_n 0, 1) := by decide +kernel
theorem dX3_setWord_14 : decode cX3_setWord 14 = .ok (.getfield 9, 3) := by decide +kernel
theorem dX3_setWord_17 : decode cX3_setWord 17 = .ok (.iload_n 1, 1) := by decide +kernel
theorem dX3_setWord_18 : decode cX3_setWord 18 = .ok (.iload_n 2, 1) := by decide +kernel
theorem dX3_setWord_19 : decode cX3_setWord 19 = .ok (.iastore, 1) := by decide +kernel
theorem dX3_setWord_20 : decode cX3_setWord 20 = .ok (.return_, 1) := by decide +kernel
theorem dX3_getLong_0 : decode cX3_getLong 0 = .ok (.iload_n 1, 1) := by decide +kernel
theorem dX3_getLong_1 : decode cX3_getLong 1 = .ok (.ifCond .lt 21, 3) := by decide +kernel
theorem dX3_getLong_4 : decode cX3_getLong 4 = .ok (.iload_n 1, 1) := by decide +kernel
theorem dX3_getLong_5 : decode cX3_getLong 5 = .ok (.aload_n 0, 1) := by decide +kernel
theorem dX3_getLong_6 : decode cX3_getLong 6 = .ok (.getfield 15, 3) := by decide +kernel
theorem dX3_getLong_9 : decode cX3_getLong 9 = .ok (.arraylength, 1) := by decide +kernel
theorem dX3_getLong_10 : decode cX3_getLong 10 = .ok (.if_icmp .ge 12, 3) := by decide +kernel
theorem dX3_getLong_13 : decode cX3_getLong 13 = .ok (.aload_n 0, 1) := by decide +kernel
theorem dX3_getLong_14 : decode cX3_getLong 14 = .ok (.getfield 15, 3) := by decide +kernel
theorem dX3_getLong_17 : decode cX3_getLong 17 = .ok (.iload_n 1, 1) := by decide +kernel
theorem dX3_getLong_18 : decode cX3_getLong 18 = .ok (.laload, 1) := by decide +kernel
theorem dX3_getLong_19 : decode cX3_getLong 19 = .ok (.goto 4, 3) := by decide +kernel
theorem dX3_getLong_22 : decode cX3_getLong 22 = .ok (.lconst 0, 1) := by decide +kernel
theorem dX3_getLong_23 : decode cX3_getLong 23 = .ok (.lreturn, 1) := by decide +kernel
theorem dX3_setLong_0 : decode cX3_setLong 0 = .ok (.iload_n 1, 1) := by decide +kernel
theorem dX3_setLong_1 : decode cX3_setLong 1 = .ok (.ifCond .lt 19, 3) := by decide +kernel
theorem dX3_setLong_4 : decode cX3_setLong 4 = .ok (.iload_n 1, 1) := by decide +kernel
theorem dX3_setLong_5 : decode cX3_setLong 5 = .ok (.aload_n 0, 1) := by decide +kernel
theorem dX3_setLong_6 : decode cX3_setLong 6 = .ok (.getfield 15, 3) := by decide +kernel
theorem dX3_setLong_9 : decode cX3_setLong 9 = .ok (.arraylength, 1) := by decide +kernel
theorem dX3_setLong_10 : decode cX3_setLong 10 = .ok (.if_icmp .ge 10, 3) := by decide +kernel
theorem dX3_setLong_13 : decode cX3_setLong 13 = .ok (.aload_n 0, 1) := by decide +kernel
theorem dX3_setLong_14 : decode cX3_setLong 14 = .ok (.getfield 15, 3) := by decide +kernel
theorem dX3_setLong_17 : decode cX3_setLong 17 = .ok (.iload_n 1, 1) := by decide +kernel
theorem dX3_setLong_18 : decode cX3_setLong 18 = .ok (.lload_n 2, 1) := by decide +kernel
theorem dX3_setLong_19 : decode cX3_setLong 19 = .ok (.lastore, 1) := by decide +kernel
theorem dX3_setLong_20 : decode cX3_setLong 20 = .ok (.return_, 1) := by decide +kernel
theorem dX3_getSingle_0 : decode cX3_getSingle 0 = .ok (.iload_n 1, 1) := by decide +kernel
theorem dX3_getSingle_1 : decode cX3_getSingle 1 = .ok (.ifCond .lt 21, 3) := by decide +kernel
theorem dX3_getSingle_4 : decode cX3_getSingle 4 = .ok (.iload_n 1, 1) := by decide +kernel
theorem dX3_getSingle_5 : decode cX3_getSingle 5 = .ok (.aload_n 0, 1) := by decide +kernel
theorem dX3_getSingle_6 : decode cX3_getSingle 6 = .ok (.getfield 19, 3) := by decide +kernel
theorem dX3_getSingle_9 : decode cX3_getSingle 9 = .ok (.arraylength, 1) := by decide +kernel
theorem dX3_getSingle_10 : decode cX3_getSingle 10 = .ok (.if_icmp .ge 12, 3) := by decide +kernel
theorem dX3_getSingle_13 : decode cX3_getSingle 13 = .ok (.aload_n 0, 1) := by decide +kernel
theorem dX3_getSingle_14 : decode cX3_getSingle 14 = .ok (.getfield 19, 3) := by decide +kernel
theorem dX3_getSingle_17 : decode cX3_getSingle 17 = .ok (.iload_n 1, 1) := by decide +kernel
theorem dX3_getSingle_18 : decode cX3_getSingle 18 = .ok (.faload, 1) := by decide +kernel
theorem dX3_getSingle_19 : decode cX3_getSingle 19 = .ok (.goto 4, 3) := by decide +kernel
theorem dX3_getSingle_22 : decode cX3_getSingle 22 = .ok (.fconst 0, 1) := by decide +kernel
theorem dX3_getSingle_23 : decode cX3_getSingle 23 = .ok (.freturn, 1) := by decide +kernel
theorem dX3_setSingle_0 : decode cX3_setSingle 0 = .ok (.iload_n 1, 1) := by decide +kernel
theorem dX3_setSingle_1 : decode cX3_setSingle 1 = .ok (.ifCond .lt 19, 3) := by decide +kernel
theorem dX3_setSingle_4 : decode cX3_setSingle 4 = .ok (.iload_n 1, 1) := by decide +kernel
theorem dX3_setSingle_5 : decode cX3_setSingle 5 = .ok (.aload_n 0, 1) := by decide +kernel
theorem dX3_setSingle_6 : decode cX3_setSingle 6 = .ok (.getfield 19, 3) := by decide +kernel
theorem dX3_setSingle_9 : decode cX3_setSingle 9 = .ok (.arraylength, 1) := by decide +kernel
theorem dX3_setSingle_10 : decode cX3_setSingle 10 = .ok (.if_icmp .ge 10, 3) := by decide +kernel
theorem dX3_setSingle_13 : decode cX3_setSingle 13 = .ok (.aload_n 0, 1) := by decide +kernel
theorem dX3_setSingle_14 : decode cX3_setSingle 14 = .ok (.getfield 19, 3) := by decide +kernel
theorem dX3_setSingle_17 : decode cX3_setSingle 17 = .ok (.iload_n 1, 1) := by decide +kernel
theorem dX3_setSingle_18 : decode cX3_setSingle 18 = .ok (.fload_n 2, 1) := by decide +kernel
theorem dX3_setSingle_19 : decode cX3_setSingle 19 = .ok (.fastore, 1) := by decide +kernel
theorem dX3_setSingle_20 : decode cX3_setSingle 20 = .ok (.return_, 1) := by decide +kernel
theorem dX3_getDouble_0 : decode cX3_getDouble 0 = .ok (.iload_n 1, 1) := by decide +kernel
theorem dX3_getDouble_1 : decode cX3_getDouble 1 = .ok (.ifCond .lt 21, 3) := by decide +kernel
theorem dX3_getDouble_4 : decode cX3_getDouble 4 = .ok (.iload_n 1, 1) := by decide +kernel
theorem dX3_getDouble_5 : decode cX3_getDouble 5 = .ok (.aload_n 0, 1) := by decide +kernel
theorem dX3_getDouble_6 : decode cX3_getDouble 6 = .ok (.getfield 23, 3) := by decide +kernel
theorem dX3_getDouble_9 : decode cX3_getDouble 9 = .ok (.arraylength, 1) := by decide +kernel
theorem dX3_getDouble_10 : decode cX3_getDouble 10 = .ok (.if_icmp .ge 12, 3) := by decide +kernel
theorem dX3_getDouble_13 : decode cX3_getDouble 13 = .ok (.aload_n 0, 1) := by decide +kernel
theorem dX3_getDouble_14 : decode cX3_getDouble 14 = .ok (.getfield 23, 3) := by decide +kernel
theorem dX3_getDouble_17 : decode cX3_getDouble 17 = .ok (.iload_n 1, 1) := by decide +kernel
theorem dX3_getDouble_18 : decode cX3_getDouble 18 = .ok (.daload, 1) := by decide +kernel
theorem dX3_getDouble_19 : decode cX3_getDouble 19 = .ok (.goto 4, 3) := by decide +kernel
theorem dX3_getDouble_22 : decode cX3_getDouble 22 = .ok (.dconst 0, 1) := by decide +kernel
theorem dX3_getDouble_23 : decode cX3_getDouble 23 = .ok (.dreturn, 1) := by decide +kernel
theorem dX3_setDouble_0 : decode cX3_setDouble 0 = .ok (.iload_n 1, 1) := by decide +kernel
theorem dX3_setDouble_1 : decode cX3_setDouble 1 = .ok (.ifCond .lt 19, 3) := by decide +kernel
theorem dX3_setDouble_4 : decode cX3_setDouble 4 = .ok (.iload_n 1, 1) := by decide +kernel
theorem dX3_setDouble_5 : decode cX3_setDouble 5 = .ok (.aload_n 0, 1) := by decide +kernel
theorem dX3_setDouble_6 : decode cX3_setDouble 6 = .ok (.getfield 23, 3) := by decide +kernel
theorem dX3_setDouble_9 : decode cX3_setDouble 9 = .ok (.arraylength, 1) := by decide +kernel
theorem dX3_setDouble_10 : decode cX3_setDouble 10 = .ok (.if_icmp .ge 10, 3) := by decide +kernel
theorem dX3_setDouble_13 : decode cX3_setDouble 13 = .ok (.aload_n 0, 1) := by decide +kernel
theorem dX3_setDouble_14 : decode cX3_setDouble 14 = .ok (.getfield 23, 3) := by decide +kernel
theorem dX3_setDouble_17 : decode cX3_setDouble 17 = .ok (.iload_n 1, 1) := by decide +kernel
theorem dX3_setDouble_18 : decode cX3_setDouble 18 = .ok (.dload_n 2, 1) := by decide +kernel
theorem dX3_setDouble_19 : decode cX3_setDouble 19 = .ok (.dastore, 1) := by decide +kernel
theorem dX3_setDouble_20 : decode cX3_setDouble 20 = .ok (.return_, 1) := by decide +kernel
theorem dX3_hasThing_0 : decode cX3_hasThing 0 = .ok (.iload_n 1, 1) := by decide +kernel
theorem dX3_hasThing_1 : decode cX3_hasThing 1 = .ok (.ifCond .lt 16, 3) := by decide +kernel
theorem dX3_hasThing_4 : decode cX3_hasThing 4 = .ok (.iload_n 1, 1) := by decide +kernel
theorem dX3_hasThing_5 : decode cX3_hasThing 5 = .ok (.aload_n 0, 1) := by decide +kernel
theorem dX3_hasThing_6 : decode cX3_hasThing 6 = .ok (.getfield 29, 3) := by decide +kernel
theorem dX3_hasThing_9 : decode cX3_hasThing 9 = .ok (.arraylength, 1) := by decide +kernel
theorem dX3_hasThing_10 : decode cX3_hasThing 10 = .ok (.if_icmp .ge 7, 3) := by decide +kernel
theorem dX3_hasThing_13 : decode cX3_hasThing 13 = .ok (.iconst 1, 1) := by decide +kernel
theorem dX3_hasThing_14 : decode cX3_hasThing 14 = .ok (.goto 4, 3) := by decide +kernel
theorem dX3_hasThing_17 : decode cX3_hasThing 17 = .ok (.iconst 0, 1) := by decide +kernel
theorem dX3_hasThing_18 : decode cX3_hasThing 18 = .ok (.ireturn, 1) := by decide +kernel
theorem dX3_getThing_0 : decode cX3_getThing 0 = .ok (.iload_n 1, 1) := by decide +kernel
theorem dX3_getThing_1 : decode cX3_getThing 1 = .ok (.ifCond .lt 21, 3) := by decide +kernel
theorem dX3_getThing_4 : decode cX3_getThing 4 = .ok (.iload_n 1, 1) := by decide +kernel
theorem dX3_getThing_5 : decode cX3_getThing 5 = .ok (.aload_n 0, 1) := by decide +kernel
theorem dX3_getThing_6 : decode cX3_getThing 6 = .ok (.getfield 29, 3) := by decide +kernel
theorem dX3_getThing_9 : decode cX3_getThing 9 = .ok (.arraylength, 1) := by decide +kernel
theorem dX3_getThing_10 : decode cX3_getThing 10 = .ok (.if_icmp .ge 12, 3) := by decide +kernel
theorem dX3_getThing_13 : decode cX3_getThing 13 = .ok (.aload_n 0, 1) := by decide +kernel
theorem dX3_getThing_14 : decode cX3_getThing 14 = .ok (.getfield 29, 3) := by decide +kernel
theorem dX3_getThing_17 : decode cX3_getThing 17 = .ok (.iload_n 1, 1) := by decide +kernel
theorem dX3_getThing_18 : decode cX3_getThing 18 = .ok (.aaload, 1) := by decide +kernel
theorem dX3_getThing_19 : decode cX3_getThing 19 = .ok (.goto 4, 3) := by decide +kernel
theorem dX3_getThing_22 : decode cX3_getThing 22 = .ok (.aconst_null, 1) := by decide +kernel
theorem dX3_getThing_23 : decode cX3_getThing 23 = .ok (.areturn, 1) := by decide +kernel
theorem dX3_setThing_0 : decode cX3_setThing 0 = .ok (.iload_n 1, 1) := by decide +kernel
theorem dX3_setThing_1 : decode cX3_setThing 1 = .ok (.ifCond .lt 19, 3) := by decide +kernel
theorem dX3_setThing_4 : decode cX3_setThing 4 = .ok (.iload_n 1, 1) := by decide +kernel
theorem dX3_setThing_5 : decode cX3_setThing 5 = .ok (.aload_n 0, 1) := by decide +kernel
theorem dX3_setThing_6 : decode cX3_setThing 6 = .ok (.getfield 29, 3) := by decide +kernel
theorem dX3_setThing_9 : decode cX3_setThing 9 = .ok (.arraylength, 1) := by decide +kernel
theorem dX3_setThing_10 : decode cX3_setThing 10 = .ok (.if_icmp .ge 10, 3) := by decide +kernel
theorem dX3_setThing_13 : decode cX3_setThing 13 = .ok (.aload_n 0, 1) := by decide +kernel
theorem dX3_setThing_14 : decode cX3_setThing 14 = .ok (.getfield 29, 3) := by decide +kernel
theorem dX3_setThing_17 : decode cX3_setThing 17 = .ok (.iload_n 1, 1) := by decide +kernel
theorem dX3_setThing_18 : decode cX3_setThing 18 = .ok (.aload_n 2, 1) := by decide +kernel
theorem dX3_setThing_19 : decode cX3_setThing 19 = .ok (.aastore, 1) := by decide +kernel
theorem dX3_setThing_20 : decode cX3_setThing 20 = .ok (.return_, 1) := by decide +kernel
theorem dX4_init_0 : decode cX4_init 0 = .ok (.aload_n 0, 1) := by decide +kernel
theorem dX4_init_1 : decode cX4_init 1 = .ok (.invokespecial 3, 3) := by decide +kernel
theorem dX4_init_4 : decode cX4_init 4 = .ok (.aload_n 0, 1) := by decide +kernel
theorem dX4_init_5 : decode cX4_init 5 = .ok (.aload_n 1, 1) := by decide +kernel
theorem dX4_init_6 : decode cX4_init 6 = .ok (.putfield 9, 3) := by decide +kernel
theorem dX4_init_9 : decode cX4_init 9 = .ok (.aload_n 0, 1) := by decide +kernel
theorem dX4_init_10 : decode cX4_init 10 = .ok (.aload_n 2, 1) := by decide +kernel
theorem dX4_init_11 : decode cX4_init 11 = .ok (.putfield 15, 3) := by decide +kernel
theorem dX4_init_14 : decode cX4_init 14 = .ok (.aload_n 0, 1) := by decide +kernel
theorem dX4_init_15 : decode cX4_init 15 = .ok (.new 19, 3) := by decide +kernel
theorem dX4_init_18 : decode cX4_init 18 = .ok (.dup, 1) := by decide +kernel
theorem dX4_init_19 : decode cX4_init 19 = .ok (.aload_n 2, 1) := by decide +kernel
theorem dX4_init_20 : decode cX4_init 20 = .ok (.invokespecial 21, 3) := by decide +kernel
theorem dX4_init_23 : decode cX4_init 23 = .ok (.putfield 24, 3) := by decide +kernel
theorem dX4_init_26 : decode cX4_init 26 = .ok (.aload_n 0, 1) := by decide +kernel
theorem dX4_init_27 : decode cX4_init 27 = .ok (.new 28, 3) := by decide +kernel
theorem dX4_init_30 : decode cX4_init 30 = .ok (.dup, 1) := by decide +kernel
theorem dX4_init_31 : decode cX4_init 31 = .ok (.aload_n 2, 1) := by decide +kernel
theorem dX4_init_32 : decode cX4_init 32 = .ok (.invokespecial 30, 3) := by decide +kernel
theorem dX4_init_35 : decode cX4_init 35 = .ok (.putfield 31, 3) := by decide +kernel
theorem dX4_init_38 : decode cX4_init 38 = .ok (.aload_n 0, 1) := by decide +kernel
theorem dX4_init_39 : decode cX4_init 39 = .ok (.bipush 12, 2) := by decide +kernel
theorem dX4_init_41 : decode cX4_init 41 = .ok (.newarray .int, 2) := by decide +kernel
theorem dX4_init_43 : decode cX4_init 43 = .ok (.putfield 35, 3) := by decide +kernel
theorem dX4_init_46 : decode cX4_init 46 = .ok (.aload_n 0, 1) := by decide +kernel
theorem dX4_init_47 : decode cX4_init 47 = .ok (.sipush 200, 3) := by decide +kernel
theorem dX4_init_50 : decode cX4_init 50 = .ok (.newarray .int, 2) := by decide +kernel
theorem dX4_init_52 : decode cX4_init 52 = .ok (.putfield 39, 3) := by decide +kernel
theorem dX4_init_55 : decode cX4_init 55 = .ok (.aload_n 0, 1) := by decide +kernel
theorem dX4_init_56 : decode cX4_init 56 = .ok (.iconst (-1), 1) := by decide +kernel
theorem dX4_init_57 : decode cX4_init 57 = .ok (.putfield 42, 3) := by decide +kernel
theorem dX4_init_60 : decode cX4_init 60 = .ok (.return_, 1) := by decide +kernel
theorem dX4_begin_0 : decode cX4_begin 0 = .ok (.aload_n 0, 1) := by decide +kernel
theorem dX4_begin_1 : decode cX4_begin 1 = .ok (.iconst 0, 1) := by decide +kernel
theorem dX4_begin_2 : decode cX4_begin 2 = .ok (.putfield 46, 3) := by decide +kernel
theorem dX4_begin_5 : decode cX4_begin 5 = .ok (.aload_n 0, 1) := by decide +kernel
theorem dX4_begin_6 : decode cX4_begin 6 = .ok (.iconst 0, 1) := by decide +kernel
theorem dX4_begin_7 : decode cX4_begin 7 = .ok (.putfield 49, 3) := by decide +kernel
theorem dX4_begin_10 : decode cX4_begin 10 = .ok (.aload_n 0, 1) := by decide +kernel
theorem dX4_begin_11 : decode cX4_begin 11 = .ok (.iconst 0, 1) := by decide +kernel
theorem dX4_begin_12 : decode cX4_begin 12 = .ok (.putfield 52, 3) := by decide +kernel
theorem dX4_begin_15 : decode cX4_begin 15 = .ok (.aload_n 0, 1) := by decide +kernel
theorem dX4_begin_16 : decode cX4_begin 16 = .ok (.iconst 0, 1) := by decide +kernel
theorem dX4_begin_17 : decode cX4_begin 17 = .ok (.putfield 55, 3) := by decide +kernel
theorem dX4_begin_20 : decode cX4_begin 20 = .ok (.aload_n 0, 1) := by decide +kernel
theorem dX4_begin_21 : decode cX4_begin 21 = .ok (.iconst 0, 1) := by decide +kernel
theorem dX4_begin_22 : decode cX4_begin 22 = .ok (.putfield 58, 3) := by decide +kernel
theorem dX4_begin_25 : decode cX4_begin 25 = .ok (.aload_n 0, 1) := by decide +kernel
theorem dX4_begin_26 : decode cX4_begin 26 = .ok (.iconst (-1), 1) := by decide +kernel
theorem dX4_begin_27 : decode cX4_begin 27 = .ok (.putfield 42, 3) := by decide +kernel
theorem dX4_begin_30 : decode cX4_begin 30 = .ok (.aload_n 0, 1) := by decide +kernel
theorem dX4_begin_31 : decode cX4_begin 31 = .ok (.aconst_null, 1) := by decide +kernel
theorem dX4_begin_32 : decode cX4_begin 32 = .ok (.putfield 61, 3) := by decide +kernel
theorem dX4_begin_35 : decode cX4_begin 35 = .ok (.aload_n 0, 1) := by decide +kernel
theorem dX4_begin_36 : decode cX4_begin 36 = .ok (.getfield 31, 3) := by decide +kernel
theorem dX4_begin_39 : decode cX4_begin 39 = .ok (.iconst 0, 1) := by decide +kernel
theorem dX4_begin_40 : decode cX4_begin 40 = .ok (.putfield 65, 3) := by decide +kernel
theorem dX4_begin_43 : decode cX4_begin 43 = .ok (.aload_n 0, 1) := by decide +kernel
theorem dX4_begin_44 : decode cX4_begin 44 = .ok (.iconst 1, 1) := by decide +kernel
theorem dX4_begin_45 : decode cX4_begin 45 = .ok (.putfield 68, 3) := by decide +kernel
theorem dX4_begin_48 : decode cX4_begin 48 = .ok (.aload_n 0, 1) := by decide +kernel
theorem dX4_begin_49 : decode cX4_begin 49 = .ok (.iconst 0, 1) := by decide +kernel
theorem dX4_begin_50 : decode cX4_begin 50 = .ok (.invokevirtual 71, 3) := by decide +kernel
theorem dX4_begin_53 : decode cX4_begin 53 = .ok (.return_, 1) := by decide +kernel
theorem dX4_giveUp_0 : decode cX4_giveUp 0 = .ok (.aload_n 0, 1) := by decide +kernel
theorem dX4_giveUp_1 : decode cX4_giveUp 1 = .ok (.iconst 0, 1) := by decide +kernel
theorem dX4_giveUp_2 : decode cX4_giveUp 2 = .ok (.putfield 68, 3) := by decide +kernel
theorem dX4_giveUp_5 : decode cX4_giveUp 5 = .ok (.return_, 1) := by decide +kernel
theorem dX4_doStep_0 : decode cX4_doStep 0 = .ok (.aload_n 1, 1) := by decide +kernel
theorem dX4_doStep_1 : decode cX4_doStep 1 = .ok (.ifnonnull 4, 3) := by decide +kernel
theorem dX4_doStep_4 : decode cX4_doStep 4 = .ok (.return_, 1) := by decide +kernel
theorem dX4_doStep_5 : decode cX4_doStep 5 = .ok (.aload_n 0, 1) := by decide +kernel
theorem dX4_doStep_6 : decode cX4_doStep 6 = .ok (.dup, 1) := by decide +kernel
theorem dX4_doStep_7 : decode cX4_doStep 7 = .ok (.getfield 46, 3) := by decide +kernel
theorem dX4_doStep_10 : decode cX4_doStep 10 = .ok (.iconst 1, 1) := by decide +kernel
theorem dX4_doStep_11 : decode cX4_doStep 11 = .ok (.iadd, 1) := by decide +kernel
theorem dX4_doStep_12 : decode cX4_doStep 12 = .ok (.putfield 46, 3) := by decide +kernel
theorem dX4_doStep_15 : decode cX4_doStep 15 = .ok (.aload_n 0, 1) := by decide +kernel
theorem dX4_doStep_16 : decode cX4_doStep 16 = .ok (.aload_n 0, 1) := by decide +kernel
theorem dX4_doStep_17 : decode cX4_doStep 17 = .ok (.getfield 75, 3) := by decide +kernel
theorem dX4_doStep_20 : decode cX4_doStep 20 = .ok (.iconst 1, 1) := by decide +kernel
theorem dX4_doStep_21 : decode cX4_doStep 21 = .ok (.iadd, 1) := by decide +kernel
theorem dX4_doStep_22 : decode cX4_doStep 22 = .ok (.putfield 78, 3) := by decide +kernel
theorem dX4_doStep_25 : decode cX4_doStep 25 = .ok (.aload_n 0, 1) := by decide +kernel
theorem dX4_doStep_26 : decode cX4_doStep 26 = .ok (.aload_n 1, 1) := by decide +kernel
theorem dX4_doStep_27 : decode cX4_doStep 27 = .ok (.invokevirtual 81, 3) := by decide +kernel
theorem dX4_doStep_30 : decode cX4_doStep 30 = .ok (.istore_n 2, 1) := by decide +kernel
theorem dX4_doStep_31 : decode cX4_doStep 31 = .ok (.iload_n 2, 1) := by decide +kernel
theorem dX4_doStep_32 : decode cX4_doStep 32 = .ok (.ifCond .eq 12, 3) := by decide +kernel
theorem dX4_doStep_35 : decode cX4_doStep 35 = .ok (.aload_n 0, 1) := by decide +kernel
theorem dX4_doStep_36 : decode cX4_doStep 36 = .ok (.aload_n 1, 1) := by decide +kernel
theorem dX4_doStep_37 : decode cX4_doStep 37 = .ok (.iload_n 2, 1) := by decide +kernel
theorem dX4_doStep_38 : decode cX4_doStep 38 = .ok (.invokevirtual 85, 3) := by decide +kernel
theorem dX4_doStep_41 : decode cX4_doStep 41 = .ok (.goto 19, 3) := by decide +kernel
theorem dX4_doStep_44 : decode cX4_doStep 44 = .ok (.aload_n 0, 1) := by decide +kernel
theorem dX4_doStep_45 : decode cX4_doStep 45 = .ok (.getfield 68, 3) := by decide +kernel
theorem dX4_doStep_48 : decode cX4_doStep 48 = .ok (.iconst 1, 1) := by decide +kernel
theorem dX4_doStep_49 : decode cX4_doStep 49 = .ok (.if_icmp .ne 11, 3) := by decide +kernel
theorem dX4_doStep_52 : decode cX4_doStep 52 = .ok (.aload_n 0, 1) := by decide +kernel
theorem dX4_doStep_53 : decode cX4_doStep 53 = .ok (.aload_n 0, 1) := by decide +kernel
theorem dX4_doStep_54 : decode cX4_doStep 54 = .ok (.getfield 78, 3) := by decide +kernel
theorem dX4_doStep_57 : decode cX4_doStep 57 = .ok (.invokevirtual 71, 3) := by decide +kernel
theorem dX4_doStep_60 : decode cX4_doStep 60 = .ok (.return_, 1) := by decide +kernel
theorem dX4_getTold_0 : decode cX4_getTold 0 = .ok (.iload_n 1, 1) := by decide +kernel
theorem dX4_getTold_1 : decode cX4_getTold 1 = .ok (.ifCond .lt 29, 3) := by decide +kernel
theorem dX4_getTold_4 : decode cX4_getTold 4 = .ok (.iload_n 1, 1) := by decide +kernel
theorem dX4_getTold_5 : decode cX4_getTold 5 = .ok (.aload_n 0, 1) := by decide +kernel
theorem dX4_getTold_6 : decode cX4_getTold 6 = .ok (.getfield 52, 3) := by decide +kernel
theorem dX4_getTold_9 : decode cX4_getTold 9 = .ok (.if_icmp .ge 21, 3) := by decide +kernel
theorem dX4_getTold_12 : decode cX4_getTold 12 = .ok (.iload_n 1, 1) := by decide +kernel
theorem dX4_getTold_13 : decode cX4_getTold 13 = .ok (.aload_n 0, 1) := by decide +kernel
theorem dX4_getTold_14 : decode cX4_getTold 14 = .ok (.getfield 39, 3) := by decide +kernel
theorem dX4_getTold_17 : decode cX4_getTold 17 = .ok (.arraylength, 1) := by decide +kernel
theorem dX4_getTold_18 : decode cX4_getTold 18 = .ok (.if_icmp .ge 12, 3) := by decide +kernel
theorem dX4_getTold_21 : decode cX4_getTold 21 = .ok (.aload_n 0, 1) := by decide +kernel
theorem dX4_getTold_22 : decode cX4_getTold 22 = .ok (.getfield 39, 3) := by decide +kernel
theorem dX4_getTold_25 : decode cX4_getTold 25 = .ok (.iload_n 1, 1) := by decide +kernel
theorem dX4_getTold_26 : decode cX4_getTold 26 = .ok (.iaload, 1) := by decide +kernel
theorem dX4_getTold_27 : decode cX4_getTold 27 = .ok (.goto 4, 3) := by decide +kernel
theorem dX4_getTold_30 : decode cX4_getTold 30 = .ok (.iconst 0, 1) := by decide +kernel
theorem dX4_getTold_31 : decode cX4_getTold 31 = .ok (.ireturn, 1) := by decide +kernel
theorem dX4_report_0 : decode cX4_report 0 = .ok (.iload_n 1, 1) := by decide +kernel
theorem dX4_report_1 : decode cX4_report 1 = .ok (.tableswitch 99 2 10 #[51, 56, 61, 66, 74, 79, 84, 89, 94], 51) := by decide +kernel
theorem dX4_report_52 : decode cX4_report 52 = .ok (.aload_n 0, 1) := by decide +kernel
theorem dX4_report_53 : decode cX4_report 53 = .ok (.getfield 75, 3) := by decide +kernel
theorem dX4_report_56 : decode cX4_report 56 = .ok (.ireturn, 1) := by decide +kernel
theorem dX4_report_57 : decode cX4_report 57 = .ok (.aload_n 0, 1) := by decide +kernel
theorem dX4_report_58 : decode cX4_report 58 = .ok (.getfield 46, 3) := by decide +kernel
theorem dX4_report_61 : decode cX4_report 61 = .ok (.ireturn, 1) := by decide +kernel
theorem dX4_report_62 : decode cX4_report 62 = .ok (.aload_n 0, 1) := by decide +kernel
theorem dX4_report_63 : decode cX4_report 63 = .ok (.getfield 49, 3) := by decide +kernel
theorem dX4_report_66 : decode cX4_report 66 = .ok (.ireturn, 1) := by decide +kernel
theorem dX4_report_67 : decode cX4_report 67 = .ok (.aload_n 0, 1) := by decide +kernel
theorem dX4_report_68 : decode cX4_report 68 = .ok (.getfield 31, 3) := by decide +kernel
theorem dX4_report_71 : decode cX4_report 71 = .ok (.getfield 65, 3) := by decide +kernel
theorem dX4_report_74 : decode cX4_report 74 = .ok (.ireturn, 1) := by decide +kernel
theorem dX4_report_75 : decode cX4_report 75 = .ok (.aload_n 0, 1) := by decide +kernel
theorem dX4_report_76 : decode cX4_report 76 = .ok (.getfield 52, 3) := by decide +kernel
theorem dX4_report_79 : decode cX4_report 79 = .ok (.ireturn, 1) := by decide +kernel
theorem dX4_report_80 : decode cX4_report 80 = .ok (.aload_n 0, 1) := by decide +kernel
theorem dX4_report_81 : decode cX4_report 81 = .ok (.getfield 55, 3) := by decide +kernel
theorem dX4_report_84 : decode cX4_report 84 = .ok (.ireturn, 1) := by decide +kernel
theorem dX4_report_85 : decode cX4_report 85 = .ok (.aload_n 0, 1) := by decide +kernel
theorem dX4_report_86 : decode cX4_report 86 = .ok (.getfield 58, 3) := by decide +kernel
theorem dX4_report_89 : decode cX4_report 89 = .ok (.ireturn, 1) := by decide +kernel
theorem dX4_report_90 : decode cX4_report 90 = .ok (.aload_n 0, 1) := by decide +kernel
theorem dX4_report_91 : decode cX4_report 91 = .ok (.getfield 42, 3) := by decide +kernel
theorem dX4_report_94 : decode cX4_report 94 = .ok (.ireturn, 1) := by decide +kernel
theorem dX4_report_95 : decode cX4_report 95 = .ok (.aload_n 0, 1) := by decide +kernel
theorem dX4_report_96 : decode cX4_report 96 = .ok (.getfield 68, 3) := by decide +kernel
theorem dX4_report_99 : decode cX4_report 99 = .ok (.ireturn, 1) := by decide +kernel
theorem dX4_report_100 : decode cX4_report 100 = .ok (.iconst (-1), 1) := by decide +kernel
theorem dX4_report_101 : decode cX4_report 101 = .ok (.ireturn, 1) := by decide +kernel
theorem dX4_goTo_0 : decode cX4_goTo 0 = .ok (.aload_n 0, 1) := by decide +kernel
theorem dX4_goTo_1 : decode cX4_goTo 1 = .ok (.iload_n 1, 1) := by decide +kernel
theorem dX4_goTo_2 : decode cX4_goTo 2 = .ok (.putfield 75, 3) := by decide +kernel
theorem dX4_goTo_5 : decode cX4_goTo 5 = .ok (.aload_n 0, 1) := by decide +kernel
theorem dX4_goTo_6 : decode cX4_goTo 6 = .ok (.getfield 9, 3) := by decide +kernel
theorem dX4_goTo_9 : decode cX4_goTo 9 = .ok (.iload_n 1, 1) := by decide +kernel
theorem dX4_goTo_10 : decode cX4_goTo 10 = .ok (.invokevirtual 89, 3) := by decide +kernel
theorem dX4_goTo_13 : decode cX4_goTo 13 = .ok (.ifnonnull 8, 3) := by decide +kernel
theorem dX4_goTo_16 : decode cX4_goTo 16 = .ok (.aload_n 0, 1) := by decide +kernel
theorem dX4_goTo_17 : decode cX4_goTo 17 = .ok (.iconst 2, 1) := by decide +kernel
theorem dX4_goTo_18 : decode cX4_goTo 18 = .ok (.putfield 68, 3) := by decide +kernel
theorem dX4_goTo_21 : decode cX4_goTo 21 = .ok (.return_, 1) := by decide +kernel
theorem dX4_perform_0 : decode cX4_perform 0 = .ok (.aload_n 1, 1) := by decide +kernel
theorem dX4_perform_1 : decode cX4_perform 1 = .ok (.getfield 95, 3) := by decide +kernel
theorem dX4_perform_4 : decode cX4_perform 4 = .ok (.iconst 1, 1) := by decide +kernel
theorem dX4_perform_5 : decode cX4_perform 5 = .ok (.if_icmp .lt 21, 3) := by decide +kernel
theorem dX4_perform_8 : decode cX4_perform 8 = .ok (.aload_n 1, 1) := by decide +kernel
theorem dX4_perform_9 : decode cX4_perform 9 = .ok (.getfield 95, 3) := by decide +kernel
theorem dX4_perform_12 : decode cX4_perform 12 = .ok (.bipush 26, 2) := by decide +kernel
theorem dX4_perform_14 : decode cX4_perform 14 = .ok (.if_icmp .gt 12, 3) := by decide +kernel
theorem dX4_perform_17 : decode cX4_perform 17 = .ok (.aload_n 0, 1) := by decide +kernel
theorem dX4_perform_18 : decode cX4_perform 18 = .ok (.getfield 24, 3) := by decide +kernel
theorem dX4_perform_21 : decode cX4_perform 21 = .ok (.aload_n 1, 1) := by decide +kernel
theorem dX4_perform_22 : decode cX4_perform 22 = .ok (.invokevirtual 100, 3) := by decide +kernel
theorem dX4_perform_25 : decode cX4_perform 25 = .ok (.ireturn, 1) := by decide +kernel
theorem dX4_perform_26 : decode cX4_perform 26 = .ok (.aload_n 1, 1) := by decide +kernel
theorem dX4_perform_27 : decode cX4_perform 27 = .ok (.getfield 95, 3) := by decide +kernel
theorem dX4_perform_30 : decode cX4_perform 30 = .ok (.lookupswitch 211 #[(0, 82), (27, 89), (28, 99), (29, 130), (30, 139), (68, 145), (69, 160), (72, 177), (73, 194)], 82) := by decide +kernel
theorem dX4_perform_112 : decode cX4_perform 112 = .ok (.aload_n 0, 1) := by decide +kernel
theorem dX4_perform_113 : decode cX4_perform 113 = .ok (.iconst 2, 1) := by decide +kernel
theorem dX4_perform_114 : decode cX4_perform 114 = .ok (.putfield 68, 3) := by decide +kernel
theorem dX4_perform_117 : decode cX4_perform 117 = .ok (.iconst 0, 1) := by decide +kernel
theorem dX4_perform_118 : decode cX4_perform 118 = .ok (.ireturn, 1) := by decide +kernel
theorem dX4_perform_119 : decode cX4_perform 119 = .ok (.aload_n 0, 1) := by decide +kernel
theorem dX4_perform_120 : decode cX4_perform 120 = .ok (.aload_n 1, 1) := by decide +kernel
theorem dX4_perform_121 : decode cX4_perform 121 = .ok (.getfield 103, 3) := by decide +kernel
theorem dX4_perform_124 : decode cX4_perform 124 = .ok (.putfield 78, 3) := by decide +kernel
theorem dX4_perform_127 : decode cX4_perform 127 = .ok (.iconst 0, 1) := by decide +kernel
theorem dX4_perform_128 : decode cX4_perform 128 = .ok (.ireturn, 1) := by decide +kernel
theorem dX4_perform_129 : decode cX4_perform 129 = .ok (.aload_n 0, 1) := by decide +kernel
theorem dX4_perform_130 : decode cX4_perform 130 = .ok (.aload_n 0, 1) := by decide +kernel
theorem dX4_perform_131 : decode cX4_perform 131 = .ok (.getfield 15, 3) := by decide +kernel
theorem dX4_perform_134 : decode cX4_perform 134 = .ok (.aload_n 1, 1) := by decide +kernel
theorem dX4_perform_135 : decode cX4_perform 135 = .ok (.getfield 103, 3) := by decide +kernel
theorem dX4_perform_138 : decode cX4_perform 138 = .ok (.invokevirtual 106, 3) := by decide +kernel
theorem dX4_perform_141 : decode cX4_perform 141 = .ok (.ifCond .ne 10, 3) := by decide +kernel
theorem dX4_perform_144 : decode cX4_perform 144 = .ok (.aload_n 1, 1) := by decide +kernel
theorem dX4_perform_145 : decode cX4_perform 145 = .ok (.getfield 112, 3) := by decide +kernel
theorem dX4_perform_148 : decode cX4_perform 148 = .ok (.goto 7, 3) := by decide +kernel
theorem dX4_perform_151 : decode cX4_perform 151 = .ok (.aload_n 0, 1) := by decide +kernel
theorem dX4_perform_152 : decode cX4_perform 152 = .ok (.getfield 78, 3) := by decide +kernel
theorem dX4_perform_155 : decode cX4_perform 155 = .ok (.putfield 78, 3) := by decide +kernel
theorem dX4_perform_158 : decode cX4_perform 158 = .ok (.iconst 0, 1) := by decide +kernel
theorem dX4_perform_159 : decode cX4_perform 159 = .ok (.ireturn, 1) := by decide +kernel
theorem dX4_perform_160 : decode cX4_perform 160 = .ok (.aload_n 0, 1) := by decide +kernel
theorem dX4_perform_161 : decode cX4_perform 161 = .ok (.aload_n 1, 1) := by decide +kernel
theorem dX4_perform_162 : decode cX4_perform 162 = .ok (.getfield 103, 3) := by decide +kernel
theorem dX4_perform_165 : decode cX4_perform 165 = .ok (.invokevirtual 115, 3) := by decide +kernel
theorem dX4_perform_168 : decode cX4_perform 168 = .ok (.ireturn, 1) := by decide +kernel
theorem dX4_perform_169 : decode cX4_perform 169 = .ok (.aload_n 0, 1) := by decide +kernel
theorem dX4_perform_170 : decode cX4_perform 170 = .ok (.invokevirtual 118, 3) := by decide +kernel
theorem dX4_perform_173 : decode cX4_perform 173 = .ok (.iconst 0, 1) := by decide +kernel
theorem dX4_perform_174 : decode cX4_perform 174 = .ok (.ireturn, 1) := by decide +kernel
theorem dX4_perform_175 : decode cX4_perform 175 = .ok (.aload_n 0, 1) := by decide +kernel
theorem dX4_perform_176 : decode cX4_perform 176 = .ok (.getfield 15, 3) := by decide +kernel
theorem dX4_perform_179 : decode cX4_perform 179 = .ok (.aload_n 1, 1) := by decide +kernel
theorem dX4_perform_180 : decode cX4_perform 180 = .ok (.getfield 103, 3) := by decide +kernel
theorem dX4_perform_183 : decode cX4_perform 183 = .ok (.invokevirtual 121, 3) := by decide +kernel
theorem dX4_perform_186 : decode cX4_perform 186 = .ok (.invokestatic 125, 3) := by decide +kernel
theorem dX4_perform_189 : decode cX4_perform 189 = .ok (.ireturn, 1) := by decide +kernel
theorem dX4_perform_190 : decode cX4_perform 190 = .ok (.aload_n 0, 1) := by decide +kernel
theorem dX4_perform_191 : decode cX4_perform 191 = .ok (.getfield 15, 3) := by decide +kernel
theorem dX4_perform_194 : decode cX4_perform 194 = .ok (.aload_n 1, 1) := by decide +kernel
theorem dX4_perform_195 : decode cX4_perform 195 = .ok (.getfield 103, 3) := by decide +kernel
theorem dX4_perform_198 : decode cX4_perform 198 = .ok (.aload_n 0, 1) := by decide +kernel
theorem dX4_perform_199 : decode cX4_perform 199 = .ok (.getfield 61, 3) := by decide +kernel
theorem dX4_perform_202 : decode cX4_perform 202 = .ok (.invokevirtual 129, 3) := by decide +kernel
theorem dX4_perform_205 : decode cX4_perform 205 = .ok (.iconst 0, 1) := by decide +kernel
theorem dX4_perform_206 : decode cX4_perform 206 = .ok (.ireturn, 1) := by decide +kernel
theorem dX4_perform_207 : decode cX4_perform 207 = .ok (.aload_n 0, 1) := by decide +kernel
theorem dX4_perform_208 : decode cX4_perform 208 = .ok (.getfield 15, 3) := by decide +kernel
theorem dX4_perform_211 : decode cX4_perform 211 = .ok (.aload_n 1, 1) := by decide +kernel
theorem dX4_perform_212 : decode cX4_perform 212 = .ok (.getfield 103, 3) := by decide +kernel
theorem dX4_perform_215 : decode cX4_perform 215 = .ok (.aload_n 0, 1) := by decide +kernel
theorem dX4_perform_216 : decode cX4_perform 216 = .ok (.getfield 58, 3) := by decide +kernel
theorem dX4_perform_219 : decode cX4_perform 219 = .ok (.invokevirtual 133, 3) := by decide +kernel
theorem dX4_perform_222 : decode cX4_perform 222 = .ok (.iconst 0, 1) := by decide +kernel
theorem dX4_perform_223 : decode cX4_perform 223 = .ok (.ireturn, 1) := by decide +kernel
theorem dX4_perform_224 : decode cX4_perform 224 = .ok (.aload_n 0, 1) := by decide +kernel
theorem dX4_perform_225 : decode cX4_perform 225 = .ok (.aload_n 0, 1) := by decide +kernel
theorem dX4_perform_226 : decode cX4_perform 226 = .ok (.getfield 15, 3) := by decide +kernel
theorem dX4_perform_229 : decode cX4_perform 229 = .ok (.aload_n 1, 1) := by decide +kernel
theorem dX4_perform_230 : decode cX4_perform 230 = .ok (.getfield 103, 3) := by decide +kernel
theorem dX4_perform_233 : decode cX4_perform 233 = .ok (.invokevirtual 106, 3) := by decide +kernel
theorem dX4_perform_236 : decode cX4_perform 236 = .ok (.invokevirtual 137, 3) := by decide +kernel
theorem dX4_perform_239 : decode cX4_perform 239 = .ok (.iconst 0, 1) := by decide +kernel
theorem dX4_perform_240 : decode cX4_perform 240 = .ok (.ireturn, 1) := by decide +kernel
theorem dX4_perform_241 : decode cX4_perform 241 = .ok (.aload_n 0, 1) := by decide +kernel
theorem dX4_perform_242 : decode cX4_perform 242 = .ok (.getfield 31, 3) := by decide +kernel
theorem dX4_perform_245 : decode cX4_perform 245 = .ok (.aload_n 1, 1) := by decide +kernel
theorem dX4_perform_246 : decode cX4_perform 246 = .ok (.invokevirtual 140, 3) := by decide +kernel
theorem dX4_perform_249 : decode cX4_perform 249 = .ok (.ireturn, 1) := by decide +kernel
theorem dX4_callPlace_0 : decode cX4_callPlace 0 = .ok (.aload_n 0, 1) := by decide +kernel
theorem dX4_callPlace_1 : decode cX4_callPlace 1 = .ok (.getfield 49, 3) := by decide +kernel
theorem dX4_callPlace_4 : decode cX4_callPlace 4 = .ok (.ifCond .lt 15, 3) := by decide +kernel
theorem dX4_callPlace_7 : decode cX4_callPlace 7 = .ok (.aload_n 0, 1) := by decide +kernel
theorem dX4_callPlace_8 : decode cX4_callPlace 8 = .ok (.getfield 49, 3) := by decide +kernel
theorem dX4_callPlace_11 : decode cX4_callPlace 11 = .ok (.aload_n 0, 1) := by decide +kernel
theorem dX4_callPlace_12 : decode cX4_callPlace 12 = .ok (.getfield 35, 3) := by decide +kernel
theorem dX4_callPlace_15 : decode cX4_callPlace 15 = .ok (.arraylength, 1) := by decide +kernel
theorem dX4_callPlace_16 : decode cX4_callPlace 16 = .ok (.if_icmp .lt 6, 3) := by decide +kernel
theorem dX4_callPlace_19 : decode cX4_callPlace 19 = .ok (.bipush 7, 2) := by decide +kernel
theorem dX4_callPlace_21 : decode cX4_callPlace 21 = .ok (.ireturn, 1) := by decide +kernel
theorem dX4_callPlace_22 : decode cX4_callPlace 22 = .ok (.aload_n 0, 1) := by decide +kernel
theorem dX4_callPlace_23 : decode cX4_callPlace 23 = .ok (.getfield 35, 3) := by decide +kernel
theorem dX4_callPlace_26 : decode cX4_callPlace 26 = .ok (.aload_n 0, 1) := by decide +kernel
theorem dX4_callPlace_27 : decode cX4_callPlace 27 = .ok (.getfield 49, 3) := by decide +kernel
theorem dX4_callPlace_30 : decode cX4_callPlace 30 = .ok (.aload_n 0, 1) := by decide +kernel
theorem dX4_callPlace_31 : decode cX4_callPlace 31 = .ok (.getfield 75, 3) := by decide +kernel
theorem dX4_callPlace_34 : decode cX4_callPlace 34 = .ok (.iastore, 1) := by decide +kernel
theorem dX4_callPlace_35 : decode cX4_callPlace 35 = .ok (.aload_n 0, 1) := by decide +kernel
theorem dX4_callPlace_36 : decode cX4_callPlace 36 = .ok (.dup, 1) := by decide +kernel
theorem dX4_callPlace_37 : decode cX4_callPlace 37 = .ok (.getfield 49, 3) := by decide +kernel
theorem dX4_callPlace_40 : decode cX4_callPlace 40 = .ok (.iconst 1, 1) := by decide +kernel
theorem dX4_callPlace_41 : decode cX4_callPlace 41 = .ok (.iadd, 1) := by decide +kernel
theorem dX4_callPlace_42 : decode cX4_callPlace 42 = .ok (.putfield 49, 3) := by decide +kernel
theorem dX4_callPlace_45 : decode cX4_callPlace 45 = .ok (.aload_n 0, 1) := by decide +kernel
theorem dX4_callPlace_46 : decode cX4_callPlace 46 = .ok (.iload_n 1, 1) := by decide +kernel
theorem dX4_callPlace_47 : decode cX4_callPlace 47 = .ok (.putfield 78, 3) := by decide +kernel
theorem dX4_callPlace_50 : decode cX4_callPlace 50 = .ok (.iconst 0, 1) := by decide +kernel
theorem dX4_callPlace_51 : decode cX4_callPlace 51 = .ok (.ireturn, 1) := by decide +kernel
theorem dX4_comeBack_0 : decode cX4_comeBack 0 = .ok (.aload_n 0, 1) := by decide +kernel
theorem dX4_comeBack_1 : decode cX4_comeBack 1 = .ok (.getfield 49, 3) := by decide +kernel
theorem dX4_comeBack_4 : decode cX4_comeBack 4 = .ok (.ifCond .gt 11, 3) := by decide +kernel
theorem dX4_comeBack_7 : decode cX4_comeBack 7 = .ok (.aload_n 0, 1) := by decide +kernel
theorem dX4_comeBack_8 : decode cX4_comeBack 8 = .ok (.iconst 2, 1) := by decide +kernel
theorem dX4_comeBack_9 : decode cX4_comeBack 9 = .ok (.putfield 68, 3) := by decide +kernel
theorem dX4_comeBack_12 : decode cX4_comeBack 12 = .ok (.goto 13, 3) := by decide +kernel
theorem dX4_comeBack_15 : decode cX4_comeBack 15 = .ok (.aload_n 0, 1) := by decide +kernel
theorem dX4_comeBack_16 : decode cX4_comeBack 16 = .ok (.aload_n 0, 1) := by decide +kernel
theorem dX4_comeBack_17 : decode cX4_comeBack 17 = .ok (.invokevirtual 143, 3) := by decide +kernel
theorem dX4_comeBack_20 : decode cX4_comeBack 20 = .ok (.iconst 1, 1) := by decide +kernel
theorem dX4_comeBack_21 : decode cX4_comeBack 21 = .ok (.iadd, 1) := by decide +kernel
theorem dX4_comeBack_22 : decode cX4_comeBack 22 = .ok (.putfield 78, 3) := by decide +kernel
theorem dX4_comeBack_25 : decode cX4_comeBack 25 = .ok (.return_, 1) := by decide +kernel
theorem dX4_dropCall_0 : decode cX4_dropCall 0 = .ok (.aload_n 0, 1) := by decide +kernel
theorem dX4_dropCall_1 : decode cX4_dropCall 1 = .ok (.dup, 1) := by decide +kernel
theorem dX4_dropCall_2 : decode cX4_dropCall 2 = .ok (.getfield 49, 3) := by decide +kernel
theorem dX4_dropCall_5 : decode cX4_dropCall 5 = .ok (.iconst 1, 1) := by decide +kernel
theorem dX4_dropCall_6 : decode cX4_dropCall 6 = .ok (.isub, 1) := by decide +kernel
theorem dX4_dropCall_7 : decode cX4_dropCall 7 = .ok (.putfield 49, 3) := by decide +kernel
theorem dX4_dropCall_10 : decode cX4_dropCall 10 = .ok (.aload_n 0, 1) := by decide +kernel
theorem dX4_dropCall_11 : decode cX4_dropCall 11 = .ok (.getfield 49, 3) := by decide +kernel
theorem dX4_dropCall_14 : decode cX4_dropCall 14 = .ok (.ifCond .lt 27, 3) := by decide +kernel
theorem dX4_dropCall_17 : decode cX4_dropCall 17 = .ok (.aload_n 0, 1) := by decide +kernel
theorem dX4_dropCall_18 : decode cX4_dropCall 18 = .ok (.getfield 49, 3) := by decide +kernel
theorem dX4_dropCall_21 : decode cX4_dropCall 21 = .ok (.aload_n 0, 1) := by decide +kernel
theorem dX4_dropCall_22 : decode cX4_dropCall 22 = .ok (.getfield 35, 3) := by decide +kernel
theorem dX4_dropCall_25 : decode cX4_dropCall 25 = .ok (.arraylength, 1) := by decide +kernel
theorem dX4_dropCall_26 : decode cX4_dropCall 26 = .ok (.if_icmp .ge 15, 3) := by decide +kernel
theorem dX4_dropCall_29 : decode cX4_dropCall 29 = .ok (.aload_n 0, 1) := by decide +kernel
theorem dX4_dropCall_30 : decode cX4_dropCall 30 = .ok (.getfield 35, 3) := by decide +kernel
theorem dX4_dropCall_33 : decode cX4_dropCall 33 = .ok (.aload_n 0, 1) := by decide +kernel
theorem dX4_dropCall_34 : decode cX4_dropCall 34 = .ok (.getfield 49, 3) := by decide +kernel
theorem dX4_dropCall_37 : decode cX4_dropCall 37 = .ok (.iaload, 1) := by decide +kernel
theorem dX4_dropCall_38 : decode cX4_dropCall 38 = .ok (.goto 4, 3) := by decide +kernel
theorem dX4_dropCall_41 : decode cX4_dropCall 41 = .ok (.iconst (-1), 1) := by decide +kernel
theorem dX4_dropCall_42 : decode cX4_dropCall 42 = .ok (.ireturn, 1) := by decide +kernel
theorem dX4_throwFault_0 : decode cX4_throwFault 0 = .ok (.aload_n 0, 1) := by decide +kernel
theorem dX4_throwFault_1 : decode cX4_throwFault 1 = .ok (.ifnonnull 5, 3) := by decide +kernel
theorem dX4_throwFault_4 : decode cX4_throwFault 4 = .ok (.iconst 1, 1) := by decide +kernel
theorem dX4_throwFault_5 : decode cX4_throwFault 5 = .ok (.ireturn, 1) := by decide +kernel
theorem dX4_throwFault_6 : decode cX4_throwFault 6 = .ok (.aload_n 0, 1) := by decide +kernel
theorem dX4_throwFault_7 : decode cX4_throwFault 7 = .ok (.bipush 15, 2) := by decide +kernel
theorem dX4_throwFault_9 : decode cX4_throwFault 9 = .ok (.invokevirtual 147, 3) := by decide +kernel
theorem dX4_throwFault_12 : decode cX4_throwFault 12 = .ok (.ifCond .eq 10, 3) := by decide +kernel
theorem dX4_throwFault_15 : decode cX4_throwFault 15 = .ok (.aload_n 0, 1) := by decide +kernel
theorem dX4_throwFault_16 : decode cX4_throwFault 16 = .ok (.getfield 153, 3) := by decide +kernel
theorem dX4_throwFault_19 : decode cX4_throwFault 19 = .ok (.goto 4, 3) := by decide +kernel
theorem dX4_throwFault_22 : decode cX4_throwFault 22 = .ok (.iconst 4, 1) := by decide +kernel
theorem dX4_throwFault_23 : decode cX4_throwFault 23 = .ok (.ireturn, 1) := by decide +kernel
theorem dX4_tell_0 : decode cX4_tell 0 = .ok (.aload_n 0, 1) := by decide +kernel
theorem dX4_tell_1 : decode cX4_tell 1 = .ok (.getfield 52, 3) := by decide +kernel
theorem dX4_tell_4 : decode cX4_tell 4 = .ok (.ifCond .lt 25, 3) := by decide +kernel
theorem dX4_tell_7 : decode cX4_tell 7 = .ok (.aload_n 0, 1) := by decide +kernel
theorem dX4_tell_8 : decode cX4_tell 8 = .ok (.getfield 52, 3) := by decide +kernel
theorem dX4_tell_11 : decode cX4_tell 11 = .ok (.aload_n 0, 1) := by decide +kernel
theorem dX4_tell_12 : decode cX4_tell 12 = .ok (.getfield 39, 3) := by decide +kernel
theorem dX4_tell_15 : decode cX4_tell 15 = .ok (.arraylength, 1) := by decide +kernel
theorem dX4_tell_16 : decode cX4_tell 16 = .ok (.if_icmp .ge 13, 3) := by decide +kernel
theorem dX4_tell_19 : decode cX4_tell 19 = .ok (.aload_n 0, 1) := by decide +kernel
theorem dX4_tell_20 : decode cX4_tell 20 = .ok (.getfield 39, 3) := by decide +kernel
theorem dX4_tell_23 : decode cX4_tell 23 = .ok (.aload_n 0, 1) := by decide +kernel
theorem dX4_tell_24 : decode cX4_tell 24 = .ok (.getfield 52, 3) := by decide +kernel
theorem dX4_tell_27 : decode cX4_tell 27 = .ok (.iload_n 1, 1) := by decide +kernel
theorem dX4_tell_28 : decode cX4_tell 28 = .ok (.iastore, 1) := by decide +kernel
theorem dX4_tell_29 : decode cX4_tell 29 = .ok (.aload_n 0, 1) := by decide +kernel
theorem dX4_tell_30 : decode cX4_tell 30 = .ok (.dup, 1) := by decide +kernel
theorem dX4_tell_31 : decode cX4_tell 31 = .ok (.getfield 52, 3) := by decide +kernel
theorem dX4_tell_34 : decode cX4_tell 34 = .ok (.iconst 1, 1) := by decide +kernel
theorem dX4_tell_35 : decode cX4_tell 35 = .ok (.iadd, 1) := by decide +kernel
theorem dX4_tell_36 : decode cX4_tell 36 = .ok (.putfield 52, 3) := by decide +kernel
theorem dX4_tell_39 : decode cX4_tell 39 = .ok (.return_, 1) := by decide +kernel
theorem dX4_fail_0 : decode cX4_fail 0 = .ok (.aload_n 0, 1) := by decide +kernel
theorem dX4_fail_1 : decode cX4_fail 1 = .ok (.dup, 1) := by decide +kernel
theorem dX4_fail_2 : decode cX4_fail 2 = .ok (.getfield 55, 3) := by decide +kernel
theorem dX4_fail_5 : decode cX4_fail 5 = .ok (.iconst 1, 1) := by decide +kernel
theorem dX4_fail_6 : decode cX4_fail 6 = .ok (.iadd, 1) := by decide +kernel
theorem dX4_fail_7 : decode cX4_fail 7 = .ok (.putfield 55, 3) := by decide +kernel
theorem dX4_fail_10 : decode cX4_fail 10 = .ok (.aload_n 0, 1) := by decide +kernel
theorem dX4_fail_11 : decode cX4_fail 11 = .ok (.iload_n 2, 1) := by decide +kernel
theorem dX4_fail_12 : decode cX4_fail 12 = .ok (.putfield 58, 3) := by decide +kernel
theorem dX4_fail_15 : decode cX4_fail 15 = .ok (.aload_n 0, 1) := by decide +kernel
theorem dX4_fail_16 : decode cX4_fail 16 = .ok (.aload_n 0, 1) := by decide +kernel
theorem dX4_fail_17 : decode cX4_fail 17 = .ok (.getfield 75, 3) := by decide +kernel
theorem dX4_fail_20 : decode cX4_fail 20 = .ok (.putfield 42, 3) := by decide +kernel
theorem dX4_fail_23 : decode cX4_fail 23 = .ok (.aload_n 0, 1) := by decide +kernel
theorem dX4_fail_24 : decode cX4_fail 24 = .ok (.iload_n 2, 1) := by decide +kernel
theorem dX4_fail_25 : decode cX4_fail 25 = .ok (.bipush 8, 2) := by decide +kernel
theorem dX4_fail_27 : decode cX4_fail 27 = .ok (.if_icmp .lt 17, 3) := by decide +kernel
theorem dX4_fail_30 : decode cX4_fail 30 = .ok (.aload_n 0, 1) := by decide +kernel
theorem dX4_fail_31 : decode cX4_fail 31 = .ok (.getfield 15, 3) := by decide +kernel
theorem dX4_fail_34 : decode cX4_fail 34 = .ok (.aload_n 1, 1) := by decide +kernel
theorem dX4_fail_35 : decode cX4_fail 35 = .ok (.getfield 103, 3) := by decide +kernel
theorem dX4_fail_38 : decode cX4_fail 38 = .ok (.invokevirtual 121, 3) := by decide +kernel
theorem dX4_fail_41 : decode cX4_fail 41 = .ok (.goto 4, 3) := by decide +kernel
theorem dX4_fail_44 : decode cX4_fail 44 = .ok (.aconst_null, 1) := by decide +kernel
theorem dX4_fail_45 : decode cX4_fail 45 = .ok (.putfield 61, 3) := by decide +kernel
theorem dX4_fail_48 : decode cX4_fail 48 = .ok (.aload_n 0, 1) := by decide +kernel
theorem dX4_fail_49 : decode cX4_fail 49 = .ok (.getfield 9, 3) := by decide +kernel
theorem dX4_fail_52 : decode cX4_fail 52 = .ok (.aload_n 0, 1) := by decide +kernel
theorem dX4_fail_53 : decode cX4_fail 53 = .ok (.getfield 75, 3) := by decide +kernel
theorem dX4_fail_56 : decode cX4_fail 56 = .ok (.iload_n 2, 1) := by decide +kernel
theorem dX4_fail_57 : decode cX4_fail 57 = .ok (.invokevirtual 156, 3) := by decide +kernel
theorem dX4_fail_60 : decode cX4_fail 60 = .ok (.istore_n 3, 1) := by decide +kernel
theorem dX4_fail_61 : decode cX4_fail 61 = .ok (.aload_n 0, 1) := by decide +kernel
theorem dX4_fail_62 : decode cX4_fail 62 = .ok (.getfield 49, 3) := by decide +kernel
theorem dX4_fail_65 : decode cX4_fail 65 = .ok (.istore 4, 2) := by decide +kernel
theorem dX4_fail_67 : decode cX4_fail 67 = .ok (.iload 4, 2) := by decide +kernel
theorem dX4_fail_69 : decode cX4_fail 69 = .ok (.ifCond .le 26, 3) := by decide +kernel
theorem dX4_fail_72 : decode cX4_fail 72 = .ok (.iload_n 3, 1) := by decide +kernel
theorem dX4_fail_73 : decode cX4_fail 73 = .ok (.ifCond .ge 22, 3) := by decide +kernel
theorem dX4_fail_76 : decode cX4_fail 76 = .ok (.aload_n 0, 1) := by decide +kernel
theorem dX4_fail_77 : decode cX4_fail 77 = .ok (.getfield 9, 3) := by decide +kernel
theorem dX4_fail_80 : decode cX4_fail 80 = .ok (.aload_n 0, 1) := by decide +kernel
theorem dX4_fail_81 : decode cX4_fail 81 = .ok (.invokevirtual 143, 3) := by decide +kernel
theorem dX4_fail_84 : decode cX4_fail 84 = .ok (.iload_n 2, 1) := by decide +kernel
theorem dX4_fail_85 : decode cX4_fail 85 = .ok (.invokevirtual 156, 3) := by decide +kernel
theorem dX4_fail_88 : decode cX4_fail 88 = .ok (.istore_n 3, 1) := by decide +kernel
theorem dX4_fail_89 : decode cX4_fail 89 = .ok (.iinc 4 (-1), 3) := by decide +kernel
theorem dX4_fail_92 : decode cX4_fail 92 = .ok (.goto (-25), 3) := by decide +kernel
theorem dX4_fail_95 : decode cX4_fail 95 = .ok (.iload_n 3, 1) := by decide +kernel
theorem dX4_fail_96 : decode cX4_fail 96 = .ok (.ifCond .ge 11, 3) := by decide +kernel
theorem dX4_fail_99 : decode cX4_fail 99 = .ok (.aload_n 0, 1) := by decide +kernel
theorem dX4_fail_100 : decode cX4_fail 100 = .ok (.iconst 3, 1) := by decide +kernel
theorem dX4_fail_101 : decode cX4_fail 101 = .ok (.putfield 68, 3) := by decide +kernel
theorem dX4_fail_104 : decode cX4_fail 104 = .ok (.goto 8, 3) := by decide +kernel
theorem dX4_fail_107 : decode cX4_fail 107 = .ok (.aload_n 0, 1) := by decide +kernel
theorem dX4_fail_108 : decode cX4_fail 108 = .ok (.iload_n 3, 1) := by decide +kernel
theorem dX4_fail_109 : decode cX4_fail 109 = .ok (.invokevirtual 71, 3) := by decide +kernel
theorem dX4_fail_112 : decode cX4_fail 112 = .ok (.return_, 1) := by decide +kernel
theorem dX5_init_0 : decode cX5_init 0 = .ok (.aload_n 0, 1) := by decide +kernel
theorem dX5_init_1 : decode cX5_init 1 = .ok (.invokespecial 1, 3) := by decide +kernel
theorem dX5_init_4 : decode cX5_init 4 = .ok (.aload_n 0, 1) := by decide +kernel
theorem dX5_init_5 : decode cX5_init 5 = .ok (.iload_n 1, 1) := by decide +kernel
theorem dX5_init_6 : decode cX5_init 6 = .ok (.putfield 7, 3) := by decide +kernel
theorem dX5_init_9 : decode cX5_init 9 = .ok (.aload_n 0, 1) := by decide +kernel
theorem dX5_init_10 : decode cX5_init 10 = .ok (.iload_n 2, 1) := by decide +kernel
theorem dX5_init_11 : decode cX5_init 11 = .ok (.putfield 13, 3) := by decide +kernel
theorem dX5_init_14 : decode cX5_init 14 = .ok (.aload_n 0, 1) := by decide +kernel
theorem dX5_init_15 : decode cX5_init 15 = .ok (.iload_n 3, 1) := by decide +kernel
theorem dX5_init_16 : decode cX5_init 16 = .ok (.putfield 16, 3) := by decide +kernel
theorem dX5_init_19 : decode cX5_init 19 = .ok (.aload_n 0, 1) := by decide +kernel
theorem dX5_init_20 : decode cX5_init 20 = .ok (.iload 4, 2) := by decide +kernel
theorem dX5_init_22 : decode cX5_init 22 = .ok (.putfield 19, 3) := by decide +kernel
theorem dX5_init_25 : decode cX5_init 25 = .ok (.return_, 1) := by decide +kernel
theorem dX6_init_0 : decode cX6_init 0 = .ok (.aload_n 0, 1) := by decide +kernel
theorem dX6_init_1 : decode cX6_init 1 = .ok (.invokespecial 3, 3) := by decide +kernel
theorem dX6_init_4 : decode cX6_init 4 = .ok (.aload_n 0, 1) := by decide +kernel
theorem dX6_init_5 : decode cX6_init 5 = .ok (.iload_n 1, 1) := by decide +kernel
theorem dX6_init_6 : decode cX6_init 6 = .ok (.putfield 9, 3) := by decide +kernel
theorem dX6_init_9 : decode cX6_init 9 = .ok (.aload_n 0, 1) := by decide +kernel
theorem dX6_init_10 : decode cX6_init 10 = .ok (.iload_n 2, 1) := by decide +kernel
theorem dX6_init_11 : decode cX6_init 11 = .ok (.ifCond .ge 7, 3) := by decide +kernel
theorem dX6_init_14 : decode cX6_init 14 = .ok (.iconst 0, 1) := by decide +kernel
theorem dX6_init_15 : decode cX6_init 15 = .ok (.goto 4, 3) := by decide +kernel
theorem dX6_init_18 : decode cX6_init 18 = .ok (.iload_n 2, 1) := by decide +kernel
theorem dX6_init_19 : decode cX6_init 19 = .ok (.putfield 15, 3) := by decide +kernel
theorem dX6_init_22 : decode cX6_init 22 = .ok (.aload_n 0, 1) := by decide +kernel
theorem dX6_init_23 : decode cX6_init 23 = .ok (.iload_n 1, 1) := by decide +kernel
theorem dX6_init_24 : decode cX6_init 24 = .ok (.iconst 5, 1) := by decide +kernel
theorem dX6_init_25 : decode cX6_init 25 = .ok (.if_icmp .gt 10, 3) := by decide +kernel
theorem dX6_init_28 : decode cX6_init 28 = .ok (.aload_n 0, 1) := by decide +kernel
theorem dX6_init_29 : decode cX6_init 29 = .ok (.getfield 15, 3) := by decide +kernel
theorem dX6_init_32 : decode cX6_init 32 = .ok (.goto 4, 3) := by decide +kernel
theorem dX6_init_35 : decode cX6_init 35 = .ok (.iconst 0, 1) := by decide +kernel
theorem dX6_init_36 : decode cX6_init 36 = .ok (.newarray .long, 2) := by decide +kernel
theorem dX6_init_38 : decode cX6_init 38 = .ok (.putfield 18, 3) := by decide +kernel
theorem dX6_init_41 : decode cX6_init 41 = .ok (.aload_n 0, 1) := by decide +kernel
theorem dX6_init_42 : decode cX6_init 42 = .ok (.iload_n 1, 1) := by decide +kernel
theorem dX6_init_43 : decode cX6_init 43 = .ok (.bipush 6, 2) := by decide +kernel
theorem dX6_init_45 : decode cX6_init 45 = .ok (.if_icmp .eq 9, 3) := by decide +kernel
theorem dX6_init_48 : decode cX6_init 48 = .ok (.iload_n 1, 1) := by decide +kernel
theorem dX6_init_49 : decode cX6_init 49 = .ok (.bipush 7, 2) := by decide +kernel
theorem dX6_init_51 : decode cX6_init 51 = .ok (.if_icmp .ne 10, 3) := by decide +kernel
theorem dX6_init_54 : decode cX6_init 54 = .ok (.aload_n 0, 1) := by decide +kernel
theorem dX6_init_55 : decode cX6_init 55 = .ok (.getfield 15, 3) := by decide +kernel
theorem dX6_init_58 : decode cX6_init 58 = .ok (.goto 4, 3) := by decide +kernel
theorem dX6_init_61 : decode cX6_init 61 = .ok (.iconst 0, 1) := by decide +kernel
theorem dX6_init_62 : decode cX6_init 62 = .ok (.newarray .double, 2) := by decide +kernel
theorem dX6_init_64 : decode cX6_init 64 = .ok (.putfield 22, 3) := by decide +kernel
theorem dX6_init_67 : decode cX6_init 67 = .ok (.aload_n 0, 1) := by decide +kernel
theorem dX6_init_68 : decode cX6_init 68 = .ok (.iload_n 1, 1) := by decide +kernel
theorem dX6_init_69 : decode cX6_init 69 = .ok (.bipush 8, 2) := by decide +kernel
theorem dX6_init_71 : decode cX6_init 71 = .ok (.if_icmp .lt 16, 3) := by decide +kernel
theorem dX6_init_74 : decode cX6_init 74 = .ok (.iload_n 1, 1) := by decide +kernel
theorem dX6_init_75 : decode cX6_init 75 = .ok (.bipush 10, 2) := by decide +kernel
theorem dX6_init_77 : decode cX6_init 77 = .ok (.if_icmp .gt 10, 3) := by decide +kernel
theorem dX6_init_80 : decode cX6_init 80 = .ok (.aload_n 0, 1) := by decide +kernel
theorem dX6_init_81 : decode cX6_init 81 = .ok (.getfield 15, 3) := by decide +kernel
theorem dX6_init_84 : decode cX6_init 84 = .ok (.goto 4, 3) := by decide +kernel
theorem dX6_init_87 : decode cX6_init 87 = .ok (.iconst 0, 1) := by decide +kernel
theorem dX6_init_88 : decode cX6_init 88 = .ok (.anewarray 10, 3) := by decide +kernel
theorem dX6_init_91 : decode cX6_init 91 = .ok (.putfield 26, 3) := by decide +kernel
theorem dX6_init_94 : decode cX6_init 94 = .ok (.return_, 1) := by decide +kernel
theorem dX6_isRow_0 : decode cX6_isRow 0 = .ok (.aload_n 0, 1) := by decide +kernel
theorem dX6_isRow_1 : decode cX6_isRow 1 = .ok (.getfield 9, 3) := by decide +kernel
theorem dX6_isRow_4 : decode cX6_isRow 4 = .ok (.bipush 10, 2) := by decide +kernel
theorem dX6_isRow_6 : decode cX6_isRow 6 = .ok (.if_icmp .gt 7, 3) := by decide +kernel
theorem dX6_isRow_9 : decode cX6_isRow 9 = .ok (.iconst 1, 1) := by decide +kernel
theorem dX6_isRow_10 : decode cX6_isRow 10 = .ok (.goto 4, 3) := by decide +kernel
theorem dX6_isRow_13 : decode cX6_isRow 13 = .ok (.iconst 0, 1) := by decide +kernel
theorem dX6_isRow_14 : decode cX6_isRow 14 = .ok (.ireturn, 1) := by decide +kernel
theorem dX6_isOf_0 : decode cX6_isOf 0 = .ok (.iload_n 1, 1) := by decide +kernel
theorem dX6_isOf_1 : decode cX6_isOf 1 = .ok (.tableswitch 156 8 16 #[51, 156, 156, 75, 108, 156, 156, 156, 132], 51) := by decide +kernel
theorem dX6_isOf_52 : decode cX6_isOf 52 = .ok (.aload_n 0, 1) := by decide +kernel
theorem dX6_isOf_53 : decode cX6_isOf 53 = .ok (.getfield 9, 3) := by decide +kernel
theorem dX6_isOf_56 : decode cX6_isOf 56 = .ok (.bipush 8, 2) := by decide +kernel
theorem dX6_isOf_58 : decode cX6_isOf 58 = .ok (.if_icmp .eq 12, 3) := by decide +kernel
theorem dX6_isOf_61 : decode cX6_isOf 61 = .ok (.aload_n 0, 1) := by decide +kernel
theorem dX6_isOf_62 : decode cX6_isOf 62 = .ok (.getfield 9, 3) := by decide +kernel
theorem dX6_isOf_65 : decode cX6_isOf 65 = .ok (.bipush 9, 2) := by decide +kernel
theorem dX6_isOf_67 : decode cX6_isOf 67 = .ok (.if_icmp .ne 7, 3) := by decide +kernel
theorem dX6_isOf_70 : decode cX6_isOf 70 = .ok (.iconst 1, 1) := by decide +kernel
theorem dX6_isOf_71 : decode cX6_isOf 71 = .ok (.goto 4, 3) := by decide +kernel
theorem dX6_isOf_74 : decode cX6_isOf 74 = .ok (.iconst 0, 1) := by decide +kernel
theorem dX6_isOf_75 : decode cX6_isOf 75 = .ok (.ireturn, 1) := by decide +kernel
theorem dX6_isOf_76 : decode cX6_isOf 76 = .ok (.aload_n 0, 1) := by decide +kernel
theorem dX6_isOf_77 : decode cX6_isOf 77 = .ok (.getfield 9, 3) := by decide +kernel
theorem dX6_isOf_80 : decode cX6_isOf 80 = .ok (.bipush 11, 2) := by decide +kernel
theorem dX6_isOf_82 : decode cX6_isOf 82 = .ok (.if_icmp .eq 21, 3) := by decide +kernel
theorem dX6_isOf_85 : decode cX6_isOf 85 = .ok (.aload_n 0, 1) := by decide +kernel
theorem dX6_isOf_86 : decode cX6_isOf 86 = .ok (.getfield 9, 3) := by decide +kernel
theorem dX6_isOf_89 : decode cX6_isOf 89 = .ok (.bipush 12, 2) := by decide +kernel
theorem dX6_isOf_91 : decode cX6_isOf 91 = .ok (.if_icmp .eq 12, 3) := by decide +kernel
theorem dX6_isOf_94 : decode cX6_isOf 94 = .ok (.aload_n 0, 1) := by decide +kernel
theorem dX6_isOf_95 : decode cX6_isOf 95 = .ok (.getfield 9, 3) := by decide +kernel
theorem dX6_isOf_98 : decode cX6_isOf 98 = .ok (.bipush 13, 2) := by decide +kernel
theorem dX6_isOf_100 : decode cX6_isOf 100 = .ok (.if_icmp .ne 7, 3) := by decide +kernel
theorem dX6_isOf_103 : decode cX6_isOf 103 = .ok (.iconst 1, 1) := by decide +kernel
theorem dX6_isOf_104 : decode cX6_isOf 104 = .ok (.goto 4, 3) := by decide +kernel
theorem dX6_isOf_107 : decode cX6_isOf 107 = .ok (.iconst 0, 1) := by decide +kernel
theorem dX6_isOf_108 : decode cX6_isOf 108 = .ok (.ireturn, 1) := by decide +kernel
theorem dX6_isOf_109 : decode cX6_isOf 109 = .ok (.aload_n 0, 1) := by decide +kernel
theorem dX6_isOf_110 : decode cX6_isOf 110 = .ok (.getfield 9, 3) := by decide +kernel
theorem dX6_isOf_113 : decode cX6_isOf 113 = .ok (.bipush 12, 2) := by decide +kernel
theorem dX6_isOf_115 : decode cX6_isOf 115 = .ok (.if_icmp .eq 12, 3) := by decide +kernel
theorem dX6_isOf_118 : decode cX6_isOf 118 = .ok (.aload_n 0, 1) := by decide +kernel
theorem dX6_isOf_119 : decode cX6_isOf 119 = .ok (.getfield 9, 3) := by decide +kernel
theorem dX6_isOf_122 : decode cX6_isOf 122 = .ok (.bipush 13, 2) := by decide +kernel
theorem dX6_isOf_124 : decode cX6_isOf 124 = .ok (.if_icmp .ne 7, 3) := by decide +kernel
theorem dX6_isOf_127 : decode cX6_isOf 127 = .ok (.iconst 1, 1) := by decide +kernel
theorem dX6_isOf_128 : decode cX6_isOf 128 = .ok (.goto 4, 3) := by decide +kernel
theorem dX6_isOf_131 : decode cX6_isOf 131 = .ok (.iconst 0, 1) := by decide +kernel
theorem dX6_isOf_132 : decode cX6_isOf 132 = .ok (.ireturn, 1) := by decide +kernel
theorem dX6_isOf_133 : decode cX6_isOf 133 = .ok (.aload_n 0, 1) := by decide +kernel
theorem dX6_isOf_134 : decode cX6_isOf 134 = .ok (.getfield 9, 3) := by decide +kernel
theorem dX6_isOf_137 : decode cX6_isOf 137 = .ok (.bipush 11, 2) := by decide +kernel
theorem dX6_isOf_139 : decode cX6_isOf 139 = .ok (.if_icmp .lt 16, 3) := by decide +kernel
theorem dX6_isOf_142 : decode cX6_isOf 142 = .ok (.aload_n 0, 1) := by decide +kernel
theorem dX6_isOf_143 : decode cX6_isOf 143 = .ok (.getfield 9, 3) := by decide +kernel
theorem dX6_isOf_146 : decode cX6_isOf 146 = .ok (.bipush 14, 2) := by decide +kernel
theorem dX6_isOf_148 : decode cX6_isOf 148 = .ok (.if_icmp .gt 7, 3) := by decide +kernel
theorem dX6_isOf_151 : decode cX6_isOf 151 = .ok (.iconst 1, 1) := by decide +kernel
theorem dX6_isOf_152 : decode cX6_isOf 152 = .ok (.goto 4, 3) := by decide +kernel
theorem dX6_isOf_155 : decode cX6_isOf 155 = .ok (.iconst 0, 1) := by decide +kernel
theorem dX6_isOf_156 : decode cX6_isOf 156 = .ok (.ireturn, 1) := by decide +kernel
theorem dX6_isOf_157 : decode cX6_isOf 157 = .ok (.aload_n 0, 1) := by decide +kernel
theorem dX6_isOf_158 : decode cX6_isOf 158 = .ok (.getfield 9, 3) := by decide +kernel
theorem dX6_isOf_161 : decode cX6_isOf 161 = .ok (.iload_n 1, 1) := by decide +kernel
theorem dX6_isOf_162 : decode cX6_isOf 162 = .ok (.if_icmp .ne 7, 3) := by decide +kernel
theorem dX6_isOf_165 : decode cX6_isOf 165 = .ok (.iconst 1, 1) := by decide +kernel
theorem dX6_isOf_166 : decode cX6_isOf 166 = .ok (.goto 4, 3) := by decide +kernel
theorem dX6_isOf_169 : decode cX6_isOf 169 = .ok (.iconst 0, 1) := by decide +kernel
theorem dX6_isOf_170 : decode cX6_isOf 170 = .ok (.ireturn, 1) := by decide +kernel
theorem dX6_hasPlace_0 : decode cX6_hasPlace 0 = .ok (.iload_n 1, 1) := by decide +kernel
theorem dX6_hasPlace_1 : decode cX6_hasPlace 1 = .ok (.ifCond .lt 15, 3) := by decide +kernel
theorem dX6_hasPlace_4 : decode cX6_hasPlace 4 = .ok (.iload_n 1, 1) := by decide +kernel
theorem dX6_hasPlace_5 : decode cX6_hasPlace 5 = .ok (.aload_n 0, 1) := by decide +kernel
theorem dX6_hasPlace_6 : decode cX6_hasPlace 6 = .ok (.getfield 15, 3) := by decide +kernel
theorem dX6_hasPlace_9 : decode cX6_hasPlace 9 = .ok (.if_icmp .ge 7, 3) := by decide +kernel
theorem dX6_hasPlace_12 : decode cX6_hasPlace 12 = .ok (.iconst 1, 1) := by decide +kernel
theorem dX6_hasPlace_13 : decode cX6_hasPlace 13 = .ok (.goto 4, 3) := by decide +kernel
theorem dX6_hasPlace_16 : decode cX6_hasPlace 16 = .ok (.iconst 0, 1) := by decide +kernel
theorem dX6_hasPlace_17 : decode cX6_hasPlace 17 = .ok (.ireturn, 1) := by decide +kernel
theorem dX6_getNumber_0 : decode cX6_getNumber 0 = .ok (.iload_n 1, 1) := by decide +kernel
theorem dX6_getNumber_1 : decode cX6_getNumber 1 = .ok (.ifCond .lt 21, 3) := by decide +kernel
theorem dX6_getNumber_4 : decode cX6_getNumber 4 = .ok (.iload_n 1, 1) := by decide +kernel
theorem dX6_getNumber_5 : decode cX6_getNumber 5 = .ok (.aload_n 0, 1) := by decide +kernel
theorem dX6_getNumber_6 : decode cX6_getNumber 6 = .ok (.getfield 18, 3) := by decide +kernel
theorem dX6_getNumber_9 : decode cX6_getNumber 9 = .ok (.arraylength, 1) := by decide +kernel
theorem dX6_getNumber_10 : decode cX6_getNumber 10 = .ok (.if_icmp .ge 12, 3) := by decide +kernel
theorem dX6_getNumber_13 : decode cX6_getNumber 13 = .ok (.aload_n 0, 1) := by decide +kernel
theorem dX6_getNumber_14 : decode cX6_getNumber 14 = .ok (.getfield 18, 3) := by decide +kernel
theorem dX6_getNumber_17 : decode cX6_getNumber 17 = .ok (.iload_n 1, 1) := by decide +kernel
theorem dX6_getNumber_18 : decode cX6_getNumber 18 = .ok (.laload, 1) := by decide +kernel
theorem dX6_getNumber_19 : decode cX6_getNumber 19 = .ok (.goto 4, 3) := by decide +kernel
theorem dX6_getNumber_22 : decode cX6_getNumber 22 = .ok (.lconst 0, 1) := by decide +kernel
theorem dX6_getNumber_23 : decode cX6_getNumber 23 = .ok (.lreturn, 1) := by decide +kernel
theorem dX6_setNumber_0 : decode cX6_setNumber 0 = .ok (.iload_n 1, 1) := by decide +kernel
theorem dX6_setNumber_1 : decode cX6_setNumber 1 = .ok (.ifCond .lt 19, 3) := by decide +kernel
theorem dX6_setNumber_4 : decode cX6_setNumber 4 = .ok (.iload_n 1, 1) := by decide +kernel
theorem dX6_setNumber_5 : decode cX6_setNumber 5 = .ok (.aload_n 0, 1) := by decide +kernel
theorem dX6_setNumber_6 : decode cX6_setNumber 6 = .ok (.getfield 18, 3) := by decide +kernel
theorem dX6_setNumber_9 : decode cX6_setNumber 9 = .ok (.arraylength, 1) := by decide +kernel
theorem dX6_setNumber_10 : decode cX6_setNumber 10 = .ok (.if_icmp .ge 10, 3) := by decide +kernel
theorem dX6_setNumber_13 : decode cX6_setNumber 13 = .ok (.aload_n 0, 1) := by decide +kernel
theorem dX6_setNumber_14 : decode cX6_setNumber 14 = .ok (.getfield 18, 3) := by decide +kernel
theorem dX6_setNumber_17 : decode cX6_setNumber 17 = .ok (.iload_n 1, 1) := by decide +kernel
theorem dX6_setNumber_18 : decode cX6_setNumber 18 = .ok (.lload_n 2, 1) := by decide +kernel
theorem dX6_setNumber_19 : decode cX6_setNumber 19 = .ok (.lastore, 1) := by decide +kernel
theorem dX6_setNumber_20 : decode cX6_setNumber 20 = .ok (.return_, 1) := by decide +kernel
theorem dX6_getPoint_0 : decode cX6_getPoint 0 = .ok (.iload_n 1, 1) := by decide +kernel
theorem dX6_getPoint_1 : decode cX6_getPoint 1 = .ok (.ifCond .lt 21, 3) := by decide +kernel
theorem dX6_getPoint_4 : decode cX6_getPoint 4 = .ok (.iload_n 1, 1) := by decide +kernel
theorem dX6_getPoint_5 : decode cX6_getPoint 5 = .ok (.aload_n 0, 1) := by decide +kernel
theorem dX6_getPoint_6 : decode cX6_getPoint 6 = .ok (.getfield 22, 3) := by decide +kernel
theorem dX6_getPoint_9 : decode cX6_getPoint 9 = .ok (.arraylength, 1) := by decide +kernel
theorem dX6_getPoint_10 : decode cX6_getPoint 10 = .ok (.if_icmp .ge 12, 3) := by decide +kernel
theorem dX6_getPoint_13 : decode cX6_getPoint 13 = .ok (.aload_n 0, 1) := by decide +kernel
theorem dX6_getPoint_14 : decode cX6_getPoint 14 = .ok (.getfield 22, 3) := by decide +kernel
theorem dX6_getPoint_17 : decode cX6_getPoint 17 = .ok (.iload_n 1, 1) := by decide +kernel
theorem dX6_getPoint_18 : decode cX6_getPoint 18 = .ok (.daload, 1) := by decide +kernel
theorem dX6_getPoint_19 : decode cX6_getPoint 19 = .ok (.goto 4, 3) := by decide +kernel
theorem dX6_getPoint_22 : decode cX6_getPoint 22 = .ok (.dconst 0, 1) := by decide +kernel
theorem dX6_getPoint_23 : decode cX6_getPoint 23 = .ok (.dreturn, 1) := by decide +kernel
theorem dX6_setPoint_0 : decode cX6_setPoint 0 = .ok (.iload_n 1, 1) := by decide +kernel
theorem dX6_setPoint_1 : decode cX6_setPoint 1 = .ok (.ifCond .lt 19, 3) := by decide +kernel
theorem dX6_setPoint_4 : decode cX6_setPoint 4 = .ok (.iload_n 1, 1) := by decide +kernel
theorem dX6_setPoint_5 : decode cX6_setPoint 5 = .ok (.aload_n 0, 1) := by decide +kernel
theorem dX6_setPoint_6 : decode cX6_setPoint 6 = .ok (.getfield 22, 3) := by decide +kernel
theorem dX6_setPoint_9 : decode cX6_setPoint 9 = .ok (.arraylength, 1) := by decide +kernel
theorem dX6_setPoint_10 : decode cX6_setPoint 10 = .ok (.if_icmp .ge 10, 3) := by decide +kernel
theorem dX6_setPoint_13 : decode cX6_setPoint 13 = .ok (.aload_n 0, 1) := by decide +kernel
theorem dX6_setPoint_14 : decode cX6_setPoint 14 = .ok (.getfield 22, 3) := by decide +kernel
theorem dX6_setPoint_17 : decode cX6_setPoint 17 = .ok (.iload_n 1, 1) := by decide +kernel
theorem dX6_setPoint_18 : decode cX6_setPoint 18 = .ok (.dload_n 2, 1) := by decide +kernel
theorem dX6_setPoint_19 : decode cX6_setPoint 19 = .ok (.dastore, 1) := by decide +kernel
theorem dX6_setPoint_20 : decode cX6_setPoint 20 = .ok (.return_, 1) := by decide +kernel
theorem dX6_getMember_0 : decode cX6_getMember 0 = .ok (.iload_n 1, 1) := by decide +kernel
theorem dX6_getMember_1 : decode cX6_getMember 1 = .ok (.ifCond .lt 21, 3) := by decide +kernel
theorem dX6_getMember_4 : decode cX6_getMember 4 = .ok (.iload_n 1, 1) := by decide +kernel
theorem dX6_getMember_5 : decode cX6_getMember 5 = .ok (.aload_n 0, 1) := by decide +kernel
theorem dX6_getMember_6 : decode cX6_getMember 6 = .ok (.getfield 26, 3) := by decide +kernel
theorem dX6_getMember_9 : decode cX6_getMember 9 = .ok (.arraylength, 1) := by decide +kernel
theorem dX6_getMember_10 : decode cX6_getMember 10 = .ok (.if_icmp .ge 12, 3) := by decide +kernel
theorem dX6_getMember_13 : decode cX6_getMember 13 = .ok (.aload_n 0, 1) := by decide +kernel
theorem dX6_getMember_14 : decode cX6_getMember 14 = .ok (.getfield 26, 3) := by decide +kernel
theorem dX6_getMember_17 : decode cX6_getMember 17 = .ok (.iload_n 1, 1) := by decide +kernel
theorem dX6_getMember_18 : decode cX6_getMember 18 = .ok (.aaload, 1) := by decide +kernel
theorem dX6_getMember_19 : decode cX6_getMember 19 = .ok (.goto 4, 3) := by decide +kernel
theorem dX6_getMember_22 : decode cX6_getMember 22 = .ok (.aconst_null, 1) := by decide +kernel
theorem dX6_getMember_23 : decode cX6_getMember 23 = .ok (.areturn, 1) := by decide +kernel
theorem dX6_setMember_0 : decode cX6_setMember 0 = .ok (.iload_n 1, 1) := by decide +kernel
theorem dX6_setMember_1 : decode cX6_setMember 1 = .ok (.ifCond .lt 19, 3) := by decide +kernel
theorem dX6_setMember_4 : decode cX6_setMember 4 = .ok (.iload_n 1, 1) := by decide +kernel
theorem dX6_setMember_5 : decode cX6_setMember 5 = .ok (.aload_n 0, 1) := by decide +kernel
theorem dX6_setMember_6 : decode cX6_setMember 6 = .ok (.getfield 26, 3) := by decide +kernel
theorem dX6_setMember_9 : decode cX6_setMember 9 = .ok (.arraylength, 1) := by decide +kernel
theorem dX6_setMember_10 : decode cX6_setMember 10 = .ok (.if_icmp .ge 10, 3) := by decide +kernel
theorem dX6_setMember_13 : decode cX6_setMember 13 = .ok (.aload_n 0, 1) := by decide +kernel
theorem dX6_setMember_14 : decode cX6_setMember 14 = .ok (.getfield 26, 3) := by decide +kernel
theorem dX6_setMember_17 : decode cX6_setMember 17 = .ok (.iload_n 1, 1) := by decide +kernel
theorem dX6_setMember_18 : decode cX6_setMember 18 = .ok (.aload_n 2, 1) := by decide +kernel
theorem dX6_setMember_19 : decode cX6_setMember 19 = .ok (.aastore, 1) := by decide +kernel
theorem dX6_setMember_20 : decode cX6_setMember 20 = .ok (.return_, 1) := by decide +kernel
theorem dX6_turn_0 : decode cX6_turn 0 = .ok (.aload_n 0, 1) := by decide +kernel
theorem dX6_turn_1 : decode cX6_turn 1 = .ok (.getfield 9, 3) := by decide +kernel
theorem dX6_turn_4 : decode cX6_turn 4 = .ok (.bipush 14, 2) := by decide +kernel
theorem dX6_turn_6 : decode cX6_turn 6 = .ok (.if_icmp .ne 10, 3) := by decide +kernel
theorem dX6_turn_9 : decode cX6_turn 9 = .ok (.aload_n 0, 1) := by decide +kernel
theorem dX6_turn_10 : decode cX6_turn 10 = .ok (.getfield 30, 3) := by decide +kernel
theorem dX6_turn_13 : decode cX6_turn 13 = .ok (.iload_n 1, 1) := by decide +kernel
theorem dX6_turn_14 : decode cX6_turn 14 = .ok (.imul, 1) := by decide +kernel
theorem dX6_turn_15 : decode cX6_turn 15 = .ok (.ireturn, 1) := by decide +kernel
theorem dX6_turn_16 : decode cX6_turn 16 = .ok (.aload_n 0, 1) := by decide +kernel
theorem dX6_turn_17 : decode cX6_turn 17 = .ok (.getfield 9, 3) := by decide +kernel
theorem dX6_turn_20 : decode cX6_turn 20 = .ok (.bipush 13, 2) := by decide +kernel
theorem dX6_turn_22 : decode cX6_turn 22 = .ok (.if_icmp .ne 16, 3) := by decide +kernel
theorem dX6_turn_25 : decode cX6_turn 25 = .ok (.iconst 2, 1) := by decide +kernel
theorem dX6_turn_26 : decode cX6_turn 26 = .ok (.iload_n 1, 1) := by decide +kernel
theorem dX6_turn_27 : decode cX6_turn 27 = .ok (.aload_n 0, 1) := by decide +kernel
theorem dX6_turn_28 : decode cX6_turn 28 = .ok (.getfield 30, 3) := by decide +kernel
theorem dX6_turn_31 : decode cX6_turn 31 = .ok (.iadd, 1) := by decide +kernel
theorem dX6_turn_32 : decode cX6_turn 32 = .ok (.imul, 1) := by decide +kernel
theorem dX6_turn_33 : decode cX6_turn 33 = .ok (.iconst 1, 1) := by decide +kernel
theorem dX6_turn_34 : decode cX6_turn 34 = .ok (.iadd, 1) := by decide +kernel
theorem dX6_turn_35 : decode cX6_turn 35 = .ok (.goto 9, 3) := by decide +kernel
theorem dX6_turn_38 : decode cX6_turn 38 = .ok (.iload_n 1, 1) := by decide +kernel
theorem dX6_turn_39 : decode cX6_turn 39 = .ok (.aload_n 0, 1) := by decide +kernel
theorem dX6_turn_40 : decode cX6_turn 40 = .ok (.getfield 30, 3) := by decide +kernel
theorem dX6_turn_43 : decode cX6_turn 43 = .ok (.iadd, 1) := by decide +kernel
theorem dX6_turn_44 : decode cX6_turn 44 = .ok (.ireturn, 1) := by decide +kernel
theorem dX7_init_0 : decode cX7_init 0 = .ok (.aload_n 0, 1) := by decide +kernel
theorem dX7_init_1 : decode cX7_init 1 = .ok (.invokespecial 3, 3) := by decide +kernel
theorem dX7_init_4 : decode cX7_init 4 = .ok (.aload_n 0, 1) := by decide +kernel
theorem dX7_init_5 : decode cX7_init 5 = .ok (.aload_n 1, 1) := by decide +kernel
theorem dX7_init_6 : decode cX7_init 6 = .ok (.putfield 9, 3) := by decide +kernel
theorem dX7_init_9 : decode cX7_init 9 = .ok (.return_, 1) := by decide +kernel
theorem dX7_weave_0 : decode cX7_weave 0 = .ok (.aload_n 1, 1) := by decide +kernel
theorem dX7_weave_1 : decode cX7_weave 1 = .ok (.getfield 15, 3) := by decide +kernel
theorem dX7_weave_4 : decode cX7_weave 4 = .ok (.bipush 39, 2) := by decide +kernel
theorem dX7_weave_6 : decode cX7_weave 6 = .ok (.if_icmp .lt 28, 3) := by decide +kernel
theorem dX7_weave_9 : decode cX7_weave 9 = .ok (.aload_n 1, 1) := by decide +kernel
theorem dX7_weave_10 : decode cX7_weave 10 = .ok (.getfield 15, 3) := by decide +kernel
theorem dX7_weave_13 : decode cX7_weave 13 = .ok (.bipush 48, 2) := by decide +kernel
theorem dX7_weave_15 : decode cX7_weave 15 = .ok (.if_icmp .gt 19, 3) := by decide +kernel
theorem dX7_weave_18 : decode cX7_weave 18 = .ok (.aload_n 0, 1) := by decide +kernel
theorem dX7_weave_19 : decode cX7_weave 19 = .ok (.aload_n 1, 1) := by decide +kernel
theorem dX7_weave_20 : decode cX7_weave 20 = .ok (.aload_n 1, 1) := by decide +kernel
theorem dX7_weave_21 : decode cX7_weave 21 = .ok (.getfield 15, 3) := by decide +kernel
theorem dX7_weave_24 : decode cX7_weave 24 = .ok (.bipush 39, 2) := by decide +kernel
theorem dX7_weave_26 : decode cX7_weave 26 = .ok (.isub, 1) := by decide +kernel
theorem dX7_weave_27 : decode cX7_weave 27 = .ok (.invokestatic 21, 3) := by decide +kernel
theorem dX7_weave_30 : decode cX7_weave 30 = .ok (.invokevirtual 25, 3) := by decide +kernel
theorem dX7_weave_33 : decode cX7_weave 33 = .ok (.ireturn, 1) := by decide +kernel
theorem dX7_weave_34 : decode cX7_weave 34 = .ok (.aload_n 1, 1) := by decide +kernel
theorem dX7_weave_35 : decode cX7_weave 35 = .ok (.getfield 15, 3) := by decide +kernel
theorem dX7_weave_38 : decode cX7_weave 38 = .ok (.bipush 49, 2) := by decide +kernel
theorem dX7_weave_40 : decode cX7_weave 40 = .ok (.if_icmp .lt 28, 3) := by decide +kernel
theorem dX7_weave_43 : decode cX7_weave 43 = .ok (.aload_n 1, 1) := by decide +kernel
theorem dX7_weave_44 : decode cX7_weave 44 = .ok (.getfield 15, 3) := by decide +kernel
theorem dX7_weave_47 : decode cX7_weave 47 = .ok (.bipush 58, 2) := by decide +kernel
theorem dX7_weave_49 : decode cX7_weave 49 = .ok (.if_icmp .gt 19, 3) := by decide +kernel
theorem dX7_weave_52 : decode cX7_weave 52 = .ok (.aload_n 0, 1) := by decide +kernel
theorem dX7_weave_53 : decode cX7_weave 53 = .ok (.aload_n 1, 1) := by decide +kernel
theorem dX7_weave_54 : decode cX7_weave 54 = .ok (.aload_n 1, 1) := by decide +kernel
theorem dX7_weave_55 : decode cX7_weave 55 = .ok (.getfield 15, 3) := by decide +kernel
theorem dX7_weave_58 : decode cX7_weave 58 = .ok (.bipush 49, 2) := by decide +kernel
theorem dX7_weave_60 : decode cX7_weave 60 = .ok (.isub, 1) := by decide +kernel
theorem dX7_weave_61 : decode cX7_weave 61 = .ok (.invokestatic 21, 3) := by decide +kernel
theorem dX7_weave_64 : decode cX7_weave 64 = .ok (.invokevirtual 29, 3) := by decide +kernel
theorem dX7_weave_67 : decode cX7_weave 67 = .ok (.ireturn, 1) := by decide +kernel
theorem dX7_weave_68 : decode cX7_weave 68 = .ok (.aload_n 1, 1) := by decide +kernel
theorem dX7_weave_69 : decode cX7_weave 69 = .ok (.getfield 15, 3) := by decide +kernel
theorem dX7_weave_72 : decode cX7_weave 72 = .ok (.bipush 59, 2) := by decide +kernel
theorem dX7_weave_74 : decode cX7_weave 74 = .ok (.if_icmp .lt 18, 3) := by decide +kernel
theorem dX7_weave_77 : decode cX7_weave 77 = .ok (.aload_n 1, 1) := by decide +kernel
theorem dX7_weave_78 : decode cX7_weave 78 = .ok (.getfield 15, 3) := by decide +kernel
theorem dX7_weave_81 : decode cX7_weave 81 = .ok (.bipush 66, 2) := by decide +kernel
theorem dX7_weave_83 : decode cX7_weave 83 = .ok (.if_icmp .gt 9, 3) := by decide +kernel
theorem dX7_weave_86 : decode cX7_weave 86 = .ok (.aload_n 0, 1) := by decide +kernel
theorem dX7_weave_87 : decode cX7_weave 87 = .ok (.aload_n 1, 1) := by decide +kernel
theorem dX7_weave_88 : decode cX7_weave 88 = .ok (.invokevirtual 32, 3) := by decide +kernel
theorem dX7_weave_91 : decode cX7_weave 91 = .ok (.ireturn, 1) := by decide +kernel
theorem dX7_weave_92 : decode cX7_weave 92 = .ok (.aload_n 1, 1) := by decide +kernel
theorem dX7_weave_93 : decode cX7_weave 93 = .ok (.getfield 15, 3) := by decide +kernel
theorem dX7_weave_96 : decode cX7_weave 96 = .ok (.lookupswitch 90 #[(31, 60), (32, 66), (33, 72), (67, 78), (70, 84), (71, 84)], 60) := by decide +kernel
theorem dX7_weave_156 : decode cX7_weave 156 = .ok (.aload_n 0, 1) := by decide +kernel
theorem dX7_weave_157 : decode cX7_weave 157 = .ok (.aload_n 1, 1) := by decide +kernel
theorem dX7_weave_158 : decode cX7_weave 158 = .ok (.invokevirtual 36, 3) := by decide +kernel
theorem dX7_weave_161 : decode cX7_weave 161 = .ok (.ireturn, 1) := by decide +kernel
theorem dX7_weave_162 : decode cX7_weave 162 = .ok (.aload_n 0, 1) := by decide +kernel
theorem dX7_weave_163 : decode cX7_weave 163 = .ok (.aload_n 1, 1) := by decide +kernel
theorem dX7_weave_164 : decode cX7_weave 164 = .ok (.invokevirtual 39, 3) := by decide +kernel
theorem dX7_weave_167 : decode cX7_weave 167 = .ok (.ireturn, 1) := by decide +kernel
theorem dX7_weave_168 : decode cX7_weave 168 = .ok (.aload_n 0, 1) := by decide +kernel
theorem dX7_weave_169 : decode cX7_weave 169 = .ok (.aload_n 1, 1) := by decide +kernel
theorem dX7_weave_170 : decode cX7_weave 170 = .ok (.invokevirtual 42, 3) := by decide +kernel
theorem dX7_weave_173 : decode cX7_weave 173 = .ok (.ireturn, 1) := by decide +kernel
theorem dX7_weave_174 : decode cX7_weave 174 = .ok (.aload_n 0, 1) := by decide +kernel
theorem dX7_weave_175 : decode cX7_weave 175 = .ok (.aload_n 1, 1) := by decide +kernel
theorem dX7_weave_176 : decode cX7_weave 176 = .ok (.invokevirtual 45, 3) := by decide +kernel
theorem dX7_weave_179 : decode cX7_weave 179 = .ok (.ireturn, 1) := by decide +kernel
theorem dX7_weave_180 : decode cX7_weave 180 = .ok (.aload_n 0, 1) := by decide +kernel
theorem dX7_weave_181 : decode cX7_weave 181 = .ok (.aload_n 1, 1) := by decide +kernel
theorem dX7_weave_182 : decode cX7_weave 182 = .ok (.invokevirtual 48, 3) := by decide +kernel
theorem dX7_weave_185 : decode cX7_weave 185 = .ok (.ireturn, 1) := by decide +kernel
theorem dX7_weave_186 : decode cX7_weave 186 = .ok (.aload_n 0, 1) := by decide +kernel
theorem dX7_weave_187 : decode cX7_weave 187 = .ok (.aload_n 1, 1) := by decide +kernel
theorem dX7_weave_188 : decode cX7_weave 188 = .ok (.invokevirtual 51, 3) := by decide +kernel
theorem dX7_weave_191 : decode cX7_weave 191 = .ok (.ireturn, 1) := by decide +kernel
theorem dX7_rowKind_0 : decode cX7_rowKind 0 = .ok (.iload_n 0, 1) := by decide +kernel
theorem dX7_rowKind_1 : decode cX7_rowKind 1 = .ok (.bipush 9, 2) := by decide +kernel
theorem dX7_rowKind_3 : decode cX7_rowKind 3 = .ok (.if_icmp .ne 8, 3) := by decide +kernel
theorem dX7_rowKind_6 : decode cX7_rowKind 6 = .ok (.bipush 10, 2) := by decide +kernel
theorem dX7_rowKind_8 : decode cX7_rowKind 8 = .ok (.goto 4, 3) := by decide +kernel
theorem dX7_rowKind_11 : decode cX7_rowKind 11 = .ok (.iload_n 0, 1) := by decide +kernel
theorem dX7_rowKind_12 : decode cX7_rowKind 12 = .ok (.ireturn, 1) := by decide +kernel
theorem dX7_hasRoom_0 : decode cX7_hasRoom 0 = .ok (.aload_n 0, 1) := by decide +kernel
theorem dX7_hasRoom_1 : decode cX7_hasRoom 1 = .ok (.getfield 54, 3) := by decide +kernel
theorem dX7_hasRoom_4 : decode cX7_hasRoom 4 = .ok (.iload_n 1, 1) := by decide +kernel
theorem dX7_hasRoom_5 : decode cX7_hasRoom 5 = .ok (.iadd, 1) := by decide +kernel
theorem dX7_hasRoom_6 : decode cX7_hasRoom 6 = .ok (.bipush 60, 2) := by decide +kernel
theorem dX7_hasRoom_8 : decode cX7_hasRoom 8 = .ok (.if_icmp .gt 7, 3) := by decide +kernel
theorem dX7_hasRoom_11 : decode cX7_hasRoom 11 = .ok (.iconst 1, 1) := by decide +kernel
theorem dX7_hasRoom_12 : decode cX7_hasRoom 12 = .ok (.goto 4, 3) := by decide +kernel
theorem dX7_hasRoom_15 : decode cX7_hasRoom 15 = .ok (.iconst 0, 1) := by decide +kernel
theorem dX7_hasRoom_16 : decode cX7_hasRoom 16 = .ok (.ireturn, 1) := by decide +kernel
theorem dX7_makeRow_0 : decode cX7_makeRow 0 = .ok (.aload_n 0, 1) := by decide +kernel
theorem dX7_makeRow_1 : decode cX7_makeRow 1 = .ok (.getfield 9, 3) := by decide +kernel
theorem dX7_makeRow_4 : decode cX7_makeRow 4 = .ok (.aload_n 1, 1) := by decide +kernel
theorem dX7_makeRow_5 : decode cX7_makeRow 5 = .ok (.getfield 57, 3) := by decide +kernel
theorem dX7_makeRow_8 : decode cX7_makeRow 8 = .ok (.invokevirtual 60, 3) := by decide +kernel
theorem dX7_makeRow_11 : decode cX7_makeRow 11 = .ok (.istore_n 2, 1) := by decide +kernel
theorem dX7_makeRow_12 : decode cX7_makeRow 12 = .ok (.iload_n 2, 1) := by decide +kernel
theorem dX7_makeRow_13 : decode cX7_makeRow 13 = .ok (.bipush 12, 2) := by decide +kernel
theorem dX7_makeRow_15 : decode cX7_makeRow 15 = .ok (.if_icmp .le 6, 3) := by decide +kernel
theorem dX7_makeRow_18 : decode cX7_makeRow 18 = .ok (.bipush 7, 2) := by decide +kernel
theorem dX7_makeRow_20 : decode cX7_makeRow 20 = .ok (.ireturn, 1) := by decide +kernel
theorem dX7_makeRow_21 : decode cX7_makeRow 21 = .ok (.iload_n 2, 1) := by decide +kernel
theorem dX7_makeRow_22 : decode cX7_makeRow 22 = .ok (.ifCond .ge 5, 3) := by decide +kernel
theorem dX7_makeRow_25 : decode cX7_makeRow 25 = .ok (.iconst 3, 1) := by decide +kernel
theorem dX7_makeRow_26 : decode cX7_makeRow 26 = .ok (.ireturn, 1) := by decide +kernel
theorem dX7_makeRow_27 : decode cX7_makeRow 27 = .ok (.aload_n 0, 1) := by decide +kernel
theorem dX7_makeRow_28 : decode cX7_makeRow 28 = .ok (.iconst 1, 1) := by decide +kernel
theorem dX7_makeRow_29 : decode cX7_makeRow 29 = .ok (.invokevirtual 65, 3) := by decide +kernel
theorem dX7_makeRow_32 : decode cX7_makeRow 32 = .ok (.ifCond .ne 6, 3) := by decide +kernel
theorem dX7_makeRow_35 : decode cX7_makeRow 35 = .ok (.bipush 7, 2) := by decide +kernel
theorem dX7_makeRow_37 : decode cX7_makeRow 37 = .ok (.ireturn, 1) := by decide +kernel
theorem dX7_makeRow_38 : decode cX7_makeRow 38 = .ok (.aload_n 0, 1) := by decide +kernel
theorem dX7_makeRow_39 : decode cX7_makeRow 39 = .ok (.dup, 1) := by decide +kernel
theorem dX7_makeRow_40 : decode cX7_makeRow 40 = .ok (.getfield 54, 3) := by decide +kernel
theorem dX7_makeRow_43 : decode cX7_makeRow 43 = .ok (.iconst 1, 1) := by decide +kernel
theorem dX7_makeRow_44 : decode cX7_makeRow 44 = .ok (.iadd, 1) := by decide +kernel
theorem dX7_makeRow_45 : decode cX7_makeRow 45 = .ok (.putfield 54, 3) := by decide +kernel
theorem dX7_makeRow_48 : decode cX7_makeRow 48 = .ok (.aload_n 0, 1) := by decide +kernel
theorem dX7_makeRow_49 : decode cX7_makeRow 49 = .ok (.getfield 9, 3) := by decide +kernel
theorem dX7_makeRow_52 : decode cX7_makeRow 52 = .ok (.aload_n 1, 1) := by decide +kernel
theorem dX7_makeRow_53 : decode cX7_makeRow 53 = .ok (.getfield 69, 3) := by decide +kernel
theorem dX7_makeRow_56 : decode cX7_makeRow 56 = .ok (.new 72, 3) := by decide +kernel
theorem dX7_makeRow_59 : decode cX7_makeRow 59 = .ok (.dup, 1) := by decide +kernel
theorem dX7_makeRow_60 : decode cX7_makeRow 60 = .ok (.aload_n 1, 1) := by decide +kernel
theorem dX7_makeRow_61 : decode cX7_makeRow 61 = .ok (.getfield 74, 3) := by decide +kernel
theorem dX7_makeRow_64 : decode cX7_makeRow 64 = .ok (.iload_n 2, 1) := by decide +kernel
theorem dX7_makeRow_65 : decode cX7_makeRow 65 = .ok (.invokespecial 77, 3) := by decide +kernel
theorem dX7_makeRow_68 : decode cX7_makeRow 68 = .ok (.invokevirtual 80, 3) := by decide +kernel
theorem dX7_makeRow_71 : decode cX7_makeRow 71 = .ok (.iconst 0, 1) := by decide +kernel
theorem dX7_makeRow_72 : decode cX7_makeRow 72 = .ok (.ireturn, 1) := by decide +kernel
theorem dX7_makeGrid_0 : decode cX7_makeGrid 0 = .ok (.aload_n 0, 1) := by decide +kernel
theorem dX7_makeGrid_1 : decode cX7_makeGrid 1 = .ok (.getfield 9, 3) := by decide +kernel
theorem dX7_makeGrid_4 : decode cX7_makeGrid 4 = .ok (.aload_n 1, 1) := by decide +kernel
theorem dX7_makeGrid_5 : decode cX7_makeGrid 5 = .ok (.getfield 74, 3) := by decide +kernel
theorem dX7_makeGrid_8 : decode cX7_makeGrid 8 = .ok (.invokevirtual 60, 3) := by decide +kernel
theorem dX7_makeGrid_11 : decode cX7_makeGrid 11 = .ok (.istore_n 2, 1) := by decide +kernel
theorem dX7_makeGrid_12 : decode cX7_makeGrid 12 = .ok (.aload_n 0, 1) := by decide +kernel
theorem dX7_makeGrid_13 : decode cX7_makeGrid 13 = .ok (.getfield 9, 3) := by decide +kernel
theorem dX7_makeGrid_16 : decode cX7_makeGrid 16 = .ok (.aload_n 1, 1) := by decide +kernel
theorem dX7_makeGrid_17 : decode cX7_makeGrid 17 = .ok (.getfield 57, 3) := by decide +kernel
theorem dX7_makeGrid_20 : decode cX7_makeGrid 20 = .ok (.invokevirtual 60, 3) := by decide +kernel
theorem dX7_makeGrid_23 : decode cX7_makeGrid 23 = .ok (.istore_n 3, 1) := by decide +kernel
theorem dX7_makeGrid_24 : decode cX7_makeGrid 24 = .ok (.iload_n 2, 1) := by decide +kernel
theorem dX7_makeGrid_25 : decode cX7_makeGrid 25 = .ok (.bipush 6, 2) := by decide +kernel
theorem dX7_makeGrid_27 : decode cX7_makeGrid 27 = .ok (.if_icmp .gt 9, 3) := by decide +kernel
theorem dX7_makeGrid_30 : decode cX7_makeGrid 30 = .ok (.iload_n 3, 1) := by decide +kernel
theorem dX7_makeGrid_31 : decode cX7_makeGrid 31 = .ok (.bipush 6, 2) := by decide +kernel
theorem dX7_makeGrid_33 : decode cX7_makeGrid 33 = .ok (.if_icmp .le 6, 3) := by decide +kernel
theorem dX7_makeGrid_36 : decode cX7_makeGrid 36 = .ok (.bipush 7, 2) := by decide +kernel
theorem dX7_makeGrid_38 : decode cX7_makeGrid 38 = .ok (.ireturn, 1) := by decide +kernel
theorem dX7_makeGrid_39 : decode cX7_makeGrid 39 = .ok (.iload_n 2, 1) := by decide +kernel
theorem dX7_makeGrid_40 : decode cX7_makeGrid 40 = .ok (.ifCond .lt 7, 3) := by decide +kernel
theorem dX7_makeGrid_43 : decode cX7_makeGrid 43 = .ok (.iload_n 3, 1) := by decide +kernel
theorem dX7_makeGrid_44 : decode cX7_makeGrid 44 = .ok (.ifCond .ge 5, 3) := by decide +kernel
theorem dX7_makeGrid_47 : decode cX7_makeGrid 47 = .ok (.iconst 3, 1) := by decide +kernel
theorem dX7_makeGrid_48 : decode cX7_makeGrid 48 = .ok (.ireturn, 1) := by decide +kernel
theorem dX7_makeGrid_49 : decode cX7_makeGrid 49 = .ok (.aload_n 0, 1) := by decide +kernel
theorem dX7_makeGrid_50 : decode cX7_makeGrid 50 = .ok (.iconst 1, 1) := by decide +kernel
theorem dX7_makeGrid_51 : decode cX7_makeGrid 51 = .ok (.iload_n 2, 1) := by decide +kernel
theorem dX7_makeGrid_52 : decode cX7_makeGrid 52 = .ok (.iadd, 1) := by decide +kernel
theorem dX7_makeGrid_53 : decode cX7_makeGrid 53 = .ok (.invokevirtual 65, 3) := by decide +kernel
theorem dX7_makeGrid_56 : decode cX7_makeGrid 56 = .ok (.ifCond .ne 6, 3) := by decide +kernel
theorem dX7_makeGrid_59 : decode cX7_makeGrid 59 = .ok (.bipush 7, 2) := by decide +kernel
theorem dX7_makeGrid_61 : decode cX7_makeGrid 61 = .ok (.ireturn, 1) := by decide +kernel
theorem dX7_makeGrid_62 : decode cX7_makeGrid 62 = .ok (.aload_n 0, 1) := by decide +kernel
theorem dX7_makeGrid_63 : decode cX7_makeGrid 63 = .ok (.dup, 1) := by decide +kernel
theorem dX7_makeGrid_64 : decode cX7_makeGrid 64 = .ok (.getfield 54, 3) := by decide +kernel
theorem dX7_makeGrid_67 : decode cX7_makeGrid 67 = .ok (.iconst 1, 1) := by decide +kernel
theorem dX7_makeGrid_68 : decode cX7_makeGrid 68 = .ok (.iload_n 2, 1) := by decide +kernel
theorem dX7_makeGrid_69 : decode cX7_makeGrid 69 = .ok (.iadd, 1) := by decide +kernel
theorem dX7_makeGrid_70 : decode cX7_makeGrid 70 = .ok (.iadd, 1) := by decide +kernel
theorem dX7_makeGrid_71 : decode cX7_makeGrid 71 = .ok (.putfield 54, 3) := by decide +kernel
theorem dX7_makeGrid_74 : decode cX7_makeGrid 74 = .ok (.new 72, 3) := by decide +kernel
theorem dX7_makeGrid_77 : decode cX7_makeGrid 77 = .ok (.dup, 1) := by decide +kernel
theorem dX7_makeGrid_78 : decode cX7_makeGrid 78 = .ok (.bipush 10, 2) := by decide +kernel
theorem dX7_makeGrid_80 : decode cX7_makeGrid 80 = .ok (.iload_n 2, 1) := by decide +kernel
theorem dX7_makeGrid_81 : decode cX7_makeGrid 81 = .ok (.invokespecial 77, 3) := by decide +kernel
theorem dX7_makeGrid_84 : decode cX7_makeGrid 84 = .ok (.astore 4, 2) := by decide +kernel
theorem dX7_makeGrid_86 : decode cX7_makeGrid 86 = .ok (.iconst 0, 1) := by decide +kernel
theorem dX7_makeGrid_87 : decode cX7_makeGrid 87 = .ok (.istore 5, 2) := by decide +kernel
theorem dX7_makeGrid_89 : decode cX7_makeGrid 89 = .ok (.iload 5, 2) := by decide +kernel
theorem dX7_makeGrid_91 : decode cX7_makeGrid 91 = .ok (.iload_n 2, 1) := by decide +kernel
theorem dX7_makeGrid_92 : decode cX7_makeGrid 92 = .ok (.if_icmp .ge 25, 3) := by decide +kernel
theorem dX7_makeGrid_95 : decode cX7_makeGrid 95 = .ok (.aload 4, 2) := by decide +kernel
theorem dX7_makeGrid_97 : decode cX7_makeGrid 97 = .ok (.iload 5, 2) := by decide +kernel
theorem dX7_makeGrid_99 : decode cX7_makeGrid 99 = .ok (.new 72, 3) := by decide +kernel
theorem dX7_makeGrid_102 : decode cX7_makeGrid 102 = .ok (.dup, 1) := by decide +kernel
theorem dX7_makeGrid_103 : decode cX7_makeGrid 103 = .ok (.iconst 4, 1) := by decide +kernel
theorem dX7_makeGrid_104 : decode cX7_makeGrid 104 = .ok (.iload_n 3, 1) := by decide +kernel
theorem dX7_makeGrid_105 : decode cX7_makeGrid 105 = .ok (.invokespecial 77, 3) := by decide +kernel
theorem dX7_makeGrid_108 : decode cX7_makeGrid 108 = .ok (.invokevirtual 84, 3) := by decide +kernel
theorem dX7_makeGrid_111 : decode cX7_makeGrid 111 = .ok (.iinc 5 1, 3) := by decide +kernel
theorem dX7_makeGrid_114 : decode cX7_makeGrid 114 = .ok (.goto (-25), 3) := by decide +kernel
theorem dX7_makeGrid_117 : decode cX7_makeGrid 117 = .ok (.aload_n 0, 1) := by decide +kernel
theorem dX7_makeGrid_118 : decode cX7_makeGrid 118 = .ok (.getfield 9, 3) := by decide +kernel
theorem dX7_makeGrid_121 : decode cX7_makeGrid 121 = .ok (.aload_n 1, 1) := by decide +kernel
theorem dX7_makeGrid_122 : decode cX7_makeGrid 122 = .ok (.getfield 69, 3) := by decide +kernel
theorem dX7_makeGrid_125 : decode cX7_makeGrid 125 = .ok (.aload 4, 2) := by decide +kernel
theorem dX7_makeGrid_127 : decode cX7_makeGrid 127 = .ok (.invokevirtual 80, 3) := by decide +kernel
theorem dX7_makeGrid_130 : decode cX7_makeGrid 130 = .ok (.iconst 0, 1) := by decide +kernel
theorem dX7_makeGrid_131 : decode cX7_makeGrid 131 = .ok (.ireturn, 1) := by decide +kernel
theorem dX7_makeKnot_0 : decode cX7_makeKnot 0 = .ok (.aload_n 0, 1) := by decide +kernel
theorem dX7_makeKnot_1 : decode cX7_makeKnot 1 = .ok (.iconst 1, 1) := by decide +kernel
theorem dX7_makeKnot_2 : decode cX7_makeKnot 2 = .ok (.invokevirtual 65, 3) := by decide +kernel
theorem dX7_makeKnot_5 : decode cX7_makeKnot 5 = .ok (.ifCond .ne 6, 3) := by decide +kernel
theorem dX7_makeKnot_8 : decode cX7_makeKnot 8 = .ok (.bipush 7, 2) := by decide +kernel
theorem dX7_makeKnot_10 : decode cX7_makeKnot 10 = .ok (.ireturn, 1) := by decide +kernel
theorem dX7_makeKnot_11 : decode cX7_makeKnot 11 = .ok (.aload_n 0, 1) := by decide +kernel
theorem dX7_makeKnot_12 : decode cX7_makeKnot 12 = .ok (.dup, 1) := by decide +kernel
theorem dX7_makeKnot_13 : decode cX7_makeKnot 13 = .ok (.getfield 54, 3) := by decide +kernel
theorem dX7_makeKnot_16 : decode cX7_makeKnot 16 = .ok (.iconst 1, 1) := by decide +kernel
theorem dX7_makeKnot_17 : decode cX7_makeKnot 17 = .ok (.iadd, 1) := by decide +kernel
theorem dX7_makeKnot_18 : decode cX7_makeKnot 18 = .ok (.putfield 54, 3) := by decide +kernel
theorem dX7_makeKnot_21 : decode cX7_makeKnot 21 = .ok (.new 72, 3) := by decide +kernel
theorem dX7_makeKnot_24 : decode cX7_makeKnot 24 = .ok (.dup, 1) := by decide +kernel
theorem dX7_makeKnot_25 : decode cX7_makeKnot 25 = .ok (.aload_n 1, 1) := by decide +kernel
theorem dX7_makeKnot_26 : decode cX7_makeKnot 26 = .ok (.getfield 74, 3) := by decide +kernel
theorem dX7_makeKnot_29 : decode cX7_makeKnot 29 = .ok (.iconst 0, 1) := by decide +kernel
theorem dX7_makeKnot_30 : decode cX7_makeKnot 30 = .ok (.invokespecial 77, 3) := by decide +kernel
theorem dX7_makeKnot_33 : decode cX7_makeKnot 33 = .ok (.astore_n 2, 1) := by decide +kernel
theorem dX7_makeKnot_34 : decode cX7_makeKnot 34 = .ok (.aload_n 2, 1) := by decide +kernel
theorem dX7_makeKnot_35 : decode cX7_makeKnot 35 = .ok (.aload_n 0, 1) := by decide +kernel
theorem dX7_makeKnot_36 : decode cX7_makeKnot 36 = .ok (.getfield 9, 3) := by decide +kernel
theorem dX7_makeKnot_39 : decode cX7_makeKnot 39 = .ok (.aload_n 1, 1) := by decide +kernel
theorem dX7_makeKnot_40 : decode cX7_makeKnot 40 = .ok (.getfield 57, 3) := by decide +kernel
theorem dX7_makeKnot_43 : decode cX7_makeKnot 43 = .ok (.invokevirtual 60, 3) := by decide +kernel
theorem dX7_makeKnot_46 : decode cX7_makeKnot 46 = .ok (.putfield 87, 3) := by decide +kernel
theorem dX7_makeKnot_49 : decode cX7_makeKnot 49 = .ok (.aload_n 0, 1) := by decide +kernel
theorem dX7_makeKnot_50 : decode cX7_makeKnot 50 = .ok (.getfield 9, 3) := by decide +kernel
theorem dX7_makeKnot_53 : decode cX7_makeKnot 53 = .ok (.aload_n 1, 1) := by decide +kernel
theorem dX7_makeKnot_54 : decode cX7_makeKnot 54 = .ok (.getfield 69, 3) := by decide +kernel
theorem dX7_makeKnot_57 : decode cX7_makeKnot 57 = .ok (.aload_n 2, 1) := by decide +kernel
theorem dX7_makeKnot_58 : decode cX7_makeKnot 58 = .ok (.invokevirtual 80, 3) := by decide +kernel
theorem dX7_makeKnot_61 : decode cX7_makeKnot 61 = .ok (.iconst 0, 1) := by decide +kernel
theorem dX7_makeKnot_62 : decode cX7_makeKnot 62 = .ok (.ireturn, 1) := by decide +kernel
theorem dX7_makeFault_0 : decode cX7_makeFault 0 = .ok (.aload_n 0, 1) := by decide +kernel
theorem dX7_makeFault_1 : decode cX7_makeFault 1 = .ok (.getfield 9, 3) := by decide +kernel
theorem dX7_makeFault_4 : decode cX7_makeFault 4 = .ok (.aload_n 1, 1) := by decide +kernel
theorem dX7_makeFault_5 : decode cX7_makeFault 5 = .ok (.getfield 57, 3) := by decide +kernel
theorem dX7_makeFault_8 : decode cX7_makeFault 8 = .ok (.invokevirtual 90, 3) := by decide +kernel
theorem dX7_makeFault_11 : decode cX7_makeFault 11 = .ok (.astore_n 2, 1) := by decide +kernel
theorem dX7_makeFault_12 : decode cX7_makeFault 12 = .ok (.aload_n 2, 1) := by decide +kernel
theorem dX7_makeFault_13 : decode cX7_makeFault 13 = .ok (.bipush 15, 2) := by decide +kernel
theorem dX7_makeFault_15 : decode cX7_makeFault 15 = .ok (.invokestatic 94, 3) := by decide +kernel
theorem dX7_makeFault_18 : decode cX7_makeFault 18 = .ok (.ifCond .eq 5, 3) := by decide +kernel
theorem dX7_makeFault_21 : decode cX7_makeFault 21 = .ok (.iconst 4, 1) := by decide +kernel
theorem dX7_makeFault_22 : decode cX7_makeFault 22 = .ok (.ireturn, 1) := by decide +kernel
theorem dX7_makeFault_23 : decode cX7_makeFault 23 = .ok (.aload_n 0, 1) := by decide +kernel
theorem dX7_makeFault_24 : decode cX7_makeFault 24 = .ok (.iconst 1, 1) := by decide +kernel
theorem dX7_makeFault_25 : decode cX7_makeFault 25 = .ok (.invokevirtual 65, 3) := by decide +kernel
theorem dX7_makeFault_28 : decode cX7_makeFault 28 = .ok (.ifCond .ne 6, 3) := by decide +kernel
theorem dX7_makeFault_31 : decode cX7_makeFault 31 = .ok (.bipush 7, 2) := by decide +kernel
theorem dX7_makeFault_33 : decode cX7_makeFault 33 = .ok (.ireturn, 1) := by decide +kernel
theorem dX7_makeFault_34 : decode cX7_makeFault 34 = .ok (.aload_n 0, 1) := by decide +kernel
theorem dX7_makeFault_35 : decode cX7_makeFault 35 = .ok (.dup, 1) := by decide +kernel
theorem dX7_makeFault_36 : decode cX7_makeFault 36 = .ok (.getfield 54, 3) := by decide +kernel
theorem dX7_makeFault_39 : decode cX7_makeFault 39 = .ok (.iconst 1, 1) := by decide +kernel
theorem dX7_makeFault_40 : decode cX7_makeFault 40 = .ok (.iadd, 1) := by decide +kernel
theorem dX7_makeFault_41 : decode cX7_makeFault 41 = .ok (.putfield 54, 3) := by decide +kernel
theorem dX7_makeFault_44 : decode cX7_makeFault 44 = .ok (.new 72, 3) := by decide +kernel
theorem dX7_makeFault_47 : decode cX7_makeFault 47 = .ok (.dup, 1) := by decide +kernel
theorem dX7_makeFault_48 : decode cX7_makeFault 48 = .ok (.bipush 15, 2) := by decide +kernel
theorem dX7_makeFault_50 : decode cX7_makeFault 50 = .ok (.iconst 0, 1) := by decide +kernel
theorem dX7_makeFault_51 : decode cX7_makeFault 51 = .ok (.invokespecial 77, 3) := by decide +kernel
theorem dX7_makeFault_54 : decode cX7_makeFault 54 = .ok (.astore_n 3, 1) := by decide +kernel
theorem dX7_makeFault_55 : decode cX7_makeFault 55 = .ok (.aload_n 3, 1) := by decide +kernel
theorem dX7_makeFault_56 : decode cX7_makeFault 56 = .ok (.bipush 8, 2) := by decide +kernel
theorem dX7_makeFault_58 : decode cX7_makeFault 58 = .ok (.aload_n 0, 1) := by decide +kernel
theorem dX7_makeFault_59 : decode cX7_makeFault 59 = .ok (.getfield 9, 3) := by decide +kernel
theorem dX7_makeFault_62 : decode cX7_makeFault 62 = .ok (.aload_n 1, 1) := by decide +kernel
theorem dX7_makeFault_63 : decode cX7_makeFault 63 = .ok (.getfield 74, 3) := by decide +kernel
theorem dX7_makeFault_66 : decode cX7_makeFault 66 = .ok (.invokevirtual 60, 3) := by decide +kernel
theorem dX7_makeFault_69 : decode cX7_makeFault 69 = .ok (.bipush 15, 2) := by decide +kernel
theorem dX7_makeFault_71 : decode cX7_makeFault 71 = .ok (.iand, 1) := by decide +kernel
theorem dX7_makeFault_72 : decode cX7_makeFault 72 = .ok (.iadd, 1) := by decide +kernel
theorem dX7_makeFault_73 : decode cX7_makeFault 73 = .ok (.putfield 87, 3) := by decide +kernel
theorem dX7_makeFault_76 : decode cX7_makeFault 76 = .ok (.aload_n 3, 1) := by decide +kernel
theorem dX7_makeFault_77 : decode cX7_makeFault 77 = .ok (.aload_n 2, 1) := by decide +kernel
theorem dX7_makeFault_78 : decode cX7_makeFault 78 = .ok (.putfield 98, 3) := by decide +kernel
theorem dX7_makeFault_81 : decode cX7_makeFault 81 = .ok (.aload_n 0, 1) := by decide +kernel
theorem dX7_makeFault_82 : decode cX7_makeFault 82 = .ok (.getfield 9, 3) := by decide +kernel
theorem dX7_makeFault_85 : decode cX7_makeFault 85 = .ok (.aload_n 1, 1) := by decide +kernel
theorem dX7_makeFault_86 : decode cX7_makeFault 86 = .ok (.getfield 69, 3) := by decide +kernel
theorem dX7_makeFault_89 : decode cX7_makeFault 89 = .ok (.aload_n 3, 1) := by decide +kernel
theorem dX7_makeFault_90 : decode cX7_makeFault 90 = .ok (.invokevirtual 80, 3) := by decide +kernel
theorem dX7_makeFault_93 : decode cX7_makeFault 93 = .ok (.iconst 0, 1) := by decide +kernel
theorem dX7_makeFault_94 : decode cX7_makeFault 94 = .ok (.ireturn, 1) := by decide +kernel
theorem dX7_lookAtThing_0 : decode cX7_lookAtThing 0 = .ok (.aload_n 0, 1) := by decide +kernel
theorem dX7_lookAtThing_1 : decode cX7_lookAtThing 1 = .ok (.getfield 9, 3) := by decide +kernel
theorem dX7_lookAtThing_4 : decode cX7_lookAtThing 4 = .ok (.aload_n 1, 1) := by decide +kernel
theorem dX7_lookAtThing_5 : decode cX7_lookAtThing 5 = .ok (.getfield 74, 3) := by decide +kernel
theorem dX7_lookAtThing_8 : decode cX7_lookAtThing 8 = .ok (.invokevirtual 90, 3) := by decide +kernel
theorem dX7_lookAtThing_11 : decode cX7_lookAtThing 11 = .ok (.astore_n 2, 1) := by decide +kernel
theorem dX7_lookAtThing_12 : decode cX7_lookAtThing 12 = .ok (.aload_n 1, 1) := by decide +kernel
theorem dX7_lookAtThing_13 : decode cX7_lookAtThing 13 = .ok (.getfield 15, 3) := by decide +kernel
theorem dX7_lookAtThing_16 : decode cX7_lookAtThing 16 = .ok (.tableswitch 130 34 37 #[32, 47, 62, 96], 32) := by decide +kernel
theorem dX7_lookAtThing_48 : decode cX7_lookAtThing 48 = .ok (.aload_n 0, 1) := by decide +kernel
theorem dX7_lookAtThing_49 : decode cX7_lookAtThing 49 = .ok (.getfield 9, 3) := by decide +kernel
theorem dX7_lookAtThing_52 : decode cX7_lookAtThing 52 = .ok (.aload_n 1, 1) := by decide +kernel
theorem dX7_lookAtThing_53 : decode cX7_lookAtThing 53 = .ok (.getfield 69, 3) := by decide +kernel
theorem dX7_lookAtThing_56 : decode cX7_lookAtThing 56 = .ok (.aload_n 2, 1) := by decide +kernel
theorem dX7_lookAtThing_57 : decode cX7_lookAtThing 57 = .ok (.invokevirtual 80, 3) := by decide +kernel
theorem dX7_lookAtThing_60 : decode cX7_lookAtThing 60 = .ok (.goto 93, 3) := by decide +kernel
theorem dX7_lookAtThing_63 : decode cX7_lookAtThing 63 = .ok (.aload_n 0, 1) := by decide +kernel
theorem dX7_lookAtThing_64 : decode cX7_lookAtThing 64 = .ok (.getfield 9, 3) := by decide +kernel
theorem dX7_lookAtThing_67 : decode cX7_lookAtThing 67 = .ok (.aload_n 1, 1) := by decide +kernel
theorem dX7_lookAtThing_68 : decode cX7_lookAtThing 68 = .ok (.getfield 69, 3) := by decide +kernel
theorem dX7_lookAtThing_71 : decode cX7_lookAtThing 71 = .ok (.aconst_null, 1) := by decide +kernel
theorem dX7_lookAtThing_72 : decode cX7_lookAtThing 72 = .ok (.invokevirtual 80, 3) := by decide +kernel
theorem dX7_lookAtThing_75 : decode cX7_lookAtThing 75 = .ok (.goto 78, 3) := by decide +kernel
theorem dX7_lookAtThing_78 : decode cX7_lookAtThing 78 = .ok (.aload_n 0, 1) := by decide +kernel
theorem dX7_lookAtThing_79 : decode cX7_lookAtThing 79 = .ok (.getfield 9, 3) := by decide +kernel
theorem dX7_lookAtThing_82 : decode cX7_lookAtThing 82 = .ok (.aload_n 1, 1) := by decide +kernel
theorem dX7_lookAtThing_83 : decode cX7_lookAtThing 83 = .ok (.getfield 69, 3) := by decide +kernel
theorem dX7_lookAtThing_86 : decode cX7_lookAtThing 86 = .ok (.aload_n 2, 1) := by decide +kernel
theorem dX7_lookAtThing_87 : decode cX7_lookAtThing 87 = .ok (.aload_n 0, 1) := by decide +kernel
theorem dX7_lookAtThing_88 : decode cX7_lookAtThing 88 = .ok (.getfield 9, 3) := by decide +kernel
theorem dX7_lookAtThing_91 : decode cX7_lookAtThing 91 = .ok (.aload_n 1, 1) := by decide +kernel
theorem dX7_lookAtThing_92 : decode cX7_lookAtThing 92 = .ok (.getfield 57, 3) := by decide +kernel
theorem dX7_lookAtThing_95 : decode cX7_lookAtThing 95 = .ok (.invokevirtual 90, 3) := by decide +kernel
theorem dX7_lookAtThing_98 : decode cX7_lookAtThing 98 = .ok (.if_acmp .ne 7, 3) := by decide +kernel
theorem dX7_lookAtThing_101 : decode cX7_lookAtThing 101 = .ok (.iconst 1, 1) := by decide +kernel
theorem dX7_lookAtThing_102 : decode cX7_lookAtThing 102 = .ok (.goto 4, 3) := by decide +kernel
theorem dX7_lookAtThing_105 : decode cX7_lookAtThing 105 = .ok (.iconst 0, 1) := by decide +kernel
theorem dX7_lookAtThing_106 : decode cX7_lookAtThing 106 = .ok (.invokevirtual 102, 3) := by decide +kernel
theorem dX7_lookAtThing_109 : decode cX7_lookAtThing 109 = .ok (.goto 44, 3) := by decide +kernel
theorem dX7_lookAtThing_112 : decode cX7_lookAtThing 112 = .ok (.aload_n 0, 1) := by decide +kernel
theorem dX7_lookAtThing_113 : decode cX7_lookAtThing 113 = .ok (.getfield 9, 3) := by decide +kernel
theorem dX7_lookAtThing_116 : decode cX7_lookAtThing 116 = .ok (.aload_n 1, 1) := by decide +kernel
theorem dX7_lookAtThing_117 : decode cX7_lookAtThing 117 = .ok (.getfield 69, 3) := by decide +kernel
theorem dX7_lookAtThing_120 : decode cX7_lookAtThing 120 = .ok (.aload_n 2, 1) := by decide +kernel
theorem dX7_lookAtThing_121 : decode cX7_lookAtThing 121 = .ok (.ifnull 18, 3) := by decide +kernel
theorem dX7_lookAtThing_124 : decode cX7_lookAtThing 124 = .ok (.aload_n 2, 1) := by decide +kernel
theorem dX7_lookAtThing_125 : decode cX7_lookAtThing 125 = .ok (.aload_n 1, 1) := by decide +kernel
theorem dX7_lookAtThing_126 : decode cX7_lookAtThing 126 = .ok (.getfield 57, 3) := by decide +kernel
theorem dX7_lookAtThing_129 : decode cX7_lookAtThing 129 = .ok (.invokevirtual 105, 3) := by decide +kernel
theorem dX7_lookAtThing_132 : decode cX7_lookAtThing 132 = .ok (.ifCond .eq 7, 3) := by decide +kernel
theorem dX7_lookAtThing_135 : decode cX7_lookAtThing 135 = .ok (.iconst 1, 1) := by decide +kernel
theorem dX7_lookAtThing_136 : decode cX7_lookAtThing 136 = .ok (.goto 4, 3) := by decide +kernel
theorem dX7_lookAtThing_139 : decode cX7_lookAtThing 139 = .ok (.iconst 0, 1) := by decide +kernel
theorem dX7_lookAtThing_140 : decode cX7_lookAtThing 140 = .ok (.invokevirtual 102, 3) := by decide +kernel
theorem dX7_lookAtThing_143 : decode cX7_lookAtThing 143 = .ok (.goto 10, 3) := by decide +kernel
theorem dX7_lookAtThing_146 : decode cX7_lookAtThing 146 = .ok (.aload_n 0, 1) := by decide +kernel
theorem dX7_lookAtThing_147 : decode cX7_lookAtThing 147 = .ok (.aload_n 1, 1) := by decide +kernel
theorem dX7_lookAtThing_148 : decode cX7_lookAtThing 148 = .ok (.aload_n 2, 1) := by decide +kernel
theorem dX7_lookAtThing_149 : decode cX7_lookAtThing 149 = .ok (.invokevirtual 108, 3) := by decide +kernel
theorem dX7_lookAtThing_152 : decode cX7_lookAtThing 152 = .ok (.ireturn, 1) := by decide +kernel
theorem dX7_lookAtThing_153 : decode cX7_lookAtThing 153 = .ok (.iconst 0, 1) := by decide +kernel
theorem dX7_lookAtThing_154 : decode cX7_lookAtThing 154 = .ok (.ireturn, 1) := by decide +kernel
theorem dX7_countPlaces_0 : decode cX7_countPlaces 0 = .ok (.aload_n 2, 1) := by decide +kernel
theorem dX7_countPlaces_1 : decode cX7_countPlaces 1 = .ok (.ifnonnull 5, 3) := by decide +kernel
theorem dX7_countPlaces_4 : decode cX7_countPlaces 4 = .ok (.iconst 1, 1) := by decide +kernel
theorem dX7_countPlaces_5 : decode cX7_countPlaces 5 = .ok (.ireturn, 1) := by decide +kernel
theorem dX7_countPlaces_6 : decode cX7_countPlaces 6 = .ok (.aload_n 2, 1) := by decide +kernel
theorem dX7_countPlaces_7 : decode cX7_countPlaces 7 = .ok (.invokevirtual 112, 3) := by decide +kernel
theorem dX7_countPlaces_10 : decode cX7_countPlaces 10 = .ok (.ifCond .ne 5, 3) := by decide +kernel
theorem dX7_countPlaces_13 : decode cX7_countPlaces 13 = .ok (.iconst 4, 1) := by decide +kernel
theorem dX7_countPlaces_14 : decode cX7_countPlaces 14 = .ok (.ireturn, 1) := by decide +kernel
theorem dX7_countPlaces_15 : decode cX7_countPlaces 15 = .ok (.aload_n 0, 1) := by decide +kernel
theorem dX7_countPlaces_16 : decode cX7_countPlaces 16 = .ok (.getfield 9, 3) := by decide +kernel
theorem dX7_countPlaces_19 : decode cX7_countPlaces 19 = .ok (.aload_n 1, 1) := by decide +kernel
theorem dX7_countPlaces_20 : decode cX7_countPlaces 20 = .ok (.getfield 69, 3) := by decide +kernel
theorem dX7_countPlaces_23 : decode cX7_countPlaces 23 = .ok (.aload_n 2, 1) := by decide +kernel
theorem dX7_countPlaces_24 : decode cX7_countPlaces 24 = .ok (.getfield 116, 3) := by decide +kernel
theorem dX7_countPlaces_27 : decode cX7_countPlaces 27 = .ok (.invokevirtual 102, 3) := by decide +kernel
theorem dX7_countPlaces_30 : decode cX7_countPlaces 30 = .ok (.iconst 0, 1) := by decide +kernel
theorem dX7_countPlaces_31 : decode cX7_countPlaces 31 = .ok (.ireturn, 1) := by decide +kernel
theorem dX7_getFromRow_0 : decode cX7_getFromRow 0 = .ok (.aload_n 0, 1) := by decide +kernel
theorem dX7_getFromRow_1 : decode cX7_getFromRow 1 = .ok (.getfield 9, 3) := by decide +kernel
theorem dX7_getFromRow_4 : decode cX7_getFromRow 4 = .ok (.aload_n 1, 1) := by decide +kernel
theorem dX7_getFromRow_5 : decode cX7_getFromRow 5 = .ok (.getfield 74, 3) := by decide +kernel
theorem dX7_getFromRow_8 : decode cX7_getFromRow 8 = .ok (.invokevirtual 90, 3) := by decide +kernel
theorem dX7_getFromRow_11 : decode cX7_getFromRow 11 = .ok (.astore_n 3, 1) := by decide +kernel
theorem dX7_getFromRow_12 : decode cX7_getFromRow 12 = .ok (.aload_n 0, 1) := by decide +kernel
theorem dX7_getFromRow_13 : decode cX7_getFromRow 13 = .ok (.getfield 9, 3) := by decide +kernel
theorem dX7_getFromRow_16 : decode cX7_getFromRow 16 = .ok (.aload_n 1, 1) := by decide +kernel
theorem dX7_getFromRow_17 : decode cX7_getFromRow 17 = .ok (.getfield 57, 3) := by decide +kernel
theorem dX7_getFromRow_20 : decode cX7_getFromRow 20 = .ok (.invokevirtual 60, 3) := by decide +kernel
theorem dX7_getFromRow_23 : decode cX7_getFromRow 23 = .ok (.istore 4, 2) := by decide +kernel
theorem dX7_getFromRow_25 : decode cX7_getFromRow 25 = .ok (.aload_n 3, 1) := by decide +kernel
theorem dX7_getFromRow_26 : decode cX7_getFromRow 26 = .ok (.iload_n 2, 1) := by decide +kernel
theorem dX7_getFromRow_27 : decode cX7_getFromRow 27 = .ok (.invokestatic 94, 3) := by decide +kernel
theorem dX7_getFromRow_30 : decode cX7_getFromRow 30 = .ok (.ifCond .eq 5, 3) := by decide +kernel
theorem dX7_getFromRow_33 : decode cX7_getFromRow 33 = .ok (.iconst 4, 1) := by decide +kernel
theorem dX7_getFromRow_34 : decode cX7_getFromRow 34 = .ok (.ireturn, 1) := by decide +kernel
theorem dX7_getFromRow_35 : decode cX7_getFromRow 35 = .ok (.aload_n 3, 1) := by decide +kernel
theorem dX7_getFromRow_36 : decode cX7_getFromRow 36 = .ok (.ifnonnull 5, 3) := by decide +kernel
theorem dX7_getFromRow_39 : decode cX7_getFromRow 39 = .ok (.iconst 1, 1) := by decide +kernel
theorem dX7_getFromRow_40 : decode cX7_getFromRow 40 = .ok (.ireturn, 1) := by decide +kernel
theorem dX7_getFromRow_41 : decode cX7_getFromRow 41 = .ok (.aload_n 3, 1) := by decide +kernel
theorem dX7_getFromRow_42 : decode cX7_getFromRow 42 = .ok (.iload 4, 2) := by decide +kernel
theorem dX7_getFromRow_44 : decode cX7_getFromRow 44 = .ok (.invokevirtual 119, 3) := by decide +kernel
theorem dX7_getFromRow_47 : decode cX7_getFromRow 47 = .ok (.ifCond .ne 5, 3) := by decide +kernel
theorem dX7_getFromRow_50 : decode cX7_getFromRow 50 = .ok (.iconst 2, 1) := by decide +kernel
theorem dX7_getFromRow_51 : decode cX7_getFromRow 51 = .ok (.ireturn, 1) := by decide +kernel
theorem dX7_getFromRow_52 : decode cX7_getFromRow 52 = .ok (.iload_n 2, 1) := by decide +kernel
theorem dX7_getFromRow_53 : decode cX7_getFromRow 53 = .ok (.iconst 4, 1) := by decide +kernel
theorem dX7_getFromRow_54 : decode cX7_getFromRow 54 = .ok (.if_icmp .gt 24, 3) := by decide +kernel
theorem dX7_getFromRow_57 : decode cX7_getFromRow 57 = .ok (.aload_n 0, 1) := by decide +kernel
theorem dX7_getFromRow_58 : decode cX7_getFromRow 58 = .ok (.getfield 9, 3) := by decide +kernel
theorem dX7_getFromRow_61 : decode cX7_getFromRow 61 = .ok (.aload_n 1, 1) := by decide +kernel
theorem dX7_getFromRow_62 : decode cX7_getFromRow 62 = .ok (.getfield 69, 3) := by decide +kernel
theorem dX7_getFromRow_65 : decode cX7_getFromRow 65 = .ok (.aload_n 3, 1) := by decide +kernel
theorem dX7_getFromRow_66 : decode cX7_getFromRow 66 = .ok (.iload 4, 2) := by decide +kernel
theorem dX7_getFromRow_68 : decode cX7_getFromRow 68 = .ok (.invokevirtual 122, 3) := by decide +kernel
theorem dX7_getFromRow_71 : decode cX7_getFromRow 71 = .ok (.l2i, 1) := by decide +kernel
theorem dX7_getFromRow_72 : decode cX7_getFromRow 72 = .ok (.invokevirtual 102, 3) := by decide +kernel
theorem dX7_getFromRow_75 : decode cX7_getFromRow 75 = .ok (.goto 98, 3) := by decide +kernel
theorem dX7_getFromRow_78 : decode cX7_getFromRow 78 = .ok (.iload_n 2, 1) := by decide +kernel
theorem dX7_getFromRow_79 : decode cX7_getFromRow 79 = .ok (.iconst 5, 1) := by decide +kernel
theorem dX7_getFromRow_80 : decode cX7_getFromRow 80 = .ok (.if_icmp .ne 23, 3) := by decide +kernel
theorem dX7_getFromRow_83 : decode cX7_getFromRow 83 = .ok (.aload_n 0, 1) := by decide +kernel
theorem dX7_getFromRow_84 : decode cX7_getFromRow 84 = .ok (.getfield 9, 3) := by decide +kernel
theorem dX7_getFromRow_87 : decode cX7_getFromRow 87 = .ok (.aload_n 1, 1) := by decide +kernel
theorem dX7_getFromRow_88 : decode cX7_getFromRow 88 = .ok (.getfield 69, 3) := by decide +kernel
theorem dX7_getFromRow_91 : decode cX7_getFromRow 91 = .ok (.aload_n 3, 1) := by decide +kernel
theorem dX7_getFromRow_92 : decode cX7_getFromRow 92 = .ok (.iload 4, 2) := by decide +kernel
theorem dX7_getFromRow_94 : decode cX7_getFromRow 94 = .ok (.invokevirtual 122, 3) := by decide +kernel
theorem dX7_getFromRow_97 : decode cX7_getFromRow 97 = .ok (.invokevirtual 126, 3) := by decide +kernel
theorem dX7_getFromRow_100 : decode cX7_getFromRow 100 = .ok (.goto 73, 3) := by decide +kernel
theorem dX7_getFromRow_103 : decode cX7_getFromRow 103 = .ok (.iload_n 2, 1) := by decide +kernel
theorem dX7_getFromRow_104 : decode cX7_getFromRow 104 = .ok (.bipush 6, 2) := by decide +kernel
theorem dX7_getFromRow_106 : decode cX7_getFromRow 106 = .ok (.if_icmp .ne 24, 3) := by decide +kernel
theorem dX7_getFromRow_109 : decode cX7_getFromRow 109 = .ok (.aload_n 0, 1) := by decide +kernel
theorem dX7_getFromRow_110 : decode cX7_getFromRow 110 = .ok (.getfield 9, 3) := by decide +kernel
theorem dX7_getFromRow_113 : decode cX7_getFromRow 113 = .ok (.aload_n 1, 1) := by decide +kernel
theorem dX7_getFromRow_114 : decode cX7_getFromRow 114 = .ok (.getfield 69, 3) := by decide +kernel
theorem dX7_getFromRow_117 : decode cX7_getFromRow 117 = .ok (.aload_n 3, 1) := by decide +kernel
theorem dX7_getFromRow_118 : decode cX7_getFromRow 118 = .ok (.iload 4, 2) := by decide +kernel
theorem dX7_getFromRow_120 : decode cX7_getFromRow 120 = .ok (.invokevirtual 130, 3) := by decide +kernel
theorem dX7_getFromRow_123 : decode cX7_getFromRow 123 = .ok (.d2f, 1) := by decide +kernel
theorem dX7_getFromRow_124 : decode cX7_getFromRow 124 = .ok (.invokevirtual 134, 3) := by decide +kernel
theorem dX7_getFromRow_127 : decode cX7_getFromRow 127 = .ok (.goto 46, 3) := by decide +kernel
theorem dX7_getFromRow_130 : decode cX7_getFromRow 130 = .ok (.iload_n 2, 1) := by decide +kernel
theorem dX7_getFromRow_131 : decode cX7_getFromRow 131 = .ok (.bipush 7, 2) := by decide +kernel
theorem dX7_getFromRow_133 : decode cX7_getFromRow 133 = .ok (.if_icmp .ne 23, 3) := by decide +kernel
theorem dX7_getFromRow_136 : decode cX7_getFromRow 136 = .ok (.aload_n 0, 1) := by decide +kernel
theorem dX7_getFromRow_137 : decode cX7_getFromRow 137 = .ok (.getfield 9, 3) := by decide +kernel
theorem dX7_getFromRow_140 : decode cX7_getFromRow 140 = .ok (.aload_n 1, 1) := by decide +kernel
theorem dX7_getFromRow_141 : decode cX7_getFromRow 141 = .ok (.getfield 69, 3) := by decide +kernel
theorem dX7_getFromRow_144 : decode cX7_getFromRow 144 = .ok (.aload_n 3, 1) := by decide +kernel
theorem dX7_getFromRow_145 : decode cX7_getFromRow 145 = .ok (.iload 4, 2) := by decide +kernel
theorem dX7_getFromRow_147 : decode cX7_getFromRow 147 = .ok (.invokevirtual 130, 3) := by decide +kernel
theorem dX7_getFromRow_150 : decode cX7_getFromRow 150 = .ok (.invokevirtual 138, 3) := by decide +kernel
theorem dX7_getFromRow_153 : decode cX7_getFromRow 153 = .ok (.goto 20, 3) := by decide +kernel
theorem dX7_getFromRow_156 : decode cX7_getFromRow 156 = .ok (.aload_n 0, 1) := by decide +kernel
theorem dX7_getFromRow_157 : decode cX7_getFromRow 157 = .ok (.getfield 9, 3) := by decide +kernel
theorem dX7_getFromRow_160 : decode cX7_getFromRow 160 = .ok (.aload_n 1, 1) := by decide +kernel
theorem dX7_getFromRow_161 : decode cX7_getFromRow 161 = .ok (.getfield 69, 3) := by decide +kernel
theorem dX7_getFromRow_164 : decode cX7_getFromRow 164 = .ok (.aload_n 3, 1) := by decide +kernel
theorem dX7_getFromRow_165 : decode cX7_getFromRow 165 = .ok (.iload 4, 2) := by decide +kernel
theorem dX7_getFromRow_167 : decode cX7_getFromRow 167 = .ok (.invokevirtual 142, 3) := by decide +kernel
theorem dX7_getFromRow_170 : decode cX7_getFromRow 170 = .ok (.invokevirtual 80, 3) := by decide +kernel
theorem dX7_getFromRow_173 : decode cX7_getFromRow 173 = .ok (.iconst 0, 1) := by decide +kernel
theorem dX7_getFromRow_174 : decode cX7_getFromRow 174 = .ok (.ireturn, 1) := by decide +kernel
theorem dX7_putIntoRow_0 : decode cX7_putIntoRow 0 = .ok (.aload_n 0, 1) := by decide +kernel
theorem dX7_putIntoRow_1 : decode cX7_putIntoRow 1 = .ok (.getfield 9, 3) := by decide +kernel
theorem dX7_putIntoRow_4 : decode cX7_putIntoRow 4 = .ok (.aload_n 1, 1) := by decide +kernel
theorem dX7_putIntoRow_5 : decode cX7_putIntoRow 5 = .ok (.getfield 74, 3) := by decide +kernel
theorem dX7_putIntoRow_8 : decode cX7_putIntoRow 8 = .ok (.invokevirtual 90, 3) := by decide +kernel
theorem dX7_putIntoRow_11 : decode cX7_putIntoRow 11 = .ok (.astore_n 3, 1) := by decide +kernel
theorem dX7_putIntoRow_12 : decode cX7_putIntoRow 12 = .ok (.iload_n 2, 1) := by decide +kernel
theorem dX7_putIntoRow_13 : decode cX7_putIntoRow 13 = .ok (.bipush 8, 2) := by decide +kernel
theorem dX7_putIntoRow_15 : decode cX7_putIntoRow 15 = .ok (.if_icmp .lt 17, 3) := by decide +kernel
theorem dX7_putIntoRow_18 : decode cX7_putIntoRow 18 = .ok (.aload_n 0, 1) := by decide +kernel
theorem dX7_putIntoRow_19 : decode cX7_putIntoRow 19 = .ok (.getfield 9, 3) := by decide +kernel
theorem dX7_putIntoRow_22 : decode cX7_putIntoRow 22 = .ok (.aload_n 1, 1) := by decide +kernel
theorem dX7_putIntoRow_23 : decode cX7_putIntoRow 23 = .ok (.getfield 69, 3) := by decide +kernel
theorem dX7_putIntoRow_26 : decode cX7_putIntoRow 26 = .ok (.invokevirtual 90, 3) := by decide +kernel
theorem dX7_putIntoRow_29 : decode cX7_putIntoRow 29 = .ok (.goto 4, 3) := by decide +kernel
theorem dX7_putIntoRow_32 : decode cX7_putIntoRow 32 = .ok (.aconst_null, 1) := by decide +kernel
theorem dX7_putIntoRow_33 : decode cX7_putIntoRow 33 = .ok (.astore 4, 2) := by decide +kernel
theorem dX7_putIntoRow_35 : decode cX7_putIntoRow 35 = .ok (.aload_n 0, 1) := by decide +kernel
theorem dX7_putIntoRow_36 : decode cX7_putIntoRow 36 = .ok (.getfield 9, 3) := by decide +kernel
theorem dX7_putIntoRow_39 : decode cX7_putIntoRow 39 = .ok (.aload_n 1, 1) := by decide +kernel
theorem dX7_putIntoRow_40 : decode cX7_putIntoRow 40 = .ok (.getfield 57, 3) := by decide +kernel
theorem dX7_putIntoRow_43 : decode cX7_putIntoRow 43 = .ok (.invokevirtual 60, 3) := by decide +kernel
theorem dX7_putIntoRow_46 : decode cX7_putIntoRow 46 = .ok (.istore 5, 2) := by decide +kernel
theorem dX7_putIntoRow_48 : decode cX7_putIntoRow 48 = .ok (.aload_n 3, 1) := by decide +kernel
theorem dX7_putIntoRow_49 : decode cX7_putIntoRow 49 = .ok (.iload_n 2, 1) := by decide +kernel
theorem dX7_putIntoRow_50 : decode cX7_putIntoRow 50 = .ok (.invokestatic 94, 3) := by decide +kernel
theorem dX7_putIntoRow_53 : decode cX7_putIntoRow 53 = .ok (.ifCond .ne 23, 3) := by decide +kernel
theorem dX7_putIntoRow_56 : decode cX7_putIntoRow 56 = .ok (.aload 4, 2) := by decide +kernel
theorem dX7_putIntoRow_58 : decode cX7_putIntoRow 58 = .ok (.iload_n 2, 1) := by decide +kernel
theorem dX7_putIntoRow_59 : decode cX7_putIntoRow 59 = .ok (.bipush 10, 2) := by decide +kernel
theorem dX7_putIntoRow_61 : decode cX7_putIntoRow 61 = .ok (.if_icmp .ne 7, 3) := by decide +kernel
theorem dX7_putIntoRow_64 : decode cX7_putIntoRow 64 = .ok (.iconst 4, 1) := by decide +kernel
theorem dX7_putIntoRow_65 : decode cX7_putIntoRow 65 = .ok (.goto 5, 3) := by decide +kernel
theorem dX7_putIntoRow_68 : decode cX7_putIntoRow 68 = .ok (.bipush 11, 2) := by decide +kernel
theorem dX7_putIntoRow_70 : decode cX7_putIntoRow 70 = .ok (.invokestatic 94, 3) := by decide +kernel
theorem dX7_putIntoRow_73 : decode cX7_putIntoRow 73 = .ok (.ifCond .eq 5, 3) := by decide +kernel
theorem dX7_putIntoRow_76 : decode cX7_putIntoRow 76 = .ok (.iconst 4, 1) := by decide +kernel
theorem dX7_putIntoRow_77 : decode cX7_putIntoRow 77 = .ok (.ireturn, 1) := by decide +kernel
theorem dX7_putIntoRow_78 : decode cX7_putIntoRow 78 = .ok (.aload_n 3, 1) := by decide +kernel
theorem dX7_putIntoRow_79 : decode cX7_putIntoRow 79 = .ok (.ifnonnull 5, 3) := by decide +kernel
theorem dX7_putIntoRow_82 : decode cX7_putIntoRow 82 = .ok (.iconst 1, 1) := by decide +kernel
theorem dX7_putIntoRow_83 : decode cX7_putIntoRow 83 = .ok (.ireturn, 1) := by decide +kernel
theorem dX7_putIntoRow_84 : decode cX7_putIntoRow 84 = .ok (.aload_n 3, 1) := by decide +kernel
theorem dX7_putIntoRow_85 : decode cX7_putIntoRow 85 = .ok (.iload 5, 2) := by decide +kernel
theorem dX7_putIntoRow_87 : decode cX7_putIntoRow 87 = .ok (.invokevirtual 119, 3) := by decide +kernel
theorem dX7_putIntoRow_90 : decode cX7_putIntoRow 90 = .ok (.ifCond .ne 5, 3) := by decide +kernel
theorem dX7_putIntoRow_93 : decode cX7_putIntoRow 93 = .ok (.iconst 2, 1) := by decide +kernel
theorem dX7_putIntoRow_94 : decode cX7_putIntoRow 94 = .ok (.ireturn, 1) := by decide +kernel
theorem dX7_putIntoRow_95 : decode cX7_putIntoRow 95 = .ok (.aload_n 3, 1) := by decide +kernel
theorem dX7_putIntoRow_96 : decode cX7_putIntoRow 96 = .ok (.getfield 145, 3) := by decide +kernel
theorem dX7_putIntoRow_99 : decode cX7_putIntoRow 99 = .ok (.bipush 9, 2) := by decide +kernel
theorem dX7_putIntoRow_101 : decode cX7_putIntoRow 101 = .ok (.if_icmp .ne 15, 3) := by decide +kernel
theorem dX7_putIntoRow_104 : decode cX7_putIntoRow 104 = .ok (.aload 4, 2) := by decide +kernel
theorem dX7_putIntoRow_106 : decode cX7_putIntoRow 106 = .ok (.bipush 12, 2) := by decide +kernel
theorem dX7_putIntoRow_108 : decode cX7_putIntoRow 108 = .ok (.invokestatic 94, 3) := by decide +kernel
theorem dX7_putIntoRow_111 : decode cX7_putIntoRow 111 = .ok (.ifCond .eq 5, 3) := by decide +kernel
theorem dX7_putIntoRow_114 : decode cX7_putIntoRow 114 = .ok (.iconst 5, 1) := by decide +kernel
theorem dX7_putIntoRow_115 : decode cX7_putIntoRow 115 = .ok (.ireturn, 1) := by decide +kernel
theorem dX7_putIntoRow_116 : decode cX7_putIntoRow 116 = .ok (.iload_n 2, 1) := by decide +kernel
theorem dX7_putIntoRow_117 : decode cX7_putIntoRow 117 = .ok (.iconst 4, 1) := by decide +kernel
theorem dX7_putIntoRow_118 : decode cX7_putIntoRow 118 = .ok (.if_icmp .gt 28, 3) := by decide +kernel
theorem dX7_putIntoRow_121 : decode cX7_putIntoRow 121 = .ok (.aload_n 3, 1) := by decide +kernel
theorem dX7_putIntoRow_122 : decode cX7_putIntoRow 122 = .ok (.iload 5, 2) := by decide +kernel
theorem dX7_putIntoRow_124 : decode cX7_putIntoRow 124 = .ok (.iload_n 2, 1) := by decide +kernel
theorem dX7_putIntoRow_125 : decode cX7_putIntoRow 125 = .ok (.aload_n 0, 1) := by decide +kernel
theorem dX7_putIntoRow_126 : decode cX7_putIntoRow 126 = .ok (.getfield 9, 3) := by decide +kernel
theorem dX7_putIntoRow_129 : decode cX7_putIntoRow 129 = .ok (.aload_n 1, 1) := by decide +kernel
theorem dX7_putIntoRow_130 : decode cX7_putIntoRow 130 = .ok (.getfield 69, 3) := by decide +kernel
theorem dX7_putIntoRow_133 : decode cX7_putIntoRow 133 = .ok (.invokevirtual 60, 3) := by decide +kernel
theorem dX7_putIntoRow_136 : decode cX7_putIntoRow 136 = .ok (.invokestatic 148, 3) := by decide +kernel
theorem dX7_putIntoRow_139 : decode cX7_putIntoRow 139 = .ok (.i2l, 1) := by decide +kernel
theorem dX7_putIntoRow_140 : decode cX7_putIntoRow 140 = .ok (.invokevirtual 152, 3) := by decide +kernel
theorem dX7_putIntoRow_143 : decode cX7_putIntoRow 143 = .ok (.goto 89, 3) := by decide +kernel
theorem dX7_putIntoRow_146 : decode cX7_putIntoRow 146 = .ok (.iload_n 2, 1) := by decide +kernel
theorem dX7_putIntoRow_147 : decode cX7_putIntoRow 147 = .ok (.iconst 5, 1) := by decide +kernel
theorem dX7_putIntoRow_148 : decode cX7_putIntoRow 148 = .ok (.if_icmp .ne 23, 3) := by decide +kernel
theorem dX7_putIntoRow_151 : decode cX7_putIntoRow 151 = .ok (.aload_n 3, 1) := by decide +kernel
theorem dX7_putIntoRow_152 : decode cX7_putIntoRow 152 = .ok (.iload 5, 2) := by decide +kernel
theorem dX7_putIntoRow_154 : decode cX7_putIntoRow 154 = .ok (.aload_n 0, 1) := by decide +kernel
theorem dX7_putIntoRow_155 : decode cX7_putIntoRow 155 = .ok (.getfield 9, 3) := by decide +kernel
theorem dX7_putIntoRow_158 : decode cX7_putIntoRow 158 = .ok (.aload_n 1, 1) := by decide +kernel
theorem dX7_putIntoRow_159 : decode cX7_putIntoRow 159 = .ok (.getfield 69, 3) := by decide +kernel
theorem dX7_putIntoRow_162 : decode cX7_putIntoRow 162 = .ok (.invokevirtual 155, 3) := by decide +kernel
theorem dX7_putIntoRow_165 : decode cX7_putIntoRow 165 = .ok (.invokevirtual 152, 3) := by decide +kernel
theorem dX7_putIntoRow_168 : decode cX7_putIntoRow 168 = .ok (.goto 64, 3) := by decide +kernel
theorem dX7_putIntoRow_171 : decode cX7_putIntoRow 171 = .ok (.iload_n 2, 1) := by decide +kernel
theorem dX7_putIntoRow_172 : decode cX7_putIntoRow 172 = .ok (.bipush 6, 2) := by decide +kernel
theorem dX7_putIntoRow_174 : decode cX7_putIntoRow 174 = .ok (.if_icmp .ne 24, 3) := by decide +kernel
theorem dX7_putIntoRow_177 : decode cX7_putIntoRow 177 = .ok (.aload_n 3, 1) := by decide +kernel
theorem dX7_putIntoRow_178 : decode cX7_putIntoRow 178 = .ok (.iload 5, 2) := by decide +kernel
theorem dX7_putIntoRow_180 : decode cX7_putIntoRow 180 = .ok (.aload_n 0, 1) := by decide +kernel
theorem dX7_putIntoRow_181 : decode cX7_putIntoRow 181 = .ok (.getfield 9, 3) := by decide +kernel
theorem dX7_putIntoRow_184 : decode cX7_putIntoRow 184 = .ok (.aload_n 1, 1) := by decide +kernel
theorem dX7_putIntoRow_185 : decode cX7_putIntoRow 185 = .ok (.getfield 69, 3) := by decide +kernel
theorem dX7_putIntoRow_188 : decode cX7_putIntoRow 188 = .ok (.invokevirtual 158, 3) := by decide +kernel
theorem dX7_putIntoRow_191 : decode cX7_putIntoRow 191 = .ok (.f2d, 1) := by decide +kernel
theorem dX7_putIntoRow_192 : decode cX7_putIntoRow 192 = .ok (.invokevirtual 162, 3) := by decide +kernel
theorem dX7_putIntoRow_195 : decode cX7_putIntoRow 195 = .ok (.goto 37, 3) := by decide +kernel
theorem dX7_putIntoRow_198 : decode cX7_putIntoRow 198 = .ok (.iload_n 2, 1) := by decide +kernel
theorem dX7_putIntoRow_199 : decode cX7_putIntoRow 199 = .ok (.bipush 7, 2) := by decide +kernel
theorem dX7_putIntoRow_201 : decode cX7_putIntoRow 201 = .ok (.if_icmp .ne 23, 3) := by decide +kernel
theorem dX7_putIntoRow_204 : decode cX7_putIntoRow 204 = .ok (.aload_n 3, 1) := by decide +kernel
theorem dX7_putIntoRow_205 : decode cX7_putIntoRow 205 = .ok (.iload 5, 2) := by decide +kernel
theorem dX7_putIntoRow_207 : decode cX7_putIntoRow 207 = .ok (.aload_n 0, 1) := by decide +kernel
theorem dX7_putIntoRow_208 : decode cX7_putIntoRow 208 = .ok (.getfield 9, 3) := by decide +kernel
theorem dX7_putIntoRow_211 : decode cX7_putIntoRow 211 = .ok (.aload_n 1, 1) := by decide +kernel
theorem dX7_putIntoRow_212 : decode cX7_putIntoRow 212 = .ok (.getfield 69, 3) := by decide +kernel
theorem dX7_putIntoRow_215 : decode cX7_putIntoRow 215 = .ok (.invokevirtual 165, 3) := by decide +kernel
theorem dX7_putIntoRow_218 : decode cX7_putIntoRow 218 = .ok (.invokevirtual 162, 3) := by decide +kernel
theorem dX7_putIntoRow_221 : decode cX7_putIntoRow 221 = .ok (.goto 11, 3) := by decide +kernel
theorem dX7_putIntoRow_224 : decode cX7_putIntoRow 224 = .ok (.aload_n 3, 1) := by decide +kernel
theorem dX7_putIntoRow_225 : decode cX7_putIntoRow 225 = .ok (.iload 5, 2) := by decide +kernel
theorem dX7_putIntoRow_227 : decode cX7_putIntoRow 227 = .ok (.aload 4, 2) := by decide +kernel
theorem dX7_putIntoRow_229 : decode cX7_putIntoRow 229 = .ok (.invokevirtual 84, 3) := by decide +kernel
theorem dX7_putIntoRow_232 : decode cX7_putIntoRow 232 = .ok (.iconst 0, 1) := by decide +kernel
theorem dX7_putIntoRow_233 : decode cX7_putIntoRow 233 = .ok (.ireturn, 1) := by decide +kernel
theorem dX7_narrow_0 : decode cX7_narrow 0 = .ok (.iload_n 0, 1) := by decide +kernel
theorem dX7_narrow_1 : decode cX7_narrow 1 = .ok (.tableswitch 44 0 3 #[31, 35, 38, 41], 31) := by decide +kernel
theorem dX7_narrow_32 : decode cX7_narrow 32 = .ok (.iload_n 1, 1) := by decide +kernel
theorem dX7_narrow_33 : decode cX7_narrow 33 = .ok (.iconst 1, 1) := by decide +kernel
theorem dX7_narrow_34 : decode cX7_narrow 34 = .ok (.iand, 1) := by decide +kernel
theorem dX7_narrow_35 : decode cX7_narrow 35 = .ok (.ireturn, 1) := by decide +kernel
theorem dX7_narrow_36 : decode cX7_narrow 36 = .ok (.iload_n 1, 1) := by decide +kernel
theorem dX7_narrow_37 : decode cX7_narrow 37 = .ok (.i2b, 1) := by decide +kernel
theorem dX7_narrow_38 : decode cX7_narrow 38 = .ok (.ireturn, 1) := by decide +kernel
theorem dX7_narrow_39 : decode cX7_narrow 39 = .ok (.iload_n 1, 1) := by decide +kernel
theorem dX7_narrow_40 : decode cX7_narrow 40 = .ok (.i2c, 1) := by decide +kernel
theorem dX7_narrow_41 : decode cX7_narrow 41 = .ok (.ireturn, 1) := by decide +kernel
theorem dX7_narrow_42 : decode cX7_narrow 42 = .ok (.iload_n 1, 1) := by decide +kernel
theorem dX7_narrow_43 : decode cX7_narrow 43 = .ok (.i2s, 1) := by decide +kernel
theorem dX7_narrow_44 : decode cX7_narrow 44 = .ok (.ireturn, 1) := by decide +kernel
theorem dX7_narrow_45 : decode cX7_narrow 45 = .ok (.iload_n 1, 1) := by decide +kernel
theorem dX7_narrow_46 : decode cX7_narrow 46 = .ok (.ireturn, 1) := by decide +kernel
theorem dX7_useKnot_0 : decode cX7_useKnot 0 = .ok (.aload_n 0, 1) := by decide +kernel
theorem dX7_useKnot_1 : decode cX7_useKnot 1 = .ok (.getfield 9, 3) := by decide +kernel
theorem dX7_useKnot_4 : decode cX7_useKnot 4 = .ok (.aload_n 1, 1) := by decide +kernel
theorem dX7_useKnot_5 : decode cX7_useKnot 5 = .ok (.getfield 74, 3) := by decide +kernel
theorem dX7_useKnot_8 : decode cX7_useKnot 8 = .ok (.invokevirtual 90, 3) := by decide +kernel
theorem dX7_useKnot_11 : decode cX7_useKnot 11 = .ok (.astore_n 2, 1) := by decide +kernel
theorem dX7_useKnot_12 : decode cX7_useKnot 12 = .ok (.aload_n 2, 1) := by decide +kernel
theorem dX7_useKnot_13 : decode cX7_useKnot 13 = .ok (.aload_n 1, 1) := by decide +kernel
theorem dX7_useKnot_14 : decode cX7_useKnot 14 = .ok (.getfield 15, 3) := by decide +kernel
theorem dX7_useKnot_17 : decode cX7_useKnot 17 = .ok (.bipush 66, 2) := by decide +kernel
theorem dX7_useKnot_19 : decode cX7_useKnot 19 = .ok (.if_icmp .ne 8, 3) := by decide +kernel
theorem dX7_useKnot_22 : decode cX7_useKnot 22 = .ok (.bipush 16, 2) := by decide +kernel
theorem dX7_useKnot_24 : decode cX7_useKnot 24 = .ok (.goto 5, 3) := by decide +kernel
theorem dX7_useKnot_27 : decode cX7_useKnot 27 = .ok (.bipush 11, 2) := by decide +kernel
theorem dX7_useKnot_29 : decode cX7_useKnot 29 = .ok (.invokestatic 94, 3) := by decide +kernel
theorem dX7_useKnot_32 : decode cX7_useKnot 32 = .ok (.ifCond .eq 5, 3) := by decide +kernel
theorem dX7_useKnot_35 : decode cX7_useKnot 35 = .ok (.iconst 4, 1) := by decide +kernel
theorem dX7_useKnot_36 : decode cX7_useKnot 36 = .ok (.ireturn, 1) := by decide +kernel
theorem dX7_useKnot_37 : decode cX7_useKnot 37 = .ok (.aload_n 1, 1) := by decide +kernel
theorem dX7_useKnot_38 : decode cX7_useKnot 38 = .ok (.getfield 15, 3) := by decide +kernel
theorem dX7_useKnot_41 : decode cX7_useKnot 41 = .ok (.bipush 64, 2) := by decide +kernel
theorem dX7_useKnot_43 : decode cX7_useKnot 43 = .ok (.if_icmp .ne 24, 3) := by decide +kernel
theorem dX7_useKnot_46 : decode cX7_useKnot 46 = .ok (.aload_n 0, 1) := by decide +kernel
theorem dX7_useKnot_47 : decode cX7_useKnot 47 = .ok (.getfield 9, 3) := by decide +kernel
theorem dX7_useKnot_50 : decode cX7_useKnot 50 = .ok (.aload_n 1, 1) := by decide +kernel
theorem dX7_useKnot_51 : decode cX7_useKnot 51 = .ok (.getfield 69, 3) := by decide +kernel
theorem dX7_useKnot_54 : decode cX7_useKnot 54 = .ok (.invokevirtual 90, 3) := by decide +kernel
theorem dX7_useKnot_57 : decode cX7_useKnot 57 = .ok (.bipush 11, 2) := by decide +kernel
theorem dX7_useKnot_59 : decode cX7_useKnot 59 = .ok (.invokestatic 94, 3) := by decide +kernel
theorem dX7_useKnot_62 : decode cX7_useKnot 62 = .ok (.ifCond .eq 5, 3) := by decide +kernel
theorem dX7_useKnot_65 : decode cX7_useKnot 65 = .ok (.iconst 4, 1) := by decide +kernel
theorem dX7_useKnot_66 : decode cX7_useKnot 66 = .ok (.ireturn, 1) := by decide +kernel
theorem dX7_useKnot_67 : decode cX7_useKnot 67 = .ok (.aload_n 2, 1) := by decide +kernel
theorem dX7_useKnot_68 : decode cX7_useKnot 68 = .ok (.ifnonnull 5, 3) := by decide +kernel
theorem dX7_useKnot_71 : decode cX7_useKnot 71 = .ok (.iconst 1, 1) := by decide +kernel
theorem dX7_useKnot_72 : decode cX7_useKnot 72 = .ok (.ireturn, 1) := by decide +kernel
theorem dX7_useKnot_73 : decode cX7_useKnot 73 = .ok (.aload_n 1, 1) := by decide +kernel
theorem dX7_useKnot_74 : decode cX7_useKnot 74 = .ok (.getfield 15, 3) := by decide +kernel
theorem dX7_useKnot_77 : decode cX7_useKnot 77 = .ok (.tableswitch 147 59 64 #[39, 57, 75, 93, 111, 129], 39) := by decide +kernel
theorem dX7_useKnot_116 : decode cX7_useKnot 116 = .ok (.aload_n 0, 1) := by decide +kernel
theorem dX7_useKnot_117 : decode cX7_useKnot 117 = .ok (.getfield 9, 3) := by decide +kernel
theorem dX7_useKnot_120 : decode cX7_useKnot 120 = .ok (.aload_n 1, 1) := by decide +kernel
theorem dX7_useKnot_121 : decode cX7_useKnot 121 = .ok (.getfield 69, 3) := by decide +kernel
theorem dX7_useKnot_124 : decode cX7_useKnot 124 = .ok (.aload_n 2, 1) := by decide +kernel
theorem dX7_useKnot_125 : decode cX7_useKnot 125 = .ok (.getfield 87, 3) := by decide +kernel
theorem dX7_useKnot_128 : decode cX7_useKnot 128 = .ok (.invokevirtual 102, 3) := by decide +kernel
theorem dX7_useKnot_131 : decode cX7_useKnot 131 = .ok (.goto 119, 3) := by decide +kernel
theorem dX7_useKnot_134 : decode cX7_useKnot 134 = .ok (.aload_n 2, 1) := by decide +kernel
theorem dX7_useKnot_135 : decode cX7_useKnot 135 = .ok (.aload_n 0, 1) := by decide +kernel
theorem dX7_useKnot_136 : decode cX7_useKnot 136 = .ok (.getfield 9, 3) := by decide +kernel
theorem dX7_useKnot_139 : decode cX7_useKnot 139 = .ok (.aload_n 1, 1) := by decide +kernel
theorem dX7_useKnot_140 : decode cX7_useKnot 140 = .ok (.getfield 69, 3) := by decide +kernel
theorem dX7_useKnot_143 : decode cX7_useKnot 143 = .ok (.invokevirtual 60, 3) := by decide +kernel
theorem dX7_useKnot_146 : decode cX7_useKnot 146 = .ok (.putfield 87, 3) := by decide +kernel
theorem dX7_useKnot_149 : decode cX7_useKnot 149 = .ok (.goto 101, 3) := by decide +kernel
theorem dX7_useKnot_152 : decode cX7_useKnot 152 = .ok (.aload_n 0, 1) := by decide +kernel
theorem dX7_useKnot_153 : decode cX7_useKnot 153 = .ok (.getfield 9, 3) := by decide +kernel
theorem dX7_useKnot_156 : decode cX7_useKnot 156 = .ok (.aload_n 1, 1) := by decide +kernel
theorem dX7_useKnot_157 : decode cX7_useKnot 157 = .ok (.getfield 69, 3) := by decide +kernel
theorem dX7_useKnot_160 : decode cX7_useKnot 160 = .ok (.aload_n 2, 1) := by decide +kernel
theorem dX7_useKnot_161 : decode cX7_useKnot 161 = .ok (.getfield 168, 3) := by decide +kernel
theorem dX7_useKnot_164 : decode cX7_useKnot 164 = .ok (.invokevirtual 126, 3) := by decide +kernel
theorem dX7_useKnot_167 : decode cX7_useKnot 167 = .ok (.goto 83, 3) := by decide +kernel
theorem dX7_useKnot_170 : decode cX7_useKnot 170 = .ok (.aload_n 2, 1) := by decide +kernel
theorem dX7_useKnot_171 : decode cX7_useKnot 171 = .ok (.aload_n 0, 1) := by decide +kernel
theorem dX7_useKnot_172 : decode cX7_useKnot 172 = .ok (.getfield 9, 3) := by decide +kernel
theorem dX7_useKnot_175 : decode cX7_useKnot 175 = .ok (.aload_n 1, 1) := by decide +kernel
theorem dX7_useKnot_176 : decode cX7_useKnot 176 = .ok (.getfield 69, 3) := by decide +kernel
theorem dX7_useKnot_179 : decode cX7_useKnot 179 = .ok (.invokevirtual 155, 3) := by decide +kernel
theorem dX7_useKnot_182 : decode cX7_useKnot 182 = .ok (.putfield 168, 3) := by decide +kernel
theorem dX7_useKnot_185 : decode cX7_useKnot 185 = .ok (.goto 65, 3) := by decide +kernel
theorem dX7_useKnot_188 : decode cX7_useKnot 188 = .ok (.aload_n 0, 1) := by decide +kernel
theorem dX7_useKnot_189 : decode cX7_useKnot 189 = .ok (.getfield 9, 3) := by decide +kernel
theorem dX7_useKnot_192 : decode cX7_useKnot 192 = .ok (.aload_n 1, 1) := by decide +kernel
theorem dX7_useKnot_193 : decode cX7_useKnot 193 = .ok (.getfield 69, 3) := by decide +kernel
theorem dX7_useKnot_196 : decode cX7_useKnot 196 = .ok (.aload_n 2, 1) := by decide +kernel
theorem dX7_useKnot_197 : decode cX7_useKnot 197 = .ok (.getfield 98, 3) := by decide +kernel
theorem dX7_useKnot_200 : decode cX7_useKnot 200 = .ok (.invokevirtual 80, 3) := by decide +kernel
theorem dX7_useKnot_203 : decode cX7_useKnot 203 = .ok (.goto 47, 3) := by decide +kernel
theorem dX7_useKnot_206 : decode cX7_useKnot 206 = .ok (.aload_n 2, 1) := by decide +kernel
theorem dX7_useKnot_207 : decode cX7_useKnot 207 = .ok (.aload_n 0, 1) := by decide +kernel
theorem dX7_useKnot_208 : decode cX7_useKnot 208 = .ok (.getfield 9, 3) := by decide +kernel
theorem dX7_useKnot_211 : decode cX7_useKnot 211 = .ok (.aload_n 1, 1) := by decide +kernel
theorem dX7_useKnot_212 : decode cX7_useKnot 212 = .ok (.getfield 69, 3) := by decide +kernel
theorem dX7_useKnot_215 : decode cX7_useKnot 215 = .ok (.invokevirtual 90, 3) := by decide +kernel
theorem dX7_useKnot_218 : decode cX7_useKnot 218 = .ok (.putfield 98, 3) := by decide +kernel
theorem dX7_useKnot_221 : decode cX7_useKnot 221 = .ok (.goto 29, 3) := by decide +kernel
theorem dX7_useKnot_224 : decode cX7_useKnot 224 = .ok (.aload_n 0, 1) := by decide +kernel
theorem dX7_useKnot_225 : decode cX7_useKnot 225 = .ok (.getfield 9, 3) := by decide +kernel
theorem dX7_useKnot_228 : decode cX7_useKnot 228 = .ok (.aload_n 1, 1) := by decide +kernel
theorem dX7_useKnot_229 : decode cX7_useKnot 229 = .ok (.getfield 69, 3) := by decide +kernel
theorem dX7_useKnot_232 : decode cX7_useKnot 232 = .ok (.aload_n 2, 1) := by decide +kernel
theorem dX7_useKnot_233 : decode cX7_useKnot 233 = .ok (.aload_n 0, 1) := by decide +kernel
theorem dX7_useKnot_234 : decode cX7_useKnot 234 = .ok (.getfield 9, 3) := by decide +kernel
theorem dX7_useKnot_237 : decode cX7_useKnot 237 = .ok (.aload_n 1, 1) := by decide +kernel
theorem dX7_useKnot_238 : decode cX7_useKnot 238 = .ok (.getfield 57, 3) := by decide +kernel
theorem dX7_useKnot_241 : decode cX7_useKnot 241 = .ok (.invokevirtual 60, 3) := by decide +kernel
theorem dX7_useKnot_244 : decode cX7_useKnot 244 = .ok (.invokevirtual 172, 3) := by decide +kernel
theorem dX7_useKnot_247 : decode cX7_useKnot 247 = .ok (.invokevirtual 102, 3) := by decide +kernel
theorem dX7_useKnot_250 : decode cX7_useKnot 250 = .ok (.iconst 0, 1) := by decide +kernel
theorem dX7_useKnot_251 : decode cX7_useKnot 251 = .ok (.ireturn, 1) := by decide +kernel
theorem dX7_useFault_0 : decode cX7_useFault 0 = .ok (.aload_n 0, 1) := by decide +kernel
theorem dX7_useFault_1 : decode cX7_useFault 1 = .ok (.getfield 9, 3) := by decide +kernel
theorem dX7_useFault_4 : decode cX7_useFault 4 = .ok (.aload_n 1, 1) := by decide +kernel
theorem dX7_useFault_5 : decode cX7_useFault 5 = .ok (.getfield 74, 3) := by decide +kernel
theorem dX7_useFault_8 : decode cX7_useFault 8 = .ok (.invokevirtual 90, 3) := by decide +kernel
theorem dX7_useFault_11 : decode cX7_useFault 11 = .ok (.astore_n 2, 1) := by decide +kernel
theorem dX7_useFault_12 : decode cX7_useFault 12 = .ok (.aload_n 2, 1) := by decide +kernel
theorem dX7_useFault_13 : decode cX7_useFault 13 = .ok (.ifnonnull 5, 3) := by decide +kernel
theorem dX7_useFault_16 : decode cX7_useFault 16 = .ok (.iconst 1, 1) := by decide +kernel
theorem dX7_useFault_17 : decode cX7_useFault 17 = .ok (.ireturn, 1) := by decide +kernel
theorem dX7_useFault_18 : decode cX7_useFault 18 = .ok (.aload_n 2, 1) := by decide +kernel
theorem dX7_useFault_19 : decode cX7_useFault 19 = .ok (.bipush 15, 2) := by decide +kernel
theorem dX7_useFault_21 : decode cX7_useFault 21 = .ok (.invokevirtual 105, 3) := by decide +kernel
theorem dX7_useFault_24 : decode cX7_useFault 24 = .ok (.ifCond .ne 5, 3) := by decide +kernel
theorem dX7_useFault_27 : decode cX7_useFault 27 = .ok (.iconst 4, 1) := by decide +kernel
theorem dX7_useFault_28 : decode cX7_useFault 28 = .ok (.ireturn, 1) := by decide +kernel
theorem dX7_useFault_29 : decode cX7_useFault 29 = .ok (.aload_n 1, 1) := by decide +kernel
theorem dX7_useFault_30 : decode cX7_useFault 30 = .ok (.getfield 15, 3) := by decide +kernel
theorem dX7_useFault_33 : decode cX7_useFault 33 = .ok (.bipush 70, 2) := by decide +kernel
theorem dX7_useFault_35 : decode cX7_useFault 35 = .ok (.if_icmp .ne 21, 3) := by decide +kernel
theorem dX7_useFault_38 : decode cX7_useFault 38 = .ok (.aload_n 0, 1) := by decide +kernel
theorem dX7_useFault_39 : decode cX7_useFault 39 = .ok (.getfield 9, 3) := by decide +kernel
theorem dX7_useFault_42 : decode cX7_useFault 42 = .ok (.aload_n 1, 1) := by decide +kernel
theorem dX7_useFault_43 : decode cX7_useFault 43 = .ok (.getfield 69, 3) := by decide +kernel
theorem dX7_useFault_46 : decode cX7_useFault 46 = .ok (.aload_n 2, 1) := by decide +kernel
theorem dX7_useFault_47 : decode cX7_useFault 47 = .ok (.getfield 87, 3) := by decide +kernel
theorem dX7_useFault_50 : decode cX7_useFault 50 = .ok (.invokevirtual 102, 3) := by decide +kernel
theorem dX7_useFault_53 : decode cX7_useFault 53 = .ok (.goto 18, 3) := by decide +kernel
theorem dX7_useFault_56 : decode cX7_useFault 56 = .ok (.aload_n 0, 1) := by decide +kernel
theorem dX7_useFault_57 : decode cX7_useFault 57 = .ok (.getfield 9, 3) := by decide +kernel
theorem dX7_useFault_60 : decode cX7_useFault 60 = .ok (.aload_n 1, 1) := by decide +kernel
theorem dX7_useFault_61 : decode cX7_useFault 61 = .ok (.getfield 69, 3) := by decide +kernel
theorem dX7_useFault_64 : decode cX7_useFault 64 = .ok (.aload_n 2, 1) := by decide +kernel
theorem dX7_useFault_65 : decode cX7_useFault 65 = .ok (.getfield 98, 3) := by decide +kernel
theorem dX7_useFault_68 : decode cX7_useFault 68 = .ok (.invokevirtual 80, 3) := by decide +kernel
theorem dX7_useFault_71 : decode cX7_useFault 71 = .ok (.iconst 0, 1) := by decide +kernel
theorem dX7_useFault_72 : decode cX7_useFault 72 = .ok (.ireturn, 1) := by decide +kernel
theorem dX8_init_0 : decode cX8_init 0 = .ok (.aload_n 0, 1) := by decide +kernel
theorem dX8_init_1 : decode cX8_init 1 = .ok (.invokespecial 1, 3) := by decide +kernel
theorem dX8_init_4 : decode cX8_init 4 = .ok (.aload_n 0, 1) := by decide +kernel
theorem dX8_init_5 : decode cX8_init 5 = .ok (.new 7, 3) := by decide +kernel
theorem dX8_init_8 : decode cX8_init 8 = .ok (.dup, 1) := by decide +kernel
theorem dX8_init_9 : decode cX8_init 9 = .ok (.invokespecial 9, 3) := by decide +kernel
theorem dX8_init_12 : decode cX8_init 12 = .ok (.putfield 10, 3) := by decide +kernel
theorem dX8_init_15 : decode cX8_init 15 = .ok (.aload_n 0, 1) := by decide +kernel
theorem dX8_init_16 : decode cX8_init 16 = .ok (.new 16, 3) := by decide +kernel
theorem dX8_init_19 : decode cX8_init 19 = .ok (.dup, 1) := by decide +kernel
theorem dX8_init_20 : decode cX8_init 20 = .ok (.invokespecial 18, 3) := by decide +kernel
theorem dX8_init_23 : decode cX8_init 23 = .ok (.putfield 19, 3) := by decide +kernel
theorem dX8_init_26 : decode cX8_init 26 = .ok (.aload_n 0, 1) := by decide +kernel
theorem dX8_init_27 : decode cX8_init 27 = .ok (.new 23, 3) := by decide +kernel
theorem dX8_init_30 : decode cX8_init 30 = .ok (.dup, 1) := by decide +kernel
theorem dX8_init_31 : decode cX8_init 31 = .ok (.aload_n 0, 1) := by decide +kernel
theorem dX8_init_32 : decode cX8_init 32 = .ok (.getfield 10, 3) := by decide +kernel
theorem dX8_init_35 : decode cX8_init 35 = .ok (.aload_n 0, 1) := by decide +kernel
theorem dX8_init_36 : decode cX8_init 36 = .ok (.getfield 19, 3) := by decide +kernel
theorem dX8_init_39 : decode cX8_init 39 = .ok (.invokespecial 25, 3) := by decide +kernel
theorem dX8_init_42 : decode cX8_init 42 = .ok (.putfield 28, 3) := by decide +kernel
theorem dX8_init_45 : decode cX8_init 45 = .ok (.return_, 1) := by decide +kernel
theorem dX8_put_0 : decode cX8_put 0 = .ok (.iload_n 1, 1) := by decide +kernel
theorem dX8_put_1 : decode cX8_put 1 = .ok (.iload_n 2, 1) := by decide +kernel
theorem dX8_put_2 : decode cX8_put 2 = .ok (.iload_n 3, 1) := by decide +kernel
theorem dX8_put_3 : decode cX8_put 3 = .ok (.iload 4, 2) := by decide +kernel
theorem dX8_put_5 : decode cX8_put 5 = .ok (.invokestatic 32, 3) := by decide +kernel
theorem dX8_put_8 : decode cX8_put 8 = .ok (.ifCond .ne 5, 3) := by decide +kernel
theorem dX8_put_11 : decode cX8_put 11 = .ok (.iconst (-1), 1) := by decide +kernel
theorem dX8_put_12 : decode cX8_put 12 = .ok (.ireturn, 1) := by decide +kernel
theorem dX8_put_13 : decode cX8_put 13 = .ok (.aload_n 0, 1) := by decide +kernel
theorem dX8_put_14 : decode cX8_put 14 = .ok (.getfield 10, 3) := by decide +kernel
theorem dX8_put_17 : decode cX8_put 17 = .ok (.getfield 36, 3) := by decide +kernel
theorem dX8_put_20 : decode cX8_put 20 = .ok (.sipush 150, 3) := by decide +kernel
theorem dX8_put_23 : decode cX8_put 23 = .ok (.if_icmp .lt 6, 3) := by decide +kernel
theorem dX8_put_26 : decode cX8_put 26 = .ok (.bipush (-2), 2) := by decide +kernel
theorem dX8_put_28 : decode cX8_put 28 = .ok (.ireturn, 1) := by decide +kernel
theorem dX8_put_29 : decode cX8_put 29 = .ok (.aload_n 0, 1) := by decide +kernel
theorem dX8_put_30 : decode cX8_put 30 = .ok (.getfield 28, 3) := by decide +kernel
theorem dX8_put_33 : decode cX8_put 33 = .ok (.invokevirtual 40, 3) := by decide +kernel
theorem dX8_put_36 : decode cX8_put 36 = .ok (.aload_n 0, 1) := by decide +kernel
theorem dX8_put_37 : decode cX8_put 37 = .ok (.getfield 10, 3) := by decide +kernel
theorem dX8_put_40 : decode cX8_put 40 = .ok (.new 43, 3) := by decide +kernel
theorem dX8_put_43 : decode cX8_put 43 = .ok (.dup, 1) := by decide +kernel
theorem dX8_put_44 : decode cX8_put 44 = .ok (.iload_n 1, 1) := by decide +kernel
theorem dX8_put_45 : decode cX8_put 45 = .ok (.iload_n 2, 1) := by decide +kernel
theorem dX8_put_46 : decode cX8_put 46 = .ok (.iload_n 3, 1) := by decide +kernel
theorem dX8_put_47 : decode cX8_put 47 = .ok (.iload 4, 2) := by decide +kernel
theorem dX8_put_49 : decode cX8_put 49 = .ok (.invokespecial 45, 3) := by decide +kernel
theorem dX8_put_52 : decode cX8_put 52 = .ok (.invokevirtual 48, 3) := by decide +kernel
theorem dX8_put_55 : decode cX8_put 55 = .ok (.ireturn, 1) := by decide +kernel
theorem dX8_handler_0 : decode cX8_handler 0 = .ok (.iload_n 1, 1) := by decide +kernel
theorem dX8_handler_1 : decode cX8_handler 1 = .ok (.invokestatic 52, 3) := by decide +kernel
theorem dX8_handler_4 : decode cX8_handler 4 = .ok (.ifCond .eq 18, 3) := by decide +kernel
theorem dX8_handler_7 : decode cX8_handler 7 = .ok (.iload_n 2, 1) := by decide +kernel
theorem dX8_handler_8 : decode cX8_handler 8 = .ok (.invokestatic 52, 3) := by decide +kernel
theorem dX8_handler_11 : decode cX8_handler 11 = .ok (.ifCond .eq 11, 3) := by decide +kernel
theorem dX8_handler_14 : decode cX8_handler 14 = .ok (.iload 4, 2) := by decide +kernel
theorem dX8_handler_16 : decode cX8_handler 16 = .ok (.invokestatic 52, 3) := by decide +kernel
theorem dX8_handler_19 : decode cX8_handler 19 = .ok (.ifCond .ne 5, 3) := by decide +kernel
theorem dX8_handler_22 : decode cX8_handler 22 = .ok (.iconst (-1), 1) := by decide +kernel
theorem dX8_handler_23 : decode cX8_handler 23 = .ok (.ireturn, 1) := by decide +kernel
theorem dX8_handler_24 : decode cX8_handler 24 = .ok (.aload_n 0, 1) := by decide +kernel
theorem dX8_handler_25 : decode cX8_handler 25 = .ok (.getfield 10, 3) := by decide +kernel
theorem dX8_handler_28 : decode cX8_handler 28 = .ok (.getfield 56, 3) := by decide +kernel
theorem dX8_handler_31 : decode cX8_handler 31 = .ok (.bipush 16, 2) := by decide +kernel
theorem dX8_handler_33 : decode cX8_handler 33 = .ok (.if_icmp .lt 6, 3) := by decide +kernel
theorem dX8_handler_36 : decode cX8_handler 36 = .ok (.bipush (-2), 2) := by decide +kernel
theorem dX8_handler_38 : decode cX8_handler 38 = .ok (.ireturn, 1) := by decide +kernel
theorem dX8_handler_39 : decode cX8_handler 39 = .ok (.aload_n 0, 1) := by decide +kernel
theorem dX8_handler_40 : decode cX8_handler 40 = .ok (.getfield 28, 3) := by decide +kernel
theorem dX8_handler_43 : decode cX8_handler 43 = .ok (.invokevirtual 40, 3) := by decide +kernel
theorem dX8_handler_46 : decode cX8_handler 46 = .ok (.aload_n 0, 1) := by decide +kernel
theorem dX8_handler_47 : decode cX8_handler 47 = .ok (.getfield 10, 3) := by decide +kernel
theorem dX8_handler_50 : decode cX8_handler 50 = .ok (.new 59, 3) := by decide +kernel
theorem dX8_handler_53 : decode cX8_handler 53 = .ok (.dup, 1) := by decide +kernel
theorem dX8_handler_54 : decode cX8_handler 54 = .ok (.iload_n 1, 1) := by decide +kernel
theorem dX8_handler_55 : decode cX8_handler 55 = .ok (.iload_n 2, 1) := by decide +kernel
theorem dX8_handler_56 : decode cX8_handler 56 = .ok (.iload_n 3, 1) := by decide +kernel
theorem dX8_handler_57 : decode cX8_handler 57 = .ok (.iload 4, 2) := by decide +kernel
theorem dX8_handler_59 : decode cX8_handler 59 = .ok (.invokespecial 61, 3) := by decide +kernel
theorem dX8_handler_62 : decode cX8_handler 62 = .ok (.invokevirtual 62, 3) := by decide +kernel
theorem dX8_handler_65 : decode cX8_handler 65 = .ok (.ireturn, 1) := by decide +kernel
theorem dX8_clear_0 : decode cX8_clear 0 = .ok (.aload_n 0, 1) := by decide +kernel
theorem dX8_clear_1 : decode cX8_clear 1 = .ok (.getfield 10, 3) := by decide +kernel
theorem dX8_clear_4 : decode cX8_clear 4 = .ok (.getfield 36, 3) := by decide +kernel
theorem dX8_clear_7 : decode cX8_clear 7 = .ok (.istore_n 1, 1) := by decide +kernel
theorem dX8_clear_8 : decode cX8_clear 8 = .ok (.aload_n 0, 1) := by decide +kernel
theorem dX8_clear_9 : decode cX8_clear 9 = .ok (.getfield 10, 3) := by decide +kernel
theorem dX8_clear_12 : decode cX8_clear 12 = .ok (.invokevirtual 66, 3) := by decide +kernel
theorem dX8_clear_15 : decode cX8_clear 15 = .ok (.aload_n 0, 1) := by decide +kernel
theorem dX8_clear_16 : decode cX8_clear 16 = .ok (.getfield 28, 3) := by decide +kernel
theorem dX8_clear_19 : decode cX8_clear 19 = .ok (.invokevirtual 40, 3) := by decide +kernel
theorem dX8_clear_22 : decode cX8_clear 22 = .ok (.iload_n 1, 1) := by decide +kernel
theorem dX8_clear_23 : decode cX8_clear 23 = .ok (.ireturn, 1) := by decide +kernel
theorem dX8_start_0 : decode cX8_start 0 = .ok (.aload_n 0, 1) := by decide +kernel
theorem dX8_start_1 : decode cX8_start 1 = .ok (.getfield 19, 3) := by decide +kernel
theorem dX8_start_4 : decode cX8_start 4 = .ok (.invokevirtual 69, 3) := by decide +kernel
theorem dX8_start_7 : decode cX8_start 7 = .ok (.aload_n 0, 1) := by decide +kernel
theorem dX8_start_8 : decode cX8_start 8 = .ok (.getfield 28, 3) := by decide +kernel
theorem dX8_start_11 : decode cX8_start 11 = .ok (.invokevirtual 72, 3) := by decide +kernel
theorem dX8_start_14 : decode cX8_start 14 = .ok (.aload_n 0, 1) := by decide +kernel
theorem dX8_start_15 : decode cX8_start 15 = .ok (.getfield 10, 3) := by decide +kernel
theorem dX8_start_18 : decode cX8_start 18 = .ok (.getfield 36, 3) := by decide +kernel
theorem dX8_start_21 : decode cX8_start 21 = .ok (.ifCond .le 7, 3) := by decide +kernel
theorem dX8_start_24 : decode cX8_start 24 = .ok (.iconst 1, 1) := by decide +kernel
theorem dX8_start_25 : decode cX8_start 25 = .ok (.goto 4, 3) := by decide +kernel
theorem dX8_start_28 : decode cX8_start 28 = .ok (.iconst 0, 1) := by decide +kernel
theorem dX8_start_29 : decode cX8_start 29 = .ok (.ireturn, 1) := by decide +kernel
theorem dX8_step_0 : decode cX8_step 0 = .ok (.aload_n 0, 1) := by decide +kernel
theorem dX8_step_1 : decode cX8_step 1 = .ok (.getfield 28, 3) := by decide +kernel
theorem dX8_step_4 : decode cX8_step 4 = .ok (.getfield 75, 3) := by decide +kernel
theorem dX8_step_7 : decode cX8_step 7 = .ok (.ifCond .ne 5, 3) := by decide +kernel
theorem dX8_step_10 : decode cX8_step 10 = .ok (.iconst (-1), 1) := by decide +kernel
theorem dX8_step_11 : decode cX8_step 11 = .ok (.ireturn, 1) := by decide +kernel
theorem dX8_step_12 : decode cX8_step 12 = .ok (.iload_n 1, 1) := by decide +kernel
theorem dX8_step_13 : decode cX8_step 13 = .ok (.ifCond .lt 9, 3) := by decide +kernel
theorem dX8_step_16 : decode cX8_step 16 = .ok (.iload_n 1, 1) := by decide +kernel
theorem dX8_step_17 : decode cX8_step 17 = .ok (.bipush 100, 2) := by decide +kernel
theorem dX8_step_19 : decode cX8_step 19 = .ok (.if_icmp .le 6, 3) := by decide +kernel
theorem dX8_step_22 : decode cX8_step 22 = .ok (.bipush (-2), 2) := by decide +kernel
theorem dX8_step_24 : decode cX8_step 24 = .ok (.ireturn, 1) := by decide +kernel
theorem dX8_step_25 : decode cX8_step 25 = .ok (.iconst 0, 1) := by decide +kernel
theorem dX8_step_26 : decode cX8_step 26 = .ok (.istore_n 2, 1) := by decide +kernel
theorem dX8_step_27 : decode cX8_step 27 = .ok (.iload_n 2, 1) := by decide +kernel
theorem dX8_step_28 : decode cX8_step 28 = .ok (.iload_n 1, 1) := by decide +kernel
theorem dX8_step_29 : decode cX8_step 29 = .ok (.if_icmp .ge 41, 3) := by decide +kernel
theorem dX8_step_32 : decode cX8_step 32 = .ok (.aload_n 0, 1) := by decide +kernel
theorem dX8_step_33 : decode cX8_step 33 = .ok (.getfield 28, 3) := by decide +kernel
theorem dX8_step_36 : decode cX8_step 36 = .ok (.getfield 75, 3) := by decide +kernel
theorem dX8_step_39 : decode cX8_step 39 = .ok (.iconst 1, 1) := by decide +kernel
theorem dX8_step_40 : decode cX8_step 40 = .ok (.if_icmp .ne 30, 3) := by decide +kernel
theorem dX8_step_43 : decode cX8_step 43 = .ok (.aload_n 0, 1) := by decide +kernel
theorem dX8_step_44 : decode cX8_step 44 = .ok (.getfield 28, 3) := by decide +kernel
theorem dX8_step_47 : decode cX8_step 47 = .ok (.aload_n 0, 1) := by decide +kernel
theorem dX8_step_48 : decode cX8_step 48 = .ok (.getfield 10, 3) := by decide +kernel
theorem dX8_step_51 : decode cX8_step 51 = .ok (.aload_n 0, 1) := by decide +kernel
theorem dX8_step_52 : decode cX8_step 52 = .ok (.getfield 28, 3) := by decide +kernel
theorem dX8_step_55 : decode cX8_step 55 = .ok (.getfield 78, 3) := by decide +kernel
theorem dX8_step_58 : decode cX8_step 58 = .ok (.invokevirtual 81, 3) := by decide +kernel
theorem dX8_step_61 : decode cX8_step 61 = .ok (.invokevirtual 85, 3) := by decide +kernel
theorem dX8_step_64 : decode cX8_step 64 = .ok (.iinc 2 1, 3) := by decide +kernel
theorem dX8_step_67 : decode cX8_step 67 = .ok (.goto (-40), 3) := by decide +kernel
theorem dX8_step_70 : decode cX8_step 70 = .ok (.aload_n 0, 1) := by decide +kernel
theorem dX8_step_71 : decode cX8_step 71 = .ok (.getfield 28, 3) := by decide +kernel
theorem dX8_step_74 : decode cX8_step 74 = .ok (.getfield 75, 3) := by decide +kernel
theorem dX8_step_77 : decode cX8_step 77 = .ok (.iconst 1, 1) := by decide +kernel
theorem dX8_step_78 : decode cX8_step 78 = .ok (.isub, 1) := by decide +kernel
theorem dX8_step_79 : decode cX8_step 79 = .ok (.ireturn, 1) := by decide +kernel
theorem dX8_word_0 : decode cX8_word 0 = .ok (.aload_n 0, 1) := by decide +kernel
theorem dX8_word_1 : decode cX8_word 1 = .ok (.getfield 19, 3) := by decide +kernel
theorem dX8_word_4 : decode cX8_word 4 = .ok (.iload_n 1, 1) := by decide +kernel
theorem dX8_word_5 : decode cX8_word 5 = .ok (.invokevirtual 89, 3) := by decide +kernel
theorem dX8_word_8 : decode cX8_word 8 = .ok (.ireturn, 1) := by decide +kernel
theorem dX8_wide_0 : decode cX8_wide 0 = .ok (.aload_n 0, 1) := by decide +kernel
theorem dX8_wide_1 : decode cX8_wide 1 = .ok (.getfield 19, 3) := by decide +kernel
theorem dX8_wide_4 : decode cX8_wide 4 = .ok (.iload_n 1, 1) := by decide +kernel
theorem dX8_wide_5 : decode cX8_wide 5 = .ok (.invokevirtual 93, 3) := by decide +kernel
theorem dX8_wide_8 : decode cX8_wide 8 = .ok (.lreturn, 1) := by decide +kernel
theorem dX8_single_0 : decode cX8_single 0 = .ok (.aload_n 0, 1) := by decide +kernel
theorem dX8_single_1 : decode cX8_single 1 = .ok (.getfield 19, 3) := by decide +kernel
theorem dX8_single_4 : decode cX8_single 4 = .ok (.iload_n 1, 1) := by decide +kernel
theorem dX8_single_5 : decode cX8_single 5 = .ok (.invokevirtual 97, 3) := by decide +kernel
theorem dX8_single_8 : decode cX8_single 8 = .ok (.f2d, 1) := by decide +kernel
theorem dX8_single_9 : decode cX8_single 9 = .ok (.dreturn, 1) := by decide +kernel
theorem dX8_real_0 : decode cX8_real 0 = .ok (.aload_n 0, 1) := by decide +kernel
theorem dX8_real_1 : decode cX8_real 1 = .ok (.getfield 19, 3) := by decide +kernel
theorem dX8_real_4 : decode cX8_real 4 = .ok (.iload_n 1, 1) := by decide +kernel
theorem dX8_real_5 : decode cX8_real 5 = .ok (.invokevirtual 101, 3) := by decide +kernel
theorem dX8_real_8 : decode cX8_real 8 = .ok (.dreturn, 1) := by decide +kernel
theorem dX8_kind_0 : decode cX8_kind 0 = .ok (.aload_n 0, 1) := by decide +kernel
theorem dX8_kind_1 : decode cX8_kind 1 = .ok (.getfield 19, 3) := by decide +kernel
theorem dX8_kind_4 : decode cX8_kind 4 = .ok (.iload_n 1, 1) := by decide +kernel
theorem dX8_kind_5 : decode cX8_kind 5 = .ok (.invokevirtual 105, 3) := by decide +kernel
theorem dX8_kind_8 : decode cX8_kind 8 = .ok (.ifCond .eq 17, 3) := by decide +kernel
theorem dX8_kind_11 : decode cX8_kind 11 = .ok (.aload_n 0, 1) := by decide +kernel
theorem dX8_kind_12 : decode cX8_kind 12 = .ok (.getfield 19, 3) := by decide +kernel
theorem dX8_kind_15 : decode cX8_kind 15 = .ok (.iload_n 1, 1) := by decide +kernel
theorem dX8_kind_16 : decode cX8_kind 16 = .ok (.invokevirtual 108, 3) := by decide +kernel
theorem dX8_kind_19 : decode cX8_kind 19 = .ok (.invokestatic 112, 3) := by decide +kernel
theorem dX8_kind_22 : decode cX8_kind 22 = .ok (.goto 5, 3) := by decide +kernel
theorem dX8_kind_25 : decode cX8_kind 25 = .ok (.bipush (-2), 2) := by decide +kernel
theorem dX8_kind_27 : decode cX8_kind 27 = .ok (.ireturn, 1) := by decide +kernel
theorem dX8_size_0 : decode cX8_size 0 = .ok (.aload_n 0, 1) := by decide +kernel
theorem dX8_size_1 : decode cX8_size 1 = .ok (.getfield 19, 3) := by decide +kernel
theorem dX8_size_4 : decode cX8_size 4 = .ok (.iload_n 1, 1) := by decide +kernel
theorem dX8_size_5 : decode cX8_size 5 = .ok (.invokevirtual 108, 3) := by decide +kernel
theorem dX8_size_8 : decode cX8_size 8 = .ok (.invokestatic 116, 3) := by decide +kernel
theorem dX8_size_11 : decode cX8_size 11 = .ok (.ireturn, 1) := by decide +kernel
theorem dX8_cell_0 : decode cX8_cell 0 = .ok (.aload_n 0, 1) := by decide +kernel
theorem dX8_cell_1 : decode cX8_cell 1 = .ok (.getfield 19, 3) := by decide +kernel
theorem dX8_cell_4 : decode cX8_cell 4 = .ok (.iload_n 1, 1) := by decide +kernel
theorem dX8_cell_5 : decode cX8_cell 5 = .ok (.invokevirtual 108, 3) := by decide +kernel
theorem dX8_cell_8 : decode cX8_cell 8 = .ok (.astore_n 3, 1) := by decide +kernel
theorem dX8_cell_9 : decode cX8_cell 9 = .ok (.aload_n 3, 1) := by decide +kernel
theorem dX8_cell_10 : decode cX8_cell 10 = .ok (.ifnull 11, 3) := by decide +kernel
theorem dX8_cell_13 : decode cX8_cell 13 = .ok (.aload_n 3, 1) := by decide +kernel
theorem dX8_cell_14 : decode cX8_cell 14 = .ok (.iload_n 2, 1) := by decide +kernel
theorem dX8_cell_15 : decode cX8_cell 15 = .ok (.invokevirtual 119, 3) := by decide +kernel
theorem dX8_cell_18 : decode cX8_cell 18 = .ok (.ifCond .ne 5, 3) := by decide +kernel
theorem dX8_cell_21 : decode cX8_cell 21 = .ok (.lconst 0, 1) := by decide +kernel
theorem dX8_cell_22 : decode cX8_cell 22 = .ok (.lreturn, 1) := by decide +kernel
theorem dX8_cell_23 : decode cX8_cell 23 = .ok (.aload_n 3, 1) := by decide +kernel
theorem dX8_cell_24 : decode cX8_cell 24 = .ok (.bipush 8, 2) := by decide +kernel
theorem dX8_cell_26 : decode cX8_cell 26 = .ok (.invokevirtual 124, 3) := by decide +kernel
theorem dX8_cell_29 : decode cX8_cell 29 = .ok (.ifCond .eq 13, 3) := by decide +kernel
theorem dX8_cell_32 : decode cX8_cell 32 = .ok (.aload_n 3, 1) := by decide +kernel
theorem dX8_cell_33 : decode cX8_cell 33 = .ok (.iload_n 2, 1) := by decide +kernel
theorem dX8_cell_34 : decode cX8_cell 34 = .ok (.invokevirtual 127, 3) := by decide +kernel
theorem dX8_cell_37 : decode cX8_cell 37 = .ok (.invokestatic 112, 3) := by decide +kernel
theorem dX8_cell_40 : decode cX8_cell 40 = .ok (.i2l, 1) := by decide +kernel
theorem dX8_cell_41 : decode cX8_cell 41 = .ok (.lreturn, 1) := by decide +kernel
theorem dX8_cell_42 : decode cX8_cell 42 = .ok (.aload_n 3, 1) := by decide +kernel
theorem dX8_cell_43 : decode cX8_cell 43 = .ok (.bipush 10, 2) := by decide +kernel
theorem dX8_cell_45 : decode cX8_cell 45 = .ok (.invokevirtual 124, 3) := by decide +kernel
theorem dX8_cell_48 : decode cX8_cell 48 = .ok (.ifCond .eq 13, 3) := by decide +kernel
theorem dX8_cell_51 : decode cX8_cell 51 = .ok (.aload_n 3, 1) := by decide +kernel
theorem dX8_cell_52 : decode cX8_cell 52 = .ok (.iload_n 2, 1) := by decide +kernel
theorem dX8_cell_53 : decode cX8_cell 53 = .ok (.invokevirtual 127, 3) := by decide +kernel
theorem dX8_cell_56 : decode cX8_cell 56 = .ok (.invokestatic 116, 3) := by decide +kernel
theorem dX8_cell_59 : decode cX8_cell 59 = .ok (.i2l, 1) := by decide +kernel
theorem dX8_cell_60 : decode cX8_cell 60 = .ok (.lreturn, 1) := by decide +kernel
theorem dX8_cell_61 : decode cX8_cell 61 = .ok (.aload_n 3, 1) := by decide +kernel
theorem dX8_cell_62 : decode cX8_cell 62 = .ok (.iload_n 2, 1) := by decide +kernel
theorem dX8_cell_63 : decode cX8_cell 63 = .ok (.invokevirtual 130, 3) := by decide +kernel
theorem dX8_cell_66 : decode cX8_cell 66 = .ok (.lreturn, 1) := by decide +kernel
theorem dX8_point_0 : decode cX8_point 0 = .ok (.aload_n 0, 1) := by decide +kernel
theorem dX8_point_1 : decode cX8_point 1 = .ok (.getfield 19, 3) := by decide +kernel
theorem dX8_point_4 : decode cX8_point 4 = .ok (.iload_n 1, 1) := by decide +kernel
theorem dX8_point_5 : decode cX8_point 5 = .ok (.invokevirtual 108, 3) := by decide +kernel
theorem dX8_point_8 : decode cX8_point 8 = .ok (.astore_n 3, 1) := by decide +kernel
theorem dX8_point_9 : decode cX8_point 9 = .ok (.aload_n 3, 1) := by decide +kernel
theorem dX8_point_10 : decode cX8_point 10 = .ok (.ifnonnull 7, 3) := by decide +kernel
theorem dX8_point_13 : decode cX8_point 13 = .ok (.dconst 0, 1) := by decide +kernel
theorem dX8_point_14 : decode cX8_point 14 = .ok (.goto 8, 3) := by decide +kernel
theorem dX8_point_17 : decode cX8_point 17 = .ok (.aload_n 3, 1) := by decide +kernel
theorem dX8_point_18 : decode cX8_point 18 = .ok (.iload_n 2, 1) := by decide +kernel
theorem dX8_point_19 : decode cX8_point 19 = .ok (.invokevirtual 133, 3) := by decide +kernel
theorem dX8_point_22 : decode cX8_point 22 = .ok (.dreturn, 1) := by decide +kernel
theorem dX8_field_0 : decode cX8_field 0 = .ok (.aload_n 0, 1) := by decide +kernel
theorem dX8_field_1 : decode cX8_field 1 = .ok (.getfield 19, 3) := by decide +kernel
theorem dX8_field_4 : decode cX8_field 4 = .ok (.iload_n 1, 1) := by decide +kernel
theorem dX8_field_5 : decode cX8_field 5 = .ok (.invokevirtual 108, 3) := by decide +kernel
theorem dX8_field_8 : decode cX8_field 8 = .ok (.astore_n 3, 1) := by decide +kernel
theorem dX8_field_9 : decode cX8_field 9 = .ok (.aload_n 3, 1) := by decide +kernel
theorem dX8_field_10 : decode cX8_field 10 = .ok (.ifnonnull 5, 3) := by decide +kernel
theorem dX8_field_13 : decode cX8_field 13 = .ok (.lconst 0, 1) := by decide +kernel
theorem dX8_field_14 : decode cX8_field 14 = .ok (.lreturn, 1) := by decide +kernel
theorem dX8_field_15 : decode cX8_field 15 = .ok (.iload_n 2, 1) := by decide +kernel
theorem dX8_field_16 : decode cX8_field 16 = .ok (.tableswitch 70 0 2 #[28, 34, 39], 28) := by decide +kernel
theorem dX8_field_44 : decode cX8_field 44 = .ok (.aload_n 3, 1) := by decide +kernel
theorem dX8_field_45 : decode cX8_field 45 = .ok (.getfield 136, 3) := by decide +kernel
theorem dX8_field_48 : decode cX8_field 48 = .ok (.i2l, 1) := by decide +kernel
theorem dX8_field_49 : decode cX8_field 49 = .ok (.lreturn, 1) := by decide +kernel
theorem dX8_field_50 : decode cX8_field 50 = .ok (.aload_n 3, 1) := by decide +kernel
theorem dX8_field_51 : decode cX8_field 51 = .ok (.getfield 139, 3) := by decide +kernel
theorem dX8_field_54 : decode cX8_field 54 = .ok (.lreturn, 1) := by decide +kernel
theorem dX8_field_55 : decode cX8_field 55 = .ok (.aload_n 3, 1) := by decide +kernel
theorem dX8_field_56 : decode cX8_field 56 = .ok (.bipush 11, 2) := by decide +kernel
theorem dX8_field_58 : decode cX8_field 58 = .ok (.invokevirtual 124, 3) := by decide +kernel
theorem dX8_field_61 : decode cX8_field 61 = .ok (.ifCond .ne 12, 3) := by decide +kernel
theorem dX8_field_64 : decode cX8_field 64 = .ok (.aload_n 3, 1) := by decide +kernel
theorem dX8_field_65 : decode cX8_field 65 = .ok (.bipush 15, 2) := by decide +kernel
theorem dX8_field_67 : decode cX8_field 67 = .ok (.invokevirtual 124, 3) := by decide +kernel
theorem dX8_field_70 : decode cX8_field 70 = .ok (.ifCond .eq 14, 3) := by decide +kernel
theorem dX8_field_73 : decode cX8_field 73 = .ok (.aload_n 3, 1) := by decide +kernel
theorem dX8_field_74 : decode cX8_field 74 = .ok (.getfield 143, 3) := by decide +kernel
theorem dX8_field_77 : decode cX8_field 77 = .ok (.invokestatic 112, 3) := by decide +kernel
theorem dX8_field_80 : decode cX8_field 80 = .ok (.i2l, 1) := by decide +kernel
theorem dX8_field_81 : decode cX8_field 81 = .ok (.goto 4, 3) := by decide +kernel
theorem dX8_field_84 : decode cX8_field 84 = .ok (.lconst 0, 1) := by decide +kernel
theorem dX8_field_85 : decode cX8_field 85 = .ok (.lreturn, 1) := by decide +kernel
theorem dX8_field_86 : decode cX8_field 86 = .ok (.lconst 0, 1) := by decide +kernel
theorem dX8_field_87 : decode cX8_field 87 = .ok (.lreturn, 1) := by decide +kernel
theorem dX8_same_0 : decode cX8_same 0 = .ok (.aload_n 0, 1) := by decide +kernel
theorem dX8_same_1 : decode cX8_same 1 = .ok (.getfield 19, 3) := by decide +kernel
theorem dX8_same_4 : decode cX8_same 4 = .ok (.iload_n 1, 1) := by decide +kernel
theorem dX8_same_5 : decode cX8_same 5 = .ok (.invokevirtual 108, 3) := by decide +kernel
theorem dX8_same_8 : decode cX8_same 8 = .ok (.astore_n 3, 1) := by decide +kernel
theorem dX8_same_9 : decode cX8_same 9 = .ok (.aload_n 3, 1) := by decide +kernel
theorem dX8_same_10 : decode cX8_same 10 = .ok (.ifnull 19, 3) := by decide +kernel
theorem dX8_same_13 : decode cX8_same 13 = .ok (.aload_n 3, 1) := by decide +kernel
theorem dX8_same_14 : decode cX8_same 14 = .ok (.aload_n 0, 1) := by decide +kernel
theorem dX8_same_15 : decode cX8_same 15 = .ok (.getfield 19, 3) := by decide +kernel
theorem dX8_same_18 : decode cX8_same 18 = .ok (.iload_n 2, 1) := by decide +kernel
theorem dX8_same_19 : decode cX8_same 19 = .ok (.invokevirtual 108, 3) := by decide +kernel
theorem dX8_same_22 : decode cX8_same 22 = .ok (.if_acmp .ne 7, 3) := by decide +kernel
theorem dX8_same_25 : decode cX8_same 25 = .ok (.iconst 1, 1) := by decide +kernel
theorem dX8_same_26 : decode cX8_same 26 = .ok (.goto 4, 3) := by decide +kernel
theorem dX8_same_29 : decode cX8_same 29 = .ok (.iconst 0, 1) := by decide +kernel
theorem dX8_same_30 : decode cX8_same 30 = .ok (.ireturn, 1) := by decide +kernel
theorem dX8_told_0 : decode cX8_told 0 = .ok (.aload_n 0, 1) := by decide +kernel
theorem dX8_told_1 : decode cX8_told 1 = .ok (.getfield 28, 3) := by decide +kernel
theorem dX8_told_4 : decode cX8_told 4 = .ok (.iload_n 1, 1) := by decide +kernel
theorem dX8_told_5 : decode cX8_told 5 = .ok (.invokevirtual 147, 3) := by decide +kernel
theorem dX8_told_8 : decode cX8_told 8 = .ok (.ireturn, 1) := by decide +kernel
theorem dX8_state_0 : decode cX8_state 0 = .ok (.iload_n 1, 1) := by decide +kernel
theorem dX8_state_1 : decode cX8_state 1 = .ok (.lookupswitch 43 #[(0, 27), (1, 35)], 27) := by decide +kernel
theorem dX8_state_28 : decode cX8_state 28 = .ok (.aload_n 0, 1) := by decide +kernel
theorem dX8_state_29 : decode cX8_state 29 = .ok (.getfield 10, 3) := by decide +kernel
theorem dX8_state_32 : decode cX8_state 32 = .ok (.getfield 36, 3) := by decide +kernel
theorem dX8_state_35 : decode cX8_state 35 = .ok (.ireturn, 1) := by decide +kernel
theorem dX8_state_36 : decode cX8_state 36 = .ok (.aload_n 0, 1) := by decide +kernel
theorem dX8_state_37 : decode cX8_state 37 = .ok (.getfield 10, 3) := by decide +kernel
theorem dX8_state_40 : decode cX8_state 40 = .ok (.getfield 56, 3) := by decide +kernel
theorem dX8_state_43 : decode cX8_state 43 = .ok (.ireturn, 1) := by decide +kernel
theorem dX8_state_44 : decode cX8_state 44 = .ok (.aload_n 0, 1) := by decide +kernel
theorem dX8_state_45 : decode cX8_state 45 = .ok (.getfield 28, 3) := by decide +kernel
theorem dX8_state_48 : decode cX8_state 48 = .ok (.iload_n 1, 1) := by decide +kernel
theorem dX8_state_49 : decode cX8_state 49 = .ok (.invokevirtual 150, 3) := by decide +kernel
theorem dX8_state_52 : decode cX8_state 52 = .ok (.ireturn, 1) := by decide +kernel
theorem dX8_isPlace_0 : decode cX8_isPlace 0 = .ok (.iload_n 0, 1) := by decide +kernel
theorem dX8_isPlace_1 : decode cX8_isPlace 1 = .ok (.ifCond .lt 14, 3) := by decide +kernel
theorem dX8_isPlace_4 : decode cX8_isPlace 4 = .ok (.iload_n 0, 1) := by decide +kernel
theorem dX8_isPlace_5 : decode cX8_isPlace 5 = .ok (.sipush 200, 3) := by decide +kernel
theorem dX8_isPlace_8 : decode cX8_isPlace 8 = .ok (.if_icmp .ge 7, 3) := by decide +kernel
theorem dX8_isPlace_11 : decode cX8_isPlace 11 = .ok (.iconst 1, 1) := by decide +kernel
theorem dX8_isPlace_12 : decode cX8_isPlace 12 = .ok (.goto 4, 3) := by decide +kernel
theorem dX8_isPlace_15 : decode cX8_isPlace 15 = .ok (.iconst 0, 1) := by decide +kernel
theorem dX8_isPlace_16 : decode cX8_isPlace 16 = .ok (.ireturn, 1) := by decide +kernel
theorem dX8_fitsShape_0 : decode cX8_fitsShape 0 = .ok (.iload_n 0, 1) := by decide +kernel
theorem dX8_fitsShape_1 : decode cX8_fitsShape 1 = .ok (.ifCond .lt 11, 3) := by decide +kernel
theorem dX8_fitsShape_4 : decode cX8_fitsShape 4 = .ok (.iload_n 0, 1) := by decide +kernel
theorem dX8_fitsShape_5 : decode cX8_fitsShape 5 = .ok (.getstatic 153, 3) := by decide +kernel
theorem dX8_fitsShape_8 : decode cX8_fitsShape 8 = .ok (.arraylength, 1) := by decide +kernel
theorem dX8_fitsShape_9 : decode cX8_fitsShape 9 = .ok (.if_icmp .lt 5, 3) := by decide +kernel
theorem dX8_fitsShape_12 : decode cX8_fitsShape 12 = .ok (.iconst 0, 1) := by decide +kernel
theorem dX8_fitsShape_13 : decode cX8_fitsShape 13 = .ok (.ireturn, 1) := by decide +kernel
theorem dX8_fitsShape_14 : decode cX8_fitsShape 14 = .ok (.getstatic 153, 3) := by decide +kernel
theorem dX8_fitsShape_17 : decode cX8_fitsShape 17 = .ok (.iload_n 0, 1) := by decide +kernel
theorem dX8_fitsShape_18 : decode cX8_fitsShape 18 = .ok (.iaload, 1) := by decide +kernel
theorem dX8_fitsShape_19 : decode cX8_fitsShape 19 = .ok (.istore 4, 2) := by decide +kernel
theorem dX8_fitsShape_21 : decode cX8_fitsShape 21 = .ok (.iload 4, 2) := by decide +kernel
theorem dX8_fitsShape_23 : decode cX8_fitsShape 23 = .ok (.bipush 100, 2) := by decide +kernel
theorem dX8_fitsShape_25 : decode cX8_fitsShape 25 = .ok (.idiv, 1) := by decide +kernel
theorem dX8_fitsShape_26 : decode cX8_fitsShape 26 = .ok (.iload_n 1, 1) := by decide +kernel
theorem dX8_fitsShape_27 : decode cX8_fitsShape 27 = .ok (.invokestatic 157, 3) := by decide +kernel
theorem dX8_fitsShape_30 : decode cX8_fitsShape 30 = .ok (.ifCond .eq 34, 3) := by decide +kernel
theorem dX8_fitsShape_33 : decode cX8_fitsShape 33 = .ok (.iload 4, 2) := by decide +kernel
theorem dX8_fitsShape_35 : decode cX8_fitsShape 35 = .ok (.bipush 10, 2) := by decide +kernel
theorem dX8_fitsShape_37 : decode cX8_fitsShape 37 = .ok (.idiv, 1) := by decide +kernel
theorem dX8_fitsShape_38 : decode cX8_fitsShape 38 = .ok (.bipush 10, 2) := by decide +kernel
theorem dX8_fitsShape_40 : decode cX8_fitsShape 40 = .ok (.irem, 1) := by decide +kernel
theorem dX8_fitsShape_41 : decode cX8_fitsShape 41 = .ok (.iload_n 2, 1) := by decide +kernel
theorem dX8_fitsShape_42 : decode cX8_fitsShape 42 = .ok (.invokestatic 157, 3) := by decide +kernel
theorem dX8_fitsShape_45 : decode cX8_fitsShape 45 = .ok (.ifCond .eq 19, 3) := by decide +kernel
theorem dX8_fitsShape_48 : decode cX8_fitsShape 48 = .ok (.iload 4, 2) := by decide +kernel
theorem dX8_fitsShape_50 : decode cX8_fitsShape 50 = .ok (.bipush 10, 2) := by decide +kernel
theorem dX8_fitsShape_52 : decode cX8_fitsShape 52 = .ok (.irem, 1) := by decide +kernel
theorem dX8_fitsShape_53 : decode cX8_fitsShape 53 = .ok (.iload_n 3, 1) := by decide +kernel
theorem dX8_fitsShape_54 : decode cX8_fitsShape 54 = .ok (.invokestatic 157, 3) := by decide +kernel
theorem dX8_fitsShape_57 : decode cX8_fitsShape 57 = .ok (.ifCond .eq 7, 3) := by decide +kernel
theorem dX8_fitsShape_60 : decode cX8_fitsShape 60 = .ok (.iconst 1, 1) := by decide +kernel
theorem dX8_fitsShape_61 : decode cX8_fitsShape 61 = .ok (.goto 4, 3) := by decide +kernel
theorem dX8_fitsShape_64 : decode cX8_fitsShape 64 = .ok (.iconst 0, 1) := by decide +kernel
theorem dX8_fitsShape_65 : decode cX8_fitsShape 65 = .ok (.ireturn, 1) := by decide +kernel
theorem dX8_isNamed_0 : decode cX8_isNamed 0 = .ok (.iload_n 0, 1) := by decide +kernel
theorem dX8_isNamed_1 : decode cX8_isNamed 1 = .ok (.tableswitch 137 1 9 #[51, 67, 67, 67, 51, 82, 87, 103, 121], 51) := by decide +kernel
theorem dX8_isNamed_52 : decode cX8_isNamed 52 = .ok (.iload_n 1, 1) := by decide +kernel
theorem dX8_isNamed_53 : decode cX8_isNamed 53 = .ok (.ifCond .lt 13, 3) := by decide +kernel
theorem dX8_isNamed_56 : decode cX8_isNamed 56 = .ok (.iload_n 1, 1) := by decide +kernel
theorem dX8_isNamed_57 : decode cX8_isNamed 57 = .ok (.bipush 8, 2) := by decide +kernel
theorem dX8_isNamed_59 : decode cX8_isNamed 59 = .ok (.if_icmp .ge 7, 3) := by decide +kernel
theorem dX8_isNamed_62 : decode cX8_isNamed 62 = .ok (.iconst 1, 1) := by decide +kernel
theorem dX8_isNamed_63 : decode cX8_isNamed 63 = .ok (.goto 4, 3) := by decide +kernel
theorem dX8_isNamed_66 : decode cX8_isNamed 66 = .ok (.iconst 0, 1) := by decide +kernel
theorem dX8_isNamed_67 : decode cX8_isNamed 67 = .ok (.ireturn, 1) := by decide +kernel
theorem dX8_isNamed_68 : decode cX8_isNamed 68 = .ok (.iload_n 1, 1) := by decide +kernel
theorem dX8_isNamed_69 : decode cX8_isNamed 69 = .ok (.ifCond .lt 12, 3) := by decide +kernel
theorem dX8_isNamed_72 : decode cX8_isNamed 72 = .ok (.iload_n 1, 1) := by decide +kernel
theorem dX8_isNamed_73 : decode cX8_isNamed 73 = .ok (.iconst 4, 1) := by decide +kernel
theorem dX8_isNamed_74 : decode cX8_isNamed 74 = .ok (.if_icmp .ge 7, 3) := by decide +kernel
theorem dX8_isNamed_77 : decode cX8_isNamed 77 = .ok (.iconst 1, 1) := by decide +kernel
theorem dX8_isNamed_78 : decode cX8_isNamed 78 = .ok (.goto 4, 3) := by decide +kernel
theorem dX8_isNamed_81 : decode cX8_isNamed 81 = .ok (.iconst 0, 1) := by decide +kernel
theorem dX8_isNamed_82 : decode cX8_isNamed 82 = .ok (.ireturn, 1) := by decide +kernel
theorem dX8_isNamed_83 : decode cX8_isNamed 83 = .ok (.iload_n 1, 1) := by decide +kernel
theorem dX8_isNamed_84 : decode cX8_isNamed 84 = .ok (.invokestatic 52, 3) := by decide +kernel
theorem dX8_isNamed_87 : decode cX8_isNamed 87 = .ok (.ireturn, 1) := by decide +kernel
theorem dX8_isNamed_88 : decode cX8_isNamed 88 = .ok (.iload_n 1, 1) := by decide +kernel
theorem dX8_isNamed_89 : decode cX8_isNamed 89 = .ok (.ifCond .lt 13, 3) := by decide +kernel
theorem dX8_isNamed_92 : decode cX8_isNamed 92 = .ok (.iload_n 1, 1) := by decide +kernel
theorem dX8_isNamed_93 : decode cX8_isNamed 93 = .ok (.bipush 9, 2) := by decide +kernel
theorem dX8_isNamed_95 : decode cX8_isNamed 95 = .ok (.if_icmp .gt 7, 3) := by decide +kernel
theorem dX8_isNamed_98 : decode cX8_isNamed 98 = .ok (.iconst 1, 1) := by decide +kernel
theorem dX8_isNamed_99 : decode cX8_isNamed 99 = .ok (.goto 4, 3) := by decide +kernel
theorem dX8_isNamed_102 : decode cX8_isNamed 102 = .ok (.iconst 0, 1) := by decide +kernel
theorem dX8_isNamed_103 : decode cX8_isNamed 103 = .ok (.ireturn, 1) := by decide +kernel
theorem dX8_isNamed_104 : decode cX8_isNamed 104 = .ok (.iload_n 1, 1) := by decide +kernel
theorem dX8_isNamed_105 : decode cX8_isNamed 105 = .ok (.bipush 11, 2) := by decide +kernel
theorem dX8_isNamed_107 : decode cX8_isNamed 107 = .ok (.if_icmp .lt 13, 3) := by decide +kernel
theorem dX8_isNamed_110 : decode cX8_isNamed 110 = .ok (.iload_n 1, 1) := by decide +kernel
theorem dX8_isNamed_111 : decode cX8_isNamed 111 = .ok (.bipush 14, 2) := by decide +kernel
theorem dX8_isNamed_113 : decode cX8_isNamed 113 = .ok (.if_icmp .gt 7, 3) := by decide +kernel
theorem dX8_isNamed_116 : decode cX8_isNamed 116 = .ok (.iconst 1, 1) := by decide +kernel
theorem dX8_isNamed_117 : decode cX8_isNamed 117 = .ok (.goto 4, 3) := by decide +kernel
theorem dX8_isNamed_120 : decode cX8_isNamed 120 = .ok (.iconst 0, 1) := by decide +kernel
theorem dX8_isNamed_121 : decode cX8_isNamed 121 = .ok (.ireturn, 1) := by decide +kernel
theorem dX8_isNamed_122 : decode cX8_isNamed 122 = .ok (.iload_n 1, 1) := by decide +kernel
theorem dX8_isNamed_123 : decode cX8_isNamed 123 = .ok (.ifCond .lt 13, 3) := by decide +kernel
theorem dX8_isNamed_126 : decode cX8_isNamed 126 = .ok (.iload_n 1, 1) := by decide +kernel
theorem dX8_isNamed_127 : decode cX8_isNamed 127 = .ok (.bipush 16, 2) := by decide +kernel
theorem dX8_isNamed_129 : decode cX8_isNamed 129 = .ok (.if_icmp .gt 7, 3) := by decide +kernel
theorem dX8_isNamed_132 : decode cX8_isNamed 132 = .ok (.iconst 1, 1) := by decide +kernel
theorem dX8_isNamed_133 : decode cX8_isNamed 133 = .ok (.goto 4, 3) := by decide +kernel
theorem dX8_isNamed_136 : decode cX8_isNamed 136 = .ok (.iconst 0, 1) := by decide +kernel
theorem dX8_isNamed_137 : decode cX8_isNamed 137 = .ok (.ireturn, 1) := by decide +kernel
theorem dX8_isNamed_138 : decode cX8_isNamed 138 = .ok (.iconst 1, 1) := by decide +kernel
theorem dX8_isNamed_139 : decode cX8_isNamed 139 = .ok (.ireturn, 1) := by decide +kernel
theorem dX8_kindOf_0 : decode cX8_kindOf 0 = .ok (.aload_n 0, 1) := by decide +kernel
theorem dX8_kindOf_1 : decode cX8_kindOf 1 = .ok (.ifnonnull 7, 3) := by decide +kernel
theorem dX8_kindOf_4 : decode cX8_kindOf 4 = .ok (.iconst (-1), 1) := by decide +kernel
theorem dX8_kindOf_5 : decode cX8_kindOf 5 = .ok (.goto 7, 3) := by decide +kernel
theorem dX8_kindOf_8 : decode cX8_kindOf 8 = .ok (.aload_n 0, 1) := by decide +kernel
theorem dX8_kindOf_9 : decode cX8_kindOf 9 = .ok (.getfield 161, 3) := by decide +kernel
theorem dX8_kindOf_12 : decode cX8_kindOf 12 = .ok (.ireturn, 1) := by decide +kernel
theorem dX8_placesOf_0 : decode cX8_placesOf 0 = .ok (.aload_n 0, 1) := by decide +kernel
theorem dX8_placesOf_1 : decode cX8_placesOf 1 = .ok (.ifnull 10, 3) := by decide +kernel
theorem dX8_placesOf_4 : decode cX8_placesOf 4 = .ok (.aload_n 0, 1) := by decide +kernel
theorem dX8_placesOf_5 : decode cX8_placesOf 5 = .ok (.invokevirtual 164, 3) := by decide +kernel
theorem dX8_placesOf_8 : decode cX8_placesOf 8 = .ok (.ifCond .ne 7, 3) := by decide +kernel
theorem dX8_placesOf_11 : decode cX8_placesOf 11 = .ok (.iconst (-1), 1) := by decide +kernel
theorem dX8_placesOf_12 : decode cX8_placesOf 12 = .ok (.goto 7, 3) := by decide +kernel
theorem dX8_placesOf_15 : decode cX8_placesOf 15 = .ok (.aload_n 0, 1) := by decide +kernel
theorem dX8_placesOf_16 : decode cX8_placesOf 16 = .ok (.getfield 168, 3) := by decide +kernel
theorem dX8_placesOf_19 : decode cX8_placesOf 19 = .ok (.ireturn, 1) := by decide +kernel
theorem dX8_misfits_0 : decode cX8_misfits 0 = .ok (.aload_n 0, 1) := by decide +kernel
theorem dX8_misfits_1 : decode cX8_misfits 1 = .ok (.ifnull 15, 3) := by decide +kernel
theorem dX8_misfits_4 : decode cX8_misfits 4 = .ok (.aload_n 0, 1) := by decide +kernel
theorem dX8_misfits_5 : decode cX8_misfits 5 = .ok (.iload_n 1, 1) := by decide +kernel
theorem dX8_misfits_6 : decode cX8_misfits 6 = .ok (.invokevirtual 124, 3) := by decide +kernel
theorem dX8_misfits_9 : decode cX8_misfits 9 = .ok (.ifCond .ne 7, 3) := by decide +kernel
theorem dX8_misfits_12 : decode cX8_misfits 12 = .ok (.iconst 1, 1) := by decide +kernel
theorem dX8_misfits_13 : decode cX8_misfits 13 = .ok (.goto 4, 3) := by decide +kernel
theorem dX8_misfits_16 : decode cX8_misfits 16 = .ok (.iconst 0, 1) := by decide +kernel
theorem dX8_misfits_17 : decode cX8_misfits 17 = .ok (.ireturn, 1) := by decide +kernel
