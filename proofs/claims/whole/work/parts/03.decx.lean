theorem dX0_init_0 : decode cX0_init 0 = .ok (.aload_n 0, 1) := by decide +kernel
theorem dX0_init_1 : decode cX0_init 1 = .ok (.invokespecial 3, 3) := by decide +kernel
theorem dX0_init_4 : decode cX0_init 4 = .ok (.aload_n 0, 1) := by decide +kernel
theorem dX0_init_5 : decode cX0_init 5 = .ok (.bipush 6, 2) := by decide +kernel
theorem dX0_init_7 : decode cX0_init 7 = .ok (.anewarray 9, 3) := by decide +kernel
theorem dX0_init_10 : decode cX0_init 10 = .ok (.putfield 11, 3) := by decide +kernel
theorem dX0_init_13 : decode cX0_init 13 = .ok (.aload_n 0, 1) := by decide +kernel
theorem dX0_init_14 : decode cX0_init 14 = .ok (.iconst 4, 1) := by decide +kernel
theorem dX0_init_15 : decode cX0_init 15 = .ok (.anewarray 17, 3) := by decide +kernel
theorem dX0_init_18 : decode cX0_init 18 = .ok (.putfield 19, 3) := by decide +kernel
theorem dX0_init_21 : decode cX0_init 21 = .ok (.aload_n 0, 1) := by decide +kernel
theorem dX0_init_22 : decode cX0_init 22 = .ok (.new 23, 3) := by decide +kernel
theorem dX0_init_25 : decode cX0_init 25 = .ok (.dup, 1) := by decide +kernel
theorem dX0_init_26 : decode cX0_init 26 = .ok (.invokespecial 25, 3) := by decide +kernel
theorem dX0_init_29 : decode cX0_init 29 = .ok (.putfield 26, 3) := by decide +kernel
theorem dX0_init_32 : decode cX0_init 32 = .ok (.iconst 0, 1) := by decide +kernel
theorem dX0_init_33 : decode cX0_init 33 = .ok (.istore_n 1, 1) := by decide +kernel
theorem dX0_init_34 : decode cX0_init 34 = .ok (.iload_n 1, 1) := by decide +kernel
theorem dX0_init_35 : decode cX0_init 35 = .ok (.iconst 4, 1) := by decide +kernel
theorem dX0_init_36 : decode cX0_init 36 = .ok (.if_icmp .ge 22, 3) := by decide +kernel
theorem dX0_init_39 : decode cX0_init 39 = .ok (.aload_n 0, 1) := by decide +kernel
theorem dX0_init_40 : decode cX0_init 40 = .ok (.getfield 19, 3) := by decide +kernel
theorem dX0_init_43 : decode cX0_init 43 = .ok (.iload_n 1, 1) := by decide +kernel
theorem dX0_init_44 : decode cX0_init 44 = .ok (.new 17, 3) := by decide +kernel
theorem dX0_init_47 : decode cX0_init 47 = .ok (.dup, 1) := by decide +kernel
theorem dX0_init_48 : decode cX0_init 48 = .ok (.invokespecial 30, 3) := by decide +kernel
theorem dX0_init_51 : decode cX0_init 51 = .ok (.aastore, 1) := by decide +kernel
theorem dX0_init_52 : decode cX0_init 52 = .ok (.iinc 1 1, 3) := by decide +kernel
theorem dX0_init_55 : decode cX0_init 55 = .ok (.goto (-21), 3) := by decide +kernel
theorem dX0_init_58 : decode cX0_init 58 = .ok (.return_, 1) := by decide +kernel
theorem dX0_canBeAdded_0 : decode cX0_canBeAdded 0 = .ok (.iload_n 1, 1) := by decide +kernel
theorem dX0_canBeAdded_1 : decode cX0_canBeAdded 1 = .ok (.iconst 3, 1) := by decide +kernel
theorem dX0_canBeAdded_2 : decode cX0_canBeAdded 2 = .ok (.if_icmp .lt 16, 3) := by decide +kernel
theorem dX0_canBeAdded_5 : decode cX0_canBeAdded 5 = .ok (.iload_n 1, 1) := by decide +kernel
theorem dX0_canBeAdded_6 : decode cX0_canBeAdded 6 = .ok (.ldc 31, 2) := by decide +kernel
theorem dX0_canBeAdded_8 : decode cX0_canBeAdded 8 = .ok (.if_icmp .gt 10, 3) := by decide +kernel
theorem dX0_canBeAdded_11 : decode cX0_canBeAdded 11 = .ok (.iload_n 1, 1) := by decide +kernel
theorem dX0_canBeAdded_12 : decode cX0_canBeAdded 12 = .ok (.invokestatic 32, 3) := by decide +kernel
theorem dX0_canBeAdded_15 : decode cX0_canBeAdded 15 = .ok (.ifCond .ne 5, 3) := by decide +kernel
theorem dX0_canBeAdded_18 : decode cX0_canBeAdded 18 = .ok (.iconst 0, 1) := by decide +kernel
theorem dX0_canBeAdded_19 : decode cX0_canBeAdded 19 = .ok (.ireturn, 1) := by decide +kernel
theorem dX0_canBeAdded_20 : decode cX0_canBeAdded 20 = .ok (.iconst 0, 1) := by decide +kernel
theorem dX0_canBeAdded_21 : decode cX0_canBeAdded 21 = .ok (.istore_n 2, 1) := by decide +kernel
theorem dX0_canBeAdded_22 : decode cX0_canBeAdded 22 = .ok (.iload_n 2, 1) := by decide +kernel
theorem dX0_canBeAdded_23 : decode cX0_canBeAdded 23 = .ok (.aload_n 0, 1) := by decide +kernel
theorem dX0_canBeAdded_24 : decode cX0_canBeAdded 24 = .ok (.getfield 36, 3) := by decide +kernel
theorem dX0_canBeAdded_27 : decode cX0_canBeAdded 27 = .ok (.if_icmp .ge 24, 3) := by decide +kernel
theorem dX0_canBeAdded_30 : decode cX0_canBeAdded 30 = .ok (.aload_n 0, 1) := by decide +kernel
theorem dX0_canBeAdded_31 : decode cX0_canBeAdded 31 = .ok (.getfield 11, 3) := by decide +kernel
theorem dX0_canBeAdded_34 : decode cX0_canBeAdded 34 = .ok (.iload_n 2, 1) := by decide +kernel
theorem dX0_canBeAdded_35 : decode cX0_canBeAdded 35 = .ok (.aaload, 1) := by decide +kernel
theorem dX0_canBeAdded_36 : decode cX0_canBeAdded 36 = .ok (.getfield 40, 3) := by decide +kernel
theorem dX0_canBeAdded_39 : decode cX0_canBeAdded 39 = .ok (.iload_n 1, 1) := by decide +kernel
theorem dX0_canBeAdded_40 : decode cX0_canBeAdded 40 = .ok (.if_icmp .ne 5, 3) := by decide +kernel
theorem dX0_canBeAdded_43 : decode cX0_canBeAdded 43 = .ok (.iconst 0, 1) := by decide +kernel
theorem dX0_canBeAdded_44 : decode cX0_canBeAdded 44 = .ok (.ireturn, 1) := by decide +kernel
theorem dX0_canBeAdded_45 : decode cX0_canBeAdded 45 = .ok (.iinc 2 1, 3) := by decide +kernel
theorem dX0_canBeAdded_48 : decode cX0_canBeAdded 48 = .ok (.goto (-26), 3) := by decide +kernel
theorem dX0_canBeAdded_51 : decode cX0_canBeAdded 51 = .ok (.iconst 1, 1) := by decide +kernel
theorem dX0_canBeAdded_52 : decode cX0_canBeAdded 52 = .ok (.ireturn, 1) := by decide +kernel
theorem dX0_addField_0 : decode cX0_addField 0 = .ok (.aload_n 0, 1) := by decide +kernel
theorem dX0_addField_1 : decode cX0_addField 1 = .ok (.getfield 36, 3) := by decide +kernel
theorem dX0_addField_4 : decode cX0_addField 4 = .ok (.bipush 6, 2) := by decide +kernel
theorem dX0_addField_6 : decode cX0_addField 6 = .ok (.if_icmp .ge 27, 3) := by decide +kernel
theorem dX0_addField_9 : decode cX0_addField 9 = .ok (.aload_n 0, 1) := by decide +kernel
theorem dX0_addField_10 : decode cX0_addField 10 = .ok (.getfield 11, 3) := by decide +kernel
theorem dX0_addField_13 : decode cX0_addField 13 = .ok (.aload_n 0, 1) := by decide +kernel
theorem dX0_addField_14 : decode cX0_addField 14 = .ok (.dup, 1) := by decide +kernel
theorem dX0_addField_15 : decode cX0_addField 15 = .ok (.getfield 36, 3) := by decide +kernel
theorem dX0_addField_18 : decode cX0_addField 18 = .ok (.dup_x1, 1) := by decide +kernel
theorem dX0_addField_19 : decode cX0_addField 19 = .ok (.iconst 1, 1) := by decide +kernel
theorem dX0_addField_20 : decode cX0_addField 20 = .ok (.iadd, 1) := by decide +kernel
theorem dX0_addField_21 : decode cX0_addField 21 = .ok (.putfield 36, 3) := by decide +kernel
theorem dX0_addField_24 : decode cX0_addField 24 = .ok (.new 9, 3) := by decide +kernel
theorem dX0_addField_27 : decode cX0_addField 27 = .ok (.dup, 1) := by decide +kernel
theorem dX0_addField_28 : decode cX0_addField 28 = .ok (.iload_n 1, 1) := by decide +kernel
theorem dX0_addField_29 : decode cX0_addField 29 = .ok (.invokespecial 43, 3) := by decide +kernel
theorem dX0_addField_32 : decode cX0_addField 32 = .ok (.aastore, 1) := by decide +kernel
theorem dX0_addField_33 : decode cX0_addField 33 = .ok (.return_, 1) := by decide +kernel
theorem dX0_removeField_0 : decode cX0_removeField 0 = .ok (.aload_n 0, 1) := by decide +kernel
theorem dX0_removeField_1 : decode cX0_removeField 1 = .ok (.dup, 1) := by decide +kernel
theorem dX0_removeField_2 : decode cX0_removeField 2 = .ok (.getfield 36, 3) := by decide +kernel
theorem dX0_removeField_5 : decode cX0_removeField 5 = .ok (.iconst 1, 1) := by decide +kernel
theorem dX0_removeField_6 : decode cX0_removeField 6 = .ok (.isub, 1) := by decide +kernel
theorem dX0_removeField_7 : decode cX0_removeField 7 = .ok (.putfield 36, 3) := by decide +kernel
theorem dX0_removeField_10 : decode cX0_removeField 10 = .ok (.iload_n 1, 1) := by decide +kernel
theorem dX0_removeField_11 : decode cX0_removeField 11 = .ok (.istore_n 2, 1) := by decide +kernel
theorem dX0_removeField_12 : decode cX0_removeField 12 = .ok (.iload_n 2, 1) := by decide +kernel
theorem dX0_removeField_13 : decode cX0_removeField 13 = .ok (.aload_n 0, 1) := by decide +kernel
theorem dX0_removeField_14 : decode cX0_removeField 14 = .ok (.getfield 36, 3) := by decide +kernel
theorem dX0_removeField_17 : decode cX0_removeField 17 = .ok (.if_icmp .ge 23, 3) := by decide +kernel
theorem dX0_removeField_20 : decode cX0_removeField 20 = .ok (.aload_n 0, 1) := by decide +kernel
theorem dX0_removeField_21 : decode cX0_removeField 21 = .ok (.getfield 11, 3) := by decide +kernel
theorem dX0_removeField_24 : decode cX0_removeField 24 = .ok (.iload_n 2, 1) := by decide +kernel
theorem dX0_removeField_25 : decode cX0_removeField 25 = .ok (.aload_n 0, 1) := by decide +kernel
theorem dX0_removeField_26 : decode cX0_removeField 26 = .ok (.getfield 11, 3) := by decide +kernel
theorem dX0_removeField_29 : decode cX0_removeField 29 = .ok (.iload_n 2, 1) := by decide +kernel
theorem dX0_removeField_30 : decode cX0_removeField 30 = .ok (.iconst 1, 1) := by decide +kernel
theorem dX0_removeField_31 : decode cX0_removeField 31 = .ok (.iadd, 1) := by decide +kernel
theorem dX0_removeField_32 : decode cX0_removeField 32 = .ok (.aaload, 1) := by decide +kernel
theorem dX0_removeField_33 : decode cX0_removeField 33 = .ok (.aastore, 1) := by decide +kernel
theorem dX0_removeField_34 : decode cX0_removeField 34 = .ok (.iinc 2 1, 3) := by decide +kernel
theorem dX0_removeField_37 : decode cX0_removeField 37 = .ok (.goto (-25), 3) := by decide +kernel
theorem dX0_removeField_40 : decode cX0_removeField 40 = .ok (.return_, 1) := by decide +kernel
theorem dX0_exchange_0 : decode cX0_exchange 0 = .ok (.aload_n 0, 1) := by decide +kernel
theorem dX0_exchange_1 : decode cX0_exchange 1 = .ok (.getfield 19, 3) := by decide +kernel
theorem dX0_exchange_4 : decode cX0_exchange 4 = .ok (.iload_n 1, 1) := by decide +kernel
theorem dX0_exchange_5 : decode cX0_exchange 5 = .ok (.aaload, 1) := by decide +kernel
theorem dX0_exchange_6 : decode cX0_exchange 6 = .ok (.astore_n 3, 1) := by decide +kernel
theorem dX0_exchange_7 : decode cX0_exchange 7 = .ok (.aload_n 0, 1) := by decide +kernel
theorem dX0_exchange_8 : decode cX0_exchange 8 = .ok (.getfield 19, 3) := by decide +kernel
theorem dX0_exchange_11 : decode cX0_exchange 11 = .ok (.iload_n 1, 1) := by decide +kernel
theorem dX0_exchange_12 : decode cX0_exchange 12 = .ok (.aload_n 0, 1) := by decide +kernel
theorem dX0_exchange_13 : decode cX0_exchange 13 = .ok (.getfield 19, 3) := by decide +kernel
theorem dX0_exchange_16 : decode cX0_exchange 16 = .ok (.iload_n 2, 1) := by decide +kernel
theorem dX0_exchange_17 : decode cX0_exchange 17 = .ok (.aaload, 1) := by decide +kernel
theorem dX0_exchange_18 : decode cX0_exchange 18 = .ok (.aastore, 1) := by decide +kernel
theorem dX0_exchange_19 : decode cX0_exchange 19 = .ok (.aload_n 0, 1) := by decide +kernel
theorem dX0_exchange_20 : decode cX0_exchange 20 = .ok (.getfield 19, 3) := by decide +kernel
theorem dX0_exchange_23 : decode cX0_exchange 23 = .ok (.iload_n 2, 1) := by decide +kernel
theorem dX0_exchange_24 : decode cX0_exchange 24 = .ok (.aload_n 3, 1) := by decide +kernel
theorem dX0_exchange_25 : decode cX0_exchange 25 = .ok (.aastore, 1) := by decide +kernel
theorem dX0_exchange_26 : decode cX0_exchange 26 = .ok (.return_, 1) := by decide +kernel
theorem dX0_usableFields_0 : decode cX0_usableFields 0 = .ok (.iload_n 1, 1) := by decide +kernel
theorem dX0_usableFields_1 : decode cX0_usableFields 1 = .ok (.iconst 2, 1) := by decide +kernel
theorem dX0_usableFields_2 : decode cX0_usableFields 2 = .ok (.if_icmp .ne 9, 3) := by decide +kernel
theorem dX0_usableFields_5 : decode cX0_usableFields 5 = .ok (.iconst 2, 1) := by decide +kernel
theorem dX0_usableFields_6 : decode cX0_usableFields 6 = .ok (.iload_n 2, 1) := by decide +kernel
theorem dX0_usableFields_7 : decode cX0_usableFields 7 = .ok (.imul, 1) := by decide +kernel
theorem dX0_usableFields_8 : decode cX0_usableFields 8 = .ok (.goto 4, 3) := by decide +kernel
theorem dX0_usableFields_11 : decode cX0_usableFields 11 = .ok (.iload_n 2, 1) := by decide +kernel
theorem dX0_usableFields_12 : decode cX0_usableFields 12 = .ok (.istore_n 3, 1) := by decide +kernel
theorem dX0_usableFields_13 : decode cX0_usableFields 13 = .ok (.iconst 0, 1) := by decide +kernel
theorem dX0_usableFields_14 : decode cX0_usableFields 14 = .ok (.istore 4, 2) := by decide +kernel
theorem dX0_usableFields_16 : decode cX0_usableFields 16 = .ok (.iconst 0, 1) := by decide +kernel
theorem dX0_usableFields_17 : decode cX0_usableFields 17 = .ok (.istore 5, 2) := by decide +kernel
theorem dX0_usableFields_19 : decode cX0_usableFields 19 = .ok (.iload 5, 2) := by decide +kernel
theorem dX0_usableFields_21 : decode cX0_usableFields 21 = .ok (.aload_n 0, 1) := by decide +kernel
theorem dX0_usableFields_22 : decode cX0_usableFields 22 = .ok (.getfield 36, 3) := by decide +kernel
theorem dX0_usableFields_25 : decode cX0_usableFields 25 = .ok (.if_icmp .ge 32, 3) := by decide +kernel
theorem dX0_usableFields_28 : decode cX0_usableFields 28 = .ok (.aload_n 0, 1) := by decide +kernel
theorem dX0_usableFields_29 : decode cX0_usableFields 29 = .ok (.getfield 11, 3) := by decide +kernel
theorem dX0_usableFields_32 : decode cX0_usableFields 32 = .ok (.iload 5, 2) := by decide +kernel
theorem dX0_usableFields_34 : decode cX0_usableFields 34 = .ok (.aaload, 1) := by decide +kernel
theorem dX0_usableFields_35 : decode cX0_usableFields 35 = .ok (.iload_n 3, 1) := by decide +kernel
theorem dX0_usableFields_36 : decode cX0_usableFields 36 = .ok (.invokevirtual 46, 3) := by decide +kernel
theorem dX0_usableFields_39 : decode cX0_usableFields 39 = .ok (.ifCond .eq 12, 3) := by decide +kernel
theorem dX0_usableFields_42 : decode cX0_usableFields 42 = .ok (.iload 4, 2) := by decide +kernel
theorem dX0_usableFields_44 : decode cX0_usableFields 44 = .ok (.iconst 1, 1) := by decide +kernel
theorem dX0_usableFields_45 : decode cX0_usableFields 45 = .ok (.iload 5, 2) := by decide +kernel
theorem dX0_usableFields_47 : decode cX0_usableFields 47 = .ok (.ishl, 1) := by decide +kernel
theorem dX0_usableFields_48 : decode cX0_usableFields 48 = .ok (.ior, 1) := by decide +kernel
theorem dX0_usableFields_49 : decode cX0_usableFields 49 = .ok (.istore 4, 2) := by decide +kernel
theorem dX0_usableFields_51 : decode cX0_usableFields 51 = .ok (.iinc 5 1, 3) := by decide +kernel
theorem dX0_usableFields_54 : decode cX0_usableFields 54 = .ok (.goto (-35), 3) := by decide +kernel
theorem dX0_usableFields_57 : decode cX0_usableFields 57 = .ok (.iload 4, 2) := by decide +kernel
theorem dX0_usableFields_59 : decode cX0_usableFields 59 = .ok (.ireturn, 1) := by decide +kernel
theorem dX0_longestTransform_0 : decode cX0_longestTransform 0 = .ok (.bipush 64, 2) := by decide +kernel
theorem dX0_longestTransform_2 : decode cX0_longestTransform 2 = .ok (.istore_n 2, 1) := by decide +kernel
theorem dX0_longestTransform_3 : decode cX0_longestTransform 3 = .ok (.iload_n 2, 1) := by decide +kernel
theorem dX0_longestTransform_4 : decode cX0_longestTransform 4 = .ok (.iconst 1, 1) := by decide +kernel
theorem dX0_longestTransform_5 : decode cX0_longestTransform 5 = .ok (.if_icmp .le 24, 3) := by decide +kernel
theorem dX0_longestTransform_8 : decode cX0_longestTransform 8 = .ok (.iload_n 1, 1) := by decide +kernel
theorem dX0_longestTransform_9 : decode cX0_longestTransform 9 = .ok (.aload_n 0, 1) := by decide +kernel
theorem dX0_longestTransform_10 : decode cX0_longestTransform 10 = .ok (.iconst 1, 1) := by decide +kernel
theorem dX0_longestTransform_11 : decode cX0_longestTransform 11 = .ok (.iload_n 2, 1) := by decide +kernel
theorem dX0_longestTransform_12 : decode cX0_longestTransform 12 = .ok (.invokevirtual 49, 3) := by decide +kernel
theorem dX0_longestTransform_15 : decode cX0_longestTransform 15 = .ok (.iconst (-1), 1) := by decide +kernel
theorem dX0_longestTransform_16 : decode cX0_longestTransform 16 = .ok (.ixor, 1) := by decide +kernel
theorem dX0_longestTransform_17 : decode cX0_longestTransform 17 = .ok (.iand, 1) := by decide +kernel
theorem dX0_longestTransform_18 : decode cX0_longestTransform 18 = .ok (.ifCond .ne 5, 3) := by decide +kernel
theorem dX0_longestTransform_21 : decode cX0_longestTransform 21 = .ok (.iload_n 2, 1) := by decide +kernel
theorem dX0_longestTransform_22 : decode cX0_longestTransform 22 = .ok (.ireturn, 1) := by decide +kernel
theorem dX0_longestTransform_23 : decode cX0_longestTransform 23 = .ok (.iinc 2 (-1), 3) := by decide +kernel
theorem dX0_longestTransform_26 : decode cX0_longestTransform 26 = .ok (.goto (-23), 3) := by decide +kernel
theorem dX0_longestTransform_29 : decode cX0_longestTransform 29 = .ok (.iconst 1, 1) := by decide +kernel
theorem dX0_longestTransform_30 : decode cX0_longestTransform 30 = .ok (.ireturn, 1) := by decide +kernel
theorem dX0_areEnough_0 : decode cX0_areEnough 0 = .ok (.aload_n 0, 1) := by decide +kernel
theorem dX0_areEnough_1 : decode cX0_areEnough 1 = .ok (.iload_n 1, 1) := by decide +kernel
theorem dX0_areEnough_2 : decode cX0_areEnough 2 = .ok (.ldc2_w 53, 3) := by decide +kernel
theorem dX0_areEnough_5 : decode cX0_areEnough 5 = .ok (.lload_n 2, 1) := by decide +kernel
theorem dX0_areEnough_6 : decode cX0_areEnough 6 = .ok (.lmul, 1) := by decide +kernel
theorem dX0_areEnough_7 : decode cX0_areEnough 7 = .ok (.invokevirtual 55, 3) := by decide +kernel
theorem dX0_areEnough_10 : decode cX0_areEnough 10 = .ok (.ireturn, 1) := by decide +kernel
theorem dX0_isProductGreater_0 : decode cX0_isProductGreater 0 = .ok (.lconst 1, 1) := by decide +kernel
theorem dX0_isProductGreater_1 : decode cX0_isProductGreater 1 = .ok (.lstore 4, 2) := by decide +kernel
theorem dX0_isProductGreater_3 : decode cX0_isProductGreater 3 = .ok (.iconst 0, 1) := by decide +kernel
theorem dX0_isProductGreater_4 : decode cX0_isProductGreater 4 = .ok (.istore 6, 2) := by decide +kernel
theorem dX0_isProductGreater_6 : decode cX0_isProductGreater 6 = .ok (.iload 6, 2) := by decide +kernel
theorem dX0_isProductGreater_8 : decode cX0_isProductGreater 8 = .ok (.aload_n 0, 1) := by decide +kernel
theorem dX0_isProductGreater_9 : decode cX0_isProductGreater 9 = .ok (.getfield 36, 3) := by decide +kernel
theorem dX0_isProductGreater_12 : decode cX0_isProductGreater 12 = .ok (.if_icmp .ge 55, 3) := by decide +kernel
theorem dX0_isProductGreater_15 : decode cX0_isProductGreater 15 = .ok (.iload_n 1, 1) := by decide +kernel
theorem dX0_isProductGreater_16 : decode cX0_isProductGreater 16 = .ok (.iload 6, 2) := by decide +kernel
theorem dX0_isProductGreater_18 : decode cX0_isProductGreater 18 = .ok (.ishr, 1) := by decide +kernel
theorem dX0_isProductGreater_19 : decode cX0_isProductGreater 19 = .ok (.iconst 1, 1) := by decide +kernel
theorem dX0_isProductGreater_20 : decode cX0_isProductGreater 20 = .ok (.iand, 1) := by decide +kernel
theorem dX0_isProductGreater_21 : decode cX0_isProductGreater 21 = .ok (.ifCond .eq 40, 3) := by decide +kernel
theorem dX0_isProductGreater_24 : decode cX0_isProductGreater 24 = .ok (.lload 4, 2) := by decide +kernel
theorem dX0_isProductGreater_26 : decode cX0_isProductGreater 26 = .ok (.lload_n 2, 1) := by decide +kernel
theorem dX0_isProductGreater_27 : decode cX0_isProductGreater 27 = .ok (.aload_n 0, 1) := by decide +kernel
theorem dX0_isProductGreater_28 : decode cX0_isProductGreater 28 = .ok (.getfield 11, 3) := by decide +kernel
theorem dX0_isProductGreater_31 : decode cX0_isProductGreater 31 = .ok (.iload 6, 2) := by decide +kernel
theorem dX0_isProductGreater_33 : decode cX0_isProductGreater 33 = .ok (.aaload, 1) := by decide +kernel
theorem dX0_isProductGreater_34 : decode cX0_isProductGreater 34 = .ok (.getfield 40, 3) := by decide +kernel
theorem dX0_isProductGreater_37 : decode cX0_isProductGreater 37 = .ok (.i2l, 1) := by decide +kernel
theorem dX0_isProductGreater_38 : decode cX0_isProductGreater 38 = .ok (.ldiv, 1) := by decide +kernel
theorem dX0_isProductGreater_39 : decode cX0_isProductGreater 39 = .ok (.lcmp, 1) := by decide +kernel
theorem dX0_isProductGreater_40 : decode cX0_isProductGreater 40 = .ok (.ifCond .le 5, 3) := by decide +kernel
theorem dX0_isProductGreater_43 : decode cX0_isProductGreater 43 = .ok (.iconst 1, 1) := by decide +kernel
theorem dX0_isProductGreater_44 : decode cX0_isProductGreater 44 = .ok (.ireturn, 1) := by decide +kernel
theorem dX0_isProductGreater_45 : decode cX0_isProductGreater 45 = .ok (.lload 4, 2) := by decide +kernel
theorem dX0_isProductGreater_47 : decode cX0_isProductGreater 47 = .ok (.aload_n 0, 1) := by decide +kernel
theorem dX0_isProductGreater_48 : decode cX0_isProductGreater 48 = .ok (.getfield 11, 3) := by decide +kernel
theorem dX0_isProductGreater_51 : decode cX0_isProductGreater 51 = .ok (.iload 6, 2) := by decide +kernel
theorem dX0_isProductGreater_53 : decode cX0_isProductGreater 53 = .ok (.aaload, 1) := by decide +kernel
theorem dX0_isProductGreater_54 : decode cX0_isProductGreater 54 = .ok (.getfield 40, 3) := by decide +kernel
theorem dX0_isProductGreater_57 : decode cX0_isProductGreater 57 = .ok (.i2l, 1) := by decide +kernel
theorem dX0_isProductGreater_58 : decode cX0_isProductGreater 58 = .ok (.lmul, 1) := by decide +kernel
theorem dX0_isProductGreater_59 : decode cX0_isProductGreater 59 = .ok (.lstore 4, 2) := by decide +kernel
theorem dX0_isProductGreater_61 : decode cX0_isProductGreater 61 = .ok (.iinc 6 1, 3) := by decide +kernel
theorem dX0_isProductGreater_64 : decode cX0_isProductGreater 64 = .ok (.goto (-58), 3) := by decide +kernel
theorem dX0_isProductGreater_67 : decode cX0_isProductGreater 67 = .ok (.iconst 0, 1) := by decide +kernel
theorem dX0_isProductGreater_68 : decode cX0_isProductGreater 68 = .ok (.ireturn, 1) := by decide +kernel
theorem dX0_clear_0 : decode cX0_clear 0 = .ok (.aload_n 0, 1) := by decide +kernel
theorem dX0_clear_1 : decode cX0_clear 1 = .ok (.iconst 0, 1) := by decide +kernel
theorem dX0_clear_2 : decode cX0_clear 2 = .ok (.putfield 36, 3) := by decide +kernel
theorem dX0_clear_5 : decode cX0_clear 5 = .ok (.iconst 0, 1) := by decide +kernel
theorem dX0_clear_6 : decode cX0_clear 6 = .ok (.istore_n 1, 1) := by decide +kernel
theorem dX0_clear_7 : decode cX0_clear 7 = .ok (.iload_n 1, 1) := by decide +kernel
theorem dX0_clear_8 : decode cX0_clear 8 = .ok (.iconst 4, 1) := by decide +kernel
theorem dX0_clear_9 : decode cX0_clear 9 = .ok (.if_icmp .ge 19, 3) := by decide +kernel
theorem dX0_clear_12 : decode cX0_clear 12 = .ok (.aload_n 0, 1) := by decide +kernel
theorem dX0_clear_13 : decode cX0_clear 13 = .ok (.getfield 19, 3) := by decide +kernel
theorem dX0_clear_16 : decode cX0_clear 16 = .ok (.iload_n 1, 1) := by decide +kernel
theorem dX0_clear_17 : decode cX0_clear 17 = .ok (.aaload, 1) := by decide +kernel
theorem dX0_clear_18 : decode cX0_clear 18 = .ok (.iconst 0, 1) := by decide +kernel
theorem dX0_clear_19 : decode cX0_clear 19 = .ok (.putfield 59, 3) := by decide +kernel
theorem dX0_clear_22 : decode cX0_clear 22 = .ok (.iinc 1 1, 3) := by decide +kernel
theorem dX0_clear_25 : decode cX0_clear 25 = .ok (.goto (-18), 3) := by decide +kernel
theorem dX0_clear_28 : decode cX0_clear 28 = .ok (.aload_n 0, 1) := by decide +kernel
theorem dX0_clear_29 : decode cX0_clear 29 = .ok (.getfield 26, 3) := by decide +kernel
theorem dX0_clear_32 : decode cX0_clear 32 = .ok (.invokevirtual 62, 3) := by decide +kernel
theorem dX0_clear_35 : decode cX0_clear 35 = .ok (.return_, 1) := by decide +kernel
theorem dX0_copyFrom_0 : decode cX0_copyFrom 0 = .ok (.aload_n 0, 1) := by decide +kernel
theorem dX0_copyFrom_1 : decode cX0_copyFrom 1 = .ok (.aload_n 1, 1) := by decide +kernel
theorem dX0_copyFrom_2 : decode cX0_copyFrom 2 = .ok (.getfield 36, 3) := by decide +kernel
theorem dX0_copyFrom_5 : decode cX0_copyFrom 5 = .ok (.putfield 36, 3) := by decide +kernel
theorem dX0_copyFrom_8 : decode cX0_copyFrom 8 = .ok (.aload_n 1, 1) := by decide +kernel
theorem dX0_copyFrom_9 : decode cX0_copyFrom 9 = .ok (.getfield 11, 3) := by decide +kernel
theorem dX0_copyFrom_12 : decode cX0_copyFrom 12 = .ok (.aload_n 0, 1) := by decide +kernel
theorem dX0_copyFrom_13 : decode cX0_copyFrom 13 = .ok (.getfield 11, 3) := by decide +kernel
theorem dX0_copyFrom_16 : decode cX0_copyFrom 16 = .ok (.invokestatic 65, 3) := by decide +kernel
theorem dX0_copyFrom_19 : decode cX0_copyFrom 19 = .ok (.iconst 0, 1) := by decide +kernel
theorem dX0_copyFrom_20 : decode cX0_copyFrom 20 = .ok (.istore_n 2, 1) := by decide +kernel
theorem dX0_copyFrom_21 : decode cX0_copyFrom 21 = .ok (.iload_n 2, 1) := by decide +kernel
theorem dX0_copyFrom_22 : decode cX0_copyFrom 22 = .ok (.iconst 4, 1) := by decide +kernel
theorem dX0_copyFrom_23 : decode cX0_copyFrom 23 = .ok (.if_icmp .ge 24, 3) := by decide +kernel
theorem dX0_copyFrom_26 : decode cX0_copyFrom 26 = .ok (.aload_n 0, 1) := by decide +kernel
theorem dX0_copyFrom_27 : decode cX0_copyFrom 27 = .ok (.getfield 19, 3) := by decide +kernel
theorem dX0_copyFrom_30 : decode cX0_copyFrom 30 = .ok (.iload_n 2, 1) := by decide +kernel
theorem dX0_copyFrom_31 : decode cX0_copyFrom 31 = .ok (.aaload, 1) := by decide +kernel
theorem dX0_copyFrom_32 : decode cX0_copyFrom 32 = .ok (.aload_n 1, 1) := by decide +kernel
theorem dX0_copyFrom_33 : decode cX0_copyFrom 33 = .ok (.getfield 19, 3) := by decide +kernel
theorem dX0_copyFrom_36 : decode cX0_copyFrom 36 = .ok (.iload_n 2, 1) := by decide +kernel
theorem dX0_copyFrom_37 : decode cX0_copyFrom 37 = .ok (.aaload, 1) := by decide +kernel
theorem dX0_copyFrom_38 : decode cX0_copyFrom 38 = .ok (.invokevirtual 69, 3) := by decide +kernel
theorem dX0_copyFrom_41 : decode cX0_copyFrom 41 = .ok (.iinc 2 1, 3) := by decide +kernel
theorem dX0_copyFrom_44 : decode cX0_copyFrom 44 = .ok (.goto (-23), 3) := by decide +kernel
theorem dX0_copyFrom_47 : decode cX0_copyFrom 47 = .ok (.aload_n 0, 1) := by decide +kernel
theorem dX0_copyFrom_48 : decode cX0_copyFrom 48 = .ok (.getfield 26, 3) := by decide +kernel
theorem dX0_copyFrom_51 : decode cX0_copyFrom 51 = .ok (.aload_n 1, 1) := by decide +kernel
theorem dX0_copyFrom_52 : decode cX0_copyFrom 52 = .ok (.getfield 26, 3) := by decide +kernel
theorem dX0_copyFrom_55 : decode cX0_copyFrom 55 = .ok (.invokevirtual 73, 3) := by decide +kernel
theorem dX0_copyFrom_58 : decode cX0_copyFrom 58 = .ok (.return_, 1) := by decide +kernel
theorem dX1_init_0 : decode cX1_init 0 = .ok (.aload_n 0, 1) := by decide +kernel
theorem dX1_init_1 : decode cX1_init 1 = .ok (.invokespecial 3, 3) := by decide +kernel
theorem dX1_init_4 : decode cX1_init 4 = .ok (.aload_n 0, 1) := by decide +kernel
theorem dX1_init_5 : decode cX1_init 5 = .ok (.bipush 6, 2) := by decide +kernel
theorem dX1_init_7 : decode cX1_init 7 = .ok (.newarray .int, 2) := by decide +kernel
theorem dX1_init_9 : decode cX1_init 9 = .ok (.putfield 11, 3) := by decide +kernel
theorem dX1_init_12 : decode cX1_init 12 = .ok (.aload_n 0, 1) := by decide +kernel
theorem dX1_init_13 : decode cX1_init 13 = .ok (.iload_n 1, 1) := by decide +kernel
theorem dX1_init_14 : decode cX1_init 14 = .ok (.iconst 3, 1) := by decide +kernel
theorem dX1_init_15 : decode cX1_init 15 = .ok (.invokestatic 15, 3) := by decide +kernel
theorem dX1_init_18 : decode cX1_init 18 = .ok (.putfield 21, 3) := by decide +kernel
theorem dX1_init_21 : decode cX1_init 21 = .ok (.aload_n 0, 1) := by decide +kernel
theorem dX1_init_22 : decode cX1_init 22 = .ok (.aload_n 0, 1) := by decide +kernel
theorem dX1_init_23 : decode cX1_init 23 = .ok (.invokevirtual 25, 3) := by decide +kernel
theorem dX1_init_26 : decode cX1_init 26 = .ok (.putfield 29, 3) := by decide +kernel
theorem dX1_init_29 : decode cX1_init 29 = .ok (.aload_n 0, 1) := by decide +kernel
theorem dX1_init_30 : decode cX1_init 30 = .ok (.aload_n 0, 1) := by decide +kernel
theorem dX1_init_31 : decode cX1_init 31 = .ok (.invokevirtual 32, 3) := by decide +kernel
theorem dX1_init_34 : decode cX1_init 34 = .ok (.putfield 35, 3) := by decide +kernel
theorem dX1_init_37 : decode cX1_init 37 = .ok (.return_, 1) := by decide +kernel
theorem dX1_findFactors_0 : decode cX1_findFactors 0 = .ok (.iconst 0, 1) := by decide +kernel
theorem dX1_findFactors_1 : decode cX1_findFactors 1 = .ok (.istore_n 1, 1) := by decide +kernel
theorem dX1_findFactors_2 : decode cX1_findFactors 2 = .ok (.aload_n 0, 1) := by decide +kernel
theorem dX1_findFactors_3 : decode cX1_findFactors 3 = .ok (.getfield 21, 3) := by decide +kernel
theorem dX1_findFactors_6 : decode cX1_findFactors 6 = .ok (.iconst 1, 1) := by decide +kernel
theorem dX1_findFactors_7 : decode cX1_findFactors 7 = .ok (.isub, 1) := by decide +kernel
theorem dX1_findFactors_8 : decode cX1_findFactors 8 = .ok (.istore_n 2, 1) := by decide +kernel
theorem dX1_findFactors_9 : decode cX1_findFactors 9 = .ok (.iconst 2, 1) := by decide +kernel
theorem dX1_findFactors_10 : decode cX1_findFactors 10 = .ok (.istore_n 3, 1) := by decide +kernel
theorem dX1_findFactors_11 : decode cX1_findFactors 11 = .ok (.iload_n 3, 1) := by decide +kernel
theorem dX1_findFactors_12 : decode cX1_findFactors 12 = .ok (.iload_n 2, 1) := by decide +kernel
theorem dX1_findFactors_13 : decode cX1_findFactors 13 = .ok (.iload_n 3, 1) := by decide +kernel
theorem dX1_findFactors_14 : decode cX1_findFactors 14 = .ok (.idiv, 1) := by decide +kernel
theorem dX1_findFactors_15 : decode cX1_findFactors 15 = .ok (.if_icmp .gt 49, 3) := by decide +kernel
theorem dX1_findFactors_18 : decode cX1_findFactors 18 = .ok (.iload_n 2, 1) := by decide +kernel
theorem dX1_findFactors_19 : decode cX1_findFactors 19 = .ok (.iload_n 3, 1) := by decide +kernel
theorem dX1_findFactors_20 : decode cX1_findFactors 20 = .ok (.irem, 1) := by decide +kernel
theorem dX1_findFactors_21 : decode cX1_findFactors 21 = .ok (.ifCond .ne 19, 3) := by decide +kernel
theorem dX1_findFactors_24 : decode cX1_findFactors 24 = .ok (.iload_n 1, 1) := by decide +kernel
theorem dX1_findFactors_25 : decode cX1_findFactors 25 = .ok (.bipush 6, 2) := by decide +kernel
theorem dX1_findFactors_27 : decode cX1_findFactors 27 = .ok (.if_icmp .ge 13, 3) := by decide +kernel
theorem dX1_findFactors_30 : decode cX1_findFactors 30 = .ok (.aload_n 0, 1) := by decide +kernel
theorem dX1_findFactors_31 : decode cX1_findFactors 31 = .ok (.getfield 11, 3) := by decide +kernel
theorem dX1_findFactors_34 : decode cX1_findFactors 34 = .ok (.iload_n 1, 1) := by decide +kernel
theorem dX1_findFactors_35 : decode cX1_findFactors 35 = .ok (.iinc 1 1, 3) := by decide +kernel
theorem dX1_findFactors_38 : decode cX1_findFactors 38 = .ok (.iload_n 3, 1) := by decide +kernel
theorem dX1_findFactors_39 : decode cX1_findFactors 39 = .ok (.iastore, 1) := by decide +kernel
theorem dX1_findFactors_40 : decode cX1_findFactors 40 = .ok (.iload_n 2, 1) := by decide +kernel
theorem dX1_findFactors_41 : decode cX1_findFactors 41 = .ok (.iconst 1, 1) := by decide +kernel
theorem dX1_findFactors_42 : decode cX1_findFactors 42 = .ok (.if_icmp .le 16, 3) := by decide +kernel
theorem dX1_findFactors_45 : decode cX1_findFactors 45 = .ok (.iload_n 2, 1) := by decide +kernel
theorem dX1_findFactors_46 : decode cX1_findFactors 46 = .ok (.iload_n 3, 1) := by decide +kernel
theorem dX1_findFactors_47 : decode cX1_findFactors 47 = .ok (.irem, 1) := by decide +kernel
theorem dX1_findFactors_48 : decode cX1_findFactors 48 = .ok (.ifCond .ne 10, 3) := by decide +kernel
theorem dX1_findFactors_51 : decode cX1_findFactors 51 = .ok (.iload_n 2, 1) := by decide +kernel
theorem dX1_findFactors_52 : decode cX1_findFactors 52 = .ok (.iload_n 3, 1) := by decide +kernel
theorem dX1_findFactors_53 : decode cX1_findFactors 53 = .ok (.idiv, 1) := by decide +kernel
theorem dX1_findFactors_54 : decode cX1_findFactors 54 = .ok (.istore_n 2, 1) := by decide +kernel
theorem dX1_findFactors_55 : decode cX1_findFactors 55 = .ok (.goto (-15), 3) := by decide +kernel
theorem dX1_findFactors_58 : decode cX1_findFactors 58 = .ok (.iinc 3 1, 3) := by decide +kernel
theorem dX1_findFactors_61 : decode cX1_findFactors 61 = .ok (.goto (-50), 3) := by decide +kernel
theorem dX1_findFactors_64 : decode cX1_findFactors 64 = .ok (.iload_n 2, 1) := by decide +kernel
theorem dX1_findFactors_65 : decode cX1_findFactors 65 = .ok (.iconst 1, 1) := by decide +kernel
theorem dX1_findFactors_66 : decode cX1_findFactors 66 = .ok (.if_icmp .le 19, 3) := by decide +kernel
theorem dX1_findFactors_69 : decode cX1_findFactors 69 = .ok (.iload_n 1, 1) := by decide +kernel
theorem dX1_findFactors_70 : decode cX1_findFactors 70 = .ok (.bipush 6, 2) := by decide +kernel
theorem dX1_findFactors_72 : decode cX1_findFactors 72 = .ok (.if_icmp .ge 13, 3) := by decide +kernel
theorem dX1_findFactors_75 : decode cX1_findFactors 75 = .ok (.aload_n 0, 1) := by decide +kernel
theorem dX1_findFactors_76 : decode cX1_findFactors 76 = .ok (.getfield 11, 3) := by decide +kernel
theorem dX1_findFactors_79 : decode cX1_findFactors 79 = .ok (.iload_n 1, 1) := by decide +kernel
theorem dX1_findFactors_80 : decode cX1_findFactors 80 = .ok (.iinc 1 1, 3) := by decide +kernel
theorem dX1_findFactors_83 : decode cX1_findFactors 83 = .ok (.iload_n 2, 1) := by decide +kernel
theorem dX1_findFactors_84 : decode cX1_findFactors 84 = .ok (.iastore, 1) := by decide +kernel
theorem dX1_findFactors_85 : decode cX1_findFactors 85 = .ok (.iload_n 1, 1) := by decide +kernel
theorem dX1_findFactors_86 : decode cX1_findFactors 86 = .ok (.ireturn, 1) := by decide +kernel
theorem dX1_leastGenerator_0 : decode cX1_leastGenerator 0 = .ok (.iconst 2, 1) := by decide +kernel
theorem dX1_leastGenerator_1 : decode cX1_leastGenerator 1 = .ok (.istore_n 1, 1) := by decide +kernel
theorem dX1_leastGenerator_2 : decode cX1_leastGenerator 2 = .ok (.iload_n 1, 1) := by decide +kernel
theorem dX1_leastGenerator_3 : decode cX1_leastGenerator 3 = .ok (.aload_n 0, 1) := by decide +kernel
theorem dX1_leastGenerator_4 : decode cX1_leastGenerator 4 = .ok (.getfield 21, 3) := by decide +kernel
theorem dX1_leastGenerator_7 : decode cX1_leastGenerator 7 = .ok (.if_icmp .ge 65, 3) := by decide +kernel
theorem dX1_leastGenerator_10 : decode cX1_leastGenerator 10 = .ok (.iconst 1, 1) := by decide +kernel
theorem dX1_leastGenerator_11 : decode cX1_leastGenerator 11 = .ok (.istore_n 2, 1) := by decide +kernel
theorem dX1_leastGenerator_12 : decode cX1_leastGenerator 12 = .ok (.iconst 0, 1) := by decide +kernel
theorem dX1_leastGenerator_13 : decode cX1_leastGenerator 13 = .ok (.istore_n 3, 1) := by decide +kernel
theorem dX1_leastGenerator_14 : decode cX1_leastGenerator 14 = .ok (.iload_n 3, 1) := by decide +kernel
theorem dX1_leastGenerator_15 : decode cX1_leastGenerator 15 = .ok (.aload_n 0, 1) := by decide +kernel
theorem dX1_leastGenerator_16 : decode cX1_leastGenerator 16 = .ok (.getfield 29, 3) := by decide +kernel
theorem dX1_leastGenerator_19 : decode cX1_leastGenerator 19 = .ok (.if_icmp .ge 41, 3) := by decide +kernel
theorem dX1_leastGenerator_22 : decode cX1_leastGenerator 22 = .ok (.iload_n 2, 1) := by decide +kernel
theorem dX1_leastGenerator_23 : decode cX1_leastGenerator 23 = .ok (.ifCond .eq 37, 3) := by decide +kernel
theorem dX1_leastGenerator_26 : decode cX1_leastGenerator 26 = .ok (.aload_n 0, 1) := by decide +kernel
theorem dX1_leastGenerator_27 : decode cX1_leastGenerator 27 = .ok (.iload_n 1, 1) := by decide +kernel
theorem dX1_leastGenerator_28 : decode cX1_leastGenerator 28 = .ok (.aload_n 0, 1) := by decide +kernel
theorem dX1_leastGenerator_29 : decode cX1_leastGenerator 29 = .ok (.getfield 21, 3) := by decide +kernel
theorem dX1_leastGenerator_32 : decode cX1_leastGenerator 32 = .ok (.iconst 1, 1) := by decide +kernel
theorem dX1_leastGenerator_33 : decode cX1_leastGenerator 33 = .ok (.isub, 1) := by decide +kernel
theorem dX1_leastGenerator_34 : decode cX1_leastGenerator 34 = .ok (.aload_n 0, 1) := by decide +kernel
theorem dX1_leastGenerator_35 : decode cX1_leastGenerator 35 = .ok (.getfield 11, 3) := by decide +kernel
theorem dX1_leastGenerator_38 : decode cX1_leastGenerator 38 = .ok (.iload_n 3, 1) := by decide +kernel
theorem dX1_leastGenerator_39 : decode cX1_leastGenerator 39 = .ok (.iaload, 1) := by decide +kernel
theorem dX1_leastGenerator_40 : decode cX1_leastGenerator 40 = .ok (.idiv, 1) := by decide +kernel
theorem dX1_leastGenerator_41 : decode cX1_leastGenerator 41 = .ok (.invokevirtual 38, 3) := by decide +kernel
theorem dX1_leastGenerator_44 : decode cX1_leastGenerator 44 = .ok (.iconst 1, 1) := by decide +kernel
theorem dX1_leastGenerator_45 : decode cX1_leastGenerator 45 = .ok (.if_icmp .eq 7, 3) := by decide +kernel
theorem dX1_leastGenerator_48 : decode cX1_leastGenerator 48 = .ok (.iconst 1, 1) := by decide +kernel
theorem dX1_leastGenerator_49 : decode cX1_leastGenerator 49 = .ok (.goto 4, 3) := by decide +kernel
theorem dX1_leastGenerator_52 : decode cX1_leastGenerator 52 = .ok (.iconst 0, 1) := by decide +kernel
theorem dX1_leastGenerator_53 : decode cX1_leastGenerator 53 = .ok (.istore_n 2, 1) := by decide +kernel
theorem dX1_leastGenerator_54 : decode cX1_leastGenerator 54 = .ok (.iinc 3 1, 3) := by decide +kernel
theorem dX1_leastGenerator_57 : decode cX1_leastGenerator 57 = .ok (.goto (-43), 3) := by decide +kernel
theorem dX1_leastGenerator_60 : decode cX1_leastGenerator 60 = .ok (.iload_n 2, 1) := by decide +kernel
theorem dX1_leastGenerator_61 : decode cX1_leastGenerator 61 = .ok (.ifCond .eq 5, 3) := by decide +kernel
theorem dX1_leastGenerator_64 : decode cX1_leastGenerator 64 = .ok (.iload_n 1, 1) := by decide +kernel
theorem dX1_leastGenerator_65 : decode cX1_leastGenerator 65 = .ok (.ireturn, 1) := by decide +kernel
theorem dX1_leastGenerator_66 : decode cX1_leastGenerator 66 = .ok (.iinc 1 1, 3) := by decide +kernel
theorem dX1_leastGenerator_69 : decode cX1_leastGenerator 69 = .ok (.goto (-67), 3) := by decide +kernel
theorem dX1_leastGenerator_72 : decode cX1_leastGenerator 72 = .ok (.iconst 1, 1) := by decide +kernel
theorem dX1_leastGenerator_73 : decode cX1_leastGenerator 73 = .ok (.ireturn, 1) := by decide +kernel
theorem dX1_residueOf_0 : decode cX1_residueOf 0 = .ok (.lload_n 1, 1) := by decide +kernel
theorem dX1_residueOf_1 : decode cX1_residueOf 1 = .ok (.aload_n 0, 1) := by decide +kernel
theorem dX1_residueOf_2 : decode cX1_residueOf 2 = .ok (.getfield 21, 3) := by decide +kernel
theorem dX1_residueOf_5 : decode cX1_residueOf 5 = .ok (.i2l, 1) := by decide +kernel
theorem dX1_residueOf_6 : decode cX1_residueOf 6 = .ok (.invokestatic 41, 3) := by decide +kernel
theorem dX1_residueOf_9 : decode cX1_residueOf 9 = .ok (.l2i, 1) := by decide +kernel
theorem dX1_residueOf_10 : decode cX1_residueOf 10 = .ok (.ireturn, 1) := by decide +kernel
theorem dX1_times_0 : decode cX1_times 0 = .ok (.iload_n 1, 1) := by decide +kernel
theorem dX1_times_1 : decode cX1_times 1 = .ok (.i2l, 1) := by decide +kernel
theorem dX1_times_2 : decode cX1_times 2 = .ok (.iload_n 2, 1) := by decide +kernel
theorem dX1_times_3 : decode cX1_times 3 = .ok (.i2l, 1) := by decide +kernel
theorem dX1_times_4 : decode cX1_times 4 = .ok (.lmul, 1) := by decide +kernel
theorem dX1_times_5 : decode cX1_times 5 = .ok (.aload_n 0, 1) := by decide +kernel
theorem dX1_times_6 : decode cX1_times 6 = .ok (.getfield 21, 3) := by decide +kernel
theorem dX1_times_9 : decode cX1_times 9 = .ok (.i2l, 1) := by decide +kernel
theorem dX1_times_10 : decode cX1_times 10 = .ok (.lrem, 1) := by decide +kernel
theorem dX1_times_11 : decode cX1_times 11 = .ok (.l2i, 1) := by decide +kernel
theorem dX1_times_12 : decode cX1_times 12 = .ok (.ireturn, 1) := by decide +kernel
theorem dX1_raise_0 : decode cX1_raise 0 = .ok (.lconst 1, 1) := by decide +kernel
theorem dX1_raise_1 : decode cX1_raise 1 = .ok (.lstore_n 3, 1) := by decide +kernel
theorem dX1_raise_2 : decode cX1_raise 2 = .ok (.iload_n 1, 1) := by decide +kernel
theorem dX1_raise_3 : decode cX1_raise 3 = .ok (.i2l, 1) := by decide +kernel
theorem dX1_raise_4 : decode cX1_raise 4 = .ok (.lstore 5, 2) := by decide +kernel
theorem dX1_raise_6 : decode cX1_raise 6 = .ok (.iload_n 2, 1) := by decide +kernel
theorem dX1_raise_7 : decode cX1_raise 7 = .ok (.istore 7, 2) := by decide +kernel
theorem dX1_raise_9 : decode cX1_raise 9 = .ok (.iload 7, 2) := by decide +kernel
theorem dX1_raise_11 : decode cX1_raise 11 = .ok (.ifCond .le 43, 3) := by decide +kernel
theorem dX1_raise_14 : decode cX1_raise 14 = .ok (.iload 7, 2) := by decide +kernel
theorem dX1_raise_16 : decode cX1_raise 16 = .ok (.iconst 1, 1) := by decide +kernel
theorem dX1_raise_17 : decode cX1_raise 17 = .ok (.iand, 1) := by decide +kernel
theorem dX1_raise_18 : decode cX1_raise 18 = .ok (.ifCond .eq 14, 3) := by decide +kernel
theorem dX1_raise_21 : decode cX1_raise 21 = .ok (.lload_n 3, 1) := by decide +kernel
theorem dX1_raise_22 : decode cX1_raise 22 = .ok (.lload 5, 2) := by decide +kernel
theorem dX1_raise_24 : decode cX1_raise 24 = .ok (.lmul, 1) := by decide +kernel
theorem dX1_raise_25 : decode cX1_raise 25 = .ok (.aload_n 0, 1) := by decide +kernel
theorem dX1_raise_26 : decode cX1_raise 26 = .ok (.getfield 21, 3) := by decide +kernel
theorem dX1_raise_29 : decode cX1_raise 29 = .ok (.i2l, 1) := by decide +kernel
theorem dX1_raise_30 : decode cX1_raise 30 = .ok (.lrem, 1) := by decide +kernel
theorem dX1_raise_31 : decode cX1_raise 31 = .ok (.lstore_n 3, 1) := by decide +kernel
theorem dX1_raise_32 : decode cX1_raise 32 = .ok (.lload 5, 2) := by decide +kernel
theorem dX1_raise_34 : decode cX1_raise 34 = .ok (.lload 5, 2) := by decide +kernel
theorem dX1_raise_36 : decode cX1_raise 36 = .ok (.lmul, 1) := by decide +kernel
theorem dX1_raise_37 : decode cX1_raise 37 = .ok (.aload_n 0, 1) := by decide +kernel
theorem dX1_raise_38 : decode cX1_raise 38 = .ok (.getfield 21, 3) := by decide +kernel
theorem dX1_raise_41 : decode cX1_raise 41 = .ok (.i2l, 1) := by decide +kernel
theorem dX1_raise_42 : decode cX1_raise 42 = .ok (.lrem, 1) := by decide +kernel
theorem dX1_raise_43 : decode cX1_raise 43 = .ok (.lstore 5, 2) := by decide +kernel
theorem dX1_raise_45 : decode cX1_raise 45 = .ok (.iload 7, 2) := by decide +kernel
theorem dX1_raise_47 : decode cX1_raise 47 = .ok (.iconst 1, 1) := by decide +kernel
theorem dX1_raise_48 : decode cX1_raise 48 = .ok (.ishr, 1) := by decide +kernel
theorem dX1_raise_49 : decode cX1_raise 49 = .ok (.istore 7, 2) := by decide +kernel
theorem dX1_raise_51 : decode cX1_raise 51 = .ok (.goto (-42), 3) := by decide +kernel
theorem dX1_raise_54 : decode cX1_raise 54 = .ok (.lload_n 3, 1) := by decide +kernel
theorem dX1_raise_55 : decode cX1_raise 55 = .ok (.l2i, 1) := by decide +kernel
theorem dX1_raise_56 : decode cX1_raise 56 = .ok (.ireturn, 1) := by decide +kernel
theorem dX1_invert_0 : decode cX1_invert 0 = .ok (.aload_n 0, 1) := by decide +kernel
theorem dX1_invert_1 : decode cX1_invert 1 = .ok (.iload_n 1, 1) := by decide +kernel
theorem dX1_invert_2 : decode cX1_invert 2 = .ok (.aload_n 0, 1) := by decide +kernel
theorem dX1_invert_3 : decode cX1_invert 3 = .ok (.getfield 21, 3) := by decide +kernel
theorem dX1_invert_6 : decode cX1_invert 6 = .ok (.iconst 2, 1) := by decide +kernel
theorem dX1_invert_7 : decode cX1_invert 7 = .ok (.isub, 1) := by decide +kernel
theorem dX1_invert_8 : decode cX1_invert 8 = .ok (.invokevirtual 38, 3) := by decide +kernel
theorem dX1_invert_11 : decode cX1_invert 11 = .ok (.ireturn, 1) := by decide +kernel
theorem dX1_orderOf_0 : decode cX1_orderOf 0 = .ok (.aload_n 0, 1) := by decide +kernel
theorem dX1_orderOf_1 : decode cX1_orderOf 1 = .ok (.getfield 21, 3) := by decide +kernel
theorem dX1_orderOf_4 : decode cX1_orderOf 4 = .ok (.iconst 1, 1) := by decide +kernel
theorem dX1_orderOf_5 : decode cX1_orderOf 5 = .ok (.isub, 1) := by decide +kernel
theorem dX1_orderOf_6 : decode cX1_orderOf 6 = .ok (.istore_n 2, 1) := by decide +kernel
theorem dX1_orderOf_7 : decode cX1_orderOf 7 = .ok (.iconst 0, 1) := by decide +kernel
theorem dX1_orderOf_8 : decode cX1_orderOf 8 = .ok (.istore_n 3, 1) := by decide +kernel
theorem dX1_orderOf_9 : decode cX1_orderOf 9 = .ok (.iload_n 3, 1) := by decide +kernel
theorem dX1_orderOf_10 : decode cX1_orderOf 10 = .ok (.aload_n 0, 1) := by decide +kernel
theorem dX1_orderOf_11 : decode cX1_orderOf 11 = .ok (.getfield 29, 3) := by decide +kernel
theorem dX1_orderOf_14 : decode cX1_orderOf 14 = .ok (.if_icmp .ge 56, 3) := by decide +kernel
theorem dX1_orderOf_17 : decode cX1_orderOf 17 = .ok (.aload_n 0, 1) := by decide +kernel
theorem dX1_orderOf_18 : decode cX1_orderOf 18 = .ok (.getfield 11, 3) := by decide +kernel
theorem dX1_orderOf_21 : decode cX1_orderOf 21 = .ok (.iload_n 3, 1) := by decide +kernel
theorem dX1_orderOf_22 : decode cX1_orderOf 22 = .ok (.iaload, 1) := by decide +kernel
theorem dX1_orderOf_23 : decode cX1_orderOf 23 = .ok (.istore 4, 2) := by decide +kernel
theorem dX1_orderOf_25 : decode cX1_orderOf 25 = .ok (.iload 4, 2) := by decide +kernel
theorem dX1_orderOf_27 : decode cX1_orderOf 27 = .ok (.iconst 1, 1) := by decide +kernel
theorem dX1_orderOf_28 : decode cX1_orderOf 28 = .ok (.if_icmp .le 36, 3) := by decide +kernel
theorem dX1_orderOf_31 : decode cX1_orderOf 31 = .ok (.iload_n 2, 1) := by decide +kernel
theorem dX1_orderOf_32 : decode cX1_orderOf 32 = .ok (.iconst 1, 1) := by decide +kernel
theorem dX1_orderOf_33 : decode cX1_orderOf 33 = .ok (.if_icmp .le 31, 3) := by decide +kernel
theorem dX1_orderOf_36 : decode cX1_orderOf 36 = .ok (.iload_n 2, 1) := by decide +kernel
theorem dX1_orderOf_37 : decode cX1_orderOf 37 = .ok (.iload 4, 2) := by decide +kernel
theorem dX1_orderOf_39 : decode cX1_orderOf 39 = .ok (.irem, 1) := by decide +kernel
theorem dX1_orderOf_40 : decode cX1_orderOf 40 = .ok (.ifCond .ne 24, 3) := by decide +kernel
theorem dX1_orderOf_43 : decode cX1_orderOf 43 = .ok (.aload_n 0, 1) := by decide +kernel
theorem dX1_orderOf_44 : decode cX1_orderOf 44 = .ok (.iload_n 1, 1) := by decide +kernel
theorem dX1_orderOf_45 : decode cX1_orderOf 45 = .ok (.iload_n 2, 1) := by decide +kernel
theorem dX1_orderOf_46 : decode cX1_orderOf 46 = .ok (.iload 4, 2) := by decide +kernel
theorem dX1_orderOf_48 : decode cX1_orderOf 48 = .ok (.idiv, 1) := by decide +kernel
theorem dX1_orderOf_49 : decode cX1_orderOf 49 = .ok (.invokevirtual 38, 3) := by decide +kernel
theorem dX1_orderOf_52 : decode cX1_orderOf 52 = .ok (.iconst 1, 1) := by decide +kernel
theorem dX1_orderOf_53 : decode cX1_orderOf 53 = .ok (.if_icmp .ne 11, 3) := by decide +kernel
theorem dX1_orderOf_56 : decode cX1_orderOf 56 = .ok (.iload_n 2, 1) := by decide +kernel
theorem dX1_orderOf_57 : decode cX1_orderOf 57 = .ok (.iload 4, 2) := by decide +kernel
theorem dX1_orderOf_59 : decode cX1_orderOf 59 = .ok (.idiv, 1) := by decide +kernel
theorem dX1_orderOf_60 : decode cX1_orderOf 60 = .ok (.istore_n 2, 1) := by decide +kernel
theorem dX1_orderOf_61 : decode cX1_orderOf 61 = .ok (.goto (-36), 3) := by decide +kernel
theorem dX1_orderOf_64 : decode cX1_orderOf 64 = .ok (.iinc 3 1, 3) := by decide +kernel
theorem dX1_orderOf_67 : decode cX1_orderOf 67 = .ok (.goto (-58), 3) := by decide +kernel
theorem dX1_orderOf_70 : decode cX1_orderOf 70 = .ok (.iload_n 2, 1) := by decide +kernel
theorem dX1_orderOf_71 : decode cX1_orderOf 71 = .ok (.ireturn, 1) := by decide +kernel
theorem dX1_hasRoot_0 : decode cX1_hasRoot 0 = .ok (.iload_n 1, 1) := by decide +kernel
theorem dX1_hasRoot_1 : decode cX1_hasRoot 1 = .ok (.ifCond .le 18, 3) := by decide +kernel
theorem dX1_hasRoot_4 : decode cX1_hasRoot 4 = .ok (.aload_n 0, 1) := by decide +kernel
theorem dX1_hasRoot_5 : decode cX1_hasRoot 5 = .ok (.getfield 21, 3) := by decide +kernel
theorem dX1_hasRoot_8 : decode cX1_hasRoot 8 = .ok (.iconst 1, 1) := by decide +kernel
theorem dX1_hasRoot_9 : decode cX1_hasRoot 9 = .ok (.isub, 1) := by decide +kernel
theorem dX1_hasRoot_10 : decode cX1_hasRoot 10 = .ok (.iload_n 1, 1) := by decide +kernel
theorem dX1_hasRoot_11 : decode cX1_hasRoot 11 = .ok (.irem, 1) := by decide +kernel
theorem dX1_hasRoot_12 : decode cX1_hasRoot 12 = .ok (.ifCond .ne 7, 3) := by decide +kernel
theorem dX1_hasRoot_15 : decode cX1_hasRoot 15 = .ok (.iconst 1, 1) := by decide +kernel
theorem dX1_hasRoot_16 : decode cX1_hasRoot 16 = .ok (.goto 4, 3) := by decide +kernel
theorem dX1_hasRoot_19 : decode cX1_hasRoot 19 = .ok (.iconst 0, 1) := by decide +kernel
theorem dX1_hasRoot_20 : decode cX1_hasRoot 20 = .ok (.ireturn, 1) := by decide +kernel
theorem dX1_rootOfOrder_0 : decode cX1_rootOfOrder 0 = .ok (.iload_n 1, 1) := by decide +kernel
theorem dX1_rootOfOrder_1 : decode cX1_rootOfOrder 1 = .ok (.ifCond .le 22, 3) := by decide +kernel
theorem dX1_rootOfOrder_4 : decode cX1_rootOfOrder 4 = .ok (.aload_n 0, 1) := by decide +kernel
theorem dX1_rootOfOrder_5 : decode cX1_rootOfOrder 5 = .ok (.aload_n 0, 1) := by decide +kernel
theorem dX1_rootOfOrder_6 : decode cX1_rootOfOrder 6 = .ok (.getfield 35, 3) := by decide +kernel
theorem dX1_rootOfOrder_9 : decode cX1_rootOfOrder 9 = .ok (.aload_n 0, 1) := by decide +kernel
theorem dX1_rootOfOrder_10 : decode cX1_rootOfOrder 10 = .ok (.getfield 21, 3) := by decide +kernel
theorem dX1_rootOfOrder_13 : decode cX1_rootOfOrder 13 = .ok (.iconst 1, 1) := by decide +kernel
theorem dX1_rootOfOrder_14 : decode cX1_rootOfOrder 14 = .ok (.isub, 1) := by decide +kernel
theorem dX1_rootOfOrder_15 : decode cX1_rootOfOrder 15 = .ok (.iload_n 1, 1) := by decide +kernel
theorem dX1_rootOfOrder_16 : decode cX1_rootOfOrder 16 = .ok (.idiv, 1) := by decide +kernel
theorem dX1_rootOfOrder_17 : decode cX1_rootOfOrder 17 = .ok (.invokevirtual 38, 3) := by decide +kernel
theorem dX1_rootOfOrder_20 : decode cX1_rootOfOrder 20 = .ok (.goto 4, 3) := by decide +kernel
theorem dX1_rootOfOrder_23 : decode cX1_rootOfOrder 23 = .ok (.iconst 1, 1) := by decide +kernel
theorem dX1_rootOfOrder_24 : decode cX1_rootOfOrder 24 = .ok (.ireturn, 1) := by decide +kernel
theorem dX1_greatestPowerOfTwo_0 : decode cX1_greatestPowerOfTwo 0 = .ok (.aload_n 0, 1) := by decide +kernel
theorem dX1_greatestPowerOfTwo_1 : decode cX1_greatestPowerOfTwo 1 = .ok (.getfield 21, 3) := by decide +kernel
theorem dX1_greatestPowerOfTwo_4 : decode cX1_greatestPowerOfTwo 4 = .ok (.iconst 1, 1) := by decide +kernel
theorem dX1_greatestPowerOfTwo_5 : decode cX1_greatestPowerOfTwo 5 = .ok (.isub, 1) := by decide +kernel
theorem dX1_greatestPowerOfTwo_6 : decode cX1_greatestPowerOfTwo 6 = .ok (.aload_n 0, 1) := by decide +kernel
theorem dX1_greatestPowerOfTwo_7 : decode cX1_greatestPowerOfTwo 7 = .ok (.getfield 21, 3) := by decide +kernel
theorem dX1_greatestPowerOfTwo_10 : decode cX1_greatestPowerOfTwo 10 = .ok (.iconst 1, 1) := by decide +kernel
theorem dX1_greatestPowerOfTwo_11 : decode cX1_greatestPowerOfTwo 11 = .ok (.isub, 1) := by decide +kernel
theorem dX1_greatestPowerOfTwo_12 : decode cX1_greatestPowerOfTwo 12 = .ok (.ineg, 1) := by decide +kernel
theorem dX1_greatestPowerOfTwo_13 : decode cX1_greatestPowerOfTwo 13 = .ok (.iand, 1) := by decide +kernel
theorem dX1_greatestPowerOfTwo_14 : decode cX1_greatestPowerOfTwo 14 = .ok (.ireturn, 1) := by decide +kernel
theorem dX1_transformLengths_0 : decode cX1_transformLengths 0 = .ok (.iconst 0, 1) := by decide +kernel
theorem dX1_transformLengths_1 : decode cX1_transformLengths 1 = .ok (.istore_n 1, 1) := by decide +kernel
theorem dX1_transformLengths_2 : decode cX1_transformLengths 2 = .ok (.iconst 1, 1) := by decide +kernel
theorem dX1_transformLengths_3 : decode cX1_transformLengths 3 = .ok (.istore_n 2, 1) := by decide +kernel
theorem dX1_transformLengths_4 : decode cX1_transformLengths 4 = .ok (.iload_n 2, 1) := by decide +kernel
theorem dX1_transformLengths_5 : decode cX1_transformLengths 5 = .ok (.bipush 64, 2) := by decide +kernel
theorem dX1_transformLengths_7 : decode cX1_transformLengths 7 = .ok (.if_icmp .gt 20, 3) := by decide +kernel
theorem dX1_transformLengths_10 : decode cX1_transformLengths 10 = .ok (.aload_n 0, 1) := by decide +kernel
theorem dX1_transformLengths_11 : decode cX1_transformLengths 11 = .ok (.iload_n 2, 1) := by decide +kernel
theorem dX1_transformLengths_12 : decode cX1_transformLengths 12 = .ok (.invokevirtual 45, 3) := by decide +kernel
theorem dX1_transformLengths_15 : decode cX1_transformLengths 15 = .ok (.ifCond .eq 6, 3) := by decide +kernel
theorem dX1_transformLengths_18 : decode cX1_transformLengths 18 = .ok (.iinc 1 1, 3) := by decide +kernel
theorem dX1_transformLengths_21 : decode cX1_transformLengths 21 = .ok (.iinc 2 1, 3) := by decide +kernel
theorem dX1_transformLengths_24 : decode cX1_transformLengths 24 = .ok (.goto (-20), 3) := by decide +kernel
theorem dX1_transformLengths_27 : decode cX1_transformLengths 27 = .ok (.iload_n 1, 1) := by decide +kernel
theorem dX1_transformLengths_28 : decode cX1_transformLengths 28 = .ok (.ireturn, 1) := by decide +kernel
theorem dX1_evaluate_0 : decode cX1_evaluate 0 = .ok (.lconst 0, 1) := by decide +kernel
theorem dX1_evaluate_1 : decode cX1_evaluate 1 = .ok (.lstore 4, 2) := by decide +kernel
theorem dX1_evaluate_3 : decode cX1_evaluate 3 = .ok (.iload_n 2, 1) := by decide +kernel
theorem dX1_evaluate_4 : decode cX1_evaluate 4 = .ok (.aload_n 1, 1) := by decide +kernel
theorem dX1_evaluate_5 : decode cX1_evaluate 5 = .ok (.arraylength, 1) := by decide +kernel
theorem dX1_evaluate_6 : decode cX1_evaluate 6 = .ok (.invokestatic 49, 3) := by decide +kernel
theorem dX1_evaluate_9 : decode cX1_evaluate 9 = .ok (.iconst 1, 1) := by decide +kernel
theorem dX1_evaluate_10 : decode cX1_evaluate 10 = .ok (.isub, 1) := by decide +kernel
theorem dX1_evaluate_11 : decode cX1_evaluate 11 = .ok (.istore 6, 2) := by decide +kernel
theorem dX1_evaluate_13 : decode cX1_evaluate 13 = .ok (.iload 6, 2) := by decide +kernel
theorem dX1_evaluate_15 : decode cX1_evaluate 15 = .ok (.ifCond .lt 28, 3) := by decide +kernel
theorem dX1_evaluate_18 : decode cX1_evaluate 18 = .ok (.lload 4, 2) := by decide +kernel
theorem dX1_evaluate_20 : decode cX1_evaluate 20 = .ok (.iload_n 3, 1) := by decide +kernel
theorem dX1_evaluate_21 : decode cX1_evaluate 21 = .ok (.i2l, 1) := by decide +kernel
theorem dX1_evaluate_22 : decode cX1_evaluate 22 = .ok (.lmul, 1) := by decide +kernel
theorem dX1_evaluate_23 : decode cX1_evaluate 23 = .ok (.aload_n 1, 1) := by decide +kernel
theorem dX1_evaluate_24 : decode cX1_evaluate 24 = .ok (.iload 6, 2) := by decide +kernel
theorem dX1_evaluate_26 : decode cX1_evaluate 26 = .ok (.iaload, 1) := by decide +kernel
theorem dX1_evaluate_27 : decode cX1_evaluate 27 = .ok (.i2l, 1) := by decide +kernel
theorem dX1_evaluate_28 : decode cX1_evaluate 28 = .ok (.ladd, 1) := by decide +kernel
theorem dX1_evaluate_29 : decode cX1_evaluate 29 = .ok (.aload_n 0, 1) := by decide +kernel
theorem dX1_evaluate_30 : decode cX1_evaluate 30 = .ok (.getfield 21, 3) := by decide +kernel
theorem dX1_evaluate_33 : decode cX1_evaluate 33 = .ok (.i2l, 1) := by decide +kernel
theorem dX1_evaluate_34 : decode cX1_evaluate 34 = .ok (.lrem, 1) := by decide +kernel
theorem dX1_evaluate_35 : decode cX1_evaluate 35 = .ok (.lstore 4, 2) := by decide +kernel
theorem dX1_evaluate_37 : decode cX1_evaluate 37 = .ok (.iinc 6 (-1), 3) := by decide +kernel
theorem dX1_evaluate_40 : decode cX1_evaluate 40 = .ok (.goto (-27), 3) := by decide +kernel
theorem dX1_evaluate_43 : decode cX1_evaluate 43 = .ok (.aload_n 0, 1) := by decide +kernel
theorem dX1_evaluate_44 : decode cX1_evaluate 44 = .ok (.lload 4, 2) := by decide +kernel
theorem dX1_evaluate_46 : decode cX1_evaluate 46 = .ok (.invokevirtual 52, 3) := by decide +kernel
theorem dX1_evaluate_49 : decode cX1_evaluate 49 = .ok (.ireturn, 1) := by decide +kernel
theorem dX2_init_0 : decode cX2_init 0 = .ok (.aload_n 0, 1) := by decide +kernel
theorem dX2_init_1 : decode cX2_init 1 = .ok (.invokespecial 3, 3) := by decide +kernel
theorem dX2_init_4 : decode cX2_init 4 = .ok (.aload_n 0, 1) := by decide +kernel
theorem dX2_init_5 : decode cX2_init 5 = .ok (.bipush 8, 2) := by decide +kernel
theorem dX2_init_7 : decode cX2_init 7 = .ok (.anewarray 9, 3) := by decide +kernel
theorem dX2_init_10 : decode cX2_init 10 = .ok (.putfield 11, 3) := by decide +kernel
theorem dX2_init_13 : decode cX2_init 13 = .ok (.iconst 0, 1) := by decide +kernel
theorem dX2_init_14 : decode cX2_init 14 = .ok (.istore_n 1, 1) := by decide +kernel
theorem dX2_init_15 : decode cX2_init 15 = .ok (.iload_n 1, 1) := by decide +kernel
theorem dX2_init_16 : decode cX2_init 16 = .ok (.bipush 8, 2) := by decide +kernel
theorem dX2_init_18 : decode cX2_init 18 = .ok (.if_icmp .ge 22, 3) := by decide +kernel
theorem dX2_init_21 : decode cX2_init 21 = .ok (.aload_n 0, 1) := by decide +kernel
theorem dX2_init_22 : decode cX2_init 22 = .ok (.getfield 11, 3) := by decide +kernel
theorem dX2_init_25 : decode cX2_init 25 = .ok (.iload_n 1, 1) := by decide +kernel
theorem dX2_init_26 : decode cX2_init 26 = .ok (.new 9, 3) := by decide +kernel
theorem dX2_init_29 : decode cX2_init 29 = .ok (.dup, 1) := by decide +kernel
theorem dX2_init_30 : decode cX2_init 30 = .ok (.invokespecial 17, 3) := by decide +kernel
theorem dX2_init_33 : decode cX2_init 33 = .ok (.aastore, 1) := by decide +kernel
theorem dX2_init_34 : decode cX2_init 34 = .ok (.iinc 1 1, 3) := by decide +kernel
theorem dX2_init_37 : decode cX2_init 37 = .ok (.goto (-22), 3) := by decide +kernel
theorem dX2_init_40 : decode cX2_init 40 = .ok (.return_, 1) := by decide +kernel
theorem dX2_keep_0 : decode cX2_keep 0 = .ok (.aload_n 0, 1) := by decide +kernel
theorem dX2_keep_1 : decode cX2_keep 1 = .ok (.getfield 11, 3) := by decide +kernel
theorem dX2_keep_4 : decode cX2_keep 4 = .ok (.aload_n 0, 1) := by decide +kernel
theorem dX2_keep_5 : decode cX2_keep 5 = .ok (.getfield 18, 3) := by decide +kernel
theorem dX2_keep_8 : decode cX2_keep 8 = .ok (.aaload, 1) := by decide +kernel
theorem dX2_keep_9 : decode cX2_keep 9 = .ok (.aload_n 1, 1) := by decide +kernel
theorem dX2_keep_10 : decode cX2_keep 10 = .ok (.invokevirtual 22, 3) := by decide +kernel
theorem dX2_keep_13 : decode cX2_keep 13 = .ok (.aload_n 0, 1) := by decide +kernel
theorem dX2_keep_14 : decode cX2_keep 14 = .ok (.aload_n 0, 1) := by decide +kernel
theorem dX2_keep_15 : decode cX2_keep 15 = .ok (.getfield 18, 3) := by decide +kernel
theorem dX2_keep_18 : decode cX2_keep 18 = .ok (.iconst 1, 1) := by decide +kernel
theorem dX2_keep_19 : decode cX2_keep 19 = .ok (.iadd, 1) := by decide +kernel
theorem dX2_keep_20 : decode cX2_keep 20 = .ok (.bipush 8, 2) := by decide +kernel
theorem dX2_keep_22 : decode cX2_keep 22 = .ok (.irem, 1) := by decide +kernel
theorem dX2_keep_23 : decode cX2_keep 23 = .ok (.putfield 18, 3) := by decide +kernel
theorem dX2_keep_26 : decode cX2_keep 26 = .ok (.aload_n 0, 1) := by decide +kernel
theorem dX2_keep_27 : decode cX2_keep 27 = .ok (.aload_n 0, 1) := by decide +kernel
theorem dX2_keep_28 : decode cX2_keep 28 = .ok (.getfield 26, 3) := by decide +kernel
theorem dX2_keep_31 : decode cX2_keep 31 = .ok (.iconst 1, 1) := by decide +kernel
theorem dX2_keep_32 : decode cX2_keep 32 = .ok (.iadd, 1) := by decide +kernel
theorem dX2_keep_33 : decode cX2_keep 33 = .ok (.bipush 8, 2) := by decide +kernel
theorem dX2_keep_35 : decode cX2_keep 35 = .ok (.invokestatic 29, 3) := by decide +kernel
theorem dX2_keep_38 : decode cX2_keep 38 = .ok (.putfield 26, 3) := by decide +kernel
theorem dX2_keep_41 : decode cX2_keep 41 = .ok (.return_, 1) := by decide +kernel
theorem dX2_giveBack_0 : decode cX2_giveBack 0 = .ok (.aload_n 0, 1) := by decide +kernel
theorem dX2_giveBack_1 : decode cX2_giveBack 1 = .ok (.aload_n 0, 1) := by decide +kernel
theorem dX2_giveBack_2 : decode cX2_giveBack 2 = .ok (.getfield 18, 3) := by decide +kernel
theorem dX2_giveBack_5 : decode cX2_giveBack 5 = .ok (.bipush 8, 2) := by decide +kernel
theorem dX2_giveBack_7 : decode cX2_giveBack 7 = .ok (.iadd, 1) := by decide +kernel
theorem dX2_giveBack_8 : decode cX2_giveBack 8 = .ok (.iconst 1, 1) := by decide +kernel
theorem dX2_giveBack_9 : decode cX2_giveBack 9 = .ok (.isub, 1) := by decide +kernel
theorem dX2_giveBack_10 : decode cX2_giveBack 10 = .ok (.bipush 8, 2) := by decide +kernel
theorem dX2_giveBack_12 : decode cX2_giveBack 12 = .ok (.irem, 1) := by decide +kernel
theorem dX2_giveBack_13 : decode cX2_giveBack 13 = .ok (.putfield 18, 3) := by decide +kernel
theorem dX2_giveBack_16 : decode cX2_giveBack 16 = .ok (.aload_n 0, 1) := by decide +kernel
theorem dX2_giveBack_17 : decode cX2_giveBack 17 = .ok (.dup, 1) := by decide +kernel
theorem dX2_giveBack_18 : decode cX2_giveBack 18 = .ok (.getfield 26, 3) := by decide +kernel
theorem dX2_giveBack_21 : decode cX2_giveBack 21 = .ok (.iconst 1, 1) := by decide +kernel
theorem dX2_giveBack_22 : decode cX2_giveBack 22 = .ok (.isub, 1) := by decide +kernel
theorem dX2_giveBack_23 : decode cX2_giveBack 23 = .ok (.putfield 26, 3) := by decide +kernel
theorem dX2_giveBack_26 : decode cX2_giveBack 26 = .ok (.aload_n 1, 1) := by decide +kernel
theorem dX2_giveBack_27 : decode cX2_giveBack 27 = .ok (.aload_n 0, 1) := by decide +kernel
theorem dX2_giveBack_28 : decode cX2_giveBack 28 = .ok (.getfield 11, 3) := by decide +kernel
theorem dX2_giveBack_31 : decode cX2_giveBack 31 = .ok (.aload_n 0, 1) := by decide +kernel
theorem dX2_giveBack_32 : decode cX2_giveBack 32 = .ok (.getfield 18, 3) := by decide +kernel
theorem dX2_giveBack_35 : decode cX2_giveBack 35 = .ok (.aaload, 1) := by decide +kernel
theorem dX2_giveBack_36 : decode cX2_giveBack 36 = .ok (.invokevirtual 22, 3) := by decide +kernel
theorem dX2_giveBack_39 : decode cX2_giveBack 39 = .ok (.return_, 1) := by decide +kernel
theorem dX3_init_0 : decode cX3_init 0 = .ok (.aload_n 0, 1) := by decide +kernel
theorem dX3_init_1 : decode cX3_init 1 = .ok (.invokespecial 3, 3) := by decide +kernel
theorem dX3_init_4 : decode cX3_init 4 = .ok (.aload_n 0, 1) := by decide +kernel
theorem dX3_init_5 : decode cX3_init 5 = .ok (.sipush 1024, 3) := by decide +kernel
theorem dX3_init_8 : decode cX3_init 8 = .ok (.newarray .int, 2) := by decide +kernel
theorem dX3_init_10 : decode cX3_init 10 = .ok (.putfield 11, 3) := by decide +kernel
theorem dX3_init_13 : decode cX3_init 13 = .ok (.aload_n 0, 1) := by decide +kernel
theorem dX3_init_14 : decode cX3_init 14 = .ok (.sipush 1024, 3) := by decide +kernel
theorem dX3_init_17 : decode cX3_init 17 = .ok (.newarray .int, 2) := by decide +kernel
theorem dX3_init_19 : decode cX3_init 19 = .ok (.putfield 15, 3) := by decide +kernel
theorem dX3_init_22 : decode cX3_init 22 = .ok (.return_, 1) := by decide +kernel
theorem dX3_find_0 : decode cX3_find 0 = .ok (.aload_n 0, 1) := by decide +kernel
theorem dX3_find_1 : decode cX3_find 1 = .ok (.aload_n 1, 1) := by decide +kernel
theorem dX3_find_2 : decode cX3_find 2 = .ok (.invokevirtual 18, 3) := by decide +kernel
theorem dX3_find_5 : decode cX3_find 5 = .ok (.aload_n 1, 1) := by decide +kernel
theorem dX3_find_6 : decode cX3_find 6 = .ok (.aload_n 1, 1) := by decide +kernel
theorem dX3_find_7 : decode cX3_find 7 = .ok (.aload_n 1, 1) := by decide +kernel
theorem dX3_find_8 : decode cX3_find 8 = .ok (.getfield 22, 3) := by decide +kernel
theorem dX3_find_11 : decode cX3_find 11 = .ok (.sipush 317, 3) := by decide +kernel
theorem dX3_find_14 : decode cX3_find 14 = .ok (.invokevirtual 28, 3) := by decide +kernel
theorem dX3_find_17 : decode cX3_find 17 = .ok (.invokevirtual 32, 3) := by decide +kernel
theorem dX3_find_20 : decode cX3_find 20 = .ok (.istore_n 3, 1) := by decide +kernel
theorem dX3_find_21 : decode cX3_find 21 = .ok (.iload_n 2, 1) := by decide +kernel
theorem dX3_find_22 : decode cX3_find 22 = .ok (.istore 4, 2) := by decide +kernel
theorem dX3_find_24 : decode cX3_find 24 = .ok (.iconst 0, 1) := by decide +kernel
theorem dX3_find_25 : decode cX3_find 25 = .ok (.istore 5, 2) := by decide +kernel
theorem dX3_find_27 : decode cX3_find 27 = .ok (.iload 5, 2) := by decide +kernel
theorem dX3_find_29 : decode cX3_find 29 = .ok (.sipush 317, 3) := by decide +kernel
theorem dX3_find_32 : decode cX3_find 32 = .ok (.if_icmp .ge 53, 3) := by decide +kernel
theorem dX3_find_35 : decode cX3_find 35 = .ok (.aload_n 0, 1) := by decide +kernel
theorem dX3_find_36 : decode cX3_find 36 = .ok (.iload 4, 2) := by decide +kernel
theorem dX3_find_38 : decode cX3_find 38 = .ok (.invokevirtual 36, 3) := by decide +kernel
theorem dX3_find_41 : decode cX3_find 41 = .ok (.istore 6, 2) := by decide +kernel
theorem dX3_find_43 : decode cX3_find 43 = .ok (.aload_n 0, 1) := by decide +kernel
theorem dX3_find_44 : decode cX3_find 44 = .ok (.getfield 11, 3) := by decide +kernel
theorem dX3_find_47 : decode cX3_find 47 = .ok (.iload 6, 2) := by decide +kernel
theorem dX3_find_49 : decode cX3_find 49 = .ok (.iaload, 1) := by decide +kernel
theorem dX3_find_50 : decode cX3_find 50 = .ok (.iload 4, 2) := by decide +kernel
theorem dX3_find_52 : decode cX3_find 52 = .ok (.if_icmp .ne 18, 3) := by decide +kernel
theorem dX3_find_55 : decode cX3_find 55 = .ok (.iload 5, 2) := by decide +kernel
theorem dX3_find_57 : decode cX3_find 57 = .ok (.sipush 317, 3) := by decide +kernel
theorem dX3_find_60 : decode cX3_find 60 = .ok (.imul, 1) := by decide +kernel
theorem dX3_find_61 : decode cX3_find 61 = .ok (.aload_n 0, 1) := by decide +kernel
theorem dX3_find_62 : decode cX3_find 62 = .ok (.getfield 15, 3) := by decide +kernel
theorem dX3_find_65 : decode cX3_find 65 = .ok (.iload 6, 2) := by decide +kernel
theorem dX3_find_67 : decode cX3_find 67 = .ok (.iaload, 1) := by decide +kernel
theorem dX3_find_68 : decode cX3_find 68 = .ok (.iadd, 1) := by decide +kernel
theorem dX3_find_69 : decode cX3_find 69 = .ok (.ireturn, 1) := by decide +kernel
theorem dX3_find_70 : decode cX3_find 70 = .ok (.aload_n 1, 1) := by decide +kernel
theorem dX3_find_71 : decode cX3_find 71 = .ok (.iload 4, 2) := by decide +kernel
theorem dX3_find_73 : decode cX3_find 73 = .ok (.iload_n 3, 1) := by decide +kernel
theorem dX3_find_74 : decode cX3_find 74 = .ok (.invokevirtual 39, 3) := by decide +kernel
theorem dX3_find_77 : decode cX3_find 77 = .ok (.istore 4, 2) := by decide +kernel
theorem dX3_find_79 : decode cX3_find 79 = .ok (.iinc 5 1, 3) := by decide +kernel
theorem dX3_find_82 : decode cX3_find 82 = .ok (.goto (-55), 3) := by decide +kernel
theorem dX3_find_85 : decode cX3_find 85 = .ok (.iconst (-1), 1) := by decide +kernel
theorem dX3_find_86 : decode cX3_find 86 = .ok (.ireturn, 1) := by decide +kernel
theorem dX3_fill_0 : decode cX3_fill 0 = .ok (.iconst 0, 1) := by decide +kernel
theorem dX3_fill_1 : decode cX3_fill 1 = .ok (.istore_n 2, 1) := by decide +kernel
theorem dX3_fill_2 : decode cX3_fill 2 = .ok (.iload_n 2, 1) := by decide +kernel
theorem dX3_fill_3 : decode cX3_fill 3 = .ok (.sipush 1024, 3) := by decide +kernel
theorem dX3_fill_6 : decode cX3_fill 6 = .ok (.if_icmp .ge 16, 3) := by decide +kernel
theorem dX3_fill_9 : decode cX3_fill 9 = .ok (.aload_n 0, 1) := by decide +kernel
theorem dX3_fill_10 : decode cX3_fill 10 = .ok (.getfield 11, 3) := by decide +kernel
theorem dX3_fill_13 : decode cX3_fill 13 = .ok (.iload_n 2, 1) := by decide +kernel
theorem dX3_fill_14 : decode cX3_fill 14 = .ok (.iconst 0, 1) := by decide +kernel
theorem dX3_fill_15 : decode cX3_fill 15 = .ok (.iastore, 1) := by decide +kernel
theorem dX3_fill_16 : decode cX3_fill 16 = .ok (.iinc 2 1, 3) := by decide +kernel
theorem dX3_fill_19 : decode cX3_fill 19 = .ok (.goto (-17), 3) := by decide +kernel
theorem dX3_fill_22 : decode cX3_fill 22 = .ok (.iconst 1, 1) := by decide +kernel
theorem dX3_fill_23 : decode cX3_fill 23 = .ok (.istore_n 2, 1) := by decide +kernel
theorem dX3_fill_24 : decode cX3_fill 24 = .ok (.iconst 0, 1) := by decide +kernel
theorem dX3_fill_25 : decode cX3_fill 25 = .ok (.istore_n 3, 1) := by decide +kernel
theorem dX3_fill_26 : decode cX3_fill 26 = .ok (.iload_n 3, 1) := by decide +kernel
theorem dX3_fill_27 : decode cX3_fill 27 = .ok (.sipush 317, 3) := by decide +kernel
theorem dX3_fill_30 : decode cX3_fill 30 = .ok (.if_icmp .ge 52, 3) := by decide +kernel
theorem dX3_fill_33 : decode cX3_fill 33 = .ok (.iload_n 3, 1) := by decide +kernel
theorem dX3_fill_34 : decode cX3_fill 34 = .ok (.aload_n 1, 1) := by decide +kernel
theorem dX3_fill_35 : decode cX3_fill 35 = .ok (.getfield 42, 3) := by decide +kernel
theorem dX3_fill_38 : decode cX3_fill 38 = .ok (.iconst 1, 1) := by decide +kernel
theorem dX3_fill_39 : decode cX3_fill 39 = .ok (.isub, 1) := by decide +kernel
theorem dX3_fill_40 : decode cX3_fill 40 = .ok (.if_icmp .ge 42, 3) := by decide +kernel
theorem dX3_fill_43 : decode cX3_fill 43 = .ok (.aload_n 0, 1) := by decide +kernel
theorem dX3_fill_44 : decode cX3_fill 44 = .ok (.iload_n 2, 1) := by decide +kernel
theorem dX3_fill_45 : decode cX3_fill 45 = .ok (.invokevirtual 36, 3) := by decide +kernel
theorem dX3_fill_48 : decode cX3_fill 48 = .ok (.istore 4, 2) := by decide +kernel
theorem dX3_fill_50 : decode cX3_fill 50 = .ok (.aload_n 0, 1) := by decide +kernel
theorem dX3_fill_51 : decode cX3_fill 51 = .ok (.getfield 11, 3) := by decide +kernel
theorem dX3_fill_54 : decode cX3_fill 54 = .ok (.iload 4, 2) := by decide +kernel
theorem dX3_fill_56 : decode cX3_fill 56 = .ok (.iload_n 2, 1) := by decide +kernel
theorem dX3_fill_57 : decode cX3_fill 57 = .ok (.iastore, 1) := by decide +kernel
theorem dX3_fill_58 : decode cX3_fill 58 = .ok (.aload_n 0, 1) := by decide +kernel
theorem dX3_fill_59 : decode cX3_fill 59 = .ok (.getfield 15, 3) := by decide +kernel
theorem dX3_fill_62 : decode cX3_fill 62 = .ok (.iload 4, 2) := by decide +kernel
theorem dX3_fill_64 : decode cX3_fill 64 = .ok (.iload_n 3, 1) := by decide +kernel
theorem dX3_fill_65 : decode cX3_fill 65 = .ok (.iastore, 1) := by decide +kernel
theorem dX3_fill_66 : decode cX3_fill 66 = .ok (.aload_n 1, 1) := by decide +kernel
theorem dX3_fill_67 : decode cX3_fill 67 = .ok (.iload_n 2, 1) := by decide +kernel
theorem dX3_fill_68 : decode cX3_fill 68 = .ok (.aload_n 1, 1) := by decide +kernel
theorem dX3_fill_69 : decode cX3_fill 69 = .ok (.getfield 22, 3) := by decide +kernel
theorem dX3_fill_72 : decode cX3_fill 72 = .ok (.invokevirtual 39, 3) := by decide +kernel
theorem dX3_fill_75 : decode cX3_fill 75 = .ok (.istore_n 2, 1) := by decide +kernel
theorem dX3_fill_76 : decode cX3_fill 76 = .ok (.iinc 3 1, 3) := by decide +kernel
theorem dX3_fill_79 : decode cX3_fill 79 = .ok (.goto (-53), 3) := by decide +kernel
theorem dX3_fill_82 : decode cX3_fill 82 = .ok (.return_, 1) := by decide +kernel
theorem dX3_placeOf_0 : decode cX3_placeOf 0 = .ok (.iload_n 1, 1) := by decide +kernel
theorem dX3_placeOf_1 : decode cX3_placeOf 1 = .ok (.sipush 1023, 3) := by decide +kernel
theorem dX3_placeOf_4 : decode cX3_placeOf 4 = .ok (.iand, 1) := by decide +kernel
theorem dX3_placeOf_5 : decode cX3_placeOf 5 = .ok (.istore_n 2, 1) := by decide +kernel
theorem dX3_placeOf_6 : decode cX3_placeOf 6 = .ok (.iconst 0, 1) := by decide +kernel
theorem dX3_placeOf_7 : decode cX3_placeOf 7 = .ok (.istore_n 3, 1) := by decide +kernel
theorem dX3_placeOf_8 : decode cX3_placeOf 8 = .ok (.iload_n 3, 1) := by decide +kernel
theorem dX3_placeOf_9 : decode cX3_placeOf 9 = .ok (.sipush 1024, 3) := by decide +kernel
theorem dX3_placeOf_12 : decode cX3_placeOf 12 = .ok (.if_icmp .ge 38, 3) := by decide +kernel
theorem dX3_placeOf_15 : decode cX3_placeOf 15 = .ok (.aload_n 0, 1) := by decide +kernel
theorem dX3_placeOf_16 : decode cX3_placeOf 16 = .ok (.getfield 11, 3) := by decide +kernel
theorem dX3_placeOf_19 : decode cX3_placeOf 19 = .ok (.iload_n 2, 1) := by decide +kernel
theorem dX3_placeOf_20 : decode cX3_placeOf 20 = .ok (.iaload, 1) := by decide +kernel
theorem dX3_placeOf_21 : decode cX3_placeOf 21 = .ok (.iload_n 1, 1) := by decide +kernel
theorem dX3_placeOf_22 : decode cX3_placeOf 22 = .ok (.if_icmp .eq 12, 3) := by decide +kernel
theorem dX3_placeOf_25 : decode cX3_placeOf 25 = .ok (.aload_n 0, 1) := by decide +kernel
theorem dX3_placeOf_26 : decode cX3_placeOf 26 = .ok (.getfield 11, 3) := by decide +kernel
theorem dX3_placeOf_29 : decode cX3_placeOf 29 = .ok (.iload_n 2, 1) := by decide +kernel
theorem dX3_placeOf_30 : decode cX3_placeOf 30 = .ok (.iaload, 1) := by decide +kernel
theorem dX3_placeOf_31 : decode cX3_placeOf 31 = .ok (.ifCond .ne 5, 3) := by decide +kernel
theorem dX3_placeOf_34 : decode cX3_placeOf 34 = .ok (.iload_n 2, 1) := by decide +kernel
theorem dX3_placeOf_35 : decode cX3_placeOf 35 = .ok (.ireturn, 1) := by decide +kernel
theorem dX3_placeOf_36 : decode cX3_placeOf 36 = .ok (.iload_n 2, 1) := by decide +kernel
theorem dX3_placeOf_37 : decode cX3_placeOf 37 = .ok (.iconst 1, 1) := by decide +kernel
theorem dX3_placeOf_38 : decode cX3_placeOf 38 = .ok (.iadd, 1) := by decide +kernel
theorem dX3_placeOf_39 : decode cX3_placeOf 39 = .ok (.sipush 1023, 3) := by decide +kernel
theorem dX3_placeOf_42 : decode cX3_placeOf 42 = .ok (.iand, 1) := by decide +kernel
theorem dX3_placeOf_43 : decode cX3_placeOf 43 = .ok (.istore_n 2, 1) := by decide +kernel
theorem dX3_placeOf_44 : decode cX3_placeOf 44 = .ok (.iinc 3 1, 3) := by decide +kernel
theorem dX3_placeOf_47 : decode cX3_placeOf 47 = .ok (.goto (-39), 3) := by decide +kernel
theorem dX3_placeOf_50 : decode cX3_placeOf 50 = .ok (.iload_n 2, 1) := by decide +kernel
theorem dX3_placeOf_51 : decode cX3_placeOf 51 = .ok (.ireturn, 1) := by decide +kernel
theorem dX4_init_0 : decode cX4_init 0 = .ok (.aload_n 0, 1) := by decide +kernel
theorem dX4_init_1 : decode cX4_init 1 = .ok (.invokespecial 3, 3) := by decide +kernel
theorem dX4_init_4 : decode cX4_init 4 = .ok (.aload_n 0, 1) := by decide +kernel
theorem dX4_init_5 : decode cX4_init 5 = .ok (.bipush 64, 2) := by decide +kernel
theorem dX4_init_7 : decode cX4_init 7 = .ok (.newarray .int, 2) := by decide +kernel
theorem dX4_init_9 : decode cX4_init 9 = .ok (.putfield 9, 3) := by decide +kernel
theorem dX4_init_12 : decode cX4_init 12 = .ok (.return_, 1) := by decide +kernel
theorem dX4_convolve_0 : decode cX4_convolve 0 = .ok (.lconst 1, 1) := by decide +kernel
theorem dX4_convolve_1 : decode cX4_convolve 1 = .ok (.lstore 4, 2) := by decide +kernel
theorem dX4_convolve_3 : decode cX4_convolve 3 = .ok (.iconst 0, 1) := by decide +kernel
theorem dX4_convolve_4 : decode cX4_convolve 4 = .ok (.istore 6, 2) := by decide +kernel
theorem dX4_convolve_6 : decode cX4_convolve 6 = .ok (.iload 6, 2) := by decide +kernel
theorem dX4_convolve_8 : decode cX4_convolve 8 = .ok (.aload_n 3, 1) := by decide +kernel
theorem dX4_convolve_9 : decode cX4_convolve 9 = .ok (.getfield 15, 3) := by decide +kernel
theorem dX4_convolve_12 : decode cX4_convolve 12 = .ok (.if_icmp .ge 79, 3) := by decide +kernel
theorem dX4_convolve_15 : decode cX4_convolve 15 = .ok (.aload_n 3, 1) := by decide +kernel
theorem dX4_convolve_16 : decode cX4_convolve 16 = .ok (.getfield 21, 3) := by decide +kernel
theorem dX4_convolve_19 : decode cX4_convolve 19 = .ok (.iload 6, 2) := by decide +kernel
theorem dX4_convolve_21 : decode cX4_convolve 21 = .ok (.aaload, 1) := by decide +kernel
theorem dX4_convolve_22 : decode cX4_convolve 22 = .ok (.astore 7, 2) := by decide +kernel
theorem dX4_convolve_24 : decode cX4_convolve 24 = .ok (.aload_n 3, 1) := by decide +kernel
theorem dX4_convolve_25 : decode cX4_convolve 25 = .ok (.getfield 25, 3) := by decide +kernel
theorem dX4_convolve_28 : decode cX4_convolve 28 = .ok (.iconst 2, 1) := by decide +kernel
theorem dX4_convolve_29 : decode cX4_convolve 29 = .ok (.if_icmp .ne 17, 3) := by decide +kernel
theorem dX4_convolve_32 : decode cX4_convolve 32 = .ok (.aload 7, 2) := by decide +kernel
theorem dX4_convolve_34 : decode cX4_convolve 34 = .ok (.iconst 2, 1) := by decide +kernel
theorem dX4_convolve_35 : decode cX4_convolve 35 = .ok (.aload_n 3, 1) := by decide +kernel
theorem dX4_convolve_36 : decode cX4_convolve 36 = .ok (.getfield 28, 3) := by decide +kernel
theorem dX4_convolve_39 : decode cX4_convolve 39 = .ok (.imul, 1) := by decide +kernel
theorem dX4_convolve_40 : decode cX4_convolve 40 = .ok (.invokevirtual 31, 3) := by decide +kernel
theorem dX4_convolve_43 : decode cX4_convolve 43 = .ok (.goto 4, 3) := by decide +kernel
theorem dX4_convolve_46 : decode cX4_convolve 46 = .ok (.iconst 1, 1) := by decide +kernel
theorem dX4_convolve_47 : decode cX4_convolve 47 = .ok (.istore 8, 2) := by decide +kernel
theorem dX4_convolve_49 : decode cX4_convolve 49 = .ok (.aload_n 0, 1) := by decide +kernel
theorem dX4_convolve_50 : decode cX4_convolve 50 = .ok (.aload 7, 2) := by decide +kernel
theorem dX4_convolve_52 : decode cX4_convolve 52 = .ok (.aload_n 1, 1) := by decide +kernel
theorem dX4_convolve_53 : decode cX4_convolve 53 = .ok (.aload_n 2, 1) := by decide +kernel
theorem dX4_convolve_54 : decode cX4_convolve 54 = .ok (.aload_n 3, 1) := by decide +kernel
theorem dX4_convolve_55 : decode cX4_convolve 55 = .ok (.getfield 28, 3) := by decide +kernel
theorem dX4_convolve_58 : decode cX4_convolve 58 = .ok (.iload 8, 2) := by decide +kernel
theorem dX4_convolve_60 : decode cX4_convolve 60 = .ok (.invokevirtual 37, 3) := by decide +kernel
theorem dX4_convolve_63 : decode cX4_convolve 63 = .ok (.aload_n 0, 1) := by decide +kernel
theorem dX4_convolve_64 : decode cX4_convolve 64 = .ok (.aload_n 3, 1) := by decide +kernel
theorem dX4_convolve_65 : decode cX4_convolve 65 = .ok (.aload 7, 2) := by decide +kernel
theorem dX4_convolve_67 : decode cX4_convolve 67 = .ok (.iload 8, 2) := by decide +kernel
theorem dX4_convolve_69 : decode cX4_convolve 69 = .ok (.lload 4, 2) := by decide +kernel
theorem dX4_convolve_71 : decode cX4_convolve 71 = .ok (.invokevirtual 41, 3) := by decide +kernel
theorem dX4_convolve_74 : decode cX4_convolve 74 = .ok (.lload 4, 2) := by decide +kernel
theorem dX4_convolve_76 : decode cX4_convolve 76 = .ok (.aload 7, 2) := by decide +kernel
theorem dX4_convolve_78 : decode cX4_convolve 78 = .ok (.getfield 45, 3) := by decide +kernel
theorem dX4_convolve_81 : decode cX4_convolve 81 = .ok (.i2l, 1) := by decide +kernel
theorem dX4_convolve_82 : decode cX4_convolve 82 = .ok (.lmul, 1) := by decide +kernel
theorem dX4_convolve_83 : decode cX4_convolve 83 = .ok (.lstore 4, 2) := by decide +kernel
theorem dX4_convolve_85 : decode cX4_convolve 85 = .ok (.iinc 6 1, 3) := by decide +kernel
theorem dX4_convolve_88 : decode cX4_convolve 88 = .ok (.goto (-82), 3) := by decide +kernel
theorem dX4_convolve_91 : decode cX4_convolve 91 = .ok (.aload_n 3, 1) := by decide +kernel
theorem dX4_convolve_92 : decode cX4_convolve 92 = .ok (.invokevirtual 48, 3) := by decide +kernel
theorem dX4_convolve_95 : decode cX4_convolve 95 = .ok (.return_, 1) := by decide +kernel
theorem dX4_multiplySpectra_0 : decode cX4_multiplySpectra 0 = .ok (.aload_n 1, 1) := by decide +kernel
theorem dX4_multiplySpectra_1 : decode cX4_multiplySpectra 1 = .ok (.iload 4, 2) := by decide +kernel
theorem dX4_multiplySpectra_3 : decode cX4_multiplySpectra 3 = .ok (.invokevirtual 31, 3) := by decide +kernel
theorem dX4_multiplySpectra_6 : decode cX4_multiplySpectra 6 = .ok (.istore 6, 2) := by decide +kernel
theorem dX4_multiplySpectra_8 : decode cX4_multiplySpectra 8 = .ok (.iload 5, 2) := by decide +kernel
theorem dX4_multiplySpectra_10 : decode cX4_multiplySpectra 10 = .ok (.istore 7, 2) := by decide +kernel
theorem dX4_multiplySpectra_12 : decode cX4_multiplySpectra 12 = .ok (.iconst 0, 1) := by decide +kernel
theorem dX4_multiplySpectra_13 : decode cX4_multiplySpectra 13 = .ok (.istore 8, 2) := by decide +kernel
theorem dX4_multiplySpectra_15 : decode cX4_multiplySpectra 15 = .ok (.iload 8, 2) := by decide +kernel
theorem dX4_multiplySpectra_17 : decode cX4_multiplySpectra 17 = .ok (.iload 4, 2) := by decide +kernel
theorem dX4_multiplySpectra_19 : decode cX4_multiplySpectra 19 = .ok (.if_icmp .ge 73, 3) := by decide +kernel
theorem dX4_multiplySpectra_22 : decode cX4_multiplySpectra 22 = .ok (.iload 8, 2) := by decide +kernel
theorem dX4_multiplySpectra_24 : decode cX4_multiplySpectra 24 = .ok (.bipush 64, 2) := by decide +kernel
theorem dX4_multiplySpectra_26 : decode cX4_multiplySpectra 26 = .ok (.if_icmp .ge 66, 3) := by decide +kernel
theorem dX4_multiplySpectra_29 : decode cX4_multiplySpectra 29 = .ok (.aload_n 1, 1) := by decide +kernel
theorem dX4_multiplySpectra_30 : decode cX4_multiplySpectra 30 = .ok (.aload_n 2, 1) := by decide +kernel
theorem dX4_multiplySpectra_31 : decode cX4_multiplySpectra 31 = .ok (.getfield 51, 3) := by decide +kernel
theorem dX4_multiplySpectra_34 : decode cX4_multiplySpectra 34 = .ok (.aload_n 2, 1) := by decide +kernel
theorem dX4_multiplySpectra_35 : decode cX4_multiplySpectra 35 = .ok (.getfield 56, 3) := by decide +kernel
theorem dX4_multiplySpectra_38 : decode cX4_multiplySpectra 38 = .ok (.iload 7, 2) := by decide +kernel
theorem dX4_multiplySpectra_40 : decode cX4_multiplySpectra 40 = .ok (.invokevirtual 59, 3) := by decide +kernel
theorem dX4_multiplySpectra_43 : decode cX4_multiplySpectra 43 = .ok (.istore 9, 2) := by decide +kernel
theorem dX4_multiplySpectra_45 : decode cX4_multiplySpectra 45 = .ok (.aload_n 1, 1) := by decide +kernel
theorem dX4_multiplySpectra_46 : decode cX4_multiplySpectra 46 = .ok (.aload_n 3, 1) := by decide +kernel
theorem dX4_multiplySpectra_47 : decode cX4_multiplySpectra 47 = .ok (.getfield 51, 3) := by decide +kernel
theorem dX4_multiplySpectra_50 : decode cX4_multiplySpectra 50 = .ok (.aload_n 3, 1) := by decide +kernel
theorem dX4_multiplySpectra_51 : decode cX4_multiplySpectra 51 = .ok (.getfield 56, 3) := by decide +kernel
theorem dX4_multiplySpectra_54 : decode cX4_multiplySpectra 54 = .ok (.iload 7, 2) := by decide +kernel
theorem dX4_multiplySpectra_56 : decode cX4_multiplySpectra 56 = .ok (.invokevirtual 59, 3) := by decide +kernel
theorem dX4_multiplySpectra_59 : decode cX4_multiplySpectra 59 = .ok (.istore 10, 2) := by decide +kernel
theorem dX4_multiplySpectra_61 : decode cX4_multiplySpectra 61 = .ok (.aload_n 0, 1) := by decide +kernel
theorem dX4_multiplySpectra_62 : decode cX4_multiplySpectra 62 = .ok (.getfield 9, 3) := by decide +kernel
theorem dX4_multiplySpectra_65 : decode cX4_multiplySpectra 65 = .ok (.iload 8, 2) := by decide +kernel
theorem dX4_multiplySpectra_67 : decode cX4_multiplySpectra 67 = .ok (.aload_n 1, 1) := by decide +kernel
theorem dX4_multiplySpectra_68 : decode cX4_multiplySpectra 68 = .ok (.iload 9, 2) := by decide +kernel
theorem dX4_multiplySpectra_70 : decode cX4_multiplySpectra 70 = .ok (.iload 10, 2) := by decide +kernel
theorem dX4_multiplySpectra_72 : decode cX4_multiplySpectra 72 = .ok (.invokevirtual 63, 3) := by decide +kernel
theorem dX4_multiplySpectra_75 : decode cX4_multiplySpectra 75 = .ok (.iastore, 1) := by decide +kernel
theorem dX4_multiplySpectra_76 : decode cX4_multiplySpectra 76 = .ok (.aload_n 1, 1) := by decide +kernel
theorem dX4_multiplySpectra_77 : decode cX4_multiplySpectra 77 = .ok (.iload 7, 2) := by decide +kernel
theorem dX4_multiplySpectra_79 : decode cX4_multiplySpectra 79 = .ok (.iload 6, 2) := by decide +kernel
theorem dX4_multiplySpectra_81 : decode cX4_multiplySpectra 81 = .ok (.invokevirtual 63, 3) := by decide +kernel
theorem dX4_multiplySpectra_84 : decode cX4_multiplySpectra 84 = .ok (.istore 7, 2) := by decide +kernel
theorem dX4_multiplySpectra_86 : decode cX4_multiplySpectra 86 = .ok (.iinc 8 1, 3) := by decide +kernel
theorem dX4_multiplySpectra_89 : decode cX4_multiplySpectra 89 = .ok (.goto (-74), 3) := by decide +kernel
theorem dX4_multiplySpectra_92 : decode cX4_multiplySpectra 92 = .ok (.return_, 1) := by decide +kernel
theorem dX4_widen_0 : decode cX4_widen 0 = .ok (.aload_n 2, 1) := by decide +kernel
theorem dX4_widen_1 : decode cX4_widen 1 = .ok (.aload_n 2, 1) := by decide +kernel
theorem dX4_widen_2 : decode cX4_widen 2 = .ok (.aload_n 1, 1) := by decide +kernel
theorem dX4_widen_3 : decode cX4_widen 3 = .ok (.getfield 28, 3) := by decide +kernel
theorem dX4_widen_6 : decode cX4_widen 6 = .ok (.invokevirtual 31, 3) := by decide +kernel
theorem dX4_widen_9 : decode cX4_widen 9 = .ok (.invokevirtual 67, 3) := by decide +kernel
theorem dX4_widen_12 : decode cX4_widen 12 = .ok (.istore 6, 2) := by decide +kernel
theorem dX4_widen_14 : decode cX4_widen 14 = .ok (.aload_n 2, 1) := by decide +kernel
theorem dX4_widen_15 : decode cX4_widen 15 = .ok (.iload_n 3, 1) := by decide +kernel
theorem dX4_widen_16 : decode cX4_widen 16 = .ok (.invokevirtual 67, 3) := by decide +kernel
theorem dX4_widen_19 : decode cX4_widen 19 = .ok (.istore 7, 2) := by decide +kernel
theorem dX4_widen_21 : decode cX4_widen 21 = .ok (.aload_n 2, 1) := by decide +kernel
theorem dX4_widen_22 : decode cX4_widen 22 = .ok (.aload_n 2, 1) := by decide +kernel
theorem dX4_widen_23 : decode cX4_widen 23 = .ok (.lload 4, 2) := by decide +kernel
theorem dX4_widen_25 : decode cX4_widen 25 = .ok (.invokevirtual 70, 3) := by decide +kernel
theorem dX4_widen_28 : decode cX4_widen 28 = .ok (.invokevirtual 67, 3) := by decide +kernel
theorem dX4_widen_31 : decode cX4_widen 31 = .ok (.istore 8, 2) := by decide +kernel
theorem dX4_widen_33 : decode cX4_widen 33 = .ok (.aload_n 2, 1) := by decide +kernel
theorem dX4_widen_34 : decode cX4_widen 34 = .ok (.aload_n 2, 1) := by decide +kernel
theorem dX4_widen_35 : decode cX4_widen 35 = .ok (.aload_n 1, 1) := by decide +kernel
theorem dX4_widen_36 : decode cX4_widen 36 = .ok (.getfield 28, 3) := by decide +kernel
theorem dX4_widen_39 : decode cX4_widen 39 = .ok (.i2l, 1) := by decide +kernel
theorem dX4_widen_40 : decode cX4_widen 40 = .ok (.invokevirtual 70, 3) := by decide +kernel
theorem dX4_widen_43 : decode cX4_widen 43 = .ok (.invokevirtual 67, 3) := by decide +kernel
theorem dX4_widen_46 : decode cX4_widen 46 = .ok (.istore 9, 2) := by decide +kernel
theorem dX4_widen_48 : decode cX4_widen 48 = .ok (.iconst 1, 1) := by decide +kernel
theorem dX4_widen_49 : decode cX4_widen 49 = .ok (.istore 10, 2) := by decide +kernel
theorem dX4_widen_51 : decode cX4_widen 51 = .ok (.iconst 0, 1) := by decide +kernel
theorem dX4_widen_52 : decode cX4_widen 52 = .ok (.istore 11, 2) := by decide +kernel
theorem dX4_widen_54 : decode cX4_widen 54 = .ok (.iload 11, 2) := by decide +kernel
theorem dX4_widen_56 : decode cX4_widen 56 = .ok (.aload_n 1, 1) := by decide +kernel
theorem dX4_widen_57 : decode cX4_widen 57 = .ok (.getfield 74, 3) := by decide +kernel
theorem dX4_widen_60 : decode cX4_widen 60 = .ok (.if_icmp .ge 95, 3) := by decide +kernel
theorem dX4_widen_63 : decode cX4_widen 63 = .ok (.aload_n 2, 1) := by decide +kernel
theorem dX4_widen_64 : decode cX4_widen 64 = .ok (.iload 9, 2) := by decide +kernel
theorem dX4_widen_66 : decode cX4_widen 66 = .ok (.aload_n 2, 1) := by decide +kernel
theorem dX4_widen_67 : decode cX4_widen 67 = .ok (.aload_n 0, 1) := by decide +kernel
theorem dX4_widen_68 : decode cX4_widen 68 = .ok (.getfield 9, 3) := by decide +kernel
theorem dX4_widen_71 : decode cX4_widen 71 = .ok (.aload_n 1, 1) := by decide +kernel
theorem dX4_widen_72 : decode cX4_widen 72 = .ok (.getfield 28, 3) := by decide +kernel
theorem dX4_widen_75 : decode cX4_widen 75 = .ok (.iload 10, 2) := by decide +kernel
theorem dX4_widen_77 : decode cX4_widen 77 = .ok (.invokevirtual 59, 3) := by decide +kernel
theorem dX4_widen_80 : decode cX4_widen 80 = .ok (.invokevirtual 63, 3) := by decide +kernel
theorem dX4_widen_83 : decode cX4_widen 83 = .ok (.istore 12, 2) := by decide +kernel
theorem dX4_widen_85 : decode cX4_widen 85 = .ok (.aload_n 2, 1) := by decide +kernel
theorem dX4_widen_86 : decode cX4_widen 86 = .ok (.iload 12, 2) := by decide +kernel
theorem dX4_widen_88 : decode cX4_widen 88 = .ok (.i2l, 1) := by decide +kernel
theorem dX4_widen_89 : decode cX4_widen 89 = .ok (.aload_n 2, 1) := by decide +kernel
theorem dX4_widen_90 : decode cX4_widen 90 = .ok (.aload_n 1, 1) := by decide +kernel
theorem dX4_widen_91 : decode cX4_widen 91 = .ok (.getfield 75, 3) := by decide +kernel
theorem dX4_widen_94 : decode cX4_widen 94 = .ok (.iload 11, 2) := by decide +kernel
theorem dX4_widen_96 : decode cX4_widen 96 = .ok (.laload, 1) := by decide +kernel
theorem dX4_widen_97 : decode cX4_widen 97 = .ok (.invokevirtual 70, 3) := by decide +kernel
theorem dX4_widen_100 : decode cX4_widen 100 = .ok (.i2l, 1) := by decide +kernel
theorem dX4_widen_101 : decode cX4_widen 101 = .ok (.lsub, 1) := by decide +kernel
theorem dX4_widen_102 : decode cX4_widen 102 = .ok (.invokevirtual 70, 3) := by decide +kernel
theorem dX4_widen_105 : decode cX4_widen 105 = .ok (.istore 13, 2) := by decide +kernel
theorem dX4_widen_107 : decode cX4_widen 107 = .ok (.aload_n 1, 1) := by decide +kernel
theorem dX4_widen_108 : decode cX4_widen 108 = .ok (.getfield 75, 3) := by decide +kernel
theorem dX4_widen_111 : decode cX4_widen 111 = .ok (.iload 11, 2) := by decide +kernel
theorem dX4_widen_113 : decode cX4_widen 113 = .ok (.dup2, 1) := by decide +kernel
theorem dX4_widen_114 : decode cX4_widen 114 = .ok (.laload, 1) := by decide +kernel
theorem dX4_widen_115 : decode cX4_widen 115 = .ok (.lload 4, 2) := by decide +kernel
theorem dX4_widen_117 : decode cX4_widen 117 = .ok (.aload_n 2, 1) := by decide +kernel
theorem dX4_widen_118 : decode cX4_widen 118 = .ok (.iload 13, 2) := by decide +kernel
theorem dX4_widen_120 : decode cX4_widen 120 = .ok (.iload 8, 2) := by decide +kernel
theorem dX4_widen_122 : decode cX4_widen 122 = .ok (.invokevirtual 63, 3) := by decide +kernel
theorem dX4_widen_125 : decode cX4_widen 125 = .ok (.i2l, 1) := by decide +kernel
theorem dX4_widen_126 : decode cX4_widen 126 = .ok (.lmul, 1) := by decide +kernel
theorem dX4_widen_127 : decode cX4_widen 127 = .ok (.ladd, 1) := by decide +kernel
theorem dX4_widen_128 : decode cX4_widen 128 = .ok (.lastore, 1) := by decide +kernel
theorem dX4_widen_129 : decode cX4_widen 129 = .ok (.aload_n 2, 1) := by decide +kernel
theorem dX4_widen_130 : decode cX4_widen 130 = .ok (.iload 10, 2) := by decide +kernel
theorem dX4_widen_132 : decode cX4_widen 132 = .ok (.iload 6, 2) := by decide +kernel
theorem dX4_widen_134 : decode cX4_widen 134 = .ok (.invokevirtual 63, 3) := by decide +kernel
theorem dX4_widen_137 : decode cX4_widen 137 = .ok (.istore 10, 2) := by decide +kernel
theorem dX4_widen_139 : decode cX4_widen 139 = .ok (.aload_n 2, 1) := by decide +kernel
theorem dX4_widen_140 : decode cX4_widen 140 = .ok (.iload 9, 2) := by decide +kernel
theorem dX4_widen_142 : decode cX4_widen 142 = .ok (.iload 7, 2) := by decide +kernel
theorem dX4_widen_144 : decode cX4_widen 144 = .ok (.invokevirtual 63, 3) := by decide +kernel
theorem dX4_widen_147 : decode cX4_widen 147 = .ok (.istore 9, 2) := by decide +kernel
theorem dX4_widen_149 : decode cX4_widen 149 = .ok (.iinc 11 1, 3) := by decide +kernel
theorem dX4_widen_152 : decode cX4_widen 152 = .ok (.goto (-98), 3) := by decide +kernel
theorem dX4_widen_155 : decode cX4_widen 155 = .ok (.return_, 1) := by decide +kernel
theorem dX5_init_0 : decode cX5_init 0 = .ok (.aload_n 0, 1) := by decide +kernel
theorem dX5_init_1 : decode cX5_init 1 = .ok (.invokespecial 3, 3) := by decide +kernel
theorem dX5_init_4 : decode cX5_init 4 = .ok (.aload_n 0, 1) := by decide +kernel
theorem dX5_init_5 : decode cX5_init 5 = .ok (.bipush 6, 2) := by decide +kernel
theorem dX5_init_7 : decode cX5_init 7 = .ok (.newarray .int, 2) := by decide +kernel
theorem dX5_init_9 : decode cX5_init 9 = .ok (.putfield 9, 3) := by decide +kernel
theorem dX5_init_12 : decode cX5_init 12 = .ok (.aload_n 0, 1) := by decide +kernel
theorem dX5_init_13 : decode cX5_init 13 = .ok (.bipush 64, 2) := by decide +kernel
theorem dX5_init_15 : decode cX5_init 15 = .ok (.newarray .boolean, 2) := by decide +kernel
theorem dX5_init_17 : decode cX5_init 17 = .ok (.putfield 15, 3) := by decide +kernel
theorem dX5_init_20 : decode cX5_init 20 = .ok (.return_, 1) := by decide +kernel
theorem dX5_find_0 : decode cX5_find 0 = .ok (.aload_n 0, 1) := by decide +kernel
theorem dX5_find_1 : decode cX5_find 1 = .ok (.iconst (-1), 1) := by decide +kernel
theorem dX5_find_2 : decode cX5_find 2 = .ok (.putfield 19, 3) := by decide +kernel
theorem dX5_find_5 : decode cX5_find 5 = .ok (.aload_n 0, 1) := by decide +kernel
theorem dX5_find_6 : decode cX5_find 6 = .ok (.iconst 0, 1) := by decide +kernel
theorem dX5_find_7 : decode cX5_find 7 = .ok (.putfield 23, 3) := by decide +kernel
theorem dX5_find_10 : decode cX5_find 10 = .ok (.aload_n 0, 1) := by decide +kernel
theorem dX5_find_11 : decode cX5_find 11 = .ok (.iconst 0, 1) := by decide +kernel
theorem dX5_find_12 : decode cX5_find 12 = .ok (.putfield 26, 3) := by decide +kernel
theorem dX5_find_15 : decode cX5_find 15 = .ok (.iconst 0, 1) := by decide +kernel
theorem dX5_find_16 : decode cX5_find 16 = .ok (.istore 6, 2) := by decide +kernel
theorem dX5_find_18 : decode cX5_find 18 = .ok (.iload 6, 2) := by decide +kernel
theorem dX5_find_20 : decode cX5_find 20 = .ok (.iconst 1, 1) := by decide +kernel
theorem dX5_find_21 : decode cX5_find 21 = .ok (.aload_n 1, 1) := by decide +kernel
theorem dX5_find_22 : decode cX5_find 22 = .ok (.getfield 29, 3) := by decide +kernel
theorem dX5_find_25 : decode cX5_find 25 = .ok (.ishl, 1) := by decide +kernel
theorem dX5_find_26 : decode cX5_find 26 = .ok (.if_icmp .ge 24, 3) := by decide +kernel
theorem dX5_find_29 : decode cX5_find 29 = .ok (.aload_n 0, 1) := by decide +kernel
theorem dX5_find_30 : decode cX5_find 30 = .ok (.getfield 15, 3) := by decide +kernel
theorem dX5_find_33 : decode cX5_find 33 = .ok (.iload 6, 2) := by decide +kernel
theorem dX5_find_35 : decode cX5_find 35 = .ok (.aload_n 1, 1) := by decide +kernel
theorem dX5_find_36 : decode cX5_find 36 = .ok (.iload 6, 2) := by decide +kernel
theorem dX5_find_38 : decode cX5_find 38 = .ok (.lload 4, 2) := by decide +kernel
theorem dX5_find_40 : decode cX5_find 40 = .ok (.invokevirtual 34, 3) := by decide +kernel
theorem dX5_find_43 : decode cX5_find 43 = .ok (.bastore, 1) := by decide +kernel
theorem dX5_find_44 : decode cX5_find 44 = .ok (.iinc 6 1, 3) := by decide +kernel
theorem dX5_find_47 : decode cX5_find 47 = .ok (.goto (-29), 3) := by decide +kernel
theorem dX5_find_50 : decode cX5_find 50 = .ok (.iload_n 2, 1) := by decide +kernel
theorem dX5_find_51 : decode cX5_find 51 = .ok (.ifCond .ne 8, 3) := by decide +kernel
theorem dX5_find_54 : decode cX5_find 54 = .ok (.bipush 64, 2) := by decide +kernel
theorem dX5_find_56 : decode cX5_find 56 = .ok (.goto 4, 3) := by decide +kernel
theorem dX5_find_59 : decode cX5_find 59 = .ok (.iload_n 3, 1) := by decide +kernel
theorem dX5_find_60 : decode cX5_find 60 = .ok (.istore 6, 2) := by decide +kernel
theorem dX5_find_62 : decode cX5_find 62 = .ok (.iload_n 3, 1) := by decide +kernel
theorem dX5_find_63 : decode cX5_find 63 = .ok (.istore 7, 2) := by decide +kernel
theorem dX5_find_65 : decode cX5_find 65 = .ok (.iload 7, 2) := by decide +kernel
theorem dX5_find_67 : decode cX5_find 67 = .ok (.iload 6, 2) := by decide +kernel
theorem dX5_find_69 : decode cX5_find 69 = .ok (.if_icmp .gt 72, 3) := by decide +kernel
theorem dX5_find_72 : decode cX5_find 72 = .ok (.aload_n 1, 1) := by decide +kernel
theorem dX5_find_73 : decode cX5_find 73 = .ok (.iload_n 2, 1) := by decide +kernel
theorem dX5_find_74 : decode cX5_find 74 = .ok (.iload 7, 2) := by decide +kernel
theorem dX5_find_76 : decode cX5_find 76 = .ok (.invokevirtual 38, 3) := by decide +kernel
theorem dX5_find_79 : decode cX5_find 79 = .ok (.istore 8, 2) := by decide +kernel
theorem dX5_find_81 : decode cX5_find 81 = .ok (.aload_n 0, 1) := by decide +kernel
theorem dX5_find_82 : decode cX5_find 82 = .ok (.aload_n 1, 1) := by decide +kernel
theorem dX5_find_83 : decode cX5_find 83 = .ok (.iload_n 2, 1) := by decide +kernel
theorem dX5_find_84 : decode cX5_find 84 = .ok (.iload 7, 2) := by decide +kernel
theorem dX5_find_86 : decode cX5_find 86 = .ok (.iload 8, 2) := by decide +kernel
theorem dX5_find_88 : decode cX5_find 88 = .ok (.invokevirtual 42, 3) := by decide +kernel
theorem dX5_find_91 : decode cX5_find 91 = .ok (.iconst 1, 1) := by decide +kernel
theorem dX5_find_92 : decode cX5_find 92 = .ok (.istore 9, 2) := by decide +kernel
theorem dX5_find_94 : decode cX5_find 94 = .ok (.iload 9, 2) := by decide +kernel
theorem dX5_find_96 : decode cX5_find 96 = .ok (.iload 8, 2) := by decide +kernel
theorem dX5_find_98 : decode cX5_find 98 = .ok (.if_icmp .gt 37, 3) := by decide +kernel
theorem dX5_find_101 : decode cX5_find 101 = .ok (.iload 9, 2) := by decide +kernel
theorem dX5_find_103 : decode cX5_find 103 = .ok (.iload 8, 2) := by decide +kernel
theorem dX5_find_105 : decode cX5_find 105 = .ok (.iconst (-1), 1) := by decide +kernel
theorem dX5_find_106 : decode cX5_find 106 = .ok (.ixor, 1) := by decide +kernel
theorem dX5_find_107 : decode cX5_find 107 = .ok (.iand, 1) := by decide +kernel
theorem dX5_find_108 : decode cX5_find 108 = .ok (.ifCond .ne 21, 3) := by decide +kernel
theorem dX5_find_111 : decode cX5_find 111 = .ok (.aload_n 0, 1) := by decide +kernel
theorem dX5_find_112 : decode cX5_find 112 = .ok (.getfield 15, 3) := by decide +kernel
theorem dX5_find_115 : decode cX5_find 115 = .ok (.iload 9, 2) := by decide +kernel
theorem dX5_find_117 : decode cX5_find 117 = .ok (.baload, 1) := by decide +kernel
theorem dX5_find_118 : decode cX5_find 118 = .ok (.ifCond .eq 11, 3) := by decide +kernel
theorem dX5_find_121 : decode cX5_find 121 = .ok (.aload_n 0, 1) := by decide +kernel
theorem dX5_find_122 : decode cX5_find 122 = .ok (.iload 7, 2) := by decide +kernel
theorem dX5_find_124 : decode cX5_find 124 = .ok (.iload 9, 2) := by decide +kernel
theorem dX5_find_126 : decode cX5_find 126 = .ok (.invokevirtual 46, 3) := by decide +kernel
theorem dX5_find_129 : decode cX5_find 129 = .ok (.iinc 9 1, 3) := by decide +kernel
theorem dX5_find_132 : decode cX5_find 132 = .ok (.goto (-38), 3) := by decide +kernel
theorem dX5_find_135 : decode cX5_find 135 = .ok (.iinc 7 1, 3) := by decide +kernel
theorem dX5_find_138 : decode cX5_find 138 = .ok (.goto (-73), 3) := by decide +kernel
theorem dX5_find_141 : decode cX5_find 141 = .ok (.return_, 1) := by decide +kernel
theorem dX5_measureFields_0 : decode cX5_measureFields 0 = .ok (.iload_n 2, 1) := by decide +kernel
theorem dX5_measureFields_1 : decode cX5_measureFields 1 = .ok (.iconst 2, 1) := by decide +kernel
theorem dX5_measureFields_2 : decode cX5_measureFields 2 = .ok (.if_icmp .ne 9, 3) := by decide +kernel
theorem dX5_measureFields_5 : decode cX5_measureFields 5 = .ok (.iconst 4, 1) := by decide +kernel
theorem dX5_measureFields_6 : decode cX5_measureFields 6 = .ok (.iload_n 3, 1) := by decide +kernel
theorem dX5_measureFields_7 : decode cX5_measureFields 7 = .ok (.imul, 1) := by decide +kernel
theorem dX5_measureFields_8 : decode cX5_measureFields 8 = .ok (.goto 4, 3) := by decide +kernel
theorem dX5_measureFields_11 : decode cX5_measureFields 11 = .ok (.iload_n 3, 1) := by decide +kernel
theorem dX5_measureFields_12 : decode cX5_measureFields 12 = .ok (.istore 5, 2) := by decide +kernel
theorem dX5_measureFields_14 : decode cX5_measureFields 14 = .ok (.iconst 0, 1) := by decide +kernel
theorem dX5_measureFields_15 : decode cX5_measureFields 15 = .ok (.istore 6, 2) := by decide +kernel
theorem dX5_measureFields_17 : decode cX5_measureFields 17 = .ok (.iload 6, 2) := by decide +kernel
theorem dX5_measureFields_19 : decode cX5_measureFields 19 = .ok (.aload_n 1, 1) := by decide +kernel
theorem dX5_measureFields_20 : decode cX5_measureFields 20 = .ok (.getfield 29, 3) := by decide +kernel
theorem dX5_measureFields_23 : decode cX5_measureFields 23 = .ok (.if_icmp .ge 57, 3) := by decide +kernel
theorem dX5_measureFields_26 : decode cX5_measureFields 26 = .ok (.iload 4, 2) := by decide +kernel
theorem dX5_measureFields_28 : decode cX5_measureFields 28 = .ok (.iload 6, 2) := by decide +kernel
theorem dX5_measureFields_30 : decode cX5_measureFields 30 = .ok (.ishr, 1) := by decide +kernel
theorem dX5_measureFields_31 : decode cX5_measureFields 31 = .ok (.iconst 1, 1) := by decide +kernel
theorem dX5_measureFields_32 : decode cX5_measureFields 32 = .ok (.iand, 1) := by decide +kernel
theorem dX5_measureFields_33 : decode cX5_measureFields 33 = .ok (.ifCond .eq 41, 3) := by decide +kernel
theorem dX5_measureFields_36 : decode cX5_measureFields 36 = .ok (.aload_n 1, 1) := by decide +kernel
theorem dX5_measureFields_37 : decode cX5_measureFields 37 = .ok (.getfield 50, 3) := by decide +kernel
theorem dX5_measureFields_40 : decode cX5_measureFields 40 = .ok (.iload 6, 2) := by decide +kernel
theorem dX5_measureFields_42 : decode cX5_measureFields 42 = .ok (.aaload, 1) := by decide +kernel
theorem dX5_measureFields_43 : decode cX5_measureFields 43 = .ok (.iload_n 3, 1) := by decide +kernel
theorem dX5_measureFields_44 : decode cX5_measureFields 44 = .ok (.invokestatic 54, 3) := by decide +kernel
theorem dX5_measureFields_47 : decode cX5_measureFields 47 = .ok (.istore 7, 2) := by decide +kernel
theorem dX5_measureFields_49 : decode cX5_measureFields 49 = .ok (.aload_n 0, 1) := by decide +kernel
theorem dX5_measureFields_50 : decode cX5_measureFields 50 = .ok (.getfield 9, 3) := by decide +kernel
theorem dX5_measureFields_53 : decode cX5_measureFields 53 = .ok (.iload 6, 2) := by decide +kernel
theorem dX5_measureFields_55 : decode cX5_measureFields 55 = .ok (.iconst 3, 1) := by decide +kernel
theorem dX5_measureFields_56 : decode cX5_measureFields 56 = .ok (.aload_n 1, 1) := by decide +kernel
theorem dX5_measureFields_57 : decode cX5_measureFields 57 = .ok (.getfield 50, 3) := by decide +kernel
theorem dX5_measureFields_60 : decode cX5_measureFields 60 = .ok (.iload 6, 2) := by decide +kernel
theorem dX5_measureFields_62 : decode cX5_measureFields 62 = .ok (.aaload, 1) := by decide +kernel
theorem dX5_measureFields_63 : decode cX5_measureFields 63 = .ok (.iload_n 3, 1) := by decide +kernel
theorem dX5_measureFields_64 : decode cX5_measureFields 64 = .ok (.iload 7, 2) := by decide +kernel
theorem dX5_measureFields_66 : decode cX5_measureFields 66 = .ok (.invokestatic 58, 3) := by decide +kernel
theorem dX5_measureFields_69 : decode cX5_measureFields 69 = .ok (.imul, 1) := by decide +kernel
theorem dX5_measureFields_70 : decode cX5_measureFields 70 = .ok (.iload 5, 2) := by decide +kernel
theorem dX5_measureFields_72 : decode cX5_measureFields 72 = .ok (.iadd, 1) := by decide +kernel
theorem dX5_measureFields_73 : decode cX5_measureFields 73 = .ok (.iastore, 1) := by decide +kernel
theorem dX5_measureFields_74 : decode cX5_measureFields 74 = .ok (.iinc 6 1, 3) := by decide +kernel
theorem dX5_measureFields_77 : decode cX5_measureFields 77 = .ok (.goto (-60), 3) := by decide +kernel
theorem dX5_measureFields_80 : decode cX5_measureFields 80 = .ok (.return_, 1) := by decide +kernel
theorem dX5_compare_0 : decode cX5_compare 0 = .ok (.iconst 0, 1) := by decide +kernel
theorem dX5_compare_1 : decode cX5_compare 1 = .ok (.istore_n 3, 1) := by decide +kernel
theorem dX5_compare_2 : decode cX5_compare 2 = .ok (.iconst 0, 1) := by decide +kernel
theorem dX5_compare_3 : decode cX5_compare 3 = .ok (.istore 4, 2) := by decide +kernel
theorem dX5_compare_5 : decode cX5_compare 5 = .ok (.iconst 0, 1) := by decide +kernel
theorem dX5_compare_6 : decode cX5_compare 6 = .ok (.istore 5, 2) := by decide +kernel
theorem dX5_compare_8 : decode cX5_compare 8 = .ok (.iload 5, 2) := by decide +kernel
theorem dX5_compare_10 : decode cX5_compare 10 = .ok (.bipush 6, 2) := by decide +kernel
theorem dX5_compare_12 : decode cX5_compare 12 = .ok (.if_icmp .ge 33, 3) := by decide +kernel
theorem dX5_compare_15 : decode cX5_compare 15 = .ok (.iload_n 2, 1) := by decide +kernel
theorem dX5_compare_16 : decode cX5_compare 16 = .ok (.iload 5, 2) := by decide +kernel
theorem dX5_compare_18 : decode cX5_compare 18 = .ok (.ishr, 1) := by decide +kernel
theorem dX5_compare_19 : decode cX5_compare 19 = .ok (.iconst 1, 1) := by decide +kernel
theorem dX5_compare_20 : decode cX5_compare 20 = .ok (.iand, 1) := by decide +kernel
theorem dX5_compare_21 : decode cX5_compare 21 = .ok (.ifCond .eq 18, 3) := by decide +kernel
theorem dX5_compare_24 : decode cX5_compare 24 = .ok (.iload 4, 2) := by decide +kernel
theorem dX5_compare_26 : decode cX5_compare 26 = .ok (.aload_n 0, 1) := by decide +kernel
theorem dX5_compare_27 : decode cX5_compare 27 = .ok (.getfield 9, 3) := by decide +kernel
theorem dX5_compare_30 : decode cX5_compare 30 = .ok (.iload 5, 2) := by decide +kernel
theorem dX5_compare_32 : decode cX5_compare 32 = .ok (.iaload, 1) := by decide +kernel
theorem dX5_compare_33 : decode cX5_compare 33 = .ok (.iadd, 1) := by decide +kernel
theorem dX5_compare_34 : decode cX5_compare 34 = .ok (.istore 4, 2) := by decide +kernel
theorem dX5_compare_36 : decode cX5_compare 36 = .ok (.iinc 3 1, 3) := by decide +kernel
theorem dX5_compare_39 : decode cX5_compare 39 = .ok (.iinc 5 1, 3) := by decide +kernel
theorem dX5_compare_42 : decode cX5_compare 42 = .ok (.goto (-34), 3) := by decide +kernel
theorem dX5_compare_45 : decode cX5_compare 45 = .ok (.iload 4, 2) := by decide +kernel
theorem dX5_compare_47 : decode cX5_compare 47 = .ok (.iload_n 1, 1) := by decide +kernel
theorem dX5_compare_48 : decode cX5_compare 48 = .ok (.iload_n 3, 1) := by decide +kernel
theorem dX5_compare_49 : decode cX5_compare 49 = .ok (.imul, 1) := by decide +kernel
theorem dX5_compare_50 : decode cX5_compare 50 = .ok (.iload_n 3, 1) := by decide +kernel
theorem dX5_compare_51 : decode cX5_compare 51 = .ok (.iconst 1, 1) := by decide +kernel
theorem dX5_compare_52 : decode cX5_compare 52 = .ok (.isub, 1) := by decide +kernel
theorem dX5_compare_53 : decode cX5_compare 53 = .ok (.imul, 1) := by decide +kernel
theorem dX5_compare_54 : decode cX5_compare 54 = .ok (.iconst 2, 1) := by decide +kernel
theorem dX5_compare_55 : decode cX5_compare 55 = .ok (.idiv, 1) := by decide +kernel
theorem dX5_compare_56 : decode cX5_compare 56 = .ok (.iadd, 1) := by decide +kernel
theorem dX5_compare_57 : decode cX5_compare 57 = .ok (.istore 4, 2) := by decide +kernel
theorem dX5_compare_59 : decode cX5_compare 59 = .ok (.aload_n 0, 1) := by decide +kernel
theorem dX5_compare_60 : decode cX5_compare 60 = .ok (.getfield 19, 3) := by decide +kernel
theorem dX5_compare_63 : decode cX5_compare 63 = .ok (.iconst (-1), 1) := by decide +kernel
theorem dX5_compare_64 : decode cX5_compare 64 = .ok (.if_icmp .eq 12, 3) := by decide +kernel
theorem dX5_compare_67 : decode cX5_compare 67 = .ok (.iload 4, 2) := by decide +kernel
theorem dX5_compare_69 : decode cX5_compare 69 = .ok (.aload_n 0, 1) := by decide +kernel
theorem dX5_compare_70 : decode cX5_compare 70 = .ok (.getfield 19, 3) := by decide +kernel
theorem dX5_compare_73 : decode cX5_compare 73 = .ok (.if_icmp .ge 19, 3) := by decide +kernel
theorem dX5_compare_76 : decode cX5_compare 76 = .ok (.aload_n 0, 1) := by decide +kernel
theorem dX5_compare_77 : decode cX5_compare 77 = .ok (.iload 4, 2) := by decide +kernel
theorem dX5_compare_79 : decode cX5_compare 79 = .ok (.putfield 19, 3) := by decide +kernel
theorem dX5_compare_82 : decode cX5_compare 82 = .ok (.aload_n 0, 1) := by decide +kernel
theorem dX5_compare_83 : decode cX5_compare 83 = .ok (.iload_n 1, 1) := by decide +kernel
theorem dX5_compare_84 : decode cX5_compare 84 = .ok (.putfield 23, 3) := by decide +kernel
theorem dX5_compare_87 : decode cX5_compare 87 = .ok (.aload_n 0, 1) := by decide +kernel
theorem dX5_compare_88 : decode cX5_compare 88 = .ok (.iload_n 2, 1) := by decide +kernel
theorem dX5_compare_89 : decode cX5_compare 89 = .ok (.putfield 26, 3) := by decide +kernel
theorem dX5_compare_92 : decode cX5_compare 92 = .ok (.return_, 1) := by decide +kernel
theorem dX6_init_0 : decode cX6_init 0 = .ok (.aload_n 0, 1) := by decide +kernel
theorem dX6_init_1 : decode cX6_init 1 = .ok (.invokespecial 3, 3) := by decide +kernel
theorem dX6_init_4 : decode cX6_init 4 = .ok (.aload_n 0, 1) := by decide +kernel
theorem dX6_init_5 : decode cX6_init 5 = .ok (.bipush 64, 2) := by decide +kernel
theorem dX6_init_7 : decode cX6_init 7 = .ok (.newarray .long, 2) := by decide +kernel
theorem dX6_init_9 : decode cX6_init 9 = .ok (.putfield 9, 3) := by decide +kernel
theorem dX6_init_12 : decode cX6_init 12 = .ok (.aload_n 0, 1) := by decide +kernel
theorem dX6_init_13 : decode cX6_init 13 = .ok (.bipush 6, 2) := by decide +kernel
theorem dX6_init_15 : decode cX6_init 15 = .ok (.anewarray 15, 3) := by decide +kernel
theorem dX6_init_18 : decode cX6_init 18 = .ok (.putfield 17, 3) := by decide +kernel
theorem dX6_init_21 : decode cX6_init 21 = .ok (.aload_n 0, 1) := by decide +kernel
theorem dX6_init_22 : decode cX6_init 22 = .ok (.lconst 1, 1) := by decide +kernel
theorem dX6_init_23 : decode cX6_init 23 = .ok (.putfield 21, 3) := by decide +kernel
theorem dX6_init_26 : decode cX6_init 26 = .ok (.return_, 1) := by decide +kernel
theorem dX6_isPresent_0 : decode cX6_isPresent 0 = .ok (.aload_n 0, 1) := by decide +kernel
theorem dX6_isPresent_1 : decode cX6_isPresent 1 = .ok (.getfield 25, 3) := by decide +kernel
theorem dX6_isPresent_4 : decode cX6_isPresent 4 = .ok (.ifCond .le 7, 3) := by decide +kernel
theorem dX6_isPresent_7 : decode cX6_isPresent 7 = .ok (.iconst 1, 1) := by decide +kernel
theorem dX6_isPresent_8 : decode cX6_isPresent 8 = .ok (.goto 4, 3) := by decide +kernel
theorem dX6_isPresent_11 : decode cX6_isPresent 11 = .ok (.iconst 0, 1) := by decide +kernel
theorem dX6_isPresent_12 : decode cX6_isPresent 12 = .ok (.ireturn, 1) := by decide +kernel
theorem dX6_hasCoefficient_0 : decode cX6_hasCoefficient 0 = .ok (.iload_n 1, 1) := by decide +kernel
theorem dX6_hasCoefficient_1 : decode cX6_hasCoefficient 1 = .ok (.ifCond .lt 15, 3) := by decide +kernel
theorem dX6_hasCoefficient_4 : decode cX6_hasCoefficient 4 = .ok (.iload_n 1, 1) := by decide +kernel
theorem dX6_hasCoefficient_5 : decode cX6_hasCoefficient 5 = .ok (.aload_n 0, 1) := by decide +kernel
theorem dX6_hasCoefficient_6 : decode cX6_hasCoefficient 6 = .ok (.getfield 25, 3) := by decide +kernel
theorem dX6_hasCoefficient_9 : decode cX6_hasCoefficient 9 = .ok (.if_icmp .ge 7, 3) := by decide +kernel
theorem dX6_hasCoefficient_12 : decode cX6_hasCoefficient 12 = .ok (.iconst 1, 1) := by decide +kernel
theorem dX6_hasCoefficient_13 : decode cX6_hasCoefficient 13 = .ok (.goto 4, 3) := by decide +kernel
theorem dX6_hasCoefficient_16 : decode cX6_hasCoefficient 16 = .ok (.iconst 0, 1) := by decide +kernel
theorem dX6_hasCoefficient_17 : decode cX6_hasCoefficient 17 = .ok (.ireturn, 1) := by decide +kernel
theorem dX6_clear_0 : decode cX6_clear 0 = .ok (.aload_n 0, 1) := by decide +kernel
theorem dX6_clear_1 : decode cX6_clear 1 = .ok (.iconst 0, 1) := by decide +kernel
theorem dX6_clear_2 : decode cX6_clear 2 = .ok (.putfield 25, 3) := by decide +kernel
theorem dX6_clear_5 : decode cX6_clear 5 = .ok (.return_, 1) := by decide +kernel
theorem dX6_prepare_0 : decode cX6_prepare 0 = .ok (.aload_n 0, 1) := by decide +kernel
theorem dX6_prepare_1 : decode cX6_prepare 1 = .ok (.iload_n 1, 1) := by decide +kernel
theorem dX6_prepare_2 : decode cX6_prepare 2 = .ok (.putfield 29, 3) := by decide +kernel
theorem dX6_prepare_5 : decode cX6_prepare 5 = .ok (.aload_n 0, 1) := by decide +kernel
theorem dX6_prepare_6 : decode cX6_prepare 6 = .ok (.iload_n 2, 1) := by decide +kernel
theorem dX6_prepare_7 : decode cX6_prepare 7 = .ok (.putfield 32, 3) := by decide +kernel
theorem dX6_prepare_10 : decode cX6_prepare 10 = .ok (.aload_n 0, 1) := by decide +kernel
theorem dX6_prepare_11 : decode cX6_prepare 11 = .ok (.iload_n 3, 1) := by decide +kernel
theorem dX6_prepare_12 : decode cX6_prepare 12 = .ok (.bipush 64, 2) := by decide +kernel
theorem dX6_prepare_14 : decode cX6_prepare 14 = .ok (.invokestatic 35, 3) := by decide +kernel
theorem dX6_prepare_17 : decode cX6_prepare 17 = .ok (.putfield 25, 3) := by decide +kernel
theorem dX6_prepare_20 : decode cX6_prepare 20 = .ok (.iconst 0, 1) := by decide +kernel
theorem dX6_prepare_21 : decode cX6_prepare 21 = .ok (.istore 4, 2) := by decide +kernel
theorem dX6_prepare_23 : decode cX6_prepare 23 = .ok (.iload 4, 2) := by decide +kernel
theorem dX6_prepare_25 : decode cX6_prepare 25 = .ok (.aload_n 0, 1) := by decide +kernel
theorem dX6_prepare_26 : decode cX6_prepare 26 = .ok (.getfield 25, 3) := by decide +kernel
theorem dX6_prepare_29 : decode cX6_prepare 29 = .ok (.if_icmp .ge 17, 3) := by decide +kernel
theorem dX6_prepare_32 : decode cX6_prepare 32 = .ok (.aload_n 0, 1) := by decide +kernel
theorem dX6_prepare_33 : decode cX6_prepare 33 = .ok (.getfield 9, 3) := by decide +kernel
theorem dX6_prepare_36 : decode cX6_prepare 36 = .ok (.iload 4, 2) := by decide +kernel
theorem dX6_prepare_38 : decode cX6_prepare 38 = .ok (.lconst 0, 1) := by decide +kernel
theorem dX6_prepare_39 : decode cX6_prepare 39 = .ok (.lastore, 1) := by decide +kernel
theorem dX6_prepare_40 : decode cX6_prepare 40 = .ok (.iinc 4 1, 3) := by decide +kernel
theorem dX6_prepare_43 : decode cX6_prepare 43 = .ok (.goto (-20), 3) := by decide +kernel
theorem dX6_prepare_46 : decode cX6_prepare 46 = .ok (.return_, 1) := by decide +kernel
theorem dX6_takeFields_0 : decode cX6_takeFields 0 = .ok (.aload_n 0, 1) := by decide +kernel
theorem dX6_takeFields_1 : decode cX6_takeFields 1 = .ok (.iload_n 2, 1) := by decide +kernel
theorem dX6_takeFields_2 : decode cX6_takeFields 2 = .ok (.putfield 41, 3) := by decide +kernel
theorem dX6_takeFields_5 : decode cX6_takeFields 5 = .ok (.aload_n 0, 1) := by decide +kernel
theorem dX6_takeFields_6 : decode cX6_takeFields 6 = .ok (.iconst 0, 1) := by decide +kernel
theorem dX6_takeFields_7 : decode cX6_takeFields 7 = .ok (.putfield 44, 3) := by decide +kernel
theorem dX6_takeFields_10 : decode cX6_takeFields 10 = .ok (.aload_n 0, 1) := by decide +kernel
theorem dX6_takeFields_11 : decode cX6_takeFields 11 = .ok (.lconst 1, 1) := by decide +kernel
theorem dX6_takeFields_12 : decode cX6_takeFields 12 = .ok (.putfield 21, 3) := by decide +kernel
theorem dX6_takeFields_15 : decode cX6_takeFields 15 = .ok (.iconst 0, 1) := by decide +kernel
theorem dX6_takeFields_16 : decode cX6_takeFields 16 = .ok (.istore_n 3, 1) := by decide +kernel
theorem dX6_takeFields_17 : decode cX6_takeFields 17 = .ok (.iload_n 3, 1) := by decide +kernel
theorem dX6_takeFields_18 : decode cX6_takeFields 18 = .ok (.aload_n 1, 1) := by decide +kernel
theorem dX6_takeFields_19 : decode cX6_takeFields 19 = .ok (.getfield 47, 3) := by decide +kernel
theorem dX6_takeFields_22 : decode cX6_takeFields 22 = .ok (.if_icmp .ge 61, 3) := by decide +kernel
theorem dX6_takeFields_25 : decode cX6_takeFields 25 = .ok (.aload_n 0, 1) := by decide +kernel
theorem dX6_takeFields_26 : decode cX6_takeFields 26 = .ok (.getfield 41, 3) := by decide +kernel
theorem dX6_takeFields_29 : decode cX6_takeFields 29 = .ok (.iload_n 3, 1) := by decide +kernel
theorem dX6_takeFields_30 : decode cX6_takeFields 30 = .ok (.ishr, 1) := by decide +kernel
theorem dX6_takeFields_31 : decode cX6_takeFields 31 = .ok (.iconst 1, 1) := by decide +kernel
theorem dX6_takeFields_32 : decode cX6_takeFields 32 = .ok (.iand, 1) := by decide +kernel
theorem dX6_takeFields_33 : decode cX6_takeFields 33 = .ok (.ifCond .eq 44, 3) := by decide +kernel
theorem dX6_takeFields_36 : decode cX6_takeFields 36 = .ok (.aload_n 0, 1) := by decide +kernel
theorem dX6_takeFields_37 : decode cX6_takeFields 37 = .ok (.getfield 17, 3) := by decide +kernel
theorem dX6_takeFields_40 : decode cX6_takeFields 40 = .ok (.aload_n 0, 1) := by decide +kernel
theorem dX6_takeFields_41 : decode cX6_takeFields 41 = .ok (.dup, 1) := by decide +kernel
theorem dX6_takeFields_42 : decode cX6_takeFields 42 = .ok (.getfield 44, 3) := by decide +kernel
theorem dX6_takeFields_45 : decode cX6_takeFields 45 = .ok (.dup_x1, 1) := by decide +kernel
theorem dX6_takeFields_46 : decode cX6_takeFields 46 = .ok (.iconst 1, 1) := by decide +kernel
theorem dX6_takeFields_47 : decode cX6_takeFields 47 = .ok (.iadd, 1) := by decide +kernel
theorem dX6_takeFields_48 : decode cX6_takeFields 48 = .ok (.putfield 44, 3) := by decide +kernel
theorem dX6_takeFields_51 : decode cX6_takeFields 51 = .ok (.aload_n 1, 1) := by decide +kernel
theorem dX6_takeFields_52 : decode cX6_takeFields 52 = .ok (.getfield 52, 3) := by decide +kernel
theorem dX6_takeFields_55 : decode cX6_takeFields 55 = .ok (.iload_n 3, 1) := by decide +kernel
theorem dX6_takeFields_56 : decode cX6_takeFields 56 = .ok (.aaload, 1) := by decide +kernel
theorem dX6_takeFields_57 : decode cX6_takeFields 57 = .ok (.aastore, 1) := by decide +kernel
theorem dX6_takeFields_58 : decode cX6_takeFields 58 = .ok (.aload_n 0, 1) := by decide +kernel
theorem dX6_takeFields_59 : decode cX6_takeFields 59 = .ok (.dup, 1) := by decide +kernel
theorem dX6_takeFields_60 : decode cX6_takeFields 60 = .ok (.getfield 21, 3) := by decide +kernel
theorem dX6_takeFields_63 : decode cX6_takeFields 63 = .ok (.aload_n 1, 1) := by decide +kernel
theorem dX6_takeFields_64 : decode cX6_takeFields 64 = .ok (.getfield 52, 3) := by decide +kernel
theorem dX6_takeFields_67 : decode cX6_takeFields 67 = .ok (.iload_n 3, 1) := by decide +kernel
theorem dX6_takeFields_68 : decode cX6_takeFields 68 = .ok (.aaload, 1) := by decide +kernel
theorem dX6_takeFields_69 : decode cX6_takeFields 69 = .ok (.getfield 53, 3) := by decide +kernel
theorem dX6_takeFields_72 : decode cX6_takeFields 72 = .ok (.i2l, 1) := by decide +kernel
theorem dX6_takeFields_73 : decode cX6_takeFields 73 = .ok (.lmul, 1) := by decide +kernel
theorem dX6_takeFields_74 : decode cX6_takeFields 74 = .ok (.putfield 21, 3) := by decide +kernel
theorem dX6_takeFields_77 : decode cX6_takeFields 77 = .ok (.iinc 3 1, 3) := by decide +kernel
theorem dX6_takeFields_80 : decode cX6_takeFields 80 = .ok (.goto (-63), 3) := by decide +kernel
theorem dX6_takeFields_83 : decode cX6_takeFields 83 = .ok (.return_, 1) := by decide +kernel
theorem dX6_centre_0 : decode cX6_centre 0 = .ok (.iconst 0, 1) := by decide +kernel
theorem dX6_centre_1 : decode cX6_centre 1 = .ok (.istore_n 1, 1) := by decide +kernel
theorem dX6_centre_2 : decode cX6_centre 2 = .ok (.iload_n 1, 1) := by decide +kernel
theorem dX6_centre_3 : decode cX6_centre 3 = .ok (.aload_n 0, 1) := by decide +kernel
theorem dX6_centre_4 : decode cX6_centre 4 = .ok (.getfield 25, 3) := by decide +kernel
theorem dX6_centre_7 : decode cX6_centre 7 = .ok (.if_icmp .ge 40, 3) := by decide +kernel
theorem dX6_centre_10 : decode cX6_centre 10 = .ok (.aload_n 0, 1) := by decide +kernel
theorem dX6_centre_11 : decode cX6_centre 11 = .ok (.getfield 9, 3) := by decide +kernel
theorem dX6_centre_14 : decode cX6_centre 14 = .ok (.iload_n 1, 1) := by decide +kernel
theorem dX6_centre_15 : decode cX6_centre 15 = .ok (.laload, 1) := by decide +kernel
theorem dX6_centre_16 : decode cX6_centre 16 = .ok (.aload_n 0, 1) := by decide +kernel
theorem dX6_centre_17 : decode cX6_centre 17 = .ok (.getfield 21, 3) := by decide +kernel
theorem dX6_centre_20 : decode cX6_centre 20 = .ok (.ldc2_w 56, 3) := by decide +kernel
theorem dX6_centre_23 : decode cX6_centre 23 = .ok (.ldiv, 1) := by decide +kernel
theorem dX6_centre_24 : decode cX6_centre 24 = .ok (.lcmp, 1) := by decide +kernel
theorem dX6_centre_25 : decode cX6_centre 25 = .ok (.ifCond .le 16, 3) := by decide +kernel
theorem dX6_centre_28 : decode cX6_centre 28 = .ok (.aload_n 0, 1) := by decide +kernel
theorem dX6_centre_29 : decode cX6_centre 29 = .ok (.getfield 9, 3) := by decide +kernel
theorem dX6_centre_32 : decode cX6_centre 32 = .ok (.iload_n 1, 1) := by decide +kernel
theorem dX6_centre_33 : decode cX6_centre 33 = .ok (.dup2, 1) := by decide +kernel
theorem dX6_centre_34 : decode cX6_centre 34 = .ok (.laload, 1) := by decide +kernel
theorem dX6_centre_35 : decode cX6_centre 35 = .ok (.aload_n 0, 1) := by decide +kernel
theorem dX6_centre_36 : decode cX6_centre 36 = .ok (.getfield 21, 3) := by decide +kernel
theorem dX6_centre_39 : decode cX6_centre 39 = .ok (.lsub, 1) := by decide +kernel
theorem dX6_centre_40 : decode cX6_centre 40 = .ok (.lastore, 1) := by decide +kernel
theorem dX6_centre_41 : decode cX6_centre 41 = .ok (.iinc 1 1, 3) := by decide +kernel
theorem dX6_centre_44 : decode cX6_centre 44 = .ok (.goto (-42), 3) := by decide +kernel
theorem dX6_centre_47 : decode cX6_centre 47 = .ok (.return_, 1) := by decide +kernel
theorem dX6_mixedDigit_0 : decode cX6_mixedDigit 0 = .ok (.aload_n 0, 1) := by decide +kernel
theorem dX6_mixedDigit_1 : decode cX6_mixedDigit 1 = .ok (.getfield 9, 3) := by decide +kernel
theorem dX6_mixedDigit_4 : decode cX6_mixedDigit 4 = .ok (.iload_n 1, 1) := by decide +kernel
theorem dX6_mixedDigit_5 : decode cX6_mixedDigit 5 = .ok (.laload, 1) := by decide +kernel
theorem dX6_mixedDigit_6 : decode cX6_mixedDigit 6 = .ok (.lconst 0, 1) := by decide +kernel
theorem dX6_mixedDigit_7 : decode cX6_mixedDigit 7 = .ok (.lcmp, 1) := by decide +kernel
theorem dX6_mixedDigit_8 : decode cX6_mixedDigit 8 = .ok (.ifCond .ge 17, 3) := by decide +kernel
theorem dX6_mixedDigit_11 : decode cX6_mixedDigit 11 = .ok (.aload_n 0, 1) := by decide +kernel
theorem dX6_mixedDigit_12 : decode cX6_mixedDigit 12 = .ok (.getfield 9, 3) := by decide +kernel
theorem dX6_mixedDigit_15 : decode cX6_mixedDigit 15 = .ok (.iload_n 1, 1) := by decide +kernel
theorem dX6_mixedDigit_16 : decode cX6_mixedDigit 16 = .ok (.laload, 1) := by decide +kernel
theorem dX6_mixedDigit_17 : decode cX6_mixedDigit 17 = .ok (.aload_n 0, 1) := by decide +kernel
theorem dX6_mixedDigit_18 : decode cX6_mixedDigit 18 = .ok (.getfield 21, 3) := by decide +kernel
theorem dX6_mixedDigit_21 : decode cX6_mixedDigit 21 = .ok (.ladd, 1) := by decide +kernel
theorem dX6_mixedDigit_22 : decode cX6_mixedDigit 22 = .ok (.goto 9, 3) := by decide +kernel
theorem dX6_mixedDigit_25 : decode cX6_mixedDigit 25 = .ok (.aload_n 0, 1) := by decide +kernel
theorem dX6_mixedDigit_26 : decode cX6_mixedDigit 26 = .ok (.getfield 9, 3) := by decide +kernel
theorem dX6_mixedDigit_29 : decode cX6_mixedDigit 29 = .ok (.iload_n 1, 1) := by decide +kernel
theorem dX6_mixedDigit_30 : decode cX6_mixedDigit 30 = .ok (.laload, 1) := by decide +kernel
theorem dX6_mixedDigit_31 : decode cX6_mixedDigit 31 = .ok (.lstore_n 3, 1) := by decide +kernel
theorem dX6_mixedDigit_32 : decode cX6_mixedDigit 32 = .ok (.iconst 0, 1) := by decide +kernel
theorem dX6_mixedDigit_33 : decode cX6_mixedDigit 33 = .ok (.istore 5, 2) := by decide +kernel
theorem dX6_mixedDigit_35 : decode cX6_mixedDigit 35 = .ok (.iload 5, 2) := by decide +kernel
theorem dX6_mixedDigit_37 : decode cX6_mixedDigit 37 = .ok (.iload_n 2, 1) := by decide +kernel
theorem dX6_mixedDigit_38 : decode cX6_mixedDigit 38 = .ok (.if_icmp .ge 23, 3) := by decide +kernel
theorem dX6_mixedDigit_41 : decode cX6_mixedDigit 41 = .ok (.lload_n 3, 1) := by decide +kernel
theorem dX6_mixedDigit_42 : decode cX6_mixedDigit 42 = .ok (.aload_n 0, 1) := by decide +kernel
theorem dX6_mixedDigit_43 : decode cX6_mixedDigit 43 = .ok (.getfield 17, 3) := by decide +kernel
theorem dX6_mixedDigit_46 : decode cX6_mixedDigit 46 = .ok (.iload 5, 2) := by decide +kernel
theorem dX6_mixedDigit_48 : decode cX6_mixedDigit 48 = .ok (.aaload, 1) := by decide +kernel
theorem dX6_mixedDigit_49 : decode cX6_mixedDigit 49 = .ok (.getfield 53, 3) := by decide +kernel
theorem dX6_mixedDigit_52 : decode cX6_mixedDigit 52 = .ok (.i2l, 1) := by decide +kernel
theorem dX6_mixedDigit_53 : decode cX6_mixedDigit 53 = .ok (.ldiv, 1) := by decide +kernel
theorem dX6_mixedDigit_54 : decode cX6_mixedDigit 54 = .ok (.lstore_n 3, 1) := by decide +kernel
theorem dX6_mixedDigit_55 : decode cX6_mixedDigit 55 = .ok (.iinc 5 1, 3) := by decide +kernel
theorem dX6_mixedDigit_58 : decode cX6_mixedDigit 58 = .ok (.goto (-23), 3) := by decide +kernel
theorem dX6_mixedDigit_61 : decode cX6_mixedDigit 61 = .ok (.aload_n 0, 1) := by decide +kernel
theorem dX6_mixedDigit_62 : decode cX6_mixedDigit 62 = .ok (.getfield 17, 3) := by decide +kernel
theorem dX6_mixedDigit_65 : decode cX6_mixedDigit 65 = .ok (.iload_n 2, 1) := by decide +kernel
theorem dX6_mixedDigit_66 : decode cX6_mixedDigit 66 = .ok (.aaload, 1) := by decide +kernel
theorem dX6_mixedDigit_67 : decode cX6_mixedDigit 67 = .ok (.lload_n 3, 1) := by decide +kernel
theorem dX6_mixedDigit_68 : decode cX6_mixedDigit 68 = .ok (.invokevirtual 58, 3) := by decide +kernel
theorem dX6_mixedDigit_71 : decode cX6_mixedDigit 71 = .ok (.ireturn, 1) := by decide +kernel
theorem dX6_evaluate_0 : decode cX6_evaluate 0 = .ok (.lconst 0, 1) := by decide +kernel
theorem dX6_evaluate_1 : decode cX6_evaluate 1 = .ok (.lstore_n 2, 1) := by decide +kernel
theorem dX6_evaluate_2 : decode cX6_evaluate 2 = .ok (.aload_n 0, 1) := by decide +kernel
theorem dX6_evaluate_3 : decode cX6_evaluate 3 = .ok (.getfield 25, 3) := by decide +kernel
theorem dX6_evaluate_6 : decode cX6_evaluate 6 = .ok (.iconst 1, 1) := by decide +kernel
theorem dX6_evaluate_7 : decode cX6_evaluate 7 = .ok (.isub, 1) := by decide +kernel
theorem dX6_evaluate_8 : decode cX6_evaluate 8 = .ok (.istore 4, 2) := by decide +kernel
theorem dX6_evaluate_10 : decode cX6_evaluate 10 = .ok (.iload 4, 2) := by decide +kernel
theorem dX6_evaluate_12 : decode cX6_evaluate 12 = .ok (.ifCond .lt 38, 3) := by decide +kernel
theorem dX6_evaluate_15 : decode cX6_evaluate 15 = .ok (.aload_n 0, 1) := by decide +kernel
theorem dX6_evaluate_16 : decode cX6_evaluate 16 = .ok (.getfield 9, 3) := by decide +kernel
theorem dX6_evaluate_19 : decode cX6_evaluate 19 = .ok (.iload 4, 2) := by decide +kernel
theorem dX6_evaluate_21 : decode cX6_evaluate 21 = .ok (.laload, 1) := by decide +kernel
theorem dX6_evaluate_22 : decode cX6_evaluate 22 = .ok (.ldc2_w 62, 3) := by decide +kernel
theorem dX6_evaluate_25 : decode cX6_evaluate 25 = .ok (.invokestatic 64, 3) := by decide +kernel
theorem dX6_evaluate_28 : decode cX6_evaluate 28 = .ok (.lstore 5, 2) := by decide +kernel
theorem dX6_evaluate_30 : decode cX6_evaluate 30 = .ok (.lload_n 2, 1) := by decide +kernel
theorem dX6_evaluate_31 : decode cX6_evaluate 31 = .ok (.iload_n 1, 1) := by decide +kernel
theorem dX6_evaluate_32 : decode cX6_evaluate 32 = .ok (.i2l, 1) := by decide +kernel
theorem dX6_evaluate_33 : decode cX6_evaluate 33 = .ok (.lmul, 1) := by decide +kernel
theorem dX6_evaluate_34 : decode cX6_evaluate 34 = .ok (.lload 5, 2) := by decide +kernel
theorem dX6_evaluate_36 : decode cX6_evaluate 36 = .ok (.ladd, 1) := by decide +kernel
theorem dX6_evaluate_37 : decode cX6_evaluate 37 = .ok (.ldc2_w 62, 3) := by decide +kernel
theorem dX6_evaluate_40 : decode cX6_evaluate 40 = .ok (.invokestatic 64, 3) := by decide +kernel
theorem dX6_evaluate_43 : decode cX6_evaluate 43 = .ok (.lstore_n 2, 1) := by decide +kernel
theorem dX6_evaluate_44 : decode cX6_evaluate 44 = .ok (.iinc 4 (-1), 3) := by decide +kernel
theorem dX6_evaluate_47 : decode cX6_evaluate 47 = .ok (.goto (-37), 3) := by decide +kernel
theorem dX6_evaluate_50 : decode cX6_evaluate 50 = .ok (.lload_n 2, 1) := by decide +kernel
theorem dX6_evaluate_51 : decode cX6_evaluate 51 = .ok (.l2i, 1) := by decide +kernel
theorem dX6_evaluate_52 : decode cX6_evaluate 52 = .ok (.ireturn, 1) := by decide +kernel
theorem dX6_isSequence_0 : decode cX6_isSequence 0 = .ok (.aload_n 0, 1) := by decide +kernel
theorem dX6_isSequence_1 : decode cX6_isSequence 1 = .ok (.getfield 25, 3) := by decide +kernel
theorem dX6_isSequence_4 : decode cX6_isSequence 4 = .ok (.bipush 32, 2) := by decide +kernel
theorem dX6_isSequence_6 : decode cX6_isSequence 6 = .ok (.if_icmp .le 5, 3) := by decide +kernel
theorem dX6_isSequence_9 : decode cX6_isSequence 9 = .ok (.iconst 0, 1) := by decide +kernel
theorem dX6_isSequence_10 : decode cX6_isSequence 10 = .ok (.ireturn, 1) := by decide +kernel
theorem dX6_isSequence_11 : decode cX6_isSequence 11 = .ok (.iconst 0, 1) := by decide +kernel
theorem dX6_isSequence_12 : decode cX6_isSequence 12 = .ok (.istore_n 1, 1) := by decide +kernel
theorem dX6_isSequence_13 : decode cX6_isSequence 13 = .ok (.iload_n 1, 1) := by decide +kernel
theorem dX6_isSequence_14 : decode cX6_isSequence 14 = .ok (.aload_n 0, 1) := by decide +kernel
theorem dX6_isSequence_15 : decode cX6_isSequence 15 = .ok (.getfield 25, 3) := by decide +kernel
theorem dX6_isSequence_18 : decode cX6_isSequence 18 = .ok (.if_icmp .ge 23, 3) := by decide +kernel
theorem dX6_isSequence_21 : decode cX6_isSequence 21 = .ok (.aload_n 0, 1) := by decide +kernel
theorem dX6_isSequence_22 : decode cX6_isSequence 22 = .ok (.getfield 9, 3) := by decide +kernel
theorem dX6_isSequence_25 : decode cX6_isSequence 25 = .ok (.iload_n 1, 1) := by decide +kernel
theorem dX6_isSequence_26 : decode cX6_isSequence 26 = .ok (.laload, 1) := by decide +kernel
theorem dX6_isSequence_27 : decode cX6_isSequence 27 = .ok (.invokestatic 68, 3) := by decide +kernel
theorem dX6_isSequence_30 : decode cX6_isSequence 30 = .ok (.ifCond .ne 5, 3) := by decide +kernel
theorem dX6_isSequence_33 : decode cX6_isSequence 33 = .ok (.iconst 0, 1) := by decide +kernel
theorem dX6_isSequence_34 : decode cX6_isSequence 34 = .ok (.ireturn, 1) := by decide +kernel
theorem dX6_isSequence_35 : decode cX6_isSequence 35 = .ok (.iinc 1 1, 3) := by decide +kernel
theorem dX6_isSequence_38 : decode cX6_isSequence 38 = .ok (.goto (-25), 3) := by decide +kernel
theorem dX6_isSequence_41 : decode cX6_isSequence 41 = .ok (.iconst 1, 1) := by decide +kernel
theorem dX6_isSequence_42 : decode cX6_isSequence 42 = .ok (.ireturn, 1) := by decide +kernel
theorem dX6_copyFrom_0 : decode cX6_copyFrom 0 = .ok (.aload_n 0, 1) := by decide +kernel
theorem dX6_copyFrom_1 : decode cX6_copyFrom 1 = .ok (.aload_n 1, 1) := by decide +kernel
theorem dX6_copyFrom_2 : decode cX6_copyFrom 2 = .ok (.getfield 44, 3) := by decide +kernel
theorem dX6_copyFrom_5 : decode cX6_copyFrom 5 = .ok (.putfield 44, 3) := by decide +kernel
theorem dX6_copyFrom_8 : decode cX6_copyFrom 8 = .ok (.aload_n 0, 1) := by decide +kernel
theorem dX6_copyFrom_9 : decode cX6_copyFrom 9 = .ok (.aload_n 1, 1) := by decide +kernel
theorem dX6_copyFrom_10 : decode cX6_copyFrom 10 = .ok (.getfield 25, 3) := by decide +kernel
theorem dX6_copyFrom_13 : decode cX6_copyFrom 13 = .ok (.putfield 25, 3) := by decide +kernel
theorem dX6_copyFrom_16 : decode cX6_copyFrom 16 = .ok (.aload_n 0, 1) := by decide +kernel
theorem dX6_copyFrom_17 : decode cX6_copyFrom 17 = .ok (.aload_n 1, 1) := by decide +kernel
theorem dX6_copyFrom_18 : decode cX6_copyFrom 18 = .ok (.getfield 29, 3) := by decide +kernel
theorem dX6_copyFrom_21 : decode cX6_copyFrom 21 = .ok (.putfield 29, 3) := by decide +kernel
theorem dX6_copyFrom_24 : decode cX6_copyFrom 24 = .ok (.aload_n 0, 1) := by decide +kernel
theorem dX6_copyFrom_25 : decode cX6_copyFrom 25 = .ok (.aload_n 1, 1) := by decide +kernel
theorem dX6_copyFrom_26 : decode cX6_copyFrom 26 = .ok (.getfield 41, 3) := by decide +kernel
theorem dX6_copyFrom_29 : decode cX6_copyFrom 29 = .ok (.putfield 41, 3) := by decide +kernel
theorem dX6_copyFrom_32 : decode cX6_copyFrom 32 = .ok (.aload_n 0, 1) := by decide +kernel
theorem dX6_copyFrom_33 : decode cX6_copyFrom 33 = .ok (.aload_n 1, 1) := by decide +kernel
theorem dX6_copyFrom_34 : decode cX6_copyFrom 34 = .ok (.getfield 32, 3) := by decide +kernel
theorem dX6_copyFrom_37 : decode cX6_copyFrom 37 = .ok (.putfield 32, 3) := by decide +kernel
theorem dX6_copyFrom_40 : decode cX6_copyFrom 40 = .ok (.aload_n 0, 1) := by decide +kernel
theorem dX6_copyFrom_41 : decode cX6_copyFrom 41 = .ok (.aload_n 1, 1) := by decide +kernel
theorem dX6_copyFrom_42 : decode cX6_copyFrom 42 = .ok (.getfield 21, 3) := by decide +kernel
theorem dX6_copyFrom_45 : decode cX6_copyFrom 45 = .ok (.putfield 21, 3) := by decide +kernel
theorem dX6_copyFrom_48 : decode cX6_copyFrom 48 = .ok (.aload_n 1, 1) := by decide +kernel
theorem dX6_copyFrom_49 : decode cX6_copyFrom 49 = .ok (.getfield 9, 3) := by decide +kernel
theorem dX6_copyFrom_52 : decode cX6_copyFrom 52 = .ok (.iconst 0, 1) := by decide +kernel
theorem dX6_copyFrom_53 : decode cX6_copyFrom 53 = .ok (.aload_n 0, 1) := by decide +kernel
theorem dX6_copyFrom_54 : decode cX6_copyFrom 54 = .ok (.getfield 9, 3) := by decide +kernel
theorem dX6_copyFrom_57 : decode cX6_copyFrom 57 = .ok (.iconst 0, 1) := by decide +kernel
theorem dX6_copyFrom_58 : decode cX6_copyFrom 58 = .ok (.bipush 64, 2) := by decide +kernel
theorem dX6_copyFrom_60 : decode cX6_copyFrom 60 = .ok (.invokestatic 72, 3) := by decide +kernel
theorem dX6_copyFrom_63 : decode cX6_copyFrom 63 = .ok (.aload_n 1, 1) := by decide +kernel
theorem dX6_copyFrom_64 : decode cX6_copyFrom 64 = .ok (.getfield 17, 3) := by decide +kernel
theorem dX6_copyFrom_67 : decode cX6_copyFrom 67 = .ok (.aload_n 0, 1) := by decide +kernel
theorem dX6_copyFrom_68 : decode cX6_copyFrom 68 = .ok (.getfield 17, 3) := by decide +kernel
theorem dX6_copyFrom_71 : decode cX6_copyFrom 71 = .ok (.invokestatic 78, 3) := by decide +kernel
theorem dX6_copyFrom_74 : decode cX6_copyFrom 74 = .ok (.return_, 1) := by decide +kernel
theorem dX7_init_0 : decode cX7_init 0 = .ok (.aload_n 0, 1) := by decide +kernel
theorem dX7_init_1 : decode cX7_init 1 = .ok (.invokespecial 3, 3) := by decide +kernel
theorem dX7_init_4 : decode cX7_init 4 = .ok (.aload_n 0, 1) := by decide +kernel
theorem dX7_init_5 : decode cX7_init 5 = .ok (.bipush 32, 2) := by decide +kernel
theorem dX7_init_7 : decode cX7_init 7 = .ok (.newarray .int, 2) := by decide +kernel
theorem dX7_init_9 : decode cX7_init 9 = .ok (.putfield 9, 3) := by decide +kernel
theorem dX7_init_12 : decode cX7_init 12 = .ok (.return_, 1) := by decide +kernel
theorem dX7_isFull_0 : decode cX7_isFull 0 = .ok (.aload_n 0, 1) := by decide +kernel
theorem dX7_isFull_1 : decode cX7_isFull 1 = .ok (.getfield 15, 3) := by decide +kernel
theorem dX7_isFull_4 : decode cX7_isFull 4 = .ok (.bipush 32, 2) := by decide +kernel
theorem dX7_isFull_6 : decode cX7_isFull 6 = .ok (.if_icmp .lt 7, 3) := by decide +kernel
theorem dX7_isFull_9 : decode cX7_isFull 9 = .ok (.iconst 1, 1) := by decide +kernel
theorem dX7_isFull_10 : decode cX7_isFull 10 = .ok (.goto 4, 3) := by decide +kernel
theorem dX7_isFull_13 : decode cX7_isFull 13 = .ok (.iconst 0, 1) := by decide +kernel
theorem dX7_isFull_14 : decode cX7_isFull 14 = .ok (.ireturn, 1) := by decide +kernel
theorem dX7_add_0 : decode cX7_add 0 = .ok (.aload_n 0, 1) := by decide +kernel
theorem dX7_add_1 : decode cX7_add 1 = .ok (.invokevirtual 19, 3) := by decide +kernel
theorem dX7_add_4 : decode cX7_add 4 = .ok (.ifCond .ne 20, 3) := by decide +kernel
theorem dX7_add_7 : decode cX7_add 7 = .ok (.aload_n 0, 1) := by decide +kernel
theorem dX7_add_8 : decode cX7_add 8 = .ok (.getfield 9, 3) := by decide +kernel
theorem dX7_add_11 : decode cX7_add 11 = .ok (.aload_n 0, 1) := by decide +kernel
theorem dX7_add_12 : decode cX7_add 12 = .ok (.dup, 1) := by decide +kernel
theorem dX7_add_13 : decode cX7_add 13 = .ok (.getfield 15, 3) := by decide +kernel
theorem dX7_add_16 : decode cX7_add 16 = .ok (.dup_x1, 1) := by decide +kernel
theorem dX7_add_17 : decode cX7_add 17 = .ok (.iconst 1, 1) := by decide +kernel
theorem dX7_add_18 : decode cX7_add 18 = .ok (.iadd, 1) := by decide +kernel
theorem dX7_add_19 : decode cX7_add 19 = .ok (.putfield 15, 3) := by decide +kernel
theorem dX7_add_22 : decode cX7_add 22 = .ok (.iload_n 1, 1) := by decide +kernel
theorem dX7_add_23 : decode cX7_add 23 = .ok (.iastore, 1) := by decide +kernel
theorem dX7_add_24 : decode cX7_add 24 = .ok (.return_, 1) := by decide +kernel
theorem dX7_fillEvenly_0 : decode cX7_fillEvenly 0 = .ok (.aload_n 0, 1) := by decide +kernel
theorem dX7_fillEvenly_1 : decode cX7_fillEvenly 1 = .ok (.iconst 0, 1) := by decide +kernel
theorem dX7_fillEvenly_2 : decode cX7_fillEvenly 2 = .ok (.putfield 15, 3) := by decide +kernel
theorem dX7_fillEvenly_5 : decode cX7_fillEvenly 5 = .ok (.iconst 0, 1) := by decide +kernel
theorem dX7_fillEvenly_6 : decode cX7_fillEvenly 6 = .ok (.istore 4, 2) := by decide +kernel
theorem dX7_fillEvenly_8 : decode cX7_fillEvenly 8 = .ok (.iload 4, 2) := by decide +kernel
theorem dX7_fillEvenly_10 : decode cX7_fillEvenly 10 = .ok (.iload_n 1, 1) := by decide +kernel
theorem dX7_fillEvenly_11 : decode cX7_fillEvenly 11 = .ok (.if_icmp .ge 19, 3) := by decide +kernel
theorem dX7_fillEvenly_14 : decode cX7_fillEvenly 14 = .ok (.aload_n 0, 1) := by decide +kernel
theorem dX7_fillEvenly_15 : decode cX7_fillEvenly 15 = .ok (.iload_n 2, 1) := by decide +kernel
theorem dX7_fillEvenly_16 : decode cX7_fillEvenly 16 = .ok (.iload 4, 2) := by decide +kernel
theorem dX7_fillEvenly_18 : decode cX7_fillEvenly 18 = .ok (.iload_n 3, 1) := by decide +kernel
theorem dX7_fillEvenly_19 : decode cX7_fillEvenly 19 = .ok (.imul, 1) := by decide +kernel
theorem dX7_fillEvenly_20 : decode cX7_fillEvenly 20 = .ok (.iadd, 1) := by decide +kernel
theorem dX7_fillEvenly_21 : decode cX7_fillEvenly 21 = .ok (.invokevirtual 23, 3) := by decide +kernel
theorem dX7_fillEvenly_24 : decode cX7_fillEvenly 24 = .ok (.iinc 4 1, 3) := by decide +kernel
theorem dX7_fillEvenly_27 : decode cX7_fillEvenly 27 = .ok (.goto (-19), 3) := by decide +kernel
theorem dX7_fillEvenly_30 : decode cX7_fillEvenly 30 = .ok (.return_, 1) := by decide +kernel
theorem dX7_greatestSize_0 : decode cX7_greatestSize 0 = .ok (.iconst 0, 1) := by decide +kernel
theorem dX7_greatestSize_1 : decode cX7_greatestSize 1 = .ok (.istore_n 1, 1) := by decide +kernel
theorem dX7_greatestSize_2 : decode cX7_greatestSize 2 = .ok (.iconst 0, 1) := by decide +kernel
theorem dX7_greatestSize_3 : decode cX7_greatestSize 3 = .ok (.istore_n 2, 1) := by decide +kernel
theorem dX7_greatestSize_4 : decode cX7_greatestSize 4 = .ok (.iload_n 2, 1) := by decide +kernel
theorem dX7_greatestSize_5 : decode cX7_greatestSize 5 = .ok (.aload_n 0, 1) := by decide +kernel
theorem dX7_greatestSize_6 : decode cX7_greatestSize 6 = .ok (.getfield 15, 3) := by decide +kernel
theorem dX7_greatestSize_9 : decode cX7_greatestSize 9 = .ok (.if_icmp .ge 23, 3) := by decide +kernel
theorem dX7_greatestSize_12 : decode cX7_greatestSize 12 = .ok (.iload_n 1, 1) := by decide +kernel
theorem dX7_greatestSize_13 : decode cX7_greatestSize 13 = .ok (.aload_n 0, 1) := by decide +kernel
theorem dX7_greatestSize_14 : decode cX7_greatestSize 14 = .ok (.getfield 9, 3) := by decide +kernel
theorem dX7_greatestSize_17 : decode cX7_greatestSize 17 = .ok (.iload_n 2, 1) := by decide +kernel
theorem dX7_greatestSize_18 : decode cX7_greatestSize 18 = .ok (.iaload, 1) := by decide +kernel
theorem dX7_greatestSize_19 : decode cX7_greatestSize 19 = .ok (.invokestatic 27, 3) := by decide +kernel
theorem dX7_greatestSize_22 : decode cX7_greatestSize 22 = .ok (.invokestatic 33, 3) := by decide +kernel
theorem dX7_greatestSize_25 : decode cX7_greatestSize 25 = .ok (.istore_n 1, 1) := by decide +kernel
theorem dX7_greatestSize_26 : decode cX7_greatestSize 26 = .ok (.iinc 2 1, 3) := by decide +kernel
theorem dX7_greatestSize_29 : decode cX7_greatestSize 29 = .ok (.goto (-25), 3) := by decide +kernel
theorem dX7_greatestSize_32 : decode cX7_greatestSize 32 = .ok (.iload_n 1, 1) := by decide +kernel
theorem dX7_greatestSize_33 : decode cX7_greatestSize 33 = .ok (.ireturn, 1) := by decide +kernel
theorem dX7_copyFrom_0 : decode cX7_copyFrom 0 = .ok (.aload_n 0, 1) := by decide +kernel
theorem dX7_copyFrom_1 : decode cX7_copyFrom 1 = .ok (.aload_n 1, 1) := by decide +kernel
theorem dX7_copyFrom_2 : decode cX7_copyFrom 2 = .ok (.getfield 15, 3) := by decide +kernel
theorem dX7_copyFrom_5 : decode cX7_copyFrom 5 = .ok (.putfield 15, 3) := by decide +kernel
theorem dX7_copyFrom_8 : decode cX7_copyFrom 8 = .ok (.aload_n 1, 1) := by decide +kernel
theorem dX7_copyFrom_9 : decode cX7_copyFrom 9 = .ok (.getfield 9, 3) := by decide +kernel
theorem dX7_copyFrom_12 : decode cX7_copyFrom 12 = .ok (.iconst 0, 1) := by decide +kernel
theorem dX7_copyFrom_13 : decode cX7_copyFrom 13 = .ok (.aload_n 0, 1) := by decide +kernel
theorem dX7_copyFrom_14 : decode cX7_copyFrom 14 = .ok (.getfield 9, 3) := by decide +kernel
theorem dX7_copyFrom_17 : decode cX7_copyFrom 17 = .ok (.iconst 0, 1) := by decide +kernel
theorem dX7_copyFrom_18 : decode cX7_copyFrom 18 = .ok (.bipush 32, 2) := by decide +kernel
theorem dX7_copyFrom_20 : decode cX7_copyFrom 20 = .ok (.invokestatic 37, 3) := by decide +kernel
theorem dX7_copyFrom_23 : decode cX7_copyFrom 23 = .ok (.return_, 1) := by decide +kernel
theorem dX8_init_0 : decode cX8_init 0 = .ok (.aload_n 0, 1) := by decide +kernel
theorem dX8_init_1 : decode cX8_init 1 = .ok (.invokespecial 3, 3) := by decide +kernel
theorem dX8_init_4 : decode cX8_init 4 = .ok (.aload_n 0, 1) := by decide +kernel
theorem dX8_init_5 : decode cX8_init 5 = .ok (.sipush 600, 3) := by decide +kernel
theorem dX8_init_8 : decode cX8_init 8 = .ok (.newarray .byte, 2) := by decide +kernel
theorem dX8_init_10 : decode cX8_init 10 = .ok (.putfield 9, 3) := by decide +kernel
theorem dX8_init_13 : decode cX8_init 13 = .ok (.aload_n 0, 1) := by decide +kernel
theorem dX8_init_14 : decode cX8_init 14 = .ok (.new 15, 3) := by decide +kernel
theorem dX8_init_17 : decode cX8_init 17 = .ok (.dup, 1) := by decide +kernel
theorem dX8_init_18 : decode cX8_init 18 = .ok (.invokespecial 17, 3) := by decide +kernel
theorem dX8_init_21 : decode cX8_init 21 = .ok (.putfield 18, 3) := by decide +kernel
theorem dX8_init_24 : decode cX8_init 24 = .ok (.aload_n 0, 1) := by decide +kernel
theorem dX8_init_25 : decode cX8_init 25 = .ok (.iconst (-1), 1) := by decide +kernel
theorem dX8_init_26 : decode cX8_init 26 = .ok (.putfield 22, 3) := by decide +kernel
theorem dX8_init_29 : decode cX8_init 29 = .ok (.return_, 1) := by decide +kernel
theorem dX8_hasSpace_0 : decode cX8_hasSpace 0 = .ok (.aload_n 0, 1) := by decide +kernel
theorem dX8_hasSpace_1 : decode cX8_hasSpace 1 = .ok (.getfield 26, 3) := by decide +kernel
theorem dX8_hasSpace_4 : decode cX8_hasSpace 4 = .ok (.bipush 20, 2) := by decide +kernel
theorem dX8_hasSpace_6 : decode cX8_hasSpace 6 = .ok (.iadd, 1) := by decide +kernel
theorem dX8_hasSpace_7 : decode cX8_hasSpace 7 = .ok (.sipush 600, 3) := by decide +kernel
theorem dX8_hasSpace_10 : decode cX8_hasSpace 10 = .ok (.if_icmp .gt 7, 3) := by decide +kernel
theorem dX8_hasSpace_13 : decode cX8_hasSpace 13 = .ok (.iconst 1, 1) := by decide +kernel
theorem dX8_hasSpace_14 : decode cX8_hasSpace 14 = .ok (.goto 4, 3) := by decide +kernel
theorem dX8_hasSpace_17 : decode cX8_hasSpace 17 = .ok (.iconst 0, 1) := by decide +kernel
theorem dX8_hasSpace_18 : decode cX8_hasSpace 18 = .ok (.ireturn, 1) := by decide +kernel
theorem dX8_takeBytes_0 : decode cX8_takeBytes 0 = .ok (.bipush 24, 2) := by decide +kernel
theorem dX8_takeBytes_2 : decode cX8_takeBytes 2 = .ok (.istore_n 2, 1) := by decide +kernel
theorem dX8_takeBytes_3 : decode cX8_takeBytes 3 = .ok (.iload_n 2, 1) := by decide +kernel
theorem dX8_takeBytes_4 : decode cX8_takeBytes 4 = .ok (.ifCond .lt 39, 3) := by decide +kernel
theorem dX8_takeBytes_7 : decode cX8_takeBytes 7 = .ok (.aload_n 0, 1) := by decide +kernel
theorem dX8_takeBytes_8 : decode cX8_takeBytes 8 = .ok (.getfield 26, 3) := by decide +kernel
theorem dX8_takeBytes_11 : decode cX8_takeBytes 11 = .ok (.sipush 600, 3) := by decide +kernel
theorem dX8_takeBytes_14 : decode cX8_takeBytes 14 = .ok (.if_icmp .ge 29, 3) := by decide +kernel
theorem dX8_takeBytes_17 : decode cX8_takeBytes 17 = .ok (.aload_n 0, 1) := by decide +kernel
theorem dX8_takeBytes_18 : decode cX8_takeBytes 18 = .ok (.getfield 9, 3) := by decide +kernel
theorem dX8_takeBytes_21 : decode cX8_takeBytes 21 = .ok (.aload_n 0, 1) := by decide +kernel
theorem dX8_takeBytes_22 : decode cX8_takeBytes 22 = .ok (.dup, 1) := by decide +kernel
theorem dX8_takeBytes_23 : decode cX8_takeBytes 23 = .ok (.getfield 26, 3) := by decide +kernel
theorem dX8_takeBytes_26 : decode cX8_takeBytes 26 = .ok (.dup_x1, 1) := by decide +kernel
theorem dX8_takeBytes_27 : decode cX8_takeBytes 27 = .ok (.iconst 1, 1) := by decide +kernel
theorem dX8_takeBytes_28 : decode cX8_takeBytes 28 = .ok (.iadd, 1) := by decide +kernel
theorem dX8_takeBytes_29 : decode cX8_takeBytes 29 = .ok (.putfield 26, 3) := by decide +kernel
theorem dX8_takeBytes_32 : decode cX8_takeBytes 32 = .ok (.iload_n 1, 1) := by decide +kernel
theorem dX8_takeBytes_33 : decode cX8_takeBytes 33 = .ok (.iload_n 2, 1) := by decide +kernel
theorem dX8_takeBytes_34 : decode cX8_takeBytes 34 = .ok (.ishr, 1) := by decide +kernel
theorem dX8_takeBytes_35 : decode cX8_takeBytes 35 = .ok (.i2b, 1) := by decide +kernel
theorem dX8_takeBytes_36 : decode cX8_takeBytes 36 = .ok (.bastore, 1) := by decide +kernel
theorem dX8_takeBytes_37 : decode cX8_takeBytes 37 = .ok (.iinc 2 (-8), 3) := by decide +kernel
theorem dX8_takeBytes_40 : decode cX8_takeBytes 40 = .ok (.goto (-37), 3) := by decide +kernel
theorem dX8_takeBytes_43 : decode cX8_takeBytes 43 = .ok (.return_, 1) := by decide +kernel
theorem dX8_read_0 : decode cX8_read 0 = .ok (.aload_n 0, 1) := by decide +kernel
theorem dX8_read_1 : decode cX8_read 1 = .ok (.iload_n 1, 1) := by decide +kernel
theorem dX8_read_2 : decode cX8_read 2 = .ok (.aload_n 0, 1) := by decide +kernel
theorem dX8_read_3 : decode cX8_read 3 = .ok (.getfield 26, 3) := by decide +kernel
theorem dX8_read_6 : decode cX8_read 6 = .ok (.invokestatic 29, 3) := by decide +kernel
theorem dX8_read_9 : decode cX8_read 9 = .ok (.putfield 35, 3) := by decide +kernel
theorem dX8_read_12 : decode cX8_read 12 = .ok (.aload_n 0, 1) := by decide +kernel
theorem dX8_read_13 : decode cX8_read 13 = .ok (.iconst 0, 1) := by decide +kernel
theorem dX8_read_14 : decode cX8_read 14 = .ok (.putfield 26, 3) := by decide +kernel
theorem dX8_read_17 : decode cX8_read 17 = .ok (.aload_n 0, 1) := by decide +kernel
theorem dX8_read_18 : decode cX8_read 18 = .ok (.iconst 0, 1) := by decide +kernel
theorem dX8_read_19 : decode cX8_read 19 = .ok (.putfield 38, 3) := by decide +kernel
theorem dX8_read_22 : decode cX8_read 22 = .ok (.aload_n 0, 1) := by decide +kernel
theorem dX8_read_23 : decode cX8_read 23 = .ok (.iconst 0, 1) := by decide +kernel
theorem dX8_read_24 : decode cX8_read 24 = .ok (.putfield 41, 3) := by decide +kernel
theorem dX8_read_27 : decode cX8_read 27 = .ok (.aload_n 0, 1) := by decide +kernel
theorem dX8_read_28 : decode cX8_read 28 = .ok (.iconst (-1), 1) := by decide +kernel
theorem dX8_read_29 : decode cX8_read 29 = .ok (.putfield 22, 3) := by decide +kernel
theorem dX8_read_32 : decode cX8_read 32 = .ok (.aload_n 0, 1) := by decide +kernel
theorem dX8_read_33 : decode cX8_read 33 = .ok (.getfield 18, 3) := by decide +kernel
theorem dX8_read_36 : decode cX8_read 36 = .ok (.invokevirtual 44, 3) := by decide +kernel
theorem dX8_read_39 : decode cX8_read 39 = .ok (.aload_n 0, 1) := by decide +kernel
theorem dX8_read_40 : decode cX8_read 40 = .ok (.invokevirtual 47, 3) := by decide +kernel
theorem dX8_read_43 : decode cX8_read 43 = .ok (.iconst 0, 1) := by decide +kernel
theorem dX8_read_44 : decode cX8_read 44 = .ok (.istore_n 2, 1) := by decide +kernel
theorem dX8_read_45 : decode cX8_read 45 = .ok (.iload_n 2, 1) := by decide +kernel
theorem dX8_read_46 : decode cX8_read 46 = .ok (.sipush 600, 3) := by decide +kernel
theorem dX8_read_49 : decode cX8_read 49 = .ok (.if_icmp .ge 76, 3) := by decide +kernel
theorem dX8_read_52 : decode cX8_read 52 = .ok (.aload_n 0, 1) := by decide +kernel
theorem dX8_read_53 : decode cX8_read 53 = .ok (.getfield 41, 3) := by decide +kernel
theorem dX8_read_56 : decode cX8_read 56 = .ok (.ifCond .ne 69, 3) := by decide +kernel
theorem dX8_read_59 : decode cX8_read 59 = .ok (.aload_n 0, 1) := by decide +kernel
theorem dX8_read_60 : decode cX8_read 60 = .ok (.getfield 38, 3) := by decide +kernel
theorem dX8_read_63 : decode cX8_read 63 = .ok (.aload_n 0, 1) := by decide +kernel
theorem dX8_read_64 : decode cX8_read 64 = .ok (.getfield 35, 3) := by decide +kernel
theorem dX8_read_67 : decode cX8_read 67 = .ok (.if_icmp .ge 58, 3) := by decide +kernel
theorem dX8_read_70 : decode cX8_read 70 = .ok (.aload_n 0, 1) := by decide +kernel
theorem dX8_read_71 : decode cX8_read 71 = .ok (.getfield 38, 3) := by decide +kernel
theorem dX8_read_74 : decode cX8_read 74 = .ok (.istore_n 3, 1) := by decide +kernel
theorem dX8_read_75 : decode cX8_read 75 = .ok (.aload_n 0, 1) := by decide +kernel
theorem dX8_read_76 : decode cX8_read 76 = .ok (.ldc 50, 2) := by decide +kernel
theorem dX8_read_78 : decode cX8_read 78 = .ok (.invokevirtual 52, 3) := by decide +kernel
theorem dX8_read_81 : decode cX8_read 81 = .ok (.ifCond .eq 11, 3) := by decide +kernel
theorem dX8_read_84 : decode cX8_read 84 = .ok (.aload_n 0, 1) := by decide +kernel
theorem dX8_read_85 : decode cX8_read 85 = .ok (.iload_n 3, 1) := by decide +kernel
theorem dX8_read_86 : decode cX8_read 86 = .ok (.invokevirtual 56, 3) := by decide +kernel
theorem dX8_read_89 : decode cX8_read 89 = .ok (.goto 26, 3) := by decide +kernel
theorem dX8_read_92 : decode cX8_read 92 = .ok (.aload_n 0, 1) := by decide +kernel
theorem dX8_read_93 : decode cX8_read 93 = .ok (.ldc 60, 2) := by decide +kernel
theorem dX8_read_95 : decode cX8_read 95 = .ok (.invokevirtual 52, 3) := by decide +kernel
theorem dX8_read_98 : decode cX8_read 98 = .ok (.ifCond .eq 10, 3) := by decide +kernel
theorem dX8_read_101 : decode cX8_read 101 = .ok (.aload_n 0, 1) := by decide +kernel
theorem dX8_read_102 : decode cX8_read 102 = .ok (.invokevirtual 62, 3) := by decide +kernel
theorem dX8_read_105 : decode cX8_read 105 = .ok (.goto 10, 3) := by decide +kernel
theorem dX8_read_108 : decode cX8_read 108 = .ok (.aload_n 0, 1) := by decide +kernel
theorem dX8_read_109 : decode cX8_read 109 = .ok (.bipush (-2), 2) := by decide +kernel
theorem dX8_read_111 : decode cX8_read 111 = .ok (.iload_n 3, 1) := by decide +kernel
theorem dX8_read_112 : decode cX8_read 112 = .ok (.invokevirtual 65, 3) := by decide +kernel
theorem dX8_read_115 : decode cX8_read 115 = .ok (.aload_n 0, 1) := by decide +kernel
theorem dX8_read_116 : decode cX8_read 116 = .ok (.invokevirtual 69, 3) := by decide +kernel
theorem dX8_read_119 : decode cX8_read 119 = .ok (.iinc 2 1, 3) := by decide +kernel
theorem dX8_read_122 : decode cX8_read 122 = .ok (.goto (-77), 3) := by decide +kernel
theorem dX8_read_125 : decode cX8_read 125 = .ok (.aload_n 0, 1) := by decide +kernel
theorem dX8_read_126 : decode cX8_read 126 = .ok (.getfield 41, 3) := by decide +kernel
theorem dX8_read_129 : decode cX8_read 129 = .ok (.ireturn, 1) := by decide +kernel
theorem dX8_readPrime_0 : decode cX8_readPrime 0 = .ok (.aload_n 0, 1) := by decide +kernel
theorem dX8_readPrime_1 : decode cX8_readPrime 1 = .ok (.getfield 18, 3) := by decide +kernel
theorem dX8_readPrime_4 : decode cX8_readPrime 4 = .ok (.getfield 72, 3) := by decide +kernel
theorem dX8_readPrime_7 : decode cX8_readPrime 7 = .ok (.bipush 6, 2) := by decide +kernel
theorem dX8_readPrime_9 : decode cX8_readPrime 9 = .ok (.if_icmp .lt 11, 3) := by decide +kernel
theorem dX8_readPrime_12 : decode cX8_readPrime 12 = .ok (.aload_n 0, 1) := by decide +kernel
theorem dX8_readPrime_13 : decode cX8_readPrime 13 = .ok (.bipush (-4), 2) := by decide +kernel
theorem dX8_readPrime_15 : decode cX8_readPrime 15 = .ok (.iload_n 1, 1) := by decide +kernel
theorem dX8_readPrime_16 : decode cX8_readPrime 16 = .ok (.invokevirtual 65, 3) := by decide +kernel
theorem dX8_readPrime_19 : decode cX8_readPrime 19 = .ok (.return_, 1) := by decide +kernel
theorem dX8_readPrime_20 : decode cX8_readPrime 20 = .ok (.aload_n 0, 1) := by decide +kernel
theorem dX8_readPrime_21 : decode cX8_readPrime 21 = .ok (.invokevirtual 47, 3) := by decide +kernel
theorem dX8_readPrime_24 : decode cX8_readPrime 24 = .ok (.aload_n 0, 1) := by decide +kernel
theorem dX8_readPrime_25 : decode cX8_readPrime 25 = .ok (.getfield 38, 3) := by decide +kernel
theorem dX8_readPrime_28 : decode cX8_readPrime 28 = .ok (.istore_n 2, 1) := by decide +kernel
theorem dX8_readPrime_29 : decode cX8_readPrime 29 = .ok (.aload_n 0, 1) := by decide +kernel
theorem dX8_readPrime_30 : decode cX8_readPrime 30 = .ok (.invokevirtual 75, 3) := by decide +kernel
theorem dX8_readPrime_33 : decode cX8_readPrime 33 = .ok (.istore_n 3, 1) := by decide +kernel
theorem dX8_readPrime_34 : decode cX8_readPrime 34 = .ok (.iload_n 3, 1) := by decide +kernel
theorem dX8_readPrime_35 : decode cX8_readPrime 35 = .ok (.iconst (-1), 1) := by decide +kernel
theorem dX8_readPrime_36 : decode cX8_readPrime 36 = .ok (.if_icmp .ne 13, 3) := by decide +kernel
theorem dX8_readPrime_39 : decode cX8_readPrime 39 = .ok (.aload_n 0, 1) := by decide +kernel
theorem dX8_readPrime_40 : decode cX8_readPrime 40 = .ok (.bipush (-2), 2) := by decide +kernel
theorem dX8_readPrime_42 : decode cX8_readPrime 42 = .ok (.iload_n 2, 1) := by decide +kernel
theorem dX8_readPrime_43 : decode cX8_readPrime 43 = .ok (.invokevirtual 65, 3) := by decide +kernel
theorem dX8_readPrime_46 : decode cX8_readPrime 46 = .ok (.goto 32, 3) := by decide +kernel
theorem dX8_readPrime_49 : decode cX8_readPrime 49 = .ok (.aload_n 0, 1) := by decide +kernel
theorem dX8_readPrime_50 : decode cX8_readPrime 50 = .ok (.getfield 18, 3) := by decide +kernel
theorem dX8_readPrime_53 : decode cX8_readPrime 53 = .ok (.iload_n 3, 1) := by decide +kernel
theorem dX8_readPrime_54 : decode cX8_readPrime 54 = .ok (.invokevirtual 79, 3) := by decide +kernel
theorem dX8_readPrime_57 : decode cX8_readPrime 57 = .ok (.ifCond .ne 13, 3) := by decide +kernel
theorem dX8_readPrime_60 : decode cX8_readPrime 60 = .ok (.aload_n 0, 1) := by decide +kernel
theorem dX8_readPrime_61 : decode cX8_readPrime 61 = .ok (.bipush (-3), 2) := by decide +kernel
theorem dX8_readPrime_63 : decode cX8_readPrime 63 = .ok (.iload_n 2, 1) := by decide +kernel
theorem dX8_readPrime_64 : decode cX8_readPrime 64 = .ok (.invokevirtual 65, 3) := by decide +kernel
theorem dX8_readPrime_67 : decode cX8_readPrime 67 = .ok (.goto 11, 3) := by decide +kernel
theorem dX8_readPrime_70 : decode cX8_readPrime 70 = .ok (.aload_n 0, 1) := by decide +kernel
theorem dX8_readPrime_71 : decode cX8_readPrime 71 = .ok (.getfield 18, 3) := by decide +kernel
theorem dX8_readPrime_74 : decode cX8_readPrime 74 = .ok (.iload_n 3, 1) := by decide +kernel
theorem dX8_readPrime_75 : decode cX8_readPrime 75 = .ok (.invokevirtual 83, 3) := by decide +kernel
theorem dX8_readPrime_78 : decode cX8_readPrime 78 = .ok (.return_, 1) := by decide +kernel
theorem dX8_readSequence_0 : decode cX8_readSequence 0 = .ok (.aload_n 0, 1) := by decide +kernel
theorem dX8_readSequence_1 : decode cX8_readSequence 1 = .ok (.invokevirtual 47, 3) := by decide +kernel
theorem dX8_readSequence_4 : decode cX8_readSequence 4 = .ok (.aload_n 0, 1) := by decide +kernel
theorem dX8_readSequence_5 : decode cX8_readSequence 5 = .ok (.getfield 38, 3) := by decide +kernel
theorem dX8_readSequence_8 : decode cX8_readSequence 8 = .ok (.istore_n 1, 1) := by decide +kernel
theorem dX8_readSequence_9 : decode cX8_readSequence 9 = .ok (.aload_n 0, 1) := by decide +kernel
theorem dX8_readSequence_10 : decode cX8_readSequence 10 = .ok (.invokevirtual 75, 3) := by decide +kernel
theorem dX8_readSequence_13 : decode cX8_readSequence 13 = .ok (.istore_n 2, 1) := by decide +kernel
theorem dX8_readSequence_14 : decode cX8_readSequence 14 = .ok (.iload_n 2, 1) := by decide +kernel
theorem dX8_readSequence_15 : decode cX8_readSequence 15 = .ok (.iconst (-1), 1) := by decide +kernel
theorem dX8_readSequence_16 : decode cX8_readSequence 16 = .ok (.if_icmp .ne 13, 3) := by decide +kernel
theorem dX8_readSequence_19 : decode cX8_readSequence 19 = .ok (.aload_n 0, 1) := by decide +kernel
theorem dX8_readSequence_20 : decode cX8_readSequence 20 = .ok (.bipush (-2), 2) := by decide +kernel
theorem dX8_readSequence_22 : decode cX8_readSequence 22 = .ok (.iload_n 1, 1) := by decide +kernel
theorem dX8_readSequence_23 : decode cX8_readSequence 23 = .ok (.invokevirtual 65, 3) := by decide +kernel
theorem dX8_readSequence_26 : decode cX8_readSequence 26 = .ok (.goto 35, 3) := by decide +kernel
theorem dX8_readSequence_29 : decode cX8_readSequence 29 = .ok (.iload_n 2, 1) := by decide +kernel
theorem dX8_readSequence_30 : decode cX8_readSequence 30 = .ok (.ifCond .lt 8, 3) := by decide +kernel
theorem dX8_readSequence_33 : decode cX8_readSequence 33 = .ok (.iload_n 2, 1) := by decide +kernel
theorem dX8_readSequence_34 : decode cX8_readSequence 34 = .ok (.iconst 4, 1) := by decide +kernel
theorem dX8_readSequence_35 : decode cX8_readSequence 35 = .ok (.if_icmp .lt 13, 3) := by decide +kernel
theorem dX8_readSequence_38 : decode cX8_readSequence 38 = .ok (.aload_n 0, 1) := by decide +kernel
theorem dX8_readSequence_39 : decode cX8_readSequence 39 = .ok (.bipush (-3), 2) := by decide +kernel
theorem dX8_readSequence_41 : decode cX8_readSequence 41 = .ok (.iload_n 1, 1) := by decide +kernel
theorem dX8_readSequence_42 : decode cX8_readSequence 42 = .ok (.invokevirtual 65, 3) := by decide +kernel
theorem dX8_readSequence_45 : decode cX8_readSequence 45 = .ok (.goto 16, 3) := by decide +kernel
theorem dX8_readSequence_48 : decode cX8_readSequence 48 = .ok (.aload_n 0, 1) := by decide +kernel
theorem dX8_readSequence_49 : decode cX8_readSequence 49 = .ok (.aload_n 0, 1) := by decide +kernel
theorem dX8_readSequence_50 : decode cX8_readSequence 50 = .ok (.getfield 18, 3) := by decide +kernel
theorem dX8_readSequence_53 : decode cX8_readSequence 53 = .ok (.getfield 86, 3) := by decide +kernel
theorem dX8_readSequence_56 : decode cX8_readSequence 56 = .ok (.iload_n 2, 1) := by decide +kernel
theorem dX8_readSequence_57 : decode cX8_readSequence 57 = .ok (.aaload, 1) := by decide +kernel
theorem dX8_readSequence_58 : decode cX8_readSequence 58 = .ok (.invokevirtual 90, 3) := by decide +kernel
theorem dX8_readSequence_61 : decode cX8_readSequence 61 = .ok (.return_, 1) := by decide +kernel
theorem dX8_readTerms_0 : decode cX8_readTerms 0 = .ok (.aload_n 1, 1) := by decide +kernel
theorem dX8_readTerms_1 : decode cX8_readTerms 1 = .ok (.iconst 0, 1) := by decide +kernel
theorem dX8_readTerms_2 : decode cX8_readTerms 2 = .ok (.putfield 94, 3) := by decide +kernel
theorem dX8_readTerms_5 : decode cX8_readTerms 5 = .ok (.aload_n 0, 1) := by decide +kernel
theorem dX8_readTerms_6 : decode cX8_readTerms 6 = .ok (.invokevirtual 47, 3) := by decide +kernel
theorem dX8_readTerms_9 : decode cX8_readTerms 9 = .ok (.iconst 0, 1) := by decide +kernel
theorem dX8_readTerms_10 : decode cX8_readTerms 10 = .ok (.istore_n 2, 1) := by decide +kernel
theorem dX8_readTerms_11 : decode cX8_readTerms 11 = .ok (.iload_n 2, 1) := by decide +kernel
theorem dX8_readTerms_12 : decode cX8_readTerms 12 = .ok (.bipush 32, 2) := by decide +kernel
theorem dX8_readTerms_14 : decode cX8_readTerms 14 = .ok (.if_icmp .gt 52, 3) := by decide +kernel
theorem dX8_readTerms_17 : decode cX8_readTerms 17 = .ok (.aload_n 0, 1) := by decide +kernel
theorem dX8_readTerms_18 : decode cX8_readTerms 18 = .ok (.getfield 41, 3) := by decide +kernel
theorem dX8_readTerms_21 : decode cX8_readTerms 21 = .ok (.ifCond .ne 45, 3) := by decide +kernel
theorem dX8_readTerms_24 : decode cX8_readTerms 24 = .ok (.aload_n 0, 1) := by decide +kernel
theorem dX8_readTerms_25 : decode cX8_readTerms 25 = .ok (.aload_n 0, 1) := by decide +kernel
theorem dX8_readTerms_26 : decode cX8_readTerms 26 = .ok (.getfield 38, 3) := by decide +kernel
theorem dX8_readTerms_29 : decode cX8_readTerms 29 = .ok (.invokevirtual 99, 3) := by decide +kernel
theorem dX8_readTerms_32 : decode cX8_readTerms 32 = .ok (.bipush 45, 2) := by decide +kernel
theorem dX8_readTerms_34 : decode cX8_readTerms 34 = .ok (.if_icmp .eq 17, 3) := by decide +kernel
theorem dX8_readTerms_37 : decode cX8_readTerms 37 = .ok (.aload_n 0, 1) := by decide +kernel
theorem dX8_readTerms_38 : decode cX8_readTerms 38 = .ok (.aload_n 0, 1) := by decide +kernel
theorem dX8_readTerms_39 : decode cX8_readTerms 39 = .ok (.getfield 38, 3) := by decide +kernel
theorem dX8_readTerms_42 : decode cX8_readTerms 42 = .ok (.invokevirtual 99, 3) := by decide +kernel
theorem dX8_readTerms_45 : decode cX8_readTerms 45 = .ok (.invokestatic 103, 3) := by decide +kernel
theorem dX8_readTerms_48 : decode cX8_readTerms 48 = .ok (.ifCond .eq 18, 3) := by decide +kernel
theorem dX8_readTerms_51 : decode cX8_readTerms 51 = .ok (.aload_n 0, 1) := by decide +kernel
theorem dX8_readTerms_52 : decode cX8_readTerms 52 = .ok (.aload_n 1, 1) := by decide +kernel
theorem dX8_readTerms_53 : decode cX8_readTerms 53 = .ok (.invokevirtual 106, 3) := by decide +kernel
theorem dX8_readTerms_56 : decode cX8_readTerms 56 = .ok (.aload_n 0, 1) := by decide +kernel
theorem dX8_readTerms_57 : decode cX8_readTerms 57 = .ok (.invokevirtual 47, 3) := by decide +kernel
theorem dX8_readTerms_60 : decode cX8_readTerms 60 = .ok (.iinc 2 1, 3) := by decide +kernel
theorem dX8_readTerms_63 : decode cX8_readTerms 63 = .ok (.goto (-52), 3) := by decide +kernel
theorem dX8_readTerms_66 : decode cX8_readTerms 66 = .ok (.return_, 1) := by decide +kernel
theorem dX8_readTerm_0 : decode cX8_readTerm 0 = .ok (.aload_n 0, 1) := by decide +kernel
theorem dX8_readTerm_1 : decode cX8_readTerm 1 = .ok (.aload_n 0, 1) := by decide +kernel
theorem dX8_readTerm_2 : decode cX8_readTerm 2 = .ok (.getfield 38, 3) := by decide +kernel
theorem dX8_readTerm_5 : decode cX8_readTerm 5 = .ok (.invokevirtual 99, 3) := by decide +kernel
theorem dX8_readTerm_8 : decode cX8_readTerm 8 = .ok (.bipush 45, 2) := by decide +kernel
theorem dX8_readTerm_10 : decode cX8_readTerm 10 = .ok (.if_icmp .ne 7, 3) := by decide +kernel
theorem dX8_readTerm_13 : decode cX8_readTerm 13 = .ok (.iconst 1, 1) := by decide +kernel
theorem dX8_readTerm_14 : decode cX8_readTerm 14 = .ok (.goto 4, 3) := by decide +kernel
theorem dX8_readTerm_17 : decode cX8_readTerm 17 = .ok (.iconst 0, 1) := by decide +kernel
theorem dX8_readTerm_18 : decode cX8_readTerm 18 = .ok (.istore_n 2, 1) := by decide +kernel
theorem dX8_readTerm_19 : decode cX8_readTerm 19 = .ok (.iload_n 2, 1) := by decide +kernel
theorem dX8_readTerm_20 : decode cX8_readTerm 20 = .ok (.ifCond .eq 35, 3) := by decide +kernel
theorem dX8_readTerm_23 : decode cX8_readTerm 23 = .ok (.aload_n 1, 1) := by decide +kernel
theorem dX8_readTerm_24 : decode cX8_readTerm 24 = .ok (.invokevirtual 109, 3) := by decide +kernel
theorem dX8_readTerm_27 : decode cX8_readTerm 27 = .ok (.ifCond .eq 14, 3) := by decide +kernel
theorem dX8_readTerm_30 : decode cX8_readTerm 30 = .ok (.aload_n 0, 1) := by decide +kernel
theorem dX8_readTerm_31 : decode cX8_readTerm 31 = .ok (.bipush (-4), 2) := by decide +kernel
theorem dX8_readTerm_33 : decode cX8_readTerm 33 = .ok (.aload_n 0, 1) := by decide +kernel
theorem dX8_readTerm_34 : decode cX8_readTerm 34 = .ok (.getfield 38, 3) := by decide +kernel
theorem dX8_readTerm_37 : decode cX8_readTerm 37 = .ok (.invokevirtual 65, 3) := by decide +kernel
theorem dX8_readTerm_40 : decode cX8_readTerm 40 = .ok (.return_, 1) := by decide +kernel
theorem dX8_readTerm_41 : decode cX8_readTerm 41 = .ok (.aload_n 0, 1) := by decide +kernel
theorem dX8_readTerm_42 : decode cX8_readTerm 42 = .ok (.dup, 1) := by decide +kernel
theorem dX8_readTerm_43 : decode cX8_readTerm 43 = .ok (.getfield 38, 3) := by decide +kernel
theorem dX8_readTerm_46 : decode cX8_readTerm 46 = .ok (.iconst 1, 1) := by decide +kernel
theorem dX8_readTerm_47 : decode cX8_readTerm 47 = .ok (.iadd, 1) := by decide +kernel
theorem dX8_readTerm_48 : decode cX8_readTerm 48 = .ok (.putfield 38, 3) := by decide +kernel
theorem dX8_readTerm_51 : decode cX8_readTerm 51 = .ok (.aload_n 0, 1) := by decide +kernel
theorem dX8_readTerm_52 : decode cX8_readTerm 52 = .ok (.invokevirtual 47, 3) := by decide +kernel
theorem dX8_readTerm_55 : decode cX8_readTerm 55 = .ok (.aload_n 0, 1) := by decide +kernel
theorem dX8_readTerm_56 : decode cX8_readTerm 56 = .ok (.getfield 38, 3) := by decide +kernel
theorem dX8_readTerm_59 : decode cX8_readTerm 59 = .ok (.istore_n 3, 1) := by decide +kernel
theorem dX8_readTerm_60 : decode cX8_readTerm 60 = .ok (.aload_n 0, 1) := by decide +kernel
theorem dX8_readTerm_61 : decode cX8_readTerm 61 = .ok (.invokevirtual 75, 3) := by decide +kernel
theorem dX8_readTerm_64 : decode cX8_readTerm 64 = .ok (.istore 4, 2) := by decide +kernel
theorem dX8_readTerm_66 : decode cX8_readTerm 66 = .ok (.iload 4, 2) := by decide +kernel
theorem dX8_readTerm_68 : decode cX8_readTerm 68 = .ok (.iconst (-1), 1) := by decide +kernel
theorem dX8_readTerm_69 : decode cX8_readTerm 69 = .ok (.if_icmp .ne 13, 3) := by decide +kernel
theorem dX8_readTerm_72 : decode cX8_readTerm 72 = .ok (.aload_n 0, 1) := by decide +kernel
theorem dX8_readTerm_73 : decode cX8_readTerm 73 = .ok (.bipush (-2), 2) := by decide +kernel
theorem dX8_readTerm_75 : decode cX8_readTerm 75 = .ok (.iload_n 3, 1) := by decide +kernel
theorem dX8_readTerm_76 : decode cX8_readTerm 76 = .ok (.invokevirtual 65, 3) := by decide +kernel
theorem dX8_readTerm_79 : decode cX8_readTerm 79 = .ok (.goto 54, 3) := by decide +kernel
theorem dX8_readTerm_82 : decode cX8_readTerm 82 = .ok (.iload 4, 2) := by decide +kernel
theorem dX8_readTerm_84 : decode cX8_readTerm 84 = .ok (.sipush 9999, 3) := by decide +kernel
theorem dX8_readTerm_87 : decode cX8_readTerm 87 = .ok (.if_icmp .le 13, 3) := by decide +kernel
theorem dX8_readTerm_90 : decode cX8_readTerm 90 = .ok (.aload_n 0, 1) := by decide +kernel
theorem dX8_readTerm_91 : decode cX8_readTerm 91 = .ok (.bipush (-3), 2) := by decide +kernel
theorem dX8_readTerm_93 : decode cX8_readTerm 93 = .ok (.iload_n 3, 1) := by decide +kernel
theorem dX8_readTerm_94 : decode cX8_readTerm 94 = .ok (.invokevirtual 65, 3) := by decide +kernel
theorem dX8_readTerm_97 : decode cX8_readTerm 97 = .ok (.goto 36, 3) := by decide +kernel
theorem dX8_readTerm_100 : decode cX8_readTerm 100 = .ok (.aload_n 1, 1) := by decide +kernel
theorem dX8_readTerm_101 : decode cX8_readTerm 101 = .ok (.invokevirtual 109, 3) := by decide +kernel
theorem dX8_readTerm_104 : decode cX8_readTerm 104 = .ok (.ifCond .eq 13, 3) := by decide +kernel
theorem dX8_readTerm_107 : decode cX8_readTerm 107 = .ok (.aload_n 0, 1) := by decide +kernel
theorem dX8_readTerm_108 : decode cX8_readTerm 108 = .ok (.bipush (-4), 2) := by decide +kernel
theorem dX8_readTerm_110 : decode cX8_readTerm 110 = .ok (.iload_n 3, 1) := by decide +kernel
theorem dX8_readTerm_111 : decode cX8_readTerm 111 = .ok (.invokevirtual 65, 3) := by decide +kernel
theorem dX8_readTerm_114 : decode cX8_readTerm 114 = .ok (.goto 19, 3) := by decide +kernel
theorem dX8_readTerm_117 : decode cX8_readTerm 117 = .ok (.aload_n 1, 1) := by decide +kernel
theorem dX8_readTerm_118 : decode cX8_readTerm 118 = .ok (.iload_n 2, 1) := by decide +kernel
theorem dX8_readTerm_119 : decode cX8_readTerm 119 = .ok (.ifCond .eq 9, 3) := by decide +kernel
theorem dX8_readTerm_122 : decode cX8_readTerm 122 = .ok (.iload 4, 2) := by decide +kernel
theorem dX8_readTerm_124 : decode cX8_readTerm 124 = .ok (.ineg, 1) := by decide +kernel
theorem dX8_readTerm_125 : decode cX8_readTerm 125 = .ok (.goto 5, 3) := by decide +kernel
theorem dX8_readTerm_128 : decode cX8_readTerm 128 = .ok (.iload 4, 2) := by decide +kernel
theorem dX8_readTerm_130 : decode cX8_readTerm 130 = .ok (.invokevirtual 113, 3) := by decide +kernel
theorem dX8_readTerm_133 : decode cX8_readTerm 133 = .ok (.return_, 1) := by decide +kernel
theorem dX8_passSemicolon_0 : decode cX8_passSemicolon 0 = .ok (.aload_n 0, 1) := by decide +kernel
theorem dX8_passSemicolon_1 : decode cX8_passSemicolon 1 = .ok (.getfield 41, 3) := by decide +kernel
theorem dX8_passSemicolon_4 : decode cX8_passSemicolon 4 = .ok (.ifCond .eq 4, 3) := by decide +kernel
theorem dX8_passSemicolon_7 : decode cX8_passSemicolon 7 = .ok (.return_, 1) := by decide +kernel
theorem dX8_passSemicolon_8 : decode cX8_passSemicolon 8 = .ok (.aload_n 0, 1) := by decide +kernel
theorem dX8_passSemicolon_9 : decode cX8_passSemicolon 9 = .ok (.invokevirtual 47, 3) := by decide +kernel
theorem dX8_passSemicolon_12 : decode cX8_passSemicolon 12 = .ok (.aload_n 0, 1) := by decide +kernel
theorem dX8_passSemicolon_13 : decode cX8_passSemicolon 13 = .ok (.aload_n 0, 1) := by decide +kernel
theorem dX8_passSemicolon_14 : decode cX8_passSemicolon 14 = .ok (.getfield 38, 3) := by decide +kernel
theorem dX8_passSemicolon_17 : decode cX8_passSemicolon 17 = .ok (.invokevirtual 99, 3) := by decide +kernel
theorem dX8_passSemicolon_20 : decode cX8_passSemicolon 20 = .ok (.bipush 59, 2) := by decide +kernel
theorem dX8_passSemicolon_22 : decode cX8_passSemicolon 22 = .ok (.if_icmp .ne 20, 3) := by decide +kernel
theorem dX8_passSemicolon_25 : decode cX8_passSemicolon 25 = .ok (.aload_n 0, 1) := by decide +kernel
theorem dX8_passSemicolon_26 : decode cX8_passSemicolon 26 = .ok (.dup, 1) := by decide +kernel
theorem dX8_passSemicolon_27 : decode cX8_passSemicolon 27 = .ok (.getfield 38, 3) := by decide +kernel
theorem dX8_passSemicolon_30 : decode cX8_passSemicolon 30 = .ok (.iconst 1, 1) := by decide +kernel
theorem dX8_passSemicolon_31 : decode cX8_passSemicolon 31 = .ok (.iadd, 1) := by decide +kernel
theorem dX8_passSemicolon_32 : decode cX8_passSemicolon 32 = .ok (.putfield 38, 3) := by decide +kernel
theorem dX8_passSemicolon_35 : decode cX8_passSemicolon 35 = .ok (.aload_n 0, 1) := by decide +kernel
theorem dX8_passSemicolon_36 : decode cX8_passSemicolon 36 = .ok (.invokevirtual 47, 3) := by decide +kernel
theorem dX8_passSemicolon_39 : decode cX8_passSemicolon 39 = .ok (.goto 13, 3) := by decide +kernel
theorem dX8_passSemicolon_42 : decode cX8_passSemicolon 42 = .ok (.aload_n 0, 1) := by decide +kernel
theorem dX8_passSemicolon_43 : decode cX8_passSemicolon 43 = .ok (.bipush (-2), 2) := by decide +kernel
theorem dX8_passSemicolon_45 : decode cX8_passSemicolon 45 = .ok (.aload_n 0, 1) := by decide +kernel
theorem dX8_passSemicolon_46 : decode cX8_passSemicolon 46 = .ok (.getfield 38, 3) := by decide +kernel
theorem dX8_passSemicolon_49 : decode cX8_passSemicolon 49 = .ok (.invokevirtual 65, 3) := by decide +kernel
theorem dX8_passSemicolon_52 : decode cX8_passSemicolon 52 = .ok (.return_, 1) := by decide +kernel
theorem dX8_passSpaces_0 : decode cX8_passSpaces 0 = .ok (.aload_n 0, 1) := by decide +kernel
theorem dX8_passSpaces_1 : decode cX8_passSpaces 1 = .ok (.getfield 38, 3) := by decide +kernel
theorem dX8_passSpaces_4 : decode cX8_passSpaces 4 = .ok (.aload_n 0, 1) := by decide +kernel
theorem dX8_passSpaces_5 : decode cX8_passSpaces 5 = .ok (.getfield 35, 3) := by decide +kernel
theorem dX8_passSpaces_8 : decode cX8_passSpaces 8 = .ok (.if_icmp .ge 29, 3) := by decide +kernel
theorem dX8_passSpaces_11 : decode cX8_passSpaces 11 = .ok (.aload_n 0, 1) := by decide +kernel
theorem dX8_passSpaces_12 : decode cX8_passSpaces 12 = .ok (.aload_n 0, 1) := by decide +kernel
theorem dX8_passSpaces_13 : decode cX8_passSpaces 13 = .ok (.getfield 38, 3) := by decide +kernel
theorem dX8_passSpaces_16 : decode cX8_passSpaces 16 = .ok (.invokevirtual 99, 3) := by decide +kernel
theorem dX8_passSpaces_19 : decode cX8_passSpaces 19 = .ok (.bipush 32, 2) := by decide +kernel
theorem dX8_passSpaces_21 : decode cX8_passSpaces 21 = .ok (.if_icmp .ne 16, 3) := by decide +kernel
theorem dX8_passSpaces_24 : decode cX8_passSpaces 24 = .ok (.aload_n 0, 1) := by decide +kernel
theorem dX8_passSpaces_25 : decode cX8_passSpaces 25 = .ok (.dup, 1) := by decide +kernel
theorem dX8_passSpaces_26 : decode cX8_passSpaces 26 = .ok (.getfield 38, 3) := by decide +kernel
theorem dX8_passSpaces_29 : decode cX8_passSpaces 29 = .ok (.iconst 1, 1) := by decide +kernel
theorem dX8_passSpaces_30 : decode cX8_passSpaces 30 = .ok (.iadd, 1) := by decide +kernel
theorem dX8_passSpaces_31 : decode cX8_passSpaces 31 = .ok (.putfield 38, 3) := by decide +kernel
theorem dX8_passSpaces_34 : decode cX8_passSpaces 34 = .ok (.goto (-34), 3) := by decide +kernel
theorem dX8_passSpaces_37 : decode cX8_passSpaces 37 = .ok (.return_, 1) := by decide +kernel
theorem dX8_passWord_0 : decode cX8_passWord 0 = .ok (.iconst 0, 1) := by decide +kernel
theorem dX8_passWord_1 : decode cX8_passWord 1 = .ok (.istore_n 2, 1) := by decide +kernel
theorem dX8_passWord_2 : decode cX8_passWord 2 = .ok (.iload_n 2, 1) := by decide +kernel
theorem dX8_passWord_3 : decode cX8_passWord 3 = .ok (.aload_n 1, 1) := by decide +kernel
theorem dX8_passWord_4 : decode cX8_passWord 4 = .ok (.invokevirtual 116, 3) := by decide +kernel
theorem dX8_passWord_7 : decode cX8_passWord 7 = .ok (.if_icmp .ge 29, 3) := by decide +kernel
theorem dX8_passWord_10 : decode cX8_passWord 10 = .ok (.aload_n 0, 1) := by decide +kernel
theorem dX8_passWord_11 : decode cX8_passWord 11 = .ok (.aload_n 0, 1) := by decide +kernel
theorem dX8_passWord_12 : decode cX8_passWord 12 = .ok (.getfield 38, 3) := by decide +kernel
theorem dX8_passWord_15 : decode cX8_passWord 15 = .ok (.iload_n 2, 1) := by decide +kernel
theorem dX8_passWord_16 : decode cX8_passWord 16 = .ok (.iadd, 1) := by decide +kernel
theorem dX8_passWord_17 : decode cX8_passWord 17 = .ok (.invokevirtual 99, 3) := by decide +kernel
theorem dX8_passWord_20 : decode cX8_passWord 20 = .ok (.aload_n 1, 1) := by decide +kernel
theorem dX8_passWord_21 : decode cX8_passWord 21 = .ok (.iload_n 2, 1) := by decide +kernel
theorem dX8_passWord_22 : decode cX8_passWord 22 = .ok (.invokevirtual 121, 3) := by decide +kernel
theorem dX8_passWord_25 : decode cX8_passWord 25 = .ok (.if_icmp .eq 5, 3) := by decide +kernel
theorem dX8_passWord_28 : decode cX8_passWord 28 = .ok (.iconst 0, 1) := by decide +kernel
theorem dX8_passWord_29 : decode cX8_passWord 29 = .ok (.ireturn, 1) := by decide +kernel
theorem dX8_passWord_30 : decode cX8_passWord 30 = .ok (.iinc 2 1, 3) := by decide +kernel
theorem dX8_passWord_33 : decode cX8_passWord 33 = .ok (.goto (-31), 3) := by decide +kernel
theorem dX8_passWord_36 : decode cX8_passWord 36 = .ok (.aload_n 0, 1) := by decide +kernel
theorem dX8_passWord_37 : decode cX8_passWord 37 = .ok (.aload_n 0, 1) := by decide +kernel
theorem dX8_passWord_38 : decode cX8_passWord 38 = .ok (.getfield 38, 3) := by decide +kernel
theorem dX8_passWord_41 : decode cX8_passWord 41 = .ok (.aload_n 1, 1) := by decide +kernel
theorem dX8_passWord_42 : decode cX8_passWord 42 = .ok (.invokevirtual 116, 3) := by decide +kernel
theorem dX8_passWord_45 : decode cX8_passWord 45 = .ok (.iadd, 1) := by decide +kernel
theorem dX8_passWord_46 : decode cX8_passWord 46 = .ok (.invokevirtual 99, 3) := by decide +kernel
theorem dX8_passWord_49 : decode cX8_passWord 49 = .ok (.invokestatic 125, 3) := by decide +kernel
theorem dX8_passWord_52 : decode cX8_passWord 52 = .ok (.ifCond .eq 5, 3) := by decide +kernel
theorem dX8_passWord_55 : decode cX8_passWord 55 = .ok (.iconst 0, 1) := by decide +kernel
theorem dX8_passWord_56 : decode cX8_passWord 56 = .ok (.ireturn, 1) := by decide +kernel
theorem dX8_passWord_57 : decode cX8_passWord 57 = .ok (.aload_n 0, 1) := by decide +kernel
theorem dX8_passWord_58 : decode cX8_passWord 58 = .ok (.dup, 1) := by decide +kernel
theorem dX8_passWord_59 : decode cX8_passWord 59 = .ok (.getfield 38, 3) := by decide +kernel
theorem dX8_passWord_62 : decode cX8_passWord 62 = .ok (.aload_n 1, 1) := by decide +kernel
theorem dX8_passWord_63 : decode cX8_passWord 63 = .ok (.invokevirtual 116, 3) := by decide +kernel
theorem dX8_passWord_66 : decode cX8_passWord 66 = .ok (.iadd, 1) := by decide +kernel
theorem dX8_passWord_67 : decode cX8_passWord 67 = .ok (.putfield 38, 3) := by decide +kernel
theorem dX8_passWord_70 : decode cX8_passWord 70 = .ok (.iconst 1, 1) := by decide +kernel
theorem dX8_passWord_71 : decode cX8_passWord 71 = .ok (.ireturn, 1) := by decide +kernel
theorem dX8_passNumber_0 : decode cX8_passNumber 0 = .ok (.aload_n 0, 1) := by decide +kernel
theorem dX8_passNumber_1 : decode cX8_passNumber 1 = .ok (.aload_n 0, 1) := by decide +kernel
theorem dX8_passNumber_2 : decode cX8_passNumber 2 = .ok (.getfield 38, 3) := by decide +kernel
theorem dX8_passNumber_5 : decode cX8_passNumber 5 = .ok (.invokevirtual 99, 3) := by decide +kernel
theorem dX8_passNumber_8 : decode cX8_passNumber 8 = .ok (.invokestatic 103, 3) := by decide +kernel
theorem dX8_passNumber_11 : decode cX8_passNumber 11 = .ok (.ifCond .ne 5, 3) := by decide +kernel
theorem dX8_passNumber_14 : decode cX8_passNumber 14 = .ok (.iconst (-1), 1) := by decide +kernel
theorem dX8_passNumber_15 : decode cX8_passNumber 15 = .ok (.ireturn, 1) := by decide +kernel
theorem dX8_passNumber_16 : decode cX8_passNumber 16 = .ok (.iconst 0, 1) := by decide +kernel
theorem dX8_passNumber_17 : decode cX8_passNumber 17 = .ok (.istore_n 1, 1) := by decide +kernel
theorem dX8_passNumber_18 : decode cX8_passNumber 18 = .ok (.aload_n 0, 1) := by decide +kernel
theorem dX8_passNumber_19 : decode cX8_passNumber 19 = .ok (.getfield 38, 3) := by decide +kernel
theorem dX8_passNumber_22 : decode cX8_passNumber 22 = .ok (.aload_n 0, 1) := by decide +kernel
theorem dX8_passNumber_23 : decode cX8_passNumber 23 = .ok (.getfield 35, 3) := by decide +kernel
theorem dX8_passNumber_26 : decode cX8_passNumber 26 = .ok (.if_icmp .ge 52, 3) := by decide +kernel
theorem dX8_passNumber_29 : decode cX8_passNumber 29 = .ok (.aload_n 0, 1) := by decide +kernel
theorem dX8_passNumber_30 : decode cX8_passNumber 30 = .ok (.aload_n 0, 1) := by decide +kernel
theorem dX8_passNumber_31 : decode cX8_passNumber 31 = .ok (.getfield 38, 3) := by decide +kernel
theorem dX8_passNumber_34 : decode cX8_passNumber 34 = .ok (.invokevirtual 99, 3) := by decide +kernel
theorem dX8_passNumber_37 : decode cX8_passNumber 37 = .ok (.invokestatic 103, 3) := by decide +kernel
theorem dX8_passNumber_40 : decode cX8_passNumber 40 = .ok (.ifCond .eq 38, 3) := by decide +kernel
theorem dX8_passNumber_43 : decode cX8_passNumber 43 = .ok (.bipush 10, 2) := by decide +kernel
theorem dX8_passNumber_45 : decode cX8_passNumber 45 = .ok (.iload_n 1, 1) := by decide +kernel
theorem dX8_passNumber_46 : decode cX8_passNumber 46 = .ok (.imul, 1) := by decide +kernel
theorem dX8_passNumber_47 : decode cX8_passNumber 47 = .ok (.aload_n 0, 1) := by decide +kernel
theorem dX8_passNumber_48 : decode cX8_passNumber 48 = .ok (.aload_n 0, 1) := by decide +kernel
theorem dX8_passNumber_49 : decode cX8_passNumber 49 = .ok (.getfield 38, 3) := by decide +kernel
theorem dX8_passNumber_52 : decode cX8_passNumber 52 = .ok (.invokevirtual 99, 3) := by decide +kernel
theorem dX8_passNumber_55 : decode cX8_passNumber 55 = .ok (.iadd, 1) := by decide +kernel
theorem dX8_passNumber_56 : decode cX8_passNumber 56 = .ok (.bipush 48, 2) := by decide +kernel
theorem dX8_passNumber_58 : decode cX8_passNumber 58 = .ok (.isub, 1) := by decide +kernel
theorem dX8_passNumber_59 : decode cX8_passNumber 59 = .ok (.ldc 128, 2) := by decide +kernel
theorem dX8_passNumber_61 : decode cX8_passNumber 61 = .ok (.invokestatic 29, 3) := by decide +kernel
theorem dX8_passNumber_64 : decode cX8_passNumber 64 = .ok (.istore_n 1, 1) := by decide +kernel
theorem dX8_passNumber_65 : decode cX8_passNumber 65 = .ok (.aload_n 0, 1) := by decide +kernel
theorem dX8_passNumber_66 : decode cX8_passNumber 66 = .ok (.dup, 1) := by decide +kernel
theorem dX8_passNumber_67 : decode cX8_passNumber 67 = .ok (.getfield 38, 3) := by decide +kernel
theorem dX8_passNumber_70 : decode cX8_passNumber 70 = .ok (.iconst 1, 1) := by decide +kernel
theorem dX8_passNumber_71 : decode cX8_passNumber 71 = .ok (.iadd, 1) := by decide +kernel
theorem dX8_passNumber_72 : decode cX8_passNumber 72 = .ok (.putfield 38, 3) := by decide +kernel
theorem dX8_passNumber_75 : decode cX8_passNumber 75 = .ok (.goto (-57), 3) := by decide +kernel
theorem dX8_passNumber_78 : decode cX8_passNumber 78 = .ok (.iload_n 1, 1) := by decide +kernel
theorem dX8_passNumber_79 : decode cX8_passNumber 79 = .ok (.ireturn, 1) := by decide +kernel
theorem dX8_byteAt_0 : decode cX8_byteAt 0 = .ok (.iload_n 1, 1) := by decide +kernel
theorem dX8_byteAt_1 : decode cX8_byteAt 1 = .ok (.ifCond .lt 24, 3) := by decide +kernel
theorem dX8_byteAt_4 : decode cX8_byteAt 4 = .ok (.iload_n 1, 1) := by decide +kernel
theorem dX8_byteAt_5 : decode cX8_byteAt 5 = .ok (.aload_n 0, 1) := by decide +kernel
theorem dX8_byteAt_6 : decode cX8_byteAt 6 = .ok (.getfield 35, 3) := by decide +kernel
theorem dX8_byteAt_9 : decode cX8_byteAt 9 = .ok (.if_icmp .ge 16, 3) := by decide +kernel
theorem dX8_byteAt_12 : decode cX8_byteAt 12 = .ok (.aload_n 0, 1) := by decide +kernel
theorem dX8_byteAt_13 : decode cX8_byteAt 13 = .ok (.getfield 9, 3) := by decide +kernel
theorem dX8_byteAt_16 : decode cX8_byteAt 16 = .ok (.iload_n 1, 1) := by decide +kernel
theorem dX8_byteAt_17 : decode cX8_byteAt 17 = .ok (.baload, 1) := by decide +kernel
theorem dX8_byteAt_18 : decode cX8_byteAt 18 = .ok (.sipush 255, 3) := by decide +kernel
theorem dX8_byteAt_21 : decode cX8_byteAt 21 = .ok (.iand, 1) := by decide +kernel
theorem dX8_byteAt_22 : decode cX8_byteAt 22 = .ok (.goto 4, 3) := by decide +kernel
theorem dX8_byteAt_25 : decode cX8_byteAt 25 = .ok (.iconst (-1), 1) := by decide +kernel
theorem dX8_byteAt_26 : decode cX8_byteAt 26 = .ok (.ireturn, 1) := by decide +kernel
theorem dX8_isDigit_0 : decode cX8_isDigit 0 = .ok (.iload_n 0, 1) := by decide +kernel
theorem dX8_isDigit_1 : decode cX8_isDigit 1 = .ok (.bipush 48, 2) := by decide +kernel
theorem dX8_isDigit_3 : decode cX8_isDigit 3 = .ok (.if_icmp .lt 13, 3) := by decide +kernel
theorem dX8_isDigit_6 : decode cX8_isDigit 6 = .ok (.iload_n 0, 1) := by decide +kernel
theorem dX8_isDigit_7 : decode cX8_isDigit 7 = .ok (.bipush 57, 2) := by decide +kernel
theorem dX8_isDigit_9 : decode cX8_isDigit 9 = .ok (.if_icmp .gt 7, 3) := by decide +kernel
theorem dX8_isDigit_12 : decode cX8_isDigit 12 = .ok (.iconst 1, 1) := by decide +kernel
theorem dX8_isDigit_13 : decode cX8_isDigit 13 = .ok (.goto 4, 3) := by decide +kernel
theorem dX8_isDigit_16 : decode cX8_isDigit 16 = .ok (.iconst 0, 1) := by decide +kernel
theorem dX8_isDigit_17 : decode cX8_isDigit 17 = .ok (.ireturn, 1) := by decide +kernel
theorem dX8_isLetter_0 : decode cX8_isLetter 0 = .ok (.iload_n 0, 1) := by decide +kernel
theorem dX8_isLetter_1 : decode cX8_isLetter 1 = .ok (.bipush 97, 2) := by decide +kernel
theorem dX8_isLetter_3 : decode cX8_isLetter 3 = .ok (.if_icmp .lt 13, 3) := by decide +kernel
theorem dX8_isLetter_6 : decode cX8_isLetter 6 = .ok (.iload_n 0, 1) := by decide +kernel
theorem dX8_isLetter_7 : decode cX8_isLetter 7 = .ok (.bipush 122, 2) := by decide +kernel
theorem dX8_isLetter_9 : decode cX8_isLetter 9 = .ok (.if_icmp .gt 7, 3) := by decide +kernel
theorem dX8_isLetter_12 : decode cX8_isLetter 12 = .ok (.iconst 1, 1) := by decide +kernel
theorem dX8_isLetter_13 : decode cX8_isLetter 13 = .ok (.goto 4, 3) := by decide +kernel
theorem dX8_isLetter_16 : decode cX8_isLetter 16 = .ok (.iconst 0, 1) := by decide +kernel
theorem dX8_isLetter_17 : decode cX8_isLetter 17 = .ok (.ireturn, 1) := by decide +kernel
theorem dX8_fail_0 : decode cX8_fail 0 = .ok (.aload_n 0, 1) := by decide +kernel
theorem dX8_fail_1 : decode cX8_fail 1 = .ok (.iload_n 1, 1) := by decide +kernel
theorem dX8_fail_2 : decode cX8_fail 2 = .ok (.putfield 41, 3) := by decide +kernel
theorem dX8_fail_5 : decode cX8_fail 5 = .ok (.aload_n 0, 1) := by decide +kernel
theorem dX8_fail_6 : decode cX8_fail 6 = .ok (.iload_n 2, 1) := by decide +kernel
theorem dX8_fail_7 : decode cX8_fail 7 = .ok (.putfield 22, 3) := by decide +kernel
theorem dX8_fail_10 : decode cX8_fail 10 = .ok (.return_, 1) := by decide +kernel
theorem dX9_init_0 : decode cX9_init 0 = .ok (.aload_n 0, 1) := by decide +kernel
theorem dX9_init_1 : decode cX9_init 1 = .ok (.invokespecial 1, 3) := by decide +kernel
theorem dX9_init_4 : decode cX9_init 4 = .ok (.aload_n 0, 1) := by decide +kernel
theorem dX9_init_5 : decode cX9_init 5 = .ok (.new 7, 3) := by decide +kernel
theorem dX9_init_8 : decode cX9_init 8 = .ok (.dup, 1) := by decide +kernel
theorem dX9_init_9 : decode cX9_init 9 = .ok (.invokespecial 9, 3) := by decide +kernel
theorem dX9_init_12 : decode cX9_init 12 = .ok (.putfield 10, 3) := by decide +kernel
theorem dX9_init_15 : decode cX9_init 15 = .ok (.aload_n 0, 1) := by decide +kernel
theorem dX9_init_16 : decode cX9_init 16 = .ok (.new 16, 3) := by decide +kernel
theorem dX9_init_19 : decode cX9_init 19 = .ok (.dup, 1) := by decide +kernel
theorem dX9_init_20 : decode cX9_init 20 = .ok (.invokespecial 18, 3) := by decide +kernel
theorem dX9_init_23 : decode cX9_init 23 = .ok (.putfield 19, 3) := by decide +kernel
theorem dX9_init_26 : decode cX9_init 26 = .ok (.aload_n 0, 1) := by decide +kernel
theorem dX9_init_27 : decode cX9_init 27 = .ok (.new 23, 3) := by decide +kernel
theorem dX9_init_30 : decode cX9_init 30 = .ok (.dup, 1) := by decide +kernel
theorem dX9_init_31 : decode cX9_init 31 = .ok (.invokespecial 25, 3) := by decide +kernel
theorem dX9_init_34 : decode cX9_init 34 = .ok (.putfield 26, 3) := by decide +kernel
theorem dX9_init_37 : decode cX9_init 37 = .ok (.aload_n 0, 1) := by decide +kernel
theorem dX9_init_38 : decode cX9_init 38 = .ok (.new 30, 3) := by decide +kernel
theorem dX9_init_41 : decode cX9_init 41 = .ok (.dup, 1) := by decide +kernel
theorem dX9_init_42 : decode cX9_init 42 = .ok (.invokespecial 32, 3) := by decide +kernel
theorem dX9_init_45 : decode cX9_init 45 = .ok (.putfield 33, 3) := by decide +kernel
theorem dX9_init_48 : decode cX9_init 48 = .ok (.aload_n 0, 1) := by decide +kernel
theorem dX9_init_49 : decode cX9_init 49 = .ok (.new 37, 3) := by decide +kernel
theorem dX9_init_52 : decode cX9_init 52 = .ok (.dup, 1) := by decide +kernel
theorem dX9_init_53 : decode cX9_init 53 = .ok (.invokespecial 39, 3) := by decide +kernel
theorem dX9_init_56 : decode cX9_init 56 = .ok (.putfield 40, 3) := by decide +kernel
theorem dX9_init_59 : decode cX9_init 59 = .ok (.aload_n 0, 1) := by decide +kernel
theorem dX9_init_60 : decode cX9_init 60 = .ok (.new 44, 3) := by decide +kernel
theorem dX9_init_63 : decode cX9_init 63 = .ok (.dup, 1) := by decide +kernel
theorem dX9_init_64 : decode cX9_init 64 = .ok (.invokespecial 46, 3) := by decide +kernel
theorem dX9_init_67 : decode cX9_init 67 = .ok (.putfield 47, 3) := by decide +kernel
theorem dX9_init_70 : decode cX9_init 70 = .ok (.return_, 1) := by decide +kernel
theorem dX9_feed_0 : decode cX9_feed 0 = .ok (.aload_n 0, 1) := by decide +kernel
theorem dX9_feed_1 : decode cX9_feed 1 = .ok (.getfield 26, 3) := by decide +kernel
theorem dX9_feed_4 : decode cX9_feed 4 = .ok (.invokevirtual 51, 3) := by decide +kernel
theorem dX9_feed_7 : decode cX9_feed 7 = .ok (.ifCond .ne 13, 3) := by decide +kernel
theorem dX9_feed_10 : decode cX9_feed 10 = .ok (.new 55, 3) := by decide +kernel
theorem dX9_feed_13 : decode cX9_feed 13 = .ok (.dup, 1) := by decide +kernel
theorem dX9_feed_14 : decode cX9_feed 14 = .ok (.ldc 57, 2) := by decide +kernel
theorem dX9_feed_16 : decode cX9_feed 16 = .ok (.invokespecial 59, 3) := by decide +kernel
theorem dX9_feed_19 : decode cX9_feed 19 = .ok (.athrow, 1) := by decide +kernel
theorem dX9_feed_20 : decode cX9_feed 20 = .ok (.aload_n 0, 1) := by decide +kernel
theorem dX9_feed_21 : decode cX9_feed 21 = .ok (.getfield 26, 3) := by decide +kernel
theorem dX9_feed_24 : decode cX9_feed 24 = .ok (.iload_n 1, 1) := by decide +kernel
theorem dX9_feed_25 : decode cX9_feed 25 = .ok (.invokevirtual 62, 3) := by decide +kernel
theorem dX9_feed_28 : decode cX9_feed 28 = .ok (.aload_n 0, 1) := by decide +kernel
theorem dX9_feed_29 : decode cX9_feed 29 = .ok (.getfield 26, 3) := by decide +kernel
theorem dX9_feed_32 : decode cX9_feed 32 = .ok (.iload_n 2, 1) := by decide +kernel
theorem dX9_feed_33 : decode cX9_feed 33 = .ok (.invokevirtual 62, 3) := by decide +kernel
theorem dX9_feed_36 : decode cX9_feed 36 = .ok (.aload_n 0, 1) := by decide +kernel
theorem dX9_feed_37 : decode cX9_feed 37 = .ok (.getfield 26, 3) := by decide +kernel
theorem dX9_feed_40 : decode cX9_feed 40 = .ok (.iload_n 3, 1) := by decide +kernel
theorem dX9_feed_41 : decode cX9_feed 41 = .ok (.invokevirtual 62, 3) := by decide +kernel
theorem dX9_feed_44 : decode cX9_feed 44 = .ok (.aload_n 0, 1) := by decide +kernel
theorem dX9_feed_45 : decode cX9_feed 45 = .ok (.getfield 26, 3) := by decide +kernel
theorem dX9_feed_48 : decode cX9_feed 48 = .ok (.iload 4, 2) := by decide +kernel
theorem dX9_feed_50 : decode cX9_feed 50 = .ok (.invokevirtual 62, 3) := by decide +kernel
theorem dX9_feed_53 : decode cX9_feed 53 = .ok (.aload_n 0, 1) := by decide +kernel
theorem dX9_feed_54 : decode cX9_feed 54 = .ok (.getfield 26, 3) := by decide +kernel
theorem dX9_feed_57 : decode cX9_feed 57 = .ok (.iload 5, 2) := by decide +kernel
theorem dX9_feed_59 : decode cX9_feed 59 = .ok (.invokevirtual 62, 3) := by decide +kernel
theorem dX9_feed_62 : decode cX9_feed 62 = .ok (.aload_n 0, 1) := by decide +kernel
theorem dX9_feed_63 : decode cX9_feed 63 = .ok (.getfield 26, 3) := by decide +kernel
theorem dX9_feed_66 : decode cX9_feed 66 = .ok (.getfield 66, 3) := by decide +kernel
theorem dX9_feed_69 : decode cX9_feed 69 = .ok (.ireturn, 1) := by decide +kernel
theorem dX9_load_0 : decode cX9_load 0 = .ok (.iload_n 1, 1) := by decide +kernel
theorem dX9_load_1 : decode cX9_load 1 = .ok (.ifCond .lt 18, 3) := by decide +kernel
theorem dX9_load_4 : decode cX9_load 4 = .ok (.iload_n 1, 1) := by decide +kernel
theorem dX9_load_5 : decode cX9_load 5 = .ok (.aload_n 0, 1) := by decide +kernel
theorem dX9_load_6 : decode cX9_load 6 = .ok (.getfield 26, 3) := by decide +kernel
theorem dX9_load_9 : decode cX9_load 9 = .ok (.getfield 66, 3) := by decide +kernel
theorem dX9_load_12 : decode cX9_load 12 = .ok (.if_icmp .gt 7, 3) := by decide +kernel
theorem dX9_load_15 : decode cX9_load 15 = .ok (.iconst 1, 1) := by decide +kernel
theorem dX9_load_16 : decode cX9_load 16 = .ok (.goto 4, 3) := by decide +kernel
theorem dX9_load_19 : decode cX9_load 19 = .ok (.iconst 0, 1) := by decide +kernel
theorem dX9_load_20 : decode cX9_load 20 = .ok (.invokestatic 70, 3) := by decide +kernel
theorem dX9_load_23 : decode cX9_load 23 = .ok (.aload_n 0, 1) := by decide +kernel
theorem dX9_load_24 : decode cX9_load 24 = .ok (.getfield 26, 3) := by decide +kernel
theorem dX9_load_27 : decode cX9_load 27 = .ok (.iload_n 1, 1) := by decide +kernel
theorem dX9_load_28 : decode cX9_load 28 = .ok (.invokevirtual 74, 3) := by decide +kernel
theorem dX9_load_31 : decode cX9_load 31 = .ok (.istore_n 2, 1) := by decide +kernel
theorem dX9_load_32 : decode cX9_load 32 = .ok (.iload_n 2, 1) := by decide +kernel
theorem dX9_load_33 : decode cX9_load 33 = .ok (.ifCond .eq 5, 3) := by decide +kernel
theorem dX9_load_36 : decode cX9_load 36 = .ok (.iload_n 2, 1) := by decide +kernel
theorem dX9_load_37 : decode cX9_load 37 = .ok (.ireturn, 1) := by decide +kernel
theorem dX9_load_38 : decode cX9_load 38 = .ok (.aload_n 0, 1) := by decide +kernel
theorem dX9_load_39 : decode cX9_load 39 = .ok (.getfield 19, 3) := by decide +kernel
theorem dX9_load_42 : decode cX9_load 42 = .ok (.aload_n 0, 1) := by decide +kernel
theorem dX9_load_43 : decode cX9_load 43 = .ok (.getfield 10, 3) := by decide +kernel
theorem dX9_load_46 : decode cX9_load 46 = .ok (.invokevirtual 78, 3) := by decide +kernel
theorem dX9_load_49 : decode cX9_load 49 = .ok (.aload_n 0, 1) := by decide +kernel
theorem dX9_load_50 : decode cX9_load 50 = .ok (.getfield 10, 3) := by decide +kernel
theorem dX9_load_53 : decode cX9_load 53 = .ok (.aload_n 0, 1) := by decide +kernel
theorem dX9_load_54 : decode cX9_load 54 = .ok (.getfield 26, 3) := by decide +kernel
theorem dX9_load_57 : decode cX9_load 57 = .ok (.getfield 82, 3) := by decide +kernel
theorem dX9_load_60 : decode cX9_load 60 = .ok (.invokevirtual 85, 3) := by decide +kernel
theorem dX9_load_63 : decode cX9_load 63 = .ok (.aload_n 0, 1) := by decide +kernel
theorem dX9_load_64 : decode cX9_load 64 = .ok (.getfield 10, 3) := by decide +kernel
theorem dX9_load_67 : decode cX9_load 67 = .ok (.getfield 88, 3) := by decide +kernel
theorem dX9_load_70 : decode cX9_load 70 = .ok (.ireturn, 1) := by decide +kernel
theorem dX9_errorPosition_0 : decode cX9_errorPosition 0 = .ok (.aload_n 0, 1) := by decide +kernel
theorem dX9_errorPosition_1 : decode cX9_errorPosition 1 = .ok (.getfield 26, 3) := by decide +kernel
theorem dX9_errorPosition_4 : decode cX9_errorPosition 4 = .ok (.getfield 91, 3) := by decide +kernel
theorem dX9_errorPosition_7 : decode cX9_errorPosition 7 = .ok (.ireturn, 1) := by decide +kernel
theorem dX9_primes_0 : decode cX9_primes 0 = .ok (.aload_n 0, 1) := by decide +kernel
theorem dX9_primes_1 : decode cX9_primes 1 = .ok (.getfield 10, 3) := by decide +kernel
theorem dX9_primes_4 : decode cX9_primes 4 = .ok (.getfield 88, 3) := by decide +kernel
theorem dX9_primes_7 : decode cX9_primes 7 = .ok (.ireturn, 1) := by decide +kernel
theorem dX9_addPrime_0 : decode cX9_addPrime 0 = .ok (.aload_n 0, 1) := by decide +kernel
theorem dX9_addPrime_1 : decode cX9_addPrime 1 = .ok (.getfield 10, 3) := by decide +kernel
theorem dX9_addPrime_4 : decode cX9_addPrime 4 = .ok (.iload_n 1, 1) := by decide +kernel
theorem dX9_addPrime_5 : decode cX9_addPrime 5 = .ok (.invokevirtual 94, 3) := by decide +kernel
theorem dX9_addPrime_8 : decode cX9_addPrime 8 = .ok (.invokestatic 70, 3) := by decide +kernel
theorem dX9_addPrime_11 : decode cX9_addPrime 11 = .ok (.aload_n 0, 1) := by decide +kernel
theorem dX9_addPrime_12 : decode cX9_addPrime 12 = .ok (.getfield 10, 3) := by decide +kernel
theorem dX9_addPrime_15 : decode cX9_addPrime 15 = .ok (.getfield 88, 3) := by decide +kernel
theorem dX9_addPrime_18 : decode cX9_addPrime 18 = .ok (.bipush 6, 2) := by decide +kernel
theorem dX9_addPrime_20 : decode cX9_addPrime 20 = .ok (.if_icmp .lt 13, 3) := by decide +kernel
theorem dX9_addPrime_23 : decode cX9_addPrime 23 = .ok (.new 55, 3) := by decide +kernel
theorem dX9_addPrime_26 : decode cX9_addPrime 26 = .ok (.dup, 1) := by decide +kernel
theorem dX9_addPrime_27 : decode cX9_addPrime 27 = .ok (.ldc 98, 2) := by decide +kernel
theorem dX9_addPrime_29 : decode cX9_addPrime 29 = .ok (.invokespecial 59, 3) := by decide +kernel
theorem dX9_addPrime_32 : decode cX9_addPrime 32 = .ok (.athrow, 1) := by decide +kernel
theorem dX9_addPrime_33 : decode cX9_addPrime 33 = .ok (.aload_n 0, 1) := by decide +kernel
theorem dX9_addPrime_34 : decode cX9_addPrime 34 = .ok (.getfield 19, 3) := by decide +kernel
theorem dX9_addPrime_37 : decode cX9_addPrime 37 = .ok (.aload_n 0, 1) := by decide +kernel
theorem dX9_addPrime_38 : decode cX9_addPrime 38 = .ok (.getfield 10, 3) := by decide +kernel
theorem dX9_addPrime_41 : decode cX9_addPrime 41 = .ok (.invokevirtual 78, 3) := by decide +kernel
theorem dX9_addPrime_44 : decode cX9_addPrime 44 = .ok (.aload_n 0, 1) := by decide +kernel
theorem dX9_addPrime_45 : decode cX9_addPrime 45 = .ok (.getfield 10, 3) := by decide +kernel
theorem dX9_addPrime_48 : decode cX9_addPrime 48 = .ok (.iload_n 1, 1) := by decide +kernel
theorem dX9_addPrime_49 : decode cX9_addPrime 49 = .ok (.invokevirtual 100, 3) := by decide +kernel
theorem dX9_addPrime_52 : decode cX9_addPrime 52 = .ok (.aload_n 0, 1) := by decide +kernel
theorem dX9_addPrime_53 : decode cX9_addPrime 53 = .ok (.getfield 10, 3) := by decide +kernel
theorem dX9_addPrime_56 : decode cX9_addPrime 56 = .ok (.getfield 88, 3) := by decide +kernel
theorem dX9_addPrime_59 : decode cX9_addPrime 59 = .ok (.iconst 1, 1) := by decide +kernel
theorem dX9_addPrime_60 : decode cX9_addPrime 60 = .ok (.isub, 1) := by decide +kernel
theorem dX9_addPrime_61 : decode cX9_addPrime 61 = .ok (.ireturn, 1) := by decide +kernel
theorem dX9_removePrime_0 : decode cX9_removePrime 0 = .ok (.aload_n 0, 1) := by decide +kernel
theorem dX9_removePrime_1 : decode cX9_removePrime 1 = .ok (.iload_n 1, 1) := by decide +kernel
theorem dX9_removePrime_2 : decode cX9_removePrime 2 = .ok (.invokevirtual 103, 3) := by decide +kernel
theorem dX9_removePrime_5 : decode cX9_removePrime 5 = .ok (.aload_n 0, 1) := by decide +kernel
theorem dX9_removePrime_6 : decode cX9_removePrime 6 = .ok (.getfield 19, 3) := by decide +kernel
theorem dX9_removePrime_9 : decode cX9_removePrime 9 = .ok (.aload_n 0, 1) := by decide +kernel
theorem dX9_removePrime_10 : decode cX9_removePrime 10 = .ok (.getfield 10, 3) := by decide +kernel
theorem dX9_removePrime_13 : decode cX9_removePrime 13 = .ok (.invokevirtual 78, 3) := by decide +kernel
theorem dX9_removePrime_16 : decode cX9_removePrime 16 = .ok (.aload_n 0, 1) := by decide +kernel
theorem dX9_removePrime_17 : decode cX9_removePrime 17 = .ok (.getfield 10, 3) := by decide +kernel
theorem dX9_removePrime_20 : decode cX9_removePrime 20 = .ok (.iload_n 1, 1) := by decide +kernel
theorem dX9_removePrime_21 : decode cX9_removePrime 21 = .ok (.invokevirtual 106, 3) := by decide +kernel
theorem dX9_removePrime_24 : decode cX9_removePrime 24 = .ok (.aload_n 0, 1) := by decide +kernel
theorem dX9_removePrime_25 : decode cX9_removePrime 25 = .ok (.getfield 10, 3) := by decide +kernel
theorem dX9_removePrime_28 : decode cX9_removePrime 28 = .ok (.getfield 88, 3) := by decide +kernel
theorem dX9_removePrime_31 : decode cX9_removePrime 31 = .ok (.ireturn, 1) := by decide +kernel
theorem dX9_prime_0 : decode cX9_prime 0 = .ok (.aload_n 0, 1) := by decide +kernel
theorem dX9_prime_1 : decode cX9_prime 1 = .ok (.iload_n 1, 1) := by decide +kernel
theorem dX9_prime_2 : decode cX9_prime 2 = .ok (.invokevirtual 109, 3) := by decide +kernel
theorem dX9_prime_5 : decode cX9_prime 5 = .ok (.astore_n 3, 1) := by decide +kernel
theorem dX9_prime_6 : decode cX9_prime 6 = .ok (.iload_n 2, 1) := by decide +kernel
theorem dX9_prime_7 : decode cX9_prime 7 = .ok (.ifCond .lt 12, 3) := by decide +kernel
theorem dX9_prime_10 : decode cX9_prime 10 = .ok (.iload_n 2, 1) := by decide +kernel
theorem dX9_prime_11 : decode cX9_prime 11 = .ok (.iconst 4, 1) := by decide +kernel
theorem dX9_prime_12 : decode cX9_prime 12 = .ok (.if_icmp .gt 7, 3) := by decide +kernel
theorem dX9_prime_15 : decode cX9_prime 15 = .ok (.iconst 1, 1) := by decide +kernel
theorem dX9_prime_16 : decode cX9_prime 16 = .ok (.goto 4, 3) := by decide +kernel
theorem dX9_prime_19 : decode cX9_prime 19 = .ok (.iconst 0, 1) := by decide +kernel
theorem dX9_prime_20 : decode cX9_prime 20 = .ok (.invokestatic 70, 3) := by decide +kernel
theorem dX9_prime_23 : decode cX9_prime 23 = .ok (.iload_n 2, 1) := by decide +kernel
theorem dX9_prime_24 : decode cX9_prime 24 = .ok (.tableswitch 52 0 3 #[32, 37, 42, 47], 32) := by decide +kernel
theorem dX9_prime_56 : decode cX9_prime 56 = .ok (.aload_n 3, 1) := by decide +kernel
theorem dX9_prime_57 : decode cX9_prime 57 = .ok (.getfield 113, 3) := by decide +kernel
theorem dX9_prime_60 : decode cX9_prime 60 = .ok (.ireturn, 1) := by decide +kernel
theorem dX9_prime_61 : decode cX9_prime 61 = .ok (.aload_n 3, 1) := by decide +kernel
theorem dX9_prime_62 : decode cX9_prime 62 = .ok (.getfield 118, 3) := by decide +kernel
theorem dX9_prime_65 : decode cX9_prime 65 = .ok (.ireturn, 1) := by decide +kernel
theorem dX9_prime_66 : decode cX9_prime 66 = .ok (.aload_n 3, 1) := by decide +kernel
theorem dX9_prime_67 : decode cX9_prime 67 = .ok (.invokevirtual 121, 3) := by decide +kernel
theorem dX9_prime_70 : decode cX9_prime 70 = .ok (.ireturn, 1) := by decide +kernel
theorem dX9_prime_71 : decode cX9_prime 71 = .ok (.aload_n 3, 1) := by decide +kernel
theorem dX9_prime_72 : decode cX9_prime 72 = .ok (.getfield 125, 3) := by decide +kernel
theorem dX9_prime_75 : decode cX9_prime 75 = .ok (.ireturn, 1) := by decide +kernel
theorem dX9_prime_76 : decode cX9_prime 76 = .ok (.aload_n 3, 1) := by decide +kernel
theorem dX9_prime_77 : decode cX9_prime 77 = .ok (.invokevirtual 128, 3) := by decide +kernel
theorem dX9_prime_80 : decode cX9_prime 80 = .ok (.ireturn, 1) := by decide +kernel
theorem dX9_root_0 : decode cX9_root 0 = .ok (.aload_n 0, 1) := by decide +kernel
theorem dX9_root_1 : decode cX9_root 1 = .ok (.iload_n 1, 1) := by decide +kernel
theorem dX9_root_2 : decode cX9_root 2 = .ok (.invokevirtual 109, 3) := by decide +kernel
theorem dX9_root_5 : decode cX9_root 5 = .ok (.astore_n 3, 1) := by decide +kernel
theorem dX9_root_6 : decode cX9_root 6 = .ok (.iload_n 2, 1) := by decide +kernel
theorem dX9_root_7 : decode cX9_root 7 = .ok (.iconst 1, 1) := by decide +kernel
theorem dX9_root_8 : decode cX9_root 8 = .ok (.if_icmp .lt 17, 3) := by decide +kernel
theorem dX9_root_11 : decode cX9_root 11 = .ok (.iload_n 2, 1) := by decide +kernel
theorem dX9_root_12 : decode cX9_root 12 = .ok (.aload_n 3, 1) := by decide +kernel
theorem dX9_root_13 : decode cX9_root 13 = .ok (.getfield 113, 3) := by decide +kernel
theorem dX9_root_16 : decode cX9_root 16 = .ok (.iconst 1, 1) := by decide +kernel
theorem dX9_root_17 : decode cX9_root 17 = .ok (.isub, 1) := by decide +kernel
theorem dX9_root_18 : decode cX9_root 18 = .ok (.if_icmp .gt 7, 3) := by decide +kernel
theorem dX9_root_21 : decode cX9_root 21 = .ok (.iconst 1, 1) := by decide +kernel
theorem dX9_root_22 : decode cX9_root 22 = .ok (.goto 4, 3) := by decide +kernel
theorem dX9_root_25 : decode cX9_root 25 = .ok (.iconst 0, 1) := by decide +kernel
theorem dX9_root_26 : decode cX9_root 26 = .ok (.invokestatic 70, 3) := by decide +kernel
theorem dX9_root_29 : decode cX9_root 29 = .ok (.aload_n 3, 1) := by decide +kernel
theorem dX9_root_30 : decode cX9_root 30 = .ok (.iload_n 2, 1) := by decide +kernel
theorem dX9_root_31 : decode cX9_root 31 = .ok (.invokestatic 131, 3) := by decide +kernel
theorem dX9_root_34 : decode cX9_root 34 = .ok (.aload_n 3, 1) := by decide +kernel
theorem dX9_root_35 : decode cX9_root 35 = .ok (.iload_n 2, 1) := by decide +kernel
theorem dX9_root_36 : decode cX9_root 36 = .ok (.invokevirtual 135, 3) := by decide +kernel
theorem dX9_root_39 : decode cX9_root 39 = .ok (.ireturn, 1) := by decide +kernel
theorem dX9_power_0 : decode cX9_power 0 = .ok (.aload_n 0, 1) := by decide +kernel
theorem dX9_power_1 : decode cX9_power 1 = .ok (.iload_n 1, 1) := by decide +kernel
theorem dX9_power_2 : decode cX9_power 2 = .ok (.invokevirtual 109, 3) := by decide +kernel
theorem dX9_power_5 : decode cX9_power 5 = .ok (.astore 4, 2) := by decide +kernel
theorem dX9_power_7 : decode cX9_power 7 = .ok (.iload_n 3, 1) := by decide +kernel
theorem dX9_power_8 : decode cX9_power 8 = .ok (.ifCond .lt 7, 3) := by decide +kernel
theorem dX9_power_11 : decode cX9_power 11 = .ok (.iconst 1, 1) := by decide +kernel
theorem dX9_power_12 : decode cX9_power 12 = .ok (.goto 4, 3) := by decide +kernel
theorem dX9_power_15 : decode cX9_power 15 = .ok (.iconst 0, 1) := by decide +kernel
theorem dX9_power_16 : decode cX9_power 16 = .ok (.invokestatic 70, 3) := by decide +kernel
theorem dX9_power_19 : decode cX9_power 19 = .ok (.aload 4, 2) := by decide +kernel
theorem dX9_power_21 : decode cX9_power 21 = .ok (.aload 4, 2) := by decide +kernel
theorem dX9_power_23 : decode cX9_power 23 = .ok (.iload_n 2, 1) := by decide +kernel
theorem dX9_power_24 : decode cX9_power 24 = .ok (.i2l, 1) := by decide +kernel
theorem dX9_power_25 : decode cX9_power 25 = .ok (.invokevirtual 138, 3) := by decide +kernel
theorem dX9_power_28 : decode cX9_power 28 = .ok (.iload_n 3, 1) := by decide +kernel
theorem dX9_power_29 : decode cX9_power 29 = .ok (.invokevirtual 142, 3) := by decide +kernel
theorem dX9_power_32 : decode cX9_power 32 = .ok (.ireturn, 1) := by decide +kernel
theorem dX9_inverse_0 : decode cX9_inverse 0 = .ok (.aload_n 0, 1) := by decide +kernel
theorem dX9_inverse_1 : decode cX9_inverse 1 = .ok (.iload_n 1, 1) := by decide +kernel
theorem dX9_inverse_2 : decode cX9_inverse 2 = .ok (.invokevirtual 109, 3) := by decide +kernel
theorem dX9_inverse_5 : decode cX9_inverse 5 = .ok (.astore_n 3, 1) := by decide +kernel
theorem dX9_inverse_6 : decode cX9_inverse 6 = .ok (.aload_n 3, 1) := by decide +kernel
theorem dX9_inverse_7 : decode cX9_inverse 7 = .ok (.aload_n 3, 1) := by decide +kernel
theorem dX9_inverse_8 : decode cX9_inverse 8 = .ok (.iload_n 2, 1) := by decide +kernel
theorem dX9_inverse_9 : decode cX9_inverse 9 = .ok (.invokestatic 146, 3) := by decide +kernel
theorem dX9_inverse_12 : decode cX9_inverse 12 = .ok (.invokevirtual 150, 3) := by decide +kernel
theorem dX9_inverse_15 : decode cX9_inverse 15 = .ok (.ireturn, 1) := by decide +kernel
theorem dX9_order_0 : decode cX9_order 0 = .ok (.aload_n 0, 1) := by decide +kernel
theorem dX9_order_1 : decode cX9_order 1 = .ok (.iload_n 1, 1) := by decide +kernel
theorem dX9_order_2 : decode cX9_order 2 = .ok (.invokevirtual 109, 3) := by decide +kernel
theorem dX9_order_5 : decode cX9_order 5 = .ok (.astore_n 3, 1) := by decide +kernel
theorem dX9_order_6 : decode cX9_order 6 = .ok (.aload_n 3, 1) := by decide +kernel
theorem dX9_order_7 : decode cX9_order 7 = .ok (.aload_n 3, 1) := by decide +kernel
theorem dX9_order_8 : decode cX9_order 8 = .ok (.iload_n 2, 1) := by decide +kernel
theorem dX9_order_9 : decode cX9_order 9 = .ok (.invokestatic 146, 3) := by decide +kernel
theorem dX9_order_12 : decode cX9_order 12 = .ok (.invokevirtual 153, 3) := by decide +kernel
theorem dX9_order_15 : decode cX9_order 15 = .ok (.ireturn, 1) := by decide +kernel
theorem dX9_logarithm_0 : decode cX9_logarithm 0 = .ok (.aload_n 0, 1) := by decide +kernel
theorem dX9_logarithm_1 : decode cX9_logarithm 1 = .ok (.iload_n 1, 1) := by decide +kernel
theorem dX9_logarithm_2 : decode cX9_logarithm 2 = .ok (.invokevirtual 109, 3) := by decide +kernel
theorem dX9_logarithm_5 : decode cX9_logarithm 5 = .ok (.astore_n 3, 1) := by decide +kernel
theorem dX9_logarithm_6 : decode cX9_logarithm 6 = .ok (.aload_n 0, 1) := by decide +kernel
theorem dX9_logarithm_7 : decode cX9_logarithm 7 = .ok (.getfield 33, 3) := by decide +kernel
theorem dX9_logarithm_10 : decode cX9_logarithm 10 = .ok (.aload_n 3, 1) := by decide +kernel
theorem dX9_logarithm_11 : decode cX9_logarithm 11 = .ok (.aload_n 3, 1) := by decide +kernel
theorem dX9_logarithm_12 : decode cX9_logarithm 12 = .ok (.iload_n 2, 1) := by decide +kernel
theorem dX9_logarithm_13 : decode cX9_logarithm 13 = .ok (.invokestatic 146, 3) := by decide +kernel
theorem dX9_logarithm_16 : decode cX9_logarithm 16 = .ok (.invokevirtual 156, 3) := by decide +kernel
theorem dX9_logarithm_19 : decode cX9_logarithm 19 = .ok (.ireturn, 1) := by decide +kernel
theorem dX9_primeFor_0 : decode cX9_primeFor 0 = .ok (.iload_n 1, 1) := by decide +kernel
theorem dX9_primeFor_1 : decode cX9_primeFor 1 = .ok (.iconst 1, 1) := by decide +kernel
theorem dX9_primeFor_2 : decode cX9_primeFor 2 = .ok (.if_icmp .lt 25, 3) := by decide +kernel
theorem dX9_primeFor_5 : decode cX9_primeFor 5 = .ok (.iload_n 1, 1) := by decide +kernel
theorem dX9_primeFor_6 : decode cX9_primeFor 6 = .ok (.sipush 128, 3) := by decide +kernel
theorem dX9_primeFor_9 : decode cX9_primeFor 9 = .ok (.if_icmp .gt 18, 3) := by decide +kernel
theorem dX9_primeFor_12 : decode cX9_primeFor 12 = .ok (.iload_n 2, 1) := by decide +kernel
theorem dX9_primeFor_13 : decode cX9_primeFor 13 = .ok (.iconst 2, 1) := by decide +kernel
theorem dX9_primeFor_14 : decode cX9_primeFor 14 = .ok (.if_icmp .lt 13, 3) := by decide +kernel
theorem dX9_primeFor_17 : decode cX9_primeFor 17 = .ok (.iload_n 2, 1) := by decide +kernel
theorem dX9_primeFor_18 : decode cX9_primeFor 18 = .ok (.ldc 159, 2) := by decide +kernel
theorem dX9_primeFor_20 : decode cX9_primeFor 20 = .ok (.if_icmp .ge 7, 3) := by decide +kernel
theorem dX9_primeFor_23 : decode cX9_primeFor 23 = .ok (.iconst 1, 1) := by decide +kernel
theorem dX9_primeFor_24 : decode cX9_primeFor 24 = .ok (.goto 4, 3) := by decide +kernel
theorem dX9_primeFor_27 : decode cX9_primeFor 27 = .ok (.iconst 0, 1) := by decide +kernel
theorem dX9_primeFor_28 : decode cX9_primeFor 28 = .ok (.invokestatic 70, 3) := by decide +kernel
theorem dX9_primeFor_31 : decode cX9_primeFor 31 = .ok (.iload_n 1, 1) := by decide +kernel
theorem dX9_primeFor_32 : decode cX9_primeFor 32 = .ok (.iload_n 2, 1) := by decide +kernel
theorem dX9_primeFor_33 : decode cX9_primeFor 33 = .ok (.invokestatic 160, 3) := by decide +kernel
theorem dX9_primeFor_36 : decode cX9_primeFor 36 = .ok (.istore_n 3, 1) := by decide +kernel
theorem dX9_primeFor_37 : decode cX9_primeFor 37 = .ok (.iload_n 3, 1) := by decide +kernel
theorem dX9_primeFor_38 : decode cX9_primeFor 38 = .ok (.iconst (-1), 1) := by decide +kernel
theorem dX9_primeFor_39 : decode cX9_primeFor 39 = .ok (.if_icmp .ne 13, 3) := by decide +kernel
theorem dX9_primeFor_42 : decode cX9_primeFor 42 = .ok (.new 163, 3) := by decide +kernel
theorem dX9_primeFor_45 : decode cX9_primeFor 45 = .ok (.dup, 1) := by decide +kernel
theorem dX9_primeFor_46 : decode cX9_primeFor 46 = .ok (.ldc 165, 2) := by decide +kernel
theorem dX9_primeFor_48 : decode cX9_primeFor 48 = .ok (.invokespecial 167, 3) := by decide +kernel
theorem dX9_primeFor_51 : decode cX9_primeFor 51 = .ok (.athrow, 1) := by decide +kernel
theorem dX9_primeFor_52 : decode cX9_primeFor 52 = .ok (.iload_n 3, 1) := by decide +kernel
theorem dX9_primeFor_53 : decode cX9_primeFor 53 = .ok (.ireturn, 1) := by decide +kernel
theorem dX9_usable_0 : decode cX9_usable 0 = .ok (.iload_n 1, 1) := by decide +kernel
theorem dX9_usable_1 : decode cX9_usable 1 = .ok (.invokestatic 168, 3) := by decide +kernel
theorem dX9_usable_4 : decode cX9_usable 4 = .ok (.ifCond .eq 14, 3) := by decide +kernel
theorem dX9_usable_7 : decode cX9_usable 7 = .ok (.iload_n 2, 1) := by decide +kernel
theorem dX9_usable_8 : decode cX9_usable 8 = .ok (.invokestatic 171, 3) := by decide +kernel
theorem dX9_usable_11 : decode cX9_usable 11 = .ok (.ifCond .eq 7, 3) := by decide +kernel
theorem dX9_usable_14 : decode cX9_usable 14 = .ok (.iconst 1, 1) := by decide +kernel
theorem dX9_usable_15 : decode cX9_usable 15 = .ok (.goto 4, 3) := by decide +kernel
theorem dX9_usable_18 : decode cX9_usable 18 = .ok (.iconst 0, 1) := by decide +kernel
theorem dX9_usable_19 : decode cX9_usable 19 = .ok (.invokestatic 70, 3) := by decide +kernel
theorem dX9_usable_22 : decode cX9_usable 22 = .ok (.aload_n 0, 1) := by decide +kernel
theorem dX9_usable_23 : decode cX9_usable 23 = .ok (.getfield 10, 3) := by decide +kernel
theorem dX9_usable_26 : decode cX9_usable 26 = .ok (.iload_n 1, 1) := by decide +kernel
theorem dX9_usable_27 : decode cX9_usable 27 = .ok (.iload_n 2, 1) := by decide +kernel
theorem dX9_usable_28 : decode cX9_usable 28 = .ok (.invokevirtual 174, 3) := by decide +kernel
theorem dX9_usable_31 : decode cX9_usable 31 = .ok (.ireturn, 1) := by decide +kernel
theorem dX9_length_0 : decode cX9_length 0 = .ok (.aload_n 0, 1) := by decide +kernel
theorem dX9_length_1 : decode cX9_length 1 = .ok (.iload_n 1, 1) := by decide +kernel
theorem dX9_length_2 : decode cX9_length 2 = .ok (.invokevirtual 177, 3) := by decide +kernel
theorem dX9_length_5 : decode cX9_length 5 = .ok (.getfield 181, 3) := by decide +kernel
theorem dX9_length_8 : decode cX9_length 8 = .ok (.ireturn, 1) := by decide +kernel
theorem dX9_term_0 : decode cX9_term 0 = .ok (.aload_n 0, 1) := by decide +kernel
theorem dX9_term_1 : decode cX9_term 1 = .ok (.iload_n 1, 1) := by decide +kernel
theorem dX9_term_2 : decode cX9_term 2 = .ok (.invokevirtual 177, 3) := by decide +kernel
theorem dX9_term_5 : decode cX9_term 5 = .ok (.astore_n 3, 1) := by decide +kernel
theorem dX9_term_6 : decode cX9_term 6 = .ok (.iload_n 2, 1) := by decide +kernel
theorem dX9_term_7 : decode cX9_term 7 = .ok (.ifCond .lt 11, 3) := by decide +kernel
theorem dX9_term_10 : decode cX9_term 10 = .ok (.iload_n 2, 1) := by decide +kernel
theorem dX9_term_11 : decode cX9_term 11 = .ok (.aload_n 3, 1) := by decide +kernel
theorem dX9_term_12 : decode cX9_term 12 = .ok (.getfield 181, 3) := by decide +kernel
theorem dX9_term_15 : decode cX9_term 15 = .ok (.if_icmp .lt 13, 3) := by decide +kernel
theorem dX9_term_18 : decode cX9_term 18 = .ok (.new 186, 3) := by decide +kernel
theorem dX9_term_21 : decode cX9_term 21 = .ok (.dup, 1) := by decide +kernel
theorem dX9_term_22 : decode cX9_term 22 = .ok (.ldc 188, 2) := by decide +kernel
theorem dX9_term_24 : decode cX9_term 24 = .ok (.invokespecial 190, 3) := by decide +kernel
theorem dX9_term_27 : decode cX9_term 27 = .ok (.athrow, 1) := by decide +kernel
theorem dX9_term_28 : decode cX9_term 28 = .ok (.aload_n 3, 1) := by decide +kernel
theorem dX9_term_29 : decode cX9_term 29 = .ok (.getfield 191, 3) := by decide +kernel
theorem dX9_term_32 : decode cX9_term 32 = .ok (.iload_n 2, 1) := by decide +kernel
theorem dX9_term_33 : decode cX9_term 33 = .ok (.iaload, 1) := by decide +kernel
theorem dX9_term_34 : decode cX9_term 34 = .ok (.ireturn, 1) := by decide +kernel
theorem dX9_setSequence_0 : decode cX9_setSequence 0 = .ok (.aload_n 0, 1) := by decide +kernel
theorem dX9_setSequence_1 : decode cX9_setSequence 1 = .ok (.iload_n 1, 1) := by decide +kernel
theorem dX9_setSequence_2 : decode cX9_setSequence 2 = .ok (.invokevirtual 177, 3) := by decide +kernel
theorem dX9_setSequence_5 : decode cX9_setSequence 5 = .ok (.astore 5, 2) := by decide +kernel
theorem dX9_setSequence_7 : decode cX9_setSequence 7 = .ok (.iload_n 2, 1) := by decide +kernel
theorem dX9_setSequence_8 : decode cX9_setSequence 8 = .ok (.ifCond .lt 26, 3) := by decide +kernel
theorem dX9_setSequence_11 : decode cX9_setSequence 11 = .ok (.iload_n 2, 1) := by decide +kernel
theorem dX9_setSequence_12 : decode cX9_setSequence 12 = .ok (.bipush 32, 2) := by decide +kernel
theorem dX9_setSequence_14 : decode cX9_setSequence 14 = .ok (.if_icmp .gt 20, 3) := by decide +kernel
theorem dX9_setSequence_17 : decode cX9_setSequence 17 = .ok (.iload 4, 2) := by decide +kernel
theorem dX9_setSequence_19 : decode cX9_setSequence 19 = .ok (.i2l, 1) := by decide +kernel
theorem dX9_setSequence_20 : decode cX9_setSequence 20 = .ok (.invokestatic 195, 3) := by decide +kernel
theorem dX9_setSequence_23 : decode cX9_setSequence 23 = .ok (.ldc2_w 201, 3) := by decide +kernel
theorem dX9_setSequence_26 : decode cX9_setSequence 26 = .ok (.lcmp, 1) := by decide +kernel
theorem dX9_setSequence_27 : decode cX9_setSequence 27 = .ok (.ifCond .gt 7, 3) := by decide +kernel
theorem dX9_setSequence_30 : decode cX9_setSequence 30 = .ok (.iconst 1, 1) := by decide +kernel
theorem dX9_setSequence_31 : decode cX9_setSequence 31 = .ok (.goto 4, 3) := by decide +kernel
theorem dX9_setSequence_34 : decode cX9_setSequence 34 = .ok (.iconst 0, 1) := by decide +kernel
theorem dX9_setSequence_35 : decode cX9_setSequence 35 = .ok (.invokestatic 70, 3) := by decide +kernel
theorem dX9_setSequence_38 : decode cX9_setSequence 38 = .ok (.iload_n 2, 1) := by decide +kernel
theorem dX9_setSequence_39 : decode cX9_setSequence 39 = .ok (.ifCond .eq 28, 3) := by decide +kernel
theorem dX9_setSequence_42 : decode cX9_setSequence 42 = .ok (.iload_n 3, 1) := by decide +kernel
theorem dX9_setSequence_43 : decode cX9_setSequence 43 = .ok (.i2l, 1) := by decide +kernel
theorem dX9_setSequence_44 : decode cX9_setSequence 44 = .ok (.invokestatic 203, 3) := by decide +kernel
theorem dX9_setSequence_47 : decode cX9_setSequence 47 = .ok (.ifCond .eq 24, 3) := by decide +kernel
theorem dX9_setSequence_50 : decode cX9_setSequence 50 = .ok (.iload_n 3, 1) := by decide +kernel
theorem dX9_setSequence_51 : decode cX9_setSequence 51 = .ok (.i2l, 1) := by decide +kernel
theorem dX9_setSequence_52 : decode cX9_setSequence 52 = .ok (.iload_n 2, 1) := by decide +kernel
theorem dX9_setSequence_53 : decode cX9_setSequence 53 = .ok (.i2l, 1) := by decide +kernel
theorem dX9_setSequence_54 : decode cX9_setSequence 54 = .ok (.lconst 1, 1) := by decide +kernel
theorem dX9_setSequence_55 : decode cX9_setSequence 55 = .ok (.lsub, 1) := by decide +kernel
theorem dX9_setSequence_56 : decode cX9_setSequence 56 = .ok (.iload 4, 2) := by decide +kernel
theorem dX9_setSequence_58 : decode cX9_setSequence 58 = .ok (.i2l, 1) := by decide +kernel
theorem dX9_setSequence_59 : decode cX9_setSequence 59 = .ok (.lmul, 1) := by decide +kernel
theorem dX9_setSequence_60 : decode cX9_setSequence 60 = .ok (.ladd, 1) := by decide +kernel
theorem dX9_setSequence_61 : decode cX9_setSequence 61 = .ok (.invokestatic 203, 3) := by decide +kernel
theorem dX9_setSequence_64 : decode cX9_setSequence 64 = .ok (.ifCond .eq 7, 3) := by decide +kernel
theorem dX9_setSequence_67 : decode cX9_setSequence 67 = .ok (.iconst 1, 1) := by decide +kernel
theorem dX9_setSequence_68 : decode cX9_setSequence 68 = .ok (.goto 4, 3) := by decide +kernel
theorem dX9_setSequence_71 : decode cX9_setSequence 71 = .ok (.iconst 0, 1) := by decide +kernel
theorem dX9_setSequence_72 : decode cX9_setSequence 72 = .ok (.invokestatic 70, 3) := by decide +kernel
theorem dX9_setSequence_75 : decode cX9_setSequence 75 = .ok (.aload_n 0, 1) := by decide +kernel
theorem dX9_setSequence_76 : decode cX9_setSequence 76 = .ok (.getfield 19, 3) := by decide +kernel
theorem dX9_setSequence_79 : decode cX9_setSequence 79 = .ok (.aload_n 0, 1) := by decide +kernel
theorem dX9_setSequence_80 : decode cX9_setSequence 80 = .ok (.getfield 10, 3) := by decide +kernel
theorem dX9_setSequence_83 : decode cX9_setSequence 83 = .ok (.invokevirtual 78, 3) := by decide +kernel
theorem dX9_setSequence_86 : decode cX9_setSequence 86 = .ok (.aload 5, 2) := by decide +kernel
theorem dX9_setSequence_88 : decode cX9_setSequence 88 = .ok (.getfield 181, 3) := by decide +kernel
theorem dX9_setSequence_91 : decode cX9_setSequence 91 = .ok (.istore 6, 2) := by decide +kernel
theorem dX9_setSequence_93 : decode cX9_setSequence 93 = .ok (.aload 5, 2) := by decide +kernel
theorem dX9_setSequence_95 : decode cX9_setSequence 95 = .ok (.iload_n 2, 1) := by decide +kernel
theorem dX9_setSequence_96 : decode cX9_setSequence 96 = .ok (.iload_n 3, 1) := by decide +kernel
theorem dX9_setSequence_97 : decode cX9_setSequence 97 = .ok (.iload 4, 2) := by decide +kernel
theorem dX9_setSequence_99 : decode cX9_setSequence 99 = .ok (.invokevirtual 207, 3) := by decide +kernel
theorem dX9_setSequence_102 : decode cX9_setSequence 102 = .ok (.iload 6, 2) := by decide +kernel
theorem dX9_setSequence_104 : decode cX9_setSequence 104 = .ok (.ireturn, 1) := by decide +kernel
theorem dX9_append_0 : decode cX9_append 0 = .ok (.aload_n 0, 1) := by decide +kernel
theorem dX9_append_1 : decode cX9_append 1 = .ok (.iload_n 1, 1) := by decide +kernel
theorem dX9_append_2 : decode cX9_append 2 = .ok (.invokevirtual 177, 3) := by decide +kernel
theorem dX9_append_5 : decode cX9_append 5 = .ok (.astore_n 3, 1) := by decide +kernel
theorem dX9_append_6 : decode cX9_append 6 = .ok (.iload_n 2, 1) := by decide +kernel
theorem dX9_append_7 : decode cX9_append 7 = .ok (.i2l, 1) := by decide +kernel
theorem dX9_append_8 : decode cX9_append 8 = .ok (.invokestatic 203, 3) := by decide +kernel
theorem dX9_append_11 : decode cX9_append 11 = .ok (.invokestatic 70, 3) := by decide +kernel
theorem dX9_append_14 : decode cX9_append 14 = .ok (.aload_n 3, 1) := by decide +kernel
theorem dX9_append_15 : decode cX9_append 15 = .ok (.invokevirtual 211, 3) := by decide +kernel
theorem dX9_append_18 : decode cX9_append 18 = .ok (.ifCond .eq 13, 3) := by decide +kernel
theorem dX9_append_21 : decode cX9_append 21 = .ok (.new 55, 3) := by decide +kernel
theorem dX9_append_24 : decode cX9_append 24 = .ok (.dup, 1) := by decide +kernel
theorem dX9_append_25 : decode cX9_append 25 = .ok (.ldc 214, 2) := by decide +kernel
theorem dX9_append_27 : decode cX9_append 27 = .ok (.invokespecial 59, 3) := by decide +kernel
theorem dX9_append_30 : decode cX9_append 30 = .ok (.athrow, 1) := by decide +kernel
theorem dX9_append_31 : decode cX9_append 31 = .ok (.aload_n 0, 1) := by decide +kernel
theorem dX9_append_32 : decode cX9_append 32 = .ok (.getfield 19, 3) := by decide +kernel
theorem dX9_append_35 : decode cX9_append 35 = .ok (.aload_n 0, 1) := by decide +kernel
theorem dX9_append_36 : decode cX9_append 36 = .ok (.getfield 10, 3) := by decide +kernel
theorem dX9_append_39 : decode cX9_append 39 = .ok (.invokevirtual 78, 3) := by decide +kernel
theorem dX9_append_42 : decode cX9_append 42 = .ok (.aload_n 3, 1) := by decide +kernel
theorem dX9_append_43 : decode cX9_append 43 = .ok (.iload_n 2, 1) := by decide +kernel
theorem dX9_append_44 : decode cX9_append 44 = .ok (.invokevirtual 216, 3) := by decide +kernel
theorem dX9_append_47 : decode cX9_append 47 = .ok (.aload_n 3, 1) := by decide +kernel
theorem dX9_append_48 : decode cX9_append 48 = .ok (.getfield 181, 3) := by decide +kernel
theorem dX9_append_51 : decode cX9_append 51 = .ok (.ireturn, 1) := by decide +kernel
theorem dX9_cut_0 : decode cX9_cut 0 = .ok (.aload_n 0, 1) := by decide +kernel
theorem dX9_cut_1 : decode cX9_cut 1 = .ok (.iload_n 1, 1) := by decide +kernel
theorem dX9_cut_2 : decode cX9_cut 2 = .ok (.invokevirtual 177, 3) := by decide +kernel
theorem dX9_cut_5 : decode cX9_cut 5 = .ok (.astore_n 3, 1) := by decide +kernel
theorem dX9_cut_6 : decode cX9_cut 6 = .ok (.iload_n 2, 1) := by decide +kernel
theorem dX9_cut_7 : decode cX9_cut 7 = .ok (.ifCond .lt 15, 3) := by decide +kernel
theorem dX9_cut_10 : decode cX9_cut 10 = .ok (.iload_n 2, 1) := by decide +kernel
theorem dX9_cut_11 : decode cX9_cut 11 = .ok (.aload_n 3, 1) := by decide +kernel
theorem dX9_cut_12 : decode cX9_cut 12 = .ok (.getfield 181, 3) := by decide +kernel
theorem dX9_cut_15 : decode cX9_cut 15 = .ok (.if_icmp .gt 7, 3) := by decide +kernel
theorem dX9_cut_18 : decode cX9_cut 18 = .ok (.iconst 1, 1) := by decide +kernel
theorem dX9_cut_19 : decode cX9_cut 19 = .ok (.goto 4, 3) := by decide +kernel
theorem dX9_cut_22 : decode cX9_cut 22 = .ok (.iconst 0, 1) := by decide +kernel
theorem dX9_cut_23 : decode cX9_cut 23 = .ok (.invokestatic 70, 3) := by decide +kernel
theorem dX9_cut_26 : decode cX9_cut 26 = .ok (.aload_n 0, 1) := by decide +kernel
theorem dX9_cut_27 : decode cX9_cut 27 = .ok (.getfield 19, 3) := by decide +kernel
theorem dX9_cut_30 : decode cX9_cut 30 = .ok (.aload_n 0, 1) := by decide +kernel
theorem dX9_cut_31 : decode cX9_cut 31 = .ok (.getfield 10, 3) := by decide +kernel
theorem dX9_cut_34 : decode cX9_cut 34 = .ok (.invokevirtual 78, 3) := by decide +kernel
theorem dX9_cut_37 : decode cX9_cut 37 = .ok (.aload_n 3, 1) := by decide +kernel
theorem dX9_cut_38 : decode cX9_cut 38 = .ok (.getfield 181, 3) := by decide +kernel
theorem dX9_cut_41 : decode cX9_cut 41 = .ok (.iload_n 2, 1) := by decide +kernel
theorem dX9_cut_42 : decode cX9_cut 42 = .ok (.isub, 1) := by decide +kernel
theorem dX9_cut_43 : decode cX9_cut 43 = .ok (.istore 4, 2) := by decide +kernel
theorem dX9_cut_45 : decode cX9_cut 45 = .ok (.aload_n 3, 1) := by decide +kernel
theorem dX9_cut_46 : decode cX9_cut 46 = .ok (.iload_n 2, 1) := by decide +kernel
theorem dX9_cut_47 : decode cX9_cut 47 = .ok (.putfield 181, 3) := by decide +kernel
theorem dX9_cut_50 : decode cX9_cut 50 = .ok (.iload 4, 2) := by decide +kernel
theorem dX9_cut_52 : decode cX9_cut 52 = .ok (.ireturn, 1) := by decide +kernel
theorem dX9_swap_0 : decode cX9_swap 0 = .ok (.aload_n 0, 1) := by decide +kernel
theorem dX9_swap_1 : decode cX9_swap 1 = .ok (.iload_n 1, 1) := by decide +kernel
theorem dX9_swap_2 : decode cX9_swap 2 = .ok (.invokevirtual 219, 3) := by decide +kernel
theorem dX9_swap_5 : decode cX9_swap 5 = .ok (.aload_n 0, 1) := by decide +kernel
theorem dX9_swap_6 : decode cX9_swap 6 = .ok (.iload_n 2, 1) := by decide +kernel
theorem dX9_swap_7 : decode cX9_swap 7 = .ok (.invokevirtual 219, 3) := by decide +kernel
theorem dX9_swap_10 : decode cX9_swap 10 = .ok (.aload_n 0, 1) := by decide +kernel
theorem dX9_swap_11 : decode cX9_swap 11 = .ok (.getfield 19, 3) := by decide +kernel
theorem dX9_swap_14 : decode cX9_swap 14 = .ok (.aload_n 0, 1) := by decide +kernel
theorem dX9_swap_15 : decode cX9_swap 15 = .ok (.getfield 10, 3) := by decide +kernel
theorem dX9_swap_18 : decode cX9_swap 18 = .ok (.invokevirtual 78, 3) := by decide +kernel
theorem dX9_swap_21 : decode cX9_swap 21 = .ok (.aload_n 0, 1) := by decide +kernel
theorem dX9_swap_22 : decode cX9_swap 22 = .ok (.getfield 10, 3) := by decide +kernel
theorem dX9_swap_25 : decode cX9_swap 25 = .ok (.iload_n 1, 1) := by decide +kernel
theorem dX9_swap_26 : decode cX9_swap 26 = .ok (.iload_n 2, 1) := by decide +kernel
theorem dX9_swap_27 : decode cX9_swap 27 = .ok (.invokevirtual 222, 3) := by decide +kernel
theorem dX9_swap_30 : decode cX9_swap 30 = .ok (.aload_n 0, 1) := by decide +kernel
theorem dX9_swap_31 : decode cX9_swap 31 = .ok (.iload_n 1, 1) := by decide +kernel
theorem dX9_swap_32 : decode cX9_swap 32 = .ok (.invokevirtual 177, 3) := by decide +kernel
theorem dX9_swap_35 : decode cX9_swap 35 = .ok (.getfield 181, 3) := by decide +kernel
theorem dX9_swap_38 : decode cX9_swap 38 = .ok (.ireturn, 1) := by decide +kernel
theorem dX9_transform_0 : decode cX9_transform 0 = .ok (.aload_n 0, 1) := by decide +kernel
theorem dX9_transform_1 : decode cX9_transform 1 = .ok (.iload_n 1, 1) := by decide +kernel
theorem dX9_transform_2 : decode cX9_transform 2 = .ok (.invokevirtual 109, 3) := by decide +kernel
theorem dX9_transform_5 : decode cX9_transform 5 = .ok (.astore 5, 2) := by decide +kernel
theorem dX9_transform_7 : decode cX9_transform 7 = .ok (.aload_n 0, 1) := by decide +kernel
theorem dX9_transform_8 : decode cX9_transform 8 = .ok (.iload_n 2, 1) := by decide +kernel
theorem dX9_transform_9 : decode cX9_transform 9 = .ok (.invokevirtual 177, 3) := by decide +kernel
theorem dX9_transform_12 : decode cX9_transform 12 = .ok (.astore 6, 2) := by decide +kernel
theorem dX9_transform_14 : decode cX9_transform 14 = .ok (.iload_n 3, 1) := by decide +kernel
theorem dX9_transform_15 : decode cX9_transform 15 = .ok (.invokestatic 171, 3) := by decide +kernel
theorem dX9_transform_18 : decode cX9_transform 18 = .ok (.ifCond .eq 18, 3) := by decide +kernel
theorem dX9_transform_21 : decode cX9_transform 21 = .ok (.iload 4, 2) := by decide +kernel
theorem dX9_transform_23 : decode cX9_transform 23 = .ok (.ifCond .lt 13, 3) := by decide +kernel
theorem dX9_transform_26 : decode cX9_transform 26 = .ok (.iload 4, 2) := by decide +kernel
theorem dX9_transform_28 : decode cX9_transform 28 = .ok (.iload_n 3, 1) := by decide +kernel
theorem dX9_transform_29 : decode cX9_transform 29 = .ok (.if_icmp .ge 7, 3) := by decide +kernel
theorem dX9_transform_32 : decode cX9_transform 32 = .ok (.iconst 1, 1) := by decide +kernel
theorem dX9_transform_33 : decode cX9_transform 33 = .ok (.goto 4, 3) := by decide +kernel
theorem dX9_transform_36 : decode cX9_transform 36 = .ok (.iconst 0, 1) := by decide +kernel
theorem dX9_transform_37 : decode cX9_transform 37 = .ok (.invokestatic 70, 3) := by decide +kernel
theorem dX9_transform_40 : decode cX9_transform 40 = .ok (.aload 5, 2) := by decide +kernel
theorem dX9_transform_42 : decode cX9_transform 42 = .ok (.iload_n 3, 1) := by decide +kernel
theorem dX9_transform_43 : decode cX9_transform 43 = .ok (.invokestatic 131, 3) := by decide +kernel
theorem dX9_transform_46 : decode cX9_transform 46 = .ok (.aload 5, 2) := by decide +kernel
theorem dX9_transform_48 : decode cX9_transform 48 = .ok (.aload 5, 2) := by decide +kernel
theorem dX9_transform_50 : decode cX9_transform 50 = .ok (.iload_n 3, 1) := by decide +kernel
theorem dX9_transform_51 : decode cX9_transform 51 = .ok (.invokevirtual 135, 3) := by decide +kernel
theorem dX9_transform_54 : decode cX9_transform 54 = .ok (.iload 4, 2) := by decide +kernel
theorem dX9_transform_56 : decode cX9_transform 56 = .ok (.invokevirtual 142, 3) := by decide +kernel
theorem dX9_transform_59 : decode cX9_transform 59 = .ok (.istore 7, 2) := by decide +kernel
theorem dX9_transform_61 : decode cX9_transform 61 = .ok (.aload 5, 2) := by decide +kernel
theorem dX9_transform_63 : decode cX9_transform 63 = .ok (.aload 6, 2) := by decide +kernel
theorem dX9_transform_65 : decode cX9_transform 65 = .ok (.getfield 191, 3) := by decide +kernel
theorem dX9_transform_68 : decode cX9_transform 68 = .ok (.aload 6, 2) := by decide +kernel
theorem dX9_transform_70 : decode cX9_transform 70 = .ok (.getfield 181, 3) := by decide +kernel
theorem dX9_transform_73 : decode cX9_transform 73 = .ok (.iload 7, 2) := by decide +kernel
theorem dX9_transform_75 : decode cX9_transform 75 = .ok (.invokevirtual 226, 3) := by decide +kernel
theorem dX9_transform_78 : decode cX9_transform 78 = .ok (.ireturn, 1) := by decide +kernel
theorem dX9_cost_0 : decode cX9_cost 0 = .ok (.aload_n 0, 1) := by decide +kernel
theorem dX9_cost_1 : decode cX9_cost 1 = .ok (.iload_n 1, 1) := by decide +kernel
theorem dX9_cost_2 : decode cX9_cost 2 = .ok (.invokevirtual 109, 3) := by decide +kernel
theorem dX9_cost_5 : decode cX9_cost 5 = .ok (.astore 4, 2) := by decide +kernel
theorem dX9_cost_7 : decode cX9_cost 7 = .ok (.iload_n 2, 1) := by decide +kernel
theorem dX9_cost_8 : decode cX9_cost 8 = .ok (.invokestatic 171, 3) := by decide +kernel
theorem dX9_cost_11 : decode cX9_cost 11 = .ok (.ifCond .eq 16, 3) := by decide +kernel
theorem dX9_cost_14 : decode cX9_cost 14 = .ok (.iload_n 3, 1) := by decide +kernel
theorem dX9_cost_15 : decode cX9_cost 15 = .ok (.ifCond .lt 12, 3) := by decide +kernel
theorem dX9_cost_18 : decode cX9_cost 18 = .ok (.iload_n 3, 1) := by decide +kernel
theorem dX9_cost_19 : decode cX9_cost 19 = .ok (.iconst 2, 1) := by decide +kernel
theorem dX9_cost_20 : decode cX9_cost 20 = .ok (.if_icmp .gt 7, 3) := by decide +kernel
theorem dX9_cost_23 : decode cX9_cost 23 = .ok (.iconst 1, 1) := by decide +kernel
theorem dX9_cost_24 : decode cX9_cost 24 = .ok (.goto 4, 3) := by decide +kernel
theorem dX9_cost_27 : decode cX9_cost 27 = .ok (.iconst 0, 1) := by decide +kernel
theorem dX9_cost_28 : decode cX9_cost 28 = .ok (.invokestatic 70, 3) := by decide +kernel
theorem dX9_cost_31 : decode cX9_cost 31 = .ok (.aload 4, 2) := by decide +kernel
theorem dX9_cost_33 : decode cX9_cost 33 = .ok (.iload_n 2, 1) := by decide +kernel
theorem dX9_cost_34 : decode cX9_cost 34 = .ok (.invokestatic 131, 3) := by decide +kernel
theorem dX9_cost_37 : decode cX9_cost 37 = .ok (.aload 4, 2) := by decide +kernel
theorem dX9_cost_39 : decode cX9_cost 39 = .ok (.iload_n 2, 1) := by decide +kernel
theorem dX9_cost_40 : decode cX9_cost 40 = .ok (.iload_n 3, 1) := by decide +kernel
theorem dX9_cost_41 : decode cX9_cost 41 = .ok (.invokestatic 230, 3) := by decide +kernel
theorem dX9_cost_44 : decode cX9_cost 44 = .ok (.ireturn, 1) := by decide +kernel
theorem dX9_method_0 : decode cX9_method 0 = .ok (.aload_n 0, 1) := by decide +kernel
theorem dX9_method_1 : decode cX9_method 1 = .ok (.iload_n 1, 1) := by decide +kernel
theorem dX9_method_2 : decode cX9_method 2 = .ok (.invokevirtual 109, 3) := by decide +kernel
theorem dX9_method_5 : decode cX9_method 5 = .ok (.astore_n 3, 1) := by decide +kernel
theorem dX9_method_6 : decode cX9_method 6 = .ok (.iload_n 2, 1) := by decide +kernel
theorem dX9_method_7 : decode cX9_method 7 = .ok (.invokestatic 171, 3) := by decide +kernel
theorem dX9_method_10 : decode cX9_method 10 = .ok (.invokestatic 70, 3) := by decide +kernel
theorem dX9_method_13 : decode cX9_method 13 = .ok (.aload_n 3, 1) := by decide +kernel
theorem dX9_method_14 : decode cX9_method 14 = .ok (.iload_n 2, 1) := by decide +kernel
theorem dX9_method_15 : decode cX9_method 15 = .ok (.invokestatic 131, 3) := by decide +kernel
theorem dX9_method_18 : decode cX9_method 18 = .ok (.aload_n 3, 1) := by decide +kernel
theorem dX9_method_19 : decode cX9_method 19 = .ok (.iload_n 2, 1) := by decide +kernel
theorem dX9_method_20 : decode cX9_method 20 = .ok (.invokestatic 234, 3) := by decide +kernel
theorem dX9_method_23 : decode cX9_method 23 = .ok (.ireturn, 1) := by decide +kernel
theorem dX9_chirp_0 : decode cX9_chirp 0 = .ok (.aload_n 0, 1) := by decide +kernel
theorem dX9_chirp_1 : decode cX9_chirp 1 = .ok (.iload_n 1, 1) := by decide +kernel
theorem dX9_chirp_2 : decode cX9_chirp 2 = .ok (.invokevirtual 109, 3) := by decide +kernel
theorem dX9_chirp_5 : decode cX9_chirp 5 = .ok (.astore 4, 2) := by decide +kernel
theorem dX9_chirp_7 : decode cX9_chirp 7 = .ok (.iload_n 2, 1) := by decide +kernel
theorem dX9_chirp_8 : decode cX9_chirp 8 = .ok (.invokestatic 171, 3) := by decide +kernel
theorem dX9_chirp_11 : decode cX9_chirp 11 = .ok (.ifCond .eq 18, 3) := by decide +kernel
theorem dX9_chirp_14 : decode cX9_chirp 14 = .ok (.iload_n 3, 1) := by decide +kernel
theorem dX9_chirp_15 : decode cX9_chirp 15 = .ok (.ifCond .lt 14, 3) := by decide +kernel
theorem dX9_chirp_18 : decode cX9_chirp 18 = .ok (.iload_n 3, 1) := by decide +kernel
theorem dX9_chirp_19 : decode cX9_chirp 19 = .ok (.iconst 2, 1) := by decide +kernel
theorem dX9_chirp_20 : decode cX9_chirp 20 = .ok (.iload_n 2, 1) := by decide +kernel
theorem dX9_chirp_21 : decode cX9_chirp 21 = .ok (.imul, 1) := by decide +kernel
theorem dX9_chirp_22 : decode cX9_chirp 22 = .ok (.if_icmp .gt 7, 3) := by decide +kernel
theorem dX9_chirp_25 : decode cX9_chirp 25 = .ok (.iconst 1, 1) := by decide +kernel
theorem dX9_chirp_26 : decode cX9_chirp 26 = .ok (.goto 4, 3) := by decide +kernel
theorem dX9_chirp_29 : decode cX9_chirp 29 = .ok (.iconst 0, 1) := by decide +kernel
theorem dX9_chirp_30 : decode cX9_chirp 30 = .ok (.invokestatic 70, 3) := by decide +kernel
theorem dX9_chirp_33 : decode cX9_chirp 33 = .ok (.aload 4, 2) := by decide +kernel
theorem dX9_chirp_35 : decode cX9_chirp 35 = .ok (.iload_n 2, 1) := by decide +kernel
theorem dX9_chirp_36 : decode cX9_chirp 36 = .ok (.invokestatic 131, 3) := by decide +kernel
theorem dX9_chirp_39 : decode cX9_chirp 39 = .ok (.aload 4, 2) := by decide +kernel
theorem dX9_chirp_41 : decode cX9_chirp 41 = .ok (.aload 4, 2) := by decide +kernel
theorem dX9_chirp_43 : decode cX9_chirp 43 = .ok (.iload_n 2, 1) := by decide +kernel
theorem dX9_chirp_44 : decode cX9_chirp 44 = .ok (.invokevirtual 135, 3) := by decide +kernel
theorem dX9_chirp_47 : decode cX9_chirp 47 = .ok (.iload_n 3, 1) := by decide +kernel
theorem dX9_chirp_48 : decode cX9_chirp 48 = .ok (.iload_n 3, 1) := by decide +kernel
theorem dX9_chirp_49 : decode cX9_chirp 49 = .ok (.iconst 1, 1) := by decide +kernel
theorem dX9_chirp_50 : decode cX9_chirp 50 = .ok (.isub, 1) := by decide +kernel
theorem dX9_chirp_51 : decode cX9_chirp 51 = .ok (.imul, 1) := by decide +kernel
theorem dX9_chirp_52 : decode cX9_chirp 52 = .ok (.iconst 2, 1) := by decide +kernel
theorem dX9_chirp_53 : decode cX9_chirp 53 = .ok (.idiv, 1) := by decide +kernel
theorem dX9_chirp_54 : decode cX9_chirp 54 = .ok (.invokevirtual 142, 3) := by decide +kernel
theorem dX9_chirp_57 : decode cX9_chirp 57 = .ok (.ireturn, 1) := by decide +kernel
theorem dX9_longest_0 : decode cX9_longest 0 = .ok (.aload_n 0, 1) := by decide +kernel
theorem dX9_longest_1 : decode cX9_longest 1 = .ok (.iload_n 1, 1) := by decide +kernel
theorem dX9_longest_2 : decode cX9_longest 2 = .ok (.invokevirtual 237, 3) := by decide +kernel
theorem dX9_longest_5 : decode cX9_longest 5 = .ok (.aload_n 0, 1) := by decide +kernel
theorem dX9_longest_6 : decode cX9_longest 6 = .ok (.getfield 10, 3) := by decide +kernel
theorem dX9_longest_9 : decode cX9_longest 9 = .ok (.iload_n 1, 1) := by decide +kernel
theorem dX9_longest_10 : decode cX9_longest 10 = .ok (.invokevirtual 240, 3) := by decide +kernel
theorem dX9_longest_13 : decode cX9_longest 13 = .ok (.ireturn, 1) := by decide +kernel
theorem dX9_size_0 : decode cX9_size 0 = .ok (.aload_n 0, 1) := by decide +kernel
theorem dX9_size_1 : decode cX9_size 1 = .ok (.iload_n 2, 1) := by decide +kernel
theorem dX9_size_2 : decode cX9_size 2 = .ok (.iload_n 3, 1) := by decide +kernel
theorem dX9_size_3 : decode cX9_size 3 = .ok (.invokevirtual 243, 3) := by decide +kernel
theorem dX9_size_6 : decode cX9_size 6 = .ok (.iload_n 1, 1) := by decide +kernel
theorem dX9_size_7 : decode cX9_size 7 = .ok (.aload_n 0, 1) := by decide +kernel
theorem dX9_size_8 : decode cX9_size 8 = .ok (.iload_n 2, 1) := by decide +kernel
theorem dX9_size_9 : decode cX9_size 9 = .ok (.invokevirtual 177, 3) := by decide +kernel
theorem dX9_size_12 : decode cX9_size 12 = .ok (.aload_n 0, 1) := by decide +kernel
theorem dX9_size_13 : decode cX9_size 13 = .ok (.iload_n 3, 1) := by decide +kernel
theorem dX9_size_14 : decode cX9_size 14 = .ok (.invokevirtual 177, 3) := by decide +kernel
theorem dX9_size_17 : decode cX9_size 17 = .ok (.iload 4, 2) := by decide +kernel
theorem dX9_size_19 : decode cX9_size 19 = .ok (.invokestatic 246, 3) := by decide +kernel
theorem dX9_size_22 : decode cX9_size 22 = .ok (.ireturn, 1) := by decide +kernel
theorem dX9_bound_0 : decode cX9_bound 0 = .ok (.aload_n 0, 1) := by decide +kernel
theorem dX9_bound_1 : decode cX9_bound 1 = .ok (.iload_n 1, 1) := by decide +kernel
theorem dX9_bound_2 : decode cX9_bound 2 = .ok (.iload_n 2, 1) := by decide +kernel
theorem dX9_bound_3 : decode cX9_bound 3 = .ok (.invokevirtual 243, 3) := by decide +kernel
theorem dX9_bound_6 : decode cX9_bound 6 = .ok (.aload_n 0, 1) := by decide +kernel
theorem dX9_bound_7 : decode cX9_bound 7 = .ok (.iload_n 1, 1) := by decide +kernel
theorem dX9_bound_8 : decode cX9_bound 8 = .ok (.invokevirtual 177, 3) := by decide +kernel
theorem dX9_bound_11 : decode cX9_bound 11 = .ok (.aload_n 0, 1) := by decide +kernel
theorem dX9_bound_12 : decode cX9_bound 12 = .ok (.iload_n 2, 1) := by decide +kernel
theorem dX9_bound_13 : decode cX9_bound 13 = .ok (.invokevirtual 177, 3) := by decide +kernel
theorem dX9_bound_16 : decode cX9_bound 16 = .ok (.invokestatic 250, 3) := by decide +kernel
theorem dX9_bound_19 : decode cX9_bound 19 = .ok (.lreturn, 1) := by decide +kernel
theorem dX9_coefficient_0 : decode cX9_coefficient 0 = .ok (.aload_n 0, 1) := by decide +kernel
theorem dX9_coefficient_1 : decode cX9_coefficient 1 = .ok (.iload_n 2, 1) := by decide +kernel
theorem dX9_coefficient_2 : decode cX9_coefficient 2 = .ok (.iload_n 3, 1) := by decide +kernel
theorem dX9_coefficient_3 : decode cX9_coefficient 3 = .ok (.invokevirtual 243, 3) := by decide +kernel
theorem dX9_coefficient_6 : decode cX9_coefficient 6 = .ok (.aload_n 0, 1) := by decide +kernel
theorem dX9_coefficient_7 : decode cX9_coefficient 7 = .ok (.iload_n 2, 1) := by decide +kernel
theorem dX9_coefficient_8 : decode cX9_coefficient 8 = .ok (.invokevirtual 177, 3) := by decide +kernel
theorem dX9_coefficient_11 : decode cX9_coefficient 11 = .ok (.astore 6, 2) := by decide +kernel
theorem dX9_coefficient_13 : decode cX9_coefficient 13 = .ok (.aload_n 0, 1) := by decide +kernel
theorem dX9_coefficient_14 : decode cX9_coefficient 14 = .ok (.iload_n 3, 1) := by decide +kernel
theorem dX9_coefficient_15 : decode cX9_coefficient 15 = .ok (.invokevirtual 177, 3) := by decide +kernel
theorem dX9_coefficient_18 : decode cX9_coefficient 18 = .ok (.astore 7, 2) := by decide +kernel
theorem dX9_coefficient_20 : decode cX9_coefficient 20 = .ok (.iload_n 1, 1) := by decide +kernel
theorem dX9_coefficient_21 : decode cX9_coefficient 21 = .ok (.aload 6, 2) := by decide +kernel
theorem dX9_coefficient_23 : decode cX9_coefficient 23 = .ok (.aload 7, 2) := by decide +kernel
theorem dX9_coefficient_25 : decode cX9_coefficient 25 = .ok (.iload 4, 2) := by decide +kernel
theorem dX9_coefficient_27 : decode cX9_coefficient 27 = .ok (.invokestatic 246, 3) := by decide +kernel
theorem dX9_coefficient_30 : decode cX9_coefficient 30 = .ok (.istore 8, 2) := by decide +kernel
theorem dX9_coefficient_32 : decode cX9_coefficient 32 = .ok (.iload 5, 2) := by decide +kernel
theorem dX9_coefficient_34 : decode cX9_coefficient 34 = .ok (.ifCond .lt 14, 3) := by decide +kernel
theorem dX9_coefficient_37 : decode cX9_coefficient 37 = .ok (.iload 5, 2) := by decide +kernel
theorem dX9_coefficient_39 : decode cX9_coefficient 39 = .ok (.iload 8, 2) := by decide +kernel
theorem dX9_coefficient_41 : decode cX9_coefficient 41 = .ok (.if_icmp .ge 7, 3) := by decide +kernel
theorem dX9_coefficient_44 : decode cX9_coefficient 44 = .ok (.iconst 1, 1) := by decide +kernel
theorem dX9_coefficient_45 : decode cX9_coefficient 45 = .ok (.goto 4, 3) := by decide +kernel
theorem dX9_coefficient_48 : decode cX9_coefficient 48 = .ok (.iconst 0, 1) := by decide +kernel
theorem dX9_coefficient_49 : decode cX9_coefficient 49 = .ok (.invokestatic 70, 3) := by decide +kernel
theorem dX9_coefficient_52 : decode cX9_coefficient 52 = .ok (.iload_n 1, 1) := by decide +kernel
theorem dX9_coefficient_53 : decode cX9_coefficient 53 = .ok (.aload 6, 2) := by decide +kernel
theorem dX9_coefficient_55 : decode cX9_coefficient 55 = .ok (.aload 7, 2) := by decide +kernel
theorem dX9_coefficient_57 : decode cX9_coefficient 57 = .ok (.iload 8, 2) := by decide +kernel
theorem dX9_coefficient_59 : decode cX9_coefficient 59 = .ok (.iload 5, 2) := by decide +kernel
theorem dX9_coefficient_61 : decode cX9_coefficient 61 = .ok (.invokestatic 254, 3) := by decide +kernel
theorem dX9_coefficient_64 : decode cX9_coefficient 64 = .ok (.lreturn, 1) := by decide +kernel
theorem dX9_isEnough_0 : decode cX9_isEnough 0 = .ok (.aload_n 0, 1) := by decide +kernel
theorem dX9_isEnough_1 : decode cX9_isEnough 1 = .ok (.iload_n 1, 1) := by decide +kernel
theorem dX9_isEnough_2 : decode cX9_isEnough 2 = .ok (.invokevirtual 237, 3) := by decide +kernel
theorem dX9_isEnough_5 : decode cX9_isEnough 5 = .ok (.aload_n 0, 1) := by decide +kernel
theorem dX9_isEnough_6 : decode cX9_isEnough 6 = .ok (.iload_n 2, 1) := by decide +kernel
theorem dX9_isEnough_7 : decode cX9_isEnough 7 = .ok (.iload_n 3, 1) := by decide +kernel
theorem dX9_isEnough_8 : decode cX9_isEnough 8 = .ok (.invokevirtual 243, 3) := by decide +kernel
theorem dX9_isEnough_11 : decode cX9_isEnough 11 = .ok (.aload_n 0, 1) := by decide +kernel
theorem dX9_isEnough_12 : decode cX9_isEnough 12 = .ok (.getfield 10, 3) := by decide +kernel
theorem dX9_isEnough_15 : decode cX9_isEnough 15 = .ok (.iload_n 1, 1) := by decide +kernel
theorem dX9_isEnough_16 : decode cX9_isEnough 16 = .ok (.aload_n 0, 1) := by decide +kernel
theorem dX9_isEnough_17 : decode cX9_isEnough 17 = .ok (.iload_n 2, 1) := by decide +kernel
theorem dX9_isEnough_18 : decode cX9_isEnough 18 = .ok (.invokevirtual 177, 3) := by decide +kernel
theorem dX9_isEnough_21 : decode cX9_isEnough 21 = .ok (.aload_n 0, 1) := by decide +kernel
theorem dX9_isEnough_22 : decode cX9_isEnough 22 = .ok (.iload_n 3, 1) := by decide +kernel
theorem dX9_isEnough_23 : decode cX9_isEnough 23 = .ok (.invokevirtual 177, 3) := by decide +kernel
theorem dX9_isEnough_26 : decode cX9_isEnough 26 = .ok (.invokestatic 250, 3) := by decide +kernel
theorem dX9_isEnough_29 : decode cX9_isEnough 29 = .ok (.invokevirtual 258, 3) := by decide +kernel
theorem dX9_isEnough_32 : decode cX9_isEnough 32 = .ok (.ireturn, 1) := by decide +kernel
theorem dX9_plan_0 : decode cX9_plan 0 = .ok (.aload_n 0, 1) := by decide +kernel
theorem dX9_plan_1 : decode cX9_plan 1 = .ok (.iload_n 2, 1) := by decide +kernel
theorem dX9_plan_2 : decode cX9_plan 2 = .ok (.iload_n 3, 1) := by decide +kernel
theorem dX9_plan_3 : decode cX9_plan 3 = .ok (.invokevirtual 243, 3) := by decide +kernel
theorem dX9_plan_6 : decode cX9_plan 6 = .ok (.aload_n 0, 1) := by decide +kernel
theorem dX9_plan_7 : decode cX9_plan 7 = .ok (.iload_n 2, 1) := by decide +kernel
theorem dX9_plan_8 : decode cX9_plan 8 = .ok (.invokevirtual 177, 3) := by decide +kernel
theorem dX9_plan_11 : decode cX9_plan 11 = .ok (.astore 6, 2) := by decide +kernel
theorem dX9_plan_13 : decode cX9_plan 13 = .ok (.aload_n 0, 1) := by decide +kernel
theorem dX9_plan_14 : decode cX9_plan 14 = .ok (.iload_n 3, 1) := by decide +kernel
theorem dX9_plan_15 : decode cX9_plan 15 = .ok (.invokevirtual 177, 3) := by decide +kernel
theorem dX9_plan_18 : decode cX9_plan 18 = .ok (.astore 7, 2) := by decide +kernel
theorem dX9_plan_20 : decode cX9_plan 20 = .ok (.iload_n 1, 1) := by decide +kernel
theorem dX9_plan_21 : decode cX9_plan 21 = .ok (.aload 6, 2) := by decide +kernel
theorem dX9_plan_23 : decode cX9_plan 23 = .ok (.aload 7, 2) := by decide +kernel
theorem dX9_plan_25 : decode cX9_plan 25 = .ok (.iload 4, 2) := by decide +kernel
theorem dX9_plan_27 : decode cX9_plan 27 = .ok (.invokestatic 246, 3) := by decide +kernel
theorem dX9_plan_30 : decode cX9_plan 30 = .ok (.istore 8, 2) := by decide +kernel
theorem dX9_plan_32 : decode cX9_plan 32 = .ok (.iload 5, 2) := by decide +kernel
theorem dX9_plan_34 : decode cX9_plan 34 = .ok (.ifCond .lt 13, 3) := by decide +kernel
theorem dX9_plan_37 : decode cX9_plan 37 = .ok (.iload 5, 2) := by decide +kernel
theorem dX9_plan_39 : decode cX9_plan 39 = .ok (.iconst 2, 1) := by decide +kernel
theorem dX9_plan_40 : decode cX9_plan 40 = .ok (.if_icmp .gt 7, 3) := by decide +kernel
theorem dX9_plan_43 : decode cX9_plan 43 = .ok (.iconst 1, 1) := by decide +kernel
theorem dX9_plan_44 : decode cX9_plan 44 = .ok (.goto 4, 3) := by decide +kernel
theorem dX9_plan_47 : decode cX9_plan 47 = .ok (.iconst 0, 1) := by decide +kernel
theorem dX9_plan_48 : decode cX9_plan 48 = .ok (.invokestatic 70, 3) := by decide +kernel
theorem dX9_plan_51 : decode cX9_plan 51 = .ok (.aload_n 0, 1) := by decide +kernel
theorem dX9_plan_52 : decode cX9_plan 52 = .ok (.getfield 47, 3) := by decide +kernel
theorem dX9_plan_55 : decode cX9_plan 55 = .ok (.aload_n 0, 1) := by decide +kernel
theorem dX9_plan_56 : decode cX9_plan 56 = .ok (.getfield 10, 3) := by decide +kernel
theorem dX9_plan_59 : decode cX9_plan 59 = .ok (.iload_n 1, 1) := by decide +kernel
theorem dX9_plan_60 : decode cX9_plan 60 = .ok (.iload 8, 2) := by decide +kernel
theorem dX9_plan_62 : decode cX9_plan 62 = .ok (.aload 6, 2) := by decide +kernel
theorem dX9_plan_64 : decode cX9_plan 64 = .ok (.aload 7, 2) := by decide +kernel
theorem dX9_plan_66 : decode cX9_plan 66 = .ok (.invokestatic 250, 3) := by decide +kernel
theorem dX9_plan_69 : decode cX9_plan 69 = .ok (.invokevirtual 262, 3) := by decide +kernel
theorem dX9_plan_72 : decode cX9_plan 72 = .ok (.aload 6, 2) := by decide +kernel
theorem dX9_plan_74 : decode cX9_plan 74 = .ok (.getfield 181, 3) := by decide +kernel
theorem dX9_plan_77 : decode cX9_plan 77 = .ok (.aload 7, 2) := by decide +kernel
theorem dX9_plan_79 : decode cX9_plan 79 = .ok (.getfield 181, 3) := by decide +kernel
theorem dX9_plan_82 : decode cX9_plan 82 = .ok (.imul, 1) := by decide +kernel
theorem dX9_plan_83 : decode cX9_plan 83 = .ok (.istore 9, 2) := by decide +kernel
theorem dX9_plan_85 : decode cX9_plan 85 = .ok (.aload_n 0, 1) := by decide +kernel
theorem dX9_plan_86 : decode cX9_plan 86 = .ok (.getfield 47, 3) := by decide +kernel
theorem dX9_plan_89 : decode cX9_plan 89 = .ok (.getfield 265, 3) := by decide +kernel
theorem dX9_plan_92 : decode cX9_plan 92 = .ok (.iconst (-1), 1) := by decide +kernel
theorem dX9_plan_93 : decode cX9_plan 93 = .ok (.if_icmp .eq 19, 3) := by decide +kernel
theorem dX9_plan_96 : decode cX9_plan 96 = .ok (.aload_n 0, 1) := by decide +kernel
theorem dX9_plan_97 : decode cX9_plan 97 = .ok (.getfield 47, 3) := by decide +kernel
theorem dX9_plan_100 : decode cX9_plan 100 = .ok (.getfield 265, 3) := by decide +kernel
theorem dX9_plan_103 : decode cX9_plan 103 = .ok (.iload 9, 2) := by decide +kernel
theorem dX9_plan_105 : decode cX9_plan 105 = .ok (.if_icmp .ge 7, 3) := by decide +kernel
theorem dX9_plan_108 : decode cX9_plan 108 = .ok (.iconst 1, 1) := by decide +kernel
theorem dX9_plan_109 : decode cX9_plan 109 = .ok (.goto 4, 3) := by decide +kernel
theorem dX9_plan_112 : decode cX9_plan 112 = .ok (.iconst 0, 1) := by decide +kernel
theorem dX9_plan_113 : decode cX9_plan 113 = .ok (.istore 10, 2) := by decide +kernel
theorem dX9_plan_115 : decode cX9_plan 115 = .ok (.iload 5, 2) := by decide +kernel
theorem dX9_plan_117 : decode cX9_plan 117 = .ok (.lookupswitch 62 #[(0, 27), (1, 45)], 27) := by decide +kernel
theorem dX9_plan_144 : decode cX9_plan 144 = .ok (.iload 10, 2) := by decide +kernel
theorem dX9_plan_146 : decode cX9_plan 146 = .ok (.ifCond .eq 13, 3) := by decide +kernel
theorem dX9_plan_149 : decode cX9_plan 149 = .ok (.aload_n 0, 1) := by decide +kernel
theorem dX9_plan_150 : decode cX9_plan 150 = .ok (.getfield 47, 3) := by decide +kernel
theorem dX9_plan_153 : decode cX9_plan 153 = .ok (.getfield 265, 3) := by decide +kernel
theorem dX9_plan_156 : decode cX9_plan 156 = .ok (.goto 5, 3) := by decide +kernel
theorem dX9_plan_159 : decode cX9_plan 159 = .ok (.iload 9, 2) := by decide +kernel
theorem dX9_plan_161 : decode cX9_plan 161 = .ok (.ireturn, 1) := by decide +kernel
theorem dX9_plan_162 : decode cX9_plan 162 = .ok (.iload 10, 2) := by decide +kernel
theorem dX9_plan_164 : decode cX9_plan 164 = .ok (.ifCond .eq 13, 3) := by decide +kernel
theorem dX9_plan_167 : decode cX9_plan 167 = .ok (.aload_n 0, 1) := by decide +kernel
theorem dX9_plan_168 : decode cX9_plan 168 = .ok (.getfield 47, 3) := by decide +kernel
theorem dX9_plan_171 : decode cX9_plan 171 = .ok (.getfield 268, 3) := by decide +kernel
theorem dX9_plan_174 : decode cX9_plan 174 = .ok (.goto 4, 3) := by decide +kernel
theorem dX9_plan_177 : decode cX9_plan 177 = .ok (.iconst 0, 1) := by decide +kernel
theorem dX9_plan_178 : decode cX9_plan 178 = .ok (.ireturn, 1) := by decide +kernel
theorem dX9_plan_179 : decode cX9_plan 179 = .ok (.iload 10, 2) := by decide +kernel
theorem dX9_plan_181 : decode cX9_plan 181 = .ok (.ifCond .eq 13, 3) := by decide +kernel
theorem dX9_plan_184 : decode cX9_plan 184 = .ok (.aload_n 0, 1) := by decide +kernel
theorem dX9_plan_185 : decode cX9_plan 185 = .ok (.getfield 47, 3) := by decide +kernel
theorem dX9_plan_188 : decode cX9_plan 188 = .ok (.getfield 271, 3) := by decide +kernel
theorem dX9_plan_191 : decode cX9_plan 191 = .ok (.goto 4, 3) := by decide +kernel
theorem dX9_plan_194 : decode cX9_plan 194 = .ok (.iconst 0, 1) := by decide +kernel
theorem dX9_plan_195 : decode cX9_plan 195 = .ok (.ireturn, 1) := by decide +kernel
theorem dX9_transformSteps_0 : decode cX9_transformSteps 0 = .ok (.aload_n 0, 1) := by decide +kernel
theorem dX9_transformSteps_1 : decode cX9_transformSteps 1 = .ok (.iload_n 2, 1) := by decide +kernel
theorem dX9_transformSteps_2 : decode cX9_transformSteps 2 = .ok (.iload_n 3, 1) := by decide +kernel
theorem dX9_transformSteps_3 : decode cX9_transformSteps 3 = .ok (.invokevirtual 243, 3) := by decide +kernel
theorem dX9_transformSteps_6 : decode cX9_transformSteps 6 = .ok (.aload_n 0, 1) := by decide +kernel
theorem dX9_transformSteps_7 : decode cX9_transformSteps 7 = .ok (.iload_n 2, 1) := by decide +kernel
theorem dX9_transformSteps_8 : decode cX9_transformSteps 8 = .ok (.invokevirtual 177, 3) := by decide +kernel
theorem dX9_transformSteps_11 : decode cX9_transformSteps 11 = .ok (.astore 5, 2) := by decide +kernel
theorem dX9_transformSteps_13 : decode cX9_transformSteps 13 = .ok (.aload_n 0, 1) := by decide +kernel
theorem dX9_transformSteps_14 : decode cX9_transformSteps 14 = .ok (.iload_n 3, 1) := by decide +kernel
theorem dX9_transformSteps_15 : decode cX9_transformSteps 15 = .ok (.invokevirtual 177, 3) := by decide +kernel
theorem dX9_transformSteps_18 : decode cX9_transformSteps 18 = .ok (.astore 6, 2) := by decide +kernel
theorem dX9_transformSteps_20 : decode cX9_transformSteps 20 = .ok (.iload_n 1, 1) := by decide +kernel
theorem dX9_transformSteps_21 : decode cX9_transformSteps 21 = .ok (.aload 5, 2) := by decide +kernel
theorem dX9_transformSteps_23 : decode cX9_transformSteps 23 = .ok (.aload 6, 2) := by decide +kernel
theorem dX9_transformSteps_25 : decode cX9_transformSteps 25 = .ok (.iload 4, 2) := by decide +kernel
theorem dX9_transformSteps_27 : decode cX9_transformSteps 27 = .ok (.invokestatic 246, 3) := by decide +kernel
theorem dX9_transformSteps_30 : decode cX9_transformSteps 30 = .ok (.istore 7, 2) := by decide +kernel
theorem dX9_transformSteps_32 : decode cX9_transformSteps 32 = .ok (.aload_n 0, 1) := by decide +kernel
theorem dX9_transformSteps_33 : decode cX9_transformSteps 33 = .ok (.getfield 47, 3) := by decide +kernel
theorem dX9_transformSteps_36 : decode cX9_transformSteps 36 = .ok (.aload_n 0, 1) := by decide +kernel
theorem dX9_transformSteps_37 : decode cX9_transformSteps 37 = .ok (.getfield 10, 3) := by decide +kernel
theorem dX9_transformSteps_40 : decode cX9_transformSteps 40 = .ok (.iload_n 1, 1) := by decide +kernel
theorem dX9_transformSteps_41 : decode cX9_transformSteps 41 = .ok (.iload 7, 2) := by decide +kernel
theorem dX9_transformSteps_43 : decode cX9_transformSteps 43 = .ok (.aload 5, 2) := by decide +kernel
theorem dX9_transformSteps_45 : decode cX9_transformSteps 45 = .ok (.aload 6, 2) := by decide +kernel
theorem dX9_transformSteps_47 : decode cX9_transformSteps 47 = .ok (.invokestatic 250, 3) := by decide +kernel
theorem dX9_transformSteps_50 : decode cX9_transformSteps 50 = .ok (.invokevirtual 262, 3) := by decide +kernel
theorem dX9_transformSteps_53 : decode cX9_transformSteps 53 = .ok (.aload_n 0, 1) := by decide +kernel
theorem dX9_transformSteps_54 : decode cX9_transformSteps 54 = .ok (.getfield 47, 3) := by decide +kernel
theorem dX9_transformSteps_57 : decode cX9_transformSteps 57 = .ok (.getfield 265, 3) := by decide +kernel
theorem dX9_transformSteps_60 : decode cX9_transformSteps 60 = .ok (.iconst (-1), 1) := by decide +kernel
theorem dX9_transformSteps_61 : decode cX9_transformSteps 61 = .ok (.if_icmp .ne 14, 3) := by decide +kernel
theorem dX9_transformSteps_64 : decode cX9_transformSteps 64 = .ok (.new 163, 3) := by decide +kernel
theorem dX9_transformSteps_67 : decode cX9_transformSteps 67 = .ok (.dup, 1) := by decide +kernel
theorem dX9_transformSteps_68 : decode cX9_transformSteps 68 = .ok (.ldc_w 274, 3) := by decide +kernel
theorem dX9_transformSteps_71 : decode cX9_transformSteps 71 = .ok (.invokespecial 167, 3) := by decide +kernel
theorem dX9_transformSteps_74 : decode cX9_transformSteps 74 = .ok (.athrow, 1) := by decide +kernel
theorem dX9_transformSteps_75 : decode cX9_transformSteps 75 = .ok (.aload_n 0, 1) := by decide +kernel
theorem dX9_transformSteps_76 : decode cX9_transformSteps 76 = .ok (.getfield 47, 3) := by decide +kernel
theorem dX9_transformSteps_79 : decode cX9_transformSteps 79 = .ok (.getfield 265, 3) := by decide +kernel
theorem dX9_transformSteps_82 : decode cX9_transformSteps 82 = .ok (.ireturn, 1) := by decide +kernel
theorem dX9_multiply_0 : decode cX9_multiply 0 = .ok (.aload_n 0, 1) := by decide +kernel
theorem dX9_multiply_1 : decode cX9_multiply 1 = .ok (.iload 5, 2) := by decide +kernel
theorem dX9_multiply_3 : decode cX9_multiply 3 = .ok (.invokevirtual 237, 3) := by decide +kernel
theorem dX9_multiply_6 : decode cX9_multiply 6 = .ok (.aload_n 0, 1) := by decide +kernel
theorem dX9_multiply_7 : decode cX9_multiply 7 = .ok (.iload_n 2, 1) := by decide +kernel
theorem dX9_multiply_8 : decode cX9_multiply 8 = .ok (.iload_n 3, 1) := by decide +kernel
theorem dX9_multiply_9 : decode cX9_multiply 9 = .ok (.invokevirtual 243, 3) := by decide +kernel
theorem dX9_multiply_12 : decode cX9_multiply 12 = .ok (.aload_n 0, 1) := by decide +kernel
theorem dX9_multiply_13 : decode cX9_multiply 13 = .ok (.iload_n 2, 1) := by decide +kernel
theorem dX9_multiply_14 : decode cX9_multiply 14 = .ok (.invokevirtual 177, 3) := by decide +kernel
theorem dX9_multiply_17 : decode cX9_multiply 17 = .ok (.astore 6, 2) := by decide +kernel
theorem dX9_multiply_19 : decode cX9_multiply 19 = .ok (.aload_n 0, 1) := by decide +kernel
theorem dX9_multiply_20 : decode cX9_multiply 20 = .ok (.iload_n 3, 1) := by decide +kernel
theorem dX9_multiply_21 : decode cX9_multiply 21 = .ok (.invokevirtual 177, 3) := by decide +kernel
theorem dX9_multiply_24 : decode cX9_multiply 24 = .ok (.astore 7, 2) := by decide +kernel
theorem dX9_multiply_26 : decode cX9_multiply 26 = .ok (.iload_n 1, 1) := by decide +kernel
theorem dX9_multiply_27 : decode cX9_multiply 27 = .ok (.aload 6, 2) := by decide +kernel
theorem dX9_multiply_29 : decode cX9_multiply 29 = .ok (.aload 7, 2) := by decide +kernel
theorem dX9_multiply_31 : decode cX9_multiply 31 = .ok (.iload 4, 2) := by decide +kernel
theorem dX9_multiply_33 : decode cX9_multiply 33 = .ok (.invokestatic 246, 3) := by decide +kernel
theorem dX9_multiply_36 : decode cX9_multiply 36 = .ok (.istore 8, 2) := by decide +kernel
theorem dX9_multiply_38 : decode cX9_multiply 38 = .ok (.iload 4, 2) := by decide +kernel
theorem dX9_multiply_40 : decode cX9_multiply 40 = .ok (.invokestatic 171, 3) := by decide +kernel
theorem dX9_multiply_43 : decode cX9_multiply 43 = .ok (.ifCond .eq 14, 3) := by decide +kernel
theorem dX9_multiply_46 : decode cX9_multiply 46 = .ok (.iload 4, 2) := by decide +kernel
theorem dX9_multiply_48 : decode cX9_multiply 48 = .ok (.iload 8, 2) := by decide +kernel
theorem dX9_multiply_50 : decode cX9_multiply 50 = .ok (.if_icmp .lt 7, 3) := by decide +kernel
theorem dX9_multiply_53 : decode cX9_multiply 53 = .ok (.iconst 1, 1) := by decide +kernel
theorem dX9_multiply_54 : decode cX9_multiply 54 = .ok (.goto 4, 3) := by decide +kernel
theorem dX9_multiply_57 : decode cX9_multiply 57 = .ok (.iconst 0, 1) := by decide +kernel
theorem dX9_multiply_58 : decode cX9_multiply 58 = .ok (.invokestatic 70, 3) := by decide +kernel
theorem dX9_multiply_61 : decode cX9_multiply 61 = .ok (.iload 5, 2) := by decide +kernel
theorem dX9_multiply_63 : decode cX9_multiply 63 = .ok (.ifCond .eq 22, 3) := by decide +kernel
theorem dX9_multiply_66 : decode cX9_multiply 66 = .ok (.aload_n 0, 1) := by decide +kernel
theorem dX9_multiply_67 : decode cX9_multiply 67 = .ok (.getfield 10, 3) := by decide +kernel
theorem dX9_multiply_70 : decode cX9_multiply 70 = .ok (.iload 5, 2) := by decide +kernel
theorem dX9_multiply_72 : decode cX9_multiply 72 = .ok (.ldc2_w 276, 3) := by decide +kernel
theorem dX9_multiply_75 : decode cX9_multiply 75 = .ok (.invokevirtual 278, 3) := by decide +kernel
theorem dX9_multiply_78 : decode cX9_multiply 78 = .ok (.ifCond .ne 7, 3) := by decide +kernel
theorem dX9_multiply_81 : decode cX9_multiply 81 = .ok (.iconst 1, 1) := by decide +kernel
theorem dX9_multiply_82 : decode cX9_multiply 82 = .ok (.goto 4, 3) := by decide +kernel
theorem dX9_multiply_85 : decode cX9_multiply 85 = .ok (.iconst 0, 1) := by decide +kernel
theorem dX9_multiply_86 : decode cX9_multiply 86 = .ok (.invokestatic 70, 3) := by decide +kernel
theorem dX9_multiply_89 : decode cX9_multiply 89 = .ok (.iload 5, 2) := by decide +kernel
theorem dX9_multiply_91 : decode cX9_multiply 91 = .ok (.aload_n 0, 1) := by decide +kernel
theorem dX9_multiply_92 : decode cX9_multiply 92 = .ok (.getfield 10, 3) := by decide +kernel
theorem dX9_multiply_95 : decode cX9_multiply 95 = .ok (.iload_n 1, 1) := by decide +kernel
theorem dX9_multiply_96 : decode cX9_multiply 96 = .ok (.iload 4, 2) := by decide +kernel
theorem dX9_multiply_98 : decode cX9_multiply 98 = .ok (.invokevirtual 174, 3) := by decide +kernel
theorem dX9_multiply_101 : decode cX9_multiply 101 = .ok (.iconst (-1), 1) := by decide +kernel
theorem dX9_multiply_102 : decode cX9_multiply 102 = .ok (.ixor, 1) := by decide +kernel
theorem dX9_multiply_103 : decode cX9_multiply 103 = .ok (.iand, 1) := by decide +kernel
theorem dX9_multiply_104 : decode cX9_multiply 104 = .ok (.ifCond .eq 14, 3) := by decide +kernel
theorem dX9_multiply_107 : decode cX9_multiply 107 = .ok (.new 163, 3) := by decide +kernel
theorem dX9_multiply_110 : decode cX9_multiply 110 = .ok (.dup, 1) := by decide +kernel
theorem dX9_multiply_111 : decode cX9_multiply 111 = .ok (.ldc_w 281, 3) := by decide +kernel
theorem dX9_multiply_114 : decode cX9_multiply 114 = .ok (.invokespecial 167, 3) := by decide +kernel
theorem dX9_multiply_117 : decode cX9_multiply 117 = .ok (.athrow, 1) := by decide +kernel
theorem dX9_multiply_118 : decode cX9_multiply 118 = .ok (.aload_n 0, 1) := by decide +kernel
theorem dX9_multiply_119 : decode cX9_multiply 119 = .ok (.getfield 19, 3) := by decide +kernel
theorem dX9_multiply_122 : decode cX9_multiply 122 = .ok (.aload_n 0, 1) := by decide +kernel
theorem dX9_multiply_123 : decode cX9_multiply 123 = .ok (.getfield 10, 3) := by decide +kernel
theorem dX9_multiply_126 : decode cX9_multiply 126 = .ok (.invokevirtual 78, 3) := by decide +kernel
theorem dX9_multiply_129 : decode cX9_multiply 129 = .ok (.aload_n 0, 1) := by decide +kernel
theorem dX9_multiply_130 : decode cX9_multiply 130 = .ok (.getfield 10, 3) := by decide +kernel
theorem dX9_multiply_133 : decode cX9_multiply 133 = .ok (.getfield 283, 3) := by decide +kernel
theorem dX9_multiply_136 : decode cX9_multiply 136 = .ok (.iload_n 1, 1) := by decide +kernel
theorem dX9_multiply_137 : decode cX9_multiply 137 = .ok (.iload 4, 2) := by decide +kernel
theorem dX9_multiply_139 : decode cX9_multiply 139 = .ok (.iload 8, 2) := by decide +kernel
theorem dX9_multiply_141 : decode cX9_multiply 141 = .ok (.invokevirtual 287, 3) := by decide +kernel
theorem dX9_multiply_144 : decode cX9_multiply 144 = .ok (.aload_n 0, 1) := by decide +kernel
theorem dX9_multiply_145 : decode cX9_multiply 145 = .ok (.getfield 10, 3) := by decide +kernel
theorem dX9_multiply_148 : decode cX9_multiply 148 = .ok (.getfield 283, 3) := by decide +kernel
theorem dX9_multiply_151 : decode cX9_multiply 151 = .ok (.aload_n 0, 1) := by decide +kernel
theorem dX9_multiply_152 : decode cX9_multiply 152 = .ok (.getfield 10, 3) := by decide +kernel
theorem dX9_multiply_155 : decode cX9_multiply 155 = .ok (.iload 5, 2) := by decide +kernel
theorem dX9_multiply_157 : decode cX9_multiply 157 = .ok (.invokevirtual 292, 3) := by decide +kernel
theorem dX9_multiply_160 : decode cX9_multiply 160 = .ok (.aload_n 0, 1) := by decide +kernel
theorem dX9_multiply_161 : decode cX9_multiply 161 = .ok (.getfield 40, 3) := by decide +kernel
theorem dX9_multiply_164 : decode cX9_multiply 164 = .ok (.aload 6, 2) := by decide +kernel
theorem dX9_multiply_166 : decode cX9_multiply 166 = .ok (.aload 7, 2) := by decide +kernel
theorem dX9_multiply_168 : decode cX9_multiply 168 = .ok (.aload_n 0, 1) := by decide +kernel
theorem dX9_multiply_169 : decode cX9_multiply 169 = .ok (.getfield 10, 3) := by decide +kernel
theorem dX9_multiply_172 : decode cX9_multiply 172 = .ok (.getfield 283, 3) := by decide +kernel
theorem dX9_multiply_175 : decode cX9_multiply 175 = .ok (.invokevirtual 296, 3) := by decide +kernel
theorem dX9_multiply_178 : decode cX9_multiply 178 = .ok (.iload 8, 2) := by decide +kernel
theorem dX9_multiply_180 : decode cX9_multiply 180 = .ok (.ireturn, 1) := by decide +kernel
theorem dX9_product_0 : decode cX9_product 0 = .ok (.aload_n 0, 1) := by decide +kernel
theorem dX9_product_1 : decode cX9_product 1 = .ok (.invokevirtual 300, 3) := by decide +kernel
theorem dX9_product_4 : decode cX9_product 4 = .ok (.astore_n 2, 1) := by decide +kernel
theorem dX9_product_5 : decode cX9_product 5 = .ok (.iload_n 1, 1) := by decide +kernel
theorem dX9_product_6 : decode cX9_product 6 = .ok (.ifCond .lt 12, 3) := by decide +kernel
theorem dX9_product_9 : decode cX9_product 9 = .ok (.iload_n 1, 1) := by decide +kernel
theorem dX9_product_10 : decode cX9_product 10 = .ok (.iconst 3, 1) := by decide +kernel
theorem dX9_product_11 : decode cX9_product 11 = .ok (.if_icmp .gt 7, 3) := by decide +kernel
theorem dX9_product_14 : decode cX9_product 14 = .ok (.iconst 1, 1) := by decide +kernel
theorem dX9_product_15 : decode cX9_product 15 = .ok (.goto 4, 3) := by decide +kernel
theorem dX9_product_18 : decode cX9_product 18 = .ok (.iconst 0, 1) := by decide +kernel
theorem dX9_product_19 : decode cX9_product 19 = .ok (.invokestatic 70, 3) := by decide +kernel
theorem dX9_product_22 : decode cX9_product 22 = .ok (.iload_n 1, 1) := by decide +kernel
theorem dX9_product_23 : decode cX9_product 23 = .ok (.tableswitch 40 0 2 #[25, 30, 35], 25) := by decide +kernel
theorem dX9_product_48 : decode cX9_product 48 = .ok (.aload_n 2, 1) := by decide +kernel
theorem dX9_product_49 : decode cX9_product 49 = .ok (.getfield 304, 3) := by decide +kernel
theorem dX9_product_52 : decode cX9_product 52 = .ok (.ireturn, 1) := by decide +kernel
theorem dX9_product_53 : decode cX9_product 53 = .ok (.aload_n 2, 1) := by decide +kernel
theorem dX9_product_54 : decode cX9_product 54 = .ok (.getfield 305, 3) := by decide +kernel
theorem dX9_product_57 : decode cX9_product 57 = .ok (.ireturn, 1) := by decide +kernel
theorem dX9_product_58 : decode cX9_product 58 = .ok (.aload_n 2, 1) := by decide +kernel
theorem dX9_product_59 : decode cX9_product 59 = .ok (.getfield 306, 3) := by decide +kernel
theorem dX9_product_62 : decode cX9_product 62 = .ok (.ireturn, 1) := by decide +kernel
theorem dX9_product_63 : decode cX9_product 63 = .ok (.aload_n 2, 1) := by decide +kernel
theorem dX9_product_64 : decode cX9_product 64 = .ok (.getfield 309, 3) := by decide +kernel
theorem dX9_product_67 : decode cX9_product 67 = .ok (.ireturn, 1) := by decide +kernel
theorem dX9_value_0 : decode cX9_value 0 = .ok (.aload_n 0, 1) := by decide +kernel
theorem dX9_value_1 : decode cX9_value 1 = .ok (.invokevirtual 300, 3) := by decide +kernel
theorem dX9_value_4 : decode cX9_value 4 = .ok (.astore_n 2, 1) := by decide +kernel
theorem dX9_value_5 : decode cX9_value 5 = .ok (.aload_n 2, 1) := by decide +kernel
theorem dX9_value_6 : decode cX9_value 6 = .ok (.iload_n 1, 1) := by decide +kernel
theorem dX9_value_7 : decode cX9_value 7 = .ok (.invokestatic 310, 3) := by decide +kernel
theorem dX9_value_10 : decode cX9_value 10 = .ok (.aload_n 2, 1) := by decide +kernel
theorem dX9_value_11 : decode cX9_value 11 = .ok (.getfield 314, 3) := by decide +kernel
theorem dX9_value_14 : decode cX9_value 14 = .ok (.iload_n 1, 1) := by decide +kernel
theorem dX9_value_15 : decode cX9_value 15 = .ok (.laload, 1) := by decide +kernel
theorem dX9_value_16 : decode cX9_value 16 = .ok (.lreturn, 1) := by decide +kernel
theorem dX9_digit_0 : decode cX9_digit 0 = .ok (.aload_n 0, 1) := by decide +kernel
theorem dX9_digit_1 : decode cX9_digit 1 = .ok (.invokevirtual 300, 3) := by decide +kernel
theorem dX9_digit_4 : decode cX9_digit 4 = .ok (.astore_n 3, 1) := by decide +kernel
theorem dX9_digit_5 : decode cX9_digit 5 = .ok (.aload_n 3, 1) := by decide +kernel
theorem dX9_digit_6 : decode cX9_digit 6 = .ok (.iload_n 1, 1) := by decide +kernel
theorem dX9_digit_7 : decode cX9_digit 7 = .ok (.invokestatic 310, 3) := by decide +kernel
theorem dX9_digit_10 : decode cX9_digit 10 = .ok (.iload_n 2, 1) := by decide +kernel
theorem dX9_digit_11 : decode cX9_digit 11 = .ok (.ifCond .lt 11, 3) := by decide +kernel
theorem dX9_digit_14 : decode cX9_digit 14 = .ok (.iload_n 2, 1) := by decide +kernel
theorem dX9_digit_15 : decode cX9_digit 15 = .ok (.aload_n 3, 1) := by decide +kernel
theorem dX9_digit_16 : decode cX9_digit 16 = .ok (.getfield 318, 3) := by decide +kernel
theorem dX9_digit_19 : decode cX9_digit 19 = .ok (.if_icmp .lt 14, 3) := by decide +kernel
theorem dX9_digit_22 : decode cX9_digit 22 = .ok (.new 186, 3) := by decide +kernel
theorem dX9_digit_25 : decode cX9_digit 25 = .ok (.dup, 1) := by decide +kernel
theorem dX9_digit_26 : decode cX9_digit 26 = .ok (.ldc_w 321, 3) := by decide +kernel
theorem dX9_digit_29 : decode cX9_digit 29 = .ok (.invokespecial 190, 3) := by decide +kernel
theorem dX9_digit_32 : decode cX9_digit 32 = .ok (.athrow, 1) := by decide +kernel
theorem dX9_digit_33 : decode cX9_digit 33 = .ok (.aload_n 3, 1) := by decide +kernel
theorem dX9_digit_34 : decode cX9_digit 34 = .ok (.iload_n 1, 1) := by decide +kernel
theorem dX9_digit_35 : decode cX9_digit 35 = .ok (.iload_n 2, 1) := by decide +kernel
theorem dX9_digit_36 : decode cX9_digit 36 = .ok (.invokevirtual 323, 3) := by decide +kernel
theorem dX9_digit_39 : decode cX9_digit 39 = .ok (.ireturn, 1) := by decide +kernel
theorem dX9_productAt_0 : decode cX9_productAt 0 = .ok (.aload_n 0, 1) := by decide +kernel
theorem dX9_productAt_1 : decode cX9_productAt 1 = .ok (.invokevirtual 300, 3) := by decide +kernel
theorem dX9_productAt_4 : decode cX9_productAt 4 = .ok (.iload_n 1, 1) := by decide +kernel
theorem dX9_productAt_5 : decode cX9_productAt 5 = .ok (.invokevirtual 326, 3) := by decide +kernel
theorem dX9_productAt_8 : decode cX9_productAt 8 = .ok (.ireturn, 1) := by decide +kernel
theorem dX9_residue_0 : decode cX9_residue 0 = .ok (.aload_n 0, 1) := by decide +kernel
theorem dX9_residue_1 : decode cX9_residue 1 = .ok (.iload_n 1, 1) := by decide +kernel
theorem dX9_residue_2 : decode cX9_residue 2 = .ok (.invokevirtual 109, 3) := by decide +kernel
theorem dX9_residue_5 : decode cX9_residue 5 = .ok (.astore_n 3, 1) := by decide +kernel
theorem dX9_residue_6 : decode cX9_residue 6 = .ok (.aload_n 0, 1) := by decide +kernel
theorem dX9_residue_7 : decode cX9_residue 7 = .ok (.invokevirtual 300, 3) := by decide +kernel
theorem dX9_residue_10 : decode cX9_residue 10 = .ok (.astore 4, 2) := by decide +kernel
theorem dX9_residue_12 : decode cX9_residue 12 = .ok (.aload 4, 2) := by decide +kernel
theorem dX9_residue_14 : decode cX9_residue 14 = .ok (.iload_n 2, 1) := by decide +kernel
theorem dX9_residue_15 : decode cX9_residue 15 = .ok (.invokevirtual 328, 3) := by decide +kernel
theorem dX9_residue_18 : decode cX9_residue 18 = .ok (.invokestatic 70, 3) := by decide +kernel
theorem dX9_residue_21 : decode cX9_residue 21 = .ok (.aload_n 3, 1) := by decide +kernel
theorem dX9_residue_22 : decode cX9_residue 22 = .ok (.aload 4, 2) := by decide +kernel
theorem dX9_residue_24 : decode cX9_residue 24 = .ok (.getfield 314, 3) := by decide +kernel
theorem dX9_residue_27 : decode cX9_residue 27 = .ok (.iload_n 2, 1) := by decide +kernel
theorem dX9_residue_28 : decode cX9_residue 28 = .ok (.laload, 1) := by decide +kernel
theorem dX9_residue_29 : decode cX9_residue 29 = .ok (.invokevirtual 138, 3) := by decide +kernel
theorem dX9_residue_32 : decode cX9_residue 32 = .ok (.ireturn, 1) := by decide +kernel
theorem dX9_agreeing_0 : decode cX9_agreeing 0 = .ok (.aload_n 0, 1) := by decide +kernel
theorem dX9_agreeing_1 : decode cX9_agreeing 1 = .ok (.iload_n 1, 1) := by decide +kernel
theorem dX9_agreeing_2 : decode cX9_agreeing 2 = .ok (.invokevirtual 219, 3) := by decide +kernel
theorem dX9_agreeing_5 : decode cX9_agreeing 5 = .ok (.aload_n 0, 1) := by decide +kernel
theorem dX9_agreeing_6 : decode cX9_agreeing 6 = .ok (.iload_n 2, 1) := by decide +kernel
theorem dX9_agreeing_7 : decode cX9_agreeing 7 = .ok (.invokevirtual 219, 3) := by decide +kernel
theorem dX9_agreeing_10 : decode cX9_agreeing 10 = .ok (.aload_n 0, 1) := by decide +kernel
theorem dX9_agreeing_11 : decode cX9_agreeing 11 = .ok (.invokevirtual 300, 3) := by decide +kernel
theorem dX9_agreeing_14 : decode cX9_agreeing 14 = .ok (.astore_n 3, 1) := by decide +kernel
theorem dX9_agreeing_15 : decode cX9_agreeing 15 = .ok (.aload_n 0, 1) := by decide +kernel
theorem dX9_agreeing_16 : decode cX9_agreeing 16 = .ok (.iload_n 1, 1) := by decide +kernel
theorem dX9_agreeing_17 : decode cX9_agreeing 17 = .ok (.iload_n 2, 1) := by decide +kernel
theorem dX9_agreeing_18 : decode cX9_agreeing 18 = .ok (.invokevirtual 243, 3) := by decide +kernel
theorem dX9_agreeing_21 : decode cX9_agreeing 21 = .ok (.aload_n 0, 1) := by decide +kernel
theorem dX9_agreeing_22 : decode cX9_agreeing 22 = .ok (.iload_n 1, 1) := by decide +kernel
theorem dX9_agreeing_23 : decode cX9_agreeing 23 = .ok (.invokevirtual 177, 3) := by decide +kernel
theorem dX9_agreeing_26 : decode cX9_agreeing 26 = .ok (.astore 4, 2) := by decide +kernel
theorem dX9_agreeing_28 : decode cX9_agreeing 28 = .ok (.aload_n 0, 1) := by decide +kernel
theorem dX9_agreeing_29 : decode cX9_agreeing 29 = .ok (.iload_n 2, 1) := by decide +kernel
theorem dX9_agreeing_30 : decode cX9_agreeing 30 = .ok (.invokevirtual 177, 3) := by decide +kernel
theorem dX9_agreeing_33 : decode cX9_agreeing 33 = .ok (.astore 5, 2) := by decide +kernel
theorem dX9_agreeing_35 : decode cX9_agreeing 35 = .ok (.aload_n 3, 1) := by decide +kernel
theorem dX9_agreeing_36 : decode cX9_agreeing 36 = .ok (.getfield 306, 3) := by decide +kernel
theorem dX9_agreeing_39 : decode cX9_agreeing 39 = .ok (.aload 4, 2) := by decide +kernel
theorem dX9_agreeing_41 : decode cX9_agreeing 41 = .ok (.aload 5, 2) := by decide +kernel
theorem dX9_agreeing_43 : decode cX9_agreeing 43 = .ok (.aload_n 3, 1) := by decide +kernel
theorem dX9_agreeing_44 : decode cX9_agreeing 44 = .ok (.getfield 304, 3) := by decide +kernel
theorem dX9_agreeing_47 : decode cX9_agreeing 47 = .ok (.invokestatic 331, 3) := by decide +kernel
theorem dX9_agreeing_50 : decode cX9_agreeing 50 = .ok (.ifCond .ne 5, 3) := by decide +kernel
theorem dX9_agreeing_53 : decode cX9_agreeing 53 = .ok (.iconst (-1), 1) := by decide +kernel
theorem dX9_agreeing_54 : decode cX9_agreeing 54 = .ok (.ireturn, 1) := by decide +kernel
theorem dX9_agreeing_55 : decode cX9_agreeing 55 = .ok (.iconst 0, 1) := by decide +kernel
theorem dX9_agreeing_56 : decode cX9_agreeing 56 = .ok (.istore 6, 2) := by decide +kernel
theorem dX9_agreeing_58 : decode cX9_agreeing 58 = .ok (.iconst 0, 1) := by decide +kernel
theorem dX9_agreeing_59 : decode cX9_agreeing 59 = .ok (.istore 7, 2) := by decide +kernel
theorem dX9_agreeing_61 : decode cX9_agreeing 61 = .ok (.iload 7, 2) := by decide +kernel
theorem dX9_agreeing_63 : decode cX9_agreeing 63 = .ok (.aload_n 3, 1) := by decide +kernel
theorem dX9_agreeing_64 : decode cX9_agreeing 64 = .ok (.getfield 304, 3) := by decide +kernel
theorem dX9_agreeing_67 : decode cX9_agreeing 67 = .ok (.if_icmp .ge 40, 3) := by decide +kernel
theorem dX9_agreeing_70 : decode cX9_agreeing 70 = .ok (.aload_n 3, 1) := by decide +kernel
theorem dX9_agreeing_71 : decode cX9_agreeing 71 = .ok (.getfield 314, 3) := by decide +kernel
theorem dX9_agreeing_74 : decode cX9_agreeing 74 = .ok (.iload 7, 2) := by decide +kernel
theorem dX9_agreeing_76 : decode cX9_agreeing 76 = .ok (.laload, 1) := by decide +kernel
theorem dX9_agreeing_77 : decode cX9_agreeing 77 = .ok (.aload_n 3, 1) := by decide +kernel
theorem dX9_agreeing_78 : decode cX9_agreeing 78 = .ok (.getfield 306, 3) := by decide +kernel
theorem dX9_agreeing_81 : decode cX9_agreeing 81 = .ok (.aload 4, 2) := by decide +kernel
theorem dX9_agreeing_83 : decode cX9_agreeing 83 = .ok (.aload 5, 2) := by decide +kernel
theorem dX9_agreeing_85 : decode cX9_agreeing 85 = .ok (.aload_n 3, 1) := by decide +kernel
theorem dX9_agreeing_86 : decode cX9_agreeing 86 = .ok (.getfield 304, 3) := by decide +kernel
theorem dX9_agreeing_89 : decode cX9_agreeing 89 = .ok (.iload 7, 2) := by decide +kernel
theorem dX9_agreeing_91 : decode cX9_agreeing 91 = .ok (.invokestatic 254, 3) := by decide +kernel
theorem dX9_agreeing_94 : decode cX9_agreeing 94 = .ok (.lcmp, 1) := by decide +kernel
theorem dX9_agreeing_95 : decode cX9_agreeing 95 = .ok (.ifCond .ne 6, 3) := by decide +kernel
theorem dX9_agreeing_98 : decode cX9_agreeing 98 = .ok (.iinc 6 1, 3) := by decide +kernel
theorem dX9_agreeing_101 : decode cX9_agreeing 101 = .ok (.iinc 7 1, 3) := by decide +kernel
theorem dX9_agreeing_104 : decode cX9_agreeing 104 = .ok (.goto (-43), 3) := by decide +kernel
theorem dX9_agreeing_107 : decode cX9_agreeing 107 = .ok (.iload 6, 2) := by decide +kernel
theorem dX9_agreeing_109 : decode cX9_agreeing 109 = .ok (.ireturn, 1) := by decide +kernel
theorem dX9_store_0 : decode cX9_store 0 = .ok (.aload_n 0, 1) := by decide +kernel
theorem dX9_store_1 : decode cX9_store 1 = .ok (.iload_n 1, 1) := by decide +kernel
theorem dX9_store_2 : decode cX9_store 2 = .ok (.invokevirtual 177, 3) := by decide +kernel
theorem dX9_store_5 : decode cX9_store 5 = .ok (.astore_n 2, 1) := by decide +kernel
theorem dX9_store_6 : decode cX9_store 6 = .ok (.aload_n 0, 1) := by decide +kernel
theorem dX9_store_7 : decode cX9_store 7 = .ok (.invokevirtual 300, 3) := by decide +kernel
theorem dX9_store_10 : decode cX9_store 10 = .ok (.astore_n 3, 1) := by decide +kernel
theorem dX9_store_11 : decode cX9_store 11 = .ok (.aload_n 3, 1) := by decide +kernel
theorem dX9_store_12 : decode cX9_store 12 = .ok (.invokevirtual 335, 3) := by decide +kernel
theorem dX9_store_15 : decode cX9_store 15 = .ok (.ifCond .ne 14, 3) := by decide +kernel
theorem dX9_store_18 : decode cX9_store 18 = .ok (.new 55, 3) := by decide +kernel
theorem dX9_store_21 : decode cX9_store 21 = .ok (.dup, 1) := by decide +kernel
theorem dX9_store_22 : decode cX9_store 22 = .ok (.ldc_w 338, 3) := by decide +kernel
theorem dX9_store_25 : decode cX9_store 25 = .ok (.invokespecial 59, 3) := by decide +kernel
theorem dX9_store_28 : decode cX9_store 28 = .ok (.athrow, 1) := by decide +kernel
theorem dX9_store_29 : decode cX9_store 29 = .ok (.aload_n 0, 1) := by decide +kernel
theorem dX9_store_30 : decode cX9_store 30 = .ok (.getfield 19, 3) := by decide +kernel
theorem dX9_store_33 : decode cX9_store 33 = .ok (.aload_n 0, 1) := by decide +kernel
theorem dX9_store_34 : decode cX9_store 34 = .ok (.getfield 10, 3) := by decide +kernel
theorem dX9_store_37 : decode cX9_store 37 = .ok (.invokevirtual 78, 3) := by decide +kernel
theorem dX9_store_40 : decode cX9_store 40 = .ok (.aload_n 2, 1) := by decide +kernel
theorem dX9_store_41 : decode cX9_store 41 = .ok (.iconst 0, 1) := by decide +kernel
theorem dX9_store_42 : decode cX9_store 42 = .ok (.putfield 181, 3) := by decide +kernel
theorem dX9_store_45 : decode cX9_store 45 = .ok (.iconst 0, 1) := by decide +kernel
theorem dX9_store_46 : decode cX9_store 46 = .ok (.istore 4, 2) := by decide +kernel
theorem dX9_store_48 : decode cX9_store 48 = .ok (.iload 4, 2) := by decide +kernel
theorem dX9_store_50 : decode cX9_store 50 = .ok (.aload_n 3, 1) := by decide +kernel
theorem dX9_store_51 : decode cX9_store 51 = .ok (.getfield 304, 3) := by decide +kernel
theorem dX9_store_54 : decode cX9_store 54 = .ok (.if_icmp .ge 21, 3) := by decide +kernel
theorem dX9_store_57 : decode cX9_store 57 = .ok (.aload_n 2, 1) := by decide +kernel
theorem dX9_store_58 : decode cX9_store 58 = .ok (.aload_n 3, 1) := by decide +kernel
theorem dX9_store_59 : decode cX9_store 59 = .ok (.getfield 314, 3) := by decide +kernel
theorem dX9_store_62 : decode cX9_store 62 = .ok (.iload 4, 2) := by decide +kernel
theorem dX9_store_64 : decode cX9_store 64 = .ok (.laload, 1) := by decide +kernel
theorem dX9_store_65 : decode cX9_store 65 = .ok (.l2i, 1) := by decide +kernel
theorem dX9_store_66 : decode cX9_store 66 = .ok (.invokevirtual 216, 3) := by decide +kernel
theorem dX9_store_69 : decode cX9_store 69 = .ok (.iinc 4 1, 3) := by decide +kernel
theorem dX9_store_72 : decode cX9_store 72 = .ok (.goto (-24), 3) := by decide +kernel
theorem dX9_store_75 : decode cX9_store 75 = .ok (.aload_n 2, 1) := by decide +kernel
theorem dX9_store_76 : decode cX9_store 76 = .ok (.getfield 181, 3) := by decide +kernel
theorem dX9_store_79 : decode cX9_store 79 = .ok (.ireturn, 1) := by decide +kernel
theorem dX9_undo_0 : decode cX9_undo 0 = .ok (.aload_n 0, 1) := by decide +kernel
theorem dX9_undo_1 : decode cX9_undo 1 = .ok (.getfield 19, 3) := by decide +kernel
theorem dX9_undo_4 : decode cX9_undo 4 = .ok (.getfield 340, 3) := by decide +kernel
theorem dX9_undo_7 : decode cX9_undo 7 = .ok (.ifCond .ne 14, 3) := by decide +kernel
theorem dX9_undo_10 : decode cX9_undo 10 = .ok (.new 55, 3) := by decide +kernel
theorem dX9_undo_13 : decode cX9_undo 13 = .ok (.dup, 1) := by decide +kernel
theorem dX9_undo_14 : decode cX9_undo 14 = .ok (.ldc_w 341, 3) := by decide +kernel
theorem dX9_undo_17 : decode cX9_undo 17 = .ok (.invokespecial 59, 3) := by decide +kernel
theorem dX9_undo_20 : decode cX9_undo 20 = .ok (.athrow, 1) := by decide +kernel
theorem dX9_undo_21 : decode cX9_undo 21 = .ok (.aload_n 0, 1) := by decide +kernel
theorem dX9_undo_22 : decode cX9_undo 22 = .ok (.getfield 19, 3) := by decide +kernel
theorem dX9_undo_25 : decode cX9_undo 25 = .ok (.aload_n 0, 1) := by decide +kernel
theorem dX9_undo_26 : decode cX9_undo 26 = .ok (.getfield 10, 3) := by decide +kernel
theorem dX9_undo_29 : decode cX9_undo 29 = .ok (.invokevirtual 343, 3) := by decide +kernel
theorem dX9_undo_32 : decode cX9_undo 32 = .ok (.aload_n 0, 1) := by decide +kernel
theorem dX9_undo_33 : decode cX9_undo 33 = .ok (.getfield 19, 3) := by decide +kernel
theorem dX9_undo_36 : decode cX9_undo 36 = .ok (.getfield 340, 3) := by decide +kernel
theorem dX9_undo_39 : decode cX9_undo 39 = .ok (.ireturn, 1) := by decide +kernel
theorem dX9_require_0 : decode cX9_require 0 = .ok (.iload_n 0, 1) := by decide +kernel
theorem dX9_require_1 : decode cX9_require 1 = .ok (.ifCond .ne 14, 3) := by decide +kernel
theorem dX9_require_4 : decode cX9_require 4 = .ok (.new 346, 3) := by decide +kernel
theorem dX9_require_7 : decode cX9_require 7 = .ok (.dup, 1) := by decide +kernel
theorem dX9_require_8 : decode cX9_require 8 = .ok (.ldc_w 348, 3) := by decide +kernel
theorem dX9_require_11 : decode cX9_require 11 = .ok (.invokespecial 350, 3) := by decide +kernel
theorem dX9_require_14 : decode cX9_require 14 = .ok (.athrow, 1) := by decide +kernel
theorem dX9_require_15 : decode cX9_require 15 = .ok (.return_, 1) := by decide +kernel
theorem dX9_requirePrime_0 : decode cX9_requirePrime 0 = .ok (.iload_n 1, 1) := by decide +kernel
theorem dX9_requirePrime_1 : decode cX9_requirePrime 1 = .ok (.ifCond .lt 14, 3) := by decide +kernel
theorem dX9_requirePrime_4 : decode cX9_requirePrime 4 = .ok (.iload_n 1, 1) := by decide +kernel
theorem dX9_requirePrime_5 : decode cX9_requirePrime 5 = .ok (.aload_n 0, 1) := by decide +kernel
theorem dX9_requirePrime_6 : decode cX9_requirePrime 6 = .ok (.getfield 10, 3) := by decide +kernel
theorem dX9_requirePrime_9 : decode cX9_requirePrime 9 = .ok (.getfield 88, 3) := by decide +kernel
theorem dX9_requirePrime_12 : decode cX9_requirePrime 12 = .ok (.if_icmp .lt 13, 3) := by decide +kernel
theorem dX9_requirePrime_15 : decode cX9_requirePrime 15 = .ok (.new 186, 3) := by decide +kernel
theorem dX9_requirePrime_18 : decode cX9_requirePrime 18 = .ok (.dup, 1) := by decide +kernel
theorem dX9_requirePrime_19 : decode cX9_requirePrime 19 = .ok (.ldc 165, 2) := by decide +kernel
theorem dX9_requirePrime_21 : decode cX9_requirePrime 21 = .ok (.invokespecial 190, 3) := by decide +kernel
theorem dX9_requirePrime_24 : decode cX9_requirePrime 24 = .ok (.athrow, 1) := by decide +kernel
theorem dX9_requirePrime_25 : decode cX9_requirePrime 25 = .ok (.return_, 1) := by decide +kernel
theorem dX9_requireSet_0 : decode cX9_requireSet 0 = .ok (.iload_n 1, 1) := by decide +kernel
theorem dX9_requireSet_1 : decode cX9_requireSet 1 = .ok (.aload_n 0, 1) := by decide +kernel
theorem dX9_requireSet_2 : decode cX9_requireSet 2 = .ok (.getfield 10, 3) := by decide +kernel
theorem dX9_requireSet_5 : decode cX9_requireSet 5 = .ok (.getfield 88, 3) := by decide +kernel
theorem dX9_requireSet_8 : decode cX9_requireSet 8 = .ok (.ishr, 1) := by decide +kernel
theorem dX9_requireSet_9 : decode cX9_requireSet 9 = .ok (.ifCond .eq 14, 3) := by decide +kernel
theorem dX9_requireSet_12 : decode cX9_requireSet 12 = .ok (.new 186, 3) := by decide +kernel
theorem dX9_requireSet_15 : decode cX9_requireSet 15 = .ok (.dup, 1) := by decide +kernel
theorem dX9_requireSet_16 : decode cX9_requireSet 16 = .ok (.ldc_w 351, 3) := by decide +kernel
theorem dX9_requireSet_19 : decode cX9_requireSet 19 = .ok (.invokespecial 190, 3) := by decide +kernel
theorem dX9_requireSet_22 : decode cX9_requireSet 22 = .ok (.athrow, 1) := by decide +kernel
theorem dX9_requireSet_23 : decode cX9_requireSet 23 = .ok (.return_, 1) := by decide +kernel
theorem dX9_requireSlot_0 : decode cX9_requireSlot 0 = .ok (.iload_n 1, 1) := by decide +kernel
theorem dX9_requireSlot_1 : decode cX9_requireSlot 1 = .ok (.ifCond .lt 8, 3) := by decide +kernel
theorem dX9_requireSlot_4 : decode cX9_requireSlot 4 = .ok (.iload_n 1, 1) := by decide +kernel
theorem dX9_requireSlot_5 : decode cX9_requireSlot 5 = .ok (.iconst 4, 1) := by decide +kernel
theorem dX9_requireSlot_6 : decode cX9_requireSlot 6 = .ok (.if_icmp .lt 14, 3) := by decide +kernel
theorem dX9_requireSlot_9 : decode cX9_requireSlot 9 = .ok (.new 186, 3) := by decide +kernel
theorem dX9_requireSlot_12 : decode cX9_requireSlot 12 = .ok (.dup, 1) := by decide +kernel
theorem dX9_requireSlot_13 : decode cX9_requireSlot 13 = .ok (.ldc_w 353, 3) := by decide +kernel
theorem dX9_requireSlot_16 : decode cX9_requireSlot 16 = .ok (.invokespecial 190, 3) := by decide +kernel
theorem dX9_requireSlot_19 : decode cX9_requireSlot 19 = .ok (.athrow, 1) := by decide +kernel
theorem dX9_requireSlot_20 : decode cX9_requireSlot 20 = .ok (.return_, 1) := by decide +kernel
theorem dX9_requireTerms_0 : decode cX9_requireTerms 0 = .ok (.aload_n 0, 1) := by decide +kernel
theorem dX9_requireTerms_1 : decode cX9_requireTerms 1 = .ok (.iload_n 1, 1) := by decide +kernel
theorem dX9_requireTerms_2 : decode cX9_requireTerms 2 = .ok (.invokevirtual 177, 3) := by decide +kernel
theorem dX9_requireTerms_5 : decode cX9_requireTerms 5 = .ok (.astore_n 3, 1) := by decide +kernel
theorem dX9_requireTerms_6 : decode cX9_requireTerms 6 = .ok (.aload_n 0, 1) := by decide +kernel
theorem dX9_requireTerms_7 : decode cX9_requireTerms 7 = .ok (.iload_n 2, 1) := by decide +kernel
theorem dX9_requireTerms_8 : decode cX9_requireTerms 8 = .ok (.invokevirtual 177, 3) := by decide +kernel
theorem dX9_requireTerms_11 : decode cX9_requireTerms 11 = .ok (.astore 4, 2) := by decide +kernel
theorem dX9_requireTerms_13 : decode cX9_requireTerms 13 = .ok (.aload_n 3, 1) := by decide +kernel
theorem dX9_requireTerms_14 : decode cX9_requireTerms 14 = .ok (.getfield 181, 3) := by decide +kernel
theorem dX9_requireTerms_17 : decode cX9_requireTerms 17 = .ok (.ifCond .eq 11, 3) := by decide +kernel
theorem dX9_requireTerms_20 : decode cX9_requireTerms 20 = .ok (.aload 4, 2) := by decide +kernel
theorem dX9_requireTerms_22 : decode cX9_requireTerms 22 = .ok (.getfield 181, 3) := by decide +kernel
theorem dX9_requireTerms_25 : decode cX9_requireTerms 25 = .ok (.ifCond .ne 14, 3) := by decide +kernel
theorem dX9_requireTerms_28 : decode cX9_requireTerms 28 = .ok (.new 55, 3) := by decide +kernel
theorem dX9_requireTerms_31 : decode cX9_requireTerms 31 = .ok (.dup, 1) := by decide +kernel
theorem dX9_requireTerms_32 : decode cX9_requireTerms 32 = .ok (.ldc_w 355, 3) := by decide +kernel
theorem dX9_requireTerms_35 : decode cX9_requireTerms 35 = .ok (.invokespecial 59, 3) := by decide +kernel
theorem dX9_requireTerms_38 : decode cX9_requireTerms 38 = .ok (.athrow, 1) := by decide +kernel
theorem dX9_requireTerms_39 : decode cX9_requireTerms 39 = .ok (.return_, 1) := by decide +kernel
theorem dX9_requireRoot_0 : decode cX9_requireRoot 0 = .ok (.aload_n 0, 1) := by decide +kernel
theorem dX9_requireRoot_1 : decode cX9_requireRoot 1 = .ok (.iload_n 1, 1) := by decide +kernel
theorem dX9_requireRoot_2 : decode cX9_requireRoot 2 = .ok (.invokevirtual 357, 3) := by decide +kernel
theorem dX9_requireRoot_5 : decode cX9_requireRoot 5 = .ok (.ifCond .ne 14, 3) := by decide +kernel
theorem dX9_requireRoot_8 : decode cX9_requireRoot 8 = .ok (.new 163, 3) := by decide +kernel
theorem dX9_requireRoot_11 : decode cX9_requireRoot 11 = .ok (.dup, 1) := by decide +kernel
theorem dX9_requireRoot_12 : decode cX9_requireRoot 12 = .ok (.ldc_w 360, 3) := by decide +kernel
theorem dX9_requireRoot_15 : decode cX9_requireRoot 15 = .ok (.invokespecial 167, 3) := by decide +kernel
theorem dX9_requireRoot_18 : decode cX9_requireRoot 18 = .ok (.athrow, 1) := by decide +kernel
theorem dX9_requireRoot_19 : decode cX9_requireRoot 19 = .ok (.return_, 1) := by decide +kernel
theorem dX9_requireCoefficient_0 : decode cX9_requireCoefficient 0 = .ok (.aload_n 0, 1) := by decide +kernel
theorem dX9_requireCoefficient_1 : decode cX9_requireCoefficient 1 = .ok (.iload_n 1, 1) := by decide +kernel
theorem dX9_requireCoefficient_2 : decode cX9_requireCoefficient 2 = .ok (.invokevirtual 328, 3) := by decide +kernel
theorem dX9_requireCoefficient_5 : decode cX9_requireCoefficient 5 = .ok (.ifCond .ne 14, 3) := by decide +kernel
theorem dX9_requireCoefficient_8 : decode cX9_requireCoefficient 8 = .ok (.new 186, 3) := by decide +kernel
theorem dX9_requireCoefficient_11 : decode cX9_requireCoefficient 11 = .ok (.dup, 1) := by decide +kernel
theorem dX9_requireCoefficient_12 : decode cX9_requireCoefficient 12 = .ok (.ldc_w 362, 3) := by decide +kernel
theorem dX9_requireCoefficient_15 : decode cX9_requireCoefficient 15 = .ok (.invokespecial 190, 3) := by decide +kernel
theorem dX9_requireCoefficient_18 : decode cX9_requireCoefficient 18 = .ok (.athrow, 1) := by decide +kernel
theorem dX9_requireCoefficient_19 : decode cX9_requireCoefficient 19 = .ok (.return_, 1) := by decide +kernel
theorem dX9_fieldAt_0 : decode cX9_fieldAt 0 = .ok (.aload_n 0, 1) := by decide +kernel
theorem dX9_fieldAt_1 : decode cX9_fieldAt 1 = .ok (.iload_n 1, 1) := by decide +kernel
theorem dX9_fieldAt_2 : decode cX9_fieldAt 2 = .ok (.invokevirtual 103, 3) := by decide +kernel
theorem dX9_fieldAt_5 : decode cX9_fieldAt 5 = .ok (.aload_n 0, 1) := by decide +kernel
theorem dX9_fieldAt_6 : decode cX9_fieldAt 6 = .ok (.getfield 10, 3) := by decide +kernel
theorem dX9_fieldAt_9 : decode cX9_fieldAt 9 = .ok (.getfield 364, 3) := by decide +kernel
theorem dX9_fieldAt_12 : decode cX9_fieldAt 12 = .ok (.iload_n 1, 1) := by decide +kernel
theorem dX9_fieldAt_13 : decode cX9_fieldAt 13 = .ok (.aaload, 1) := by decide +kernel
theorem dX9_fieldAt_14 : decode cX9_fieldAt 14 = .ok (.areturn, 1) := by decide +kernel
theorem dX9_sequenceAt_0 : decode cX9_sequenceAt 0 = .ok (.aload_n 0, 1) := by decide +kernel
theorem dX9_sequenceAt_1 : decode cX9_sequenceAt 1 = .ok (.iload_n 1, 1) := by decide +kernel
theorem dX9_sequenceAt_2 : decode cX9_sequenceAt 2 = .ok (.invokevirtual 219, 3) := by decide +kernel
theorem dX9_sequenceAt_5 : decode cX9_sequenceAt 5 = .ok (.aload_n 0, 1) := by decide +kernel
theorem dX9_sequenceAt_6 : decode cX9_sequenceAt 6 = .ok (.getfield 10, 3) := by decide +kernel
theorem dX9_sequenceAt_9 : decode cX9_sequenceAt 9 = .ok (.getfield 368, 3) := by decide +kernel
theorem dX9_sequenceAt_12 : decode cX9_sequenceAt 12 = .ok (.iload_n 1, 1) := by decide +kernel
theorem dX9_sequenceAt_13 : decode cX9_sequenceAt 13 = .ok (.aaload, 1) := by decide +kernel
theorem dX9_sequenceAt_14 : decode cX9_sequenceAt 14 = .ok (.areturn, 1) := by decide +kernel
theorem dX9_presentProduct_0 : decode cX9_presentProduct 0 = .ok (.aload_n 0, 1) := by decide +kernel
theorem dX9_presentProduct_1 : decode cX9_presentProduct 1 = .ok (.getfield 10, 3) := by decide +kernel
theorem dX9_presentProduct_4 : decode cX9_presentProduct 4 = .ok (.getfield 283, 3) := by decide +kernel
theorem dX9_presentProduct_7 : decode cX9_presentProduct 7 = .ok (.invokevirtual 372, 3) := by decide +kernel
theorem dX9_presentProduct_10 : decode cX9_presentProduct 10 = .ok (.ifCond .ne 14, 3) := by decide +kernel
theorem dX9_presentProduct_13 : decode cX9_presentProduct 13 = .ok (.new 55, 3) := by decide +kernel
theorem dX9_presentProduct_16 : decode cX9_presentProduct 16 = .ok (.dup, 1) := by decide +kernel
theorem dX9_presentProduct_17 : decode cX9_presentProduct 17 = .ok (.ldc_w 375, 3) := by decide +kernel
theorem dX9_presentProduct_20 : decode cX9_presentProduct 20 = .ok (.invokespecial 59, 3) := by decide +kernel
theorem dX9_presentProduct_23 : decode cX9_presentProduct 23 = .ok (.athrow, 1) := by decide +kernel
theorem dX9_presentProduct_24 : decode cX9_presentProduct 24 = .ok (.aload_n 0, 1) := by decide +kernel
theorem dX9_presentProduct_25 : decode cX9_presentProduct 25 = .ok (.getfield 10, 3) := by decide +kernel
theorem dX9_presentProduct_28 : decode cX9_presentProduct 28 = .ok (.getfield 283, 3) := by decide +kernel
theorem dX9_presentProduct_31 : decode cX9_presentProduct 31 = .ok (.areturn, 1) := by decide +kernel
theorem dX9_unitOf_0 : decode cX9_unitOf 0 = .ok (.aload_n 0, 1) := by decide +kernel
theorem dX9_unitOf_1 : decode cX9_unitOf 1 = .ok (.iload_n 1, 1) := by decide +kernel
theorem dX9_unitOf_2 : decode cX9_unitOf 2 = .ok (.i2l, 1) := by decide +kernel
theorem dX9_unitOf_3 : decode cX9_unitOf 3 = .ok (.invokevirtual 138, 3) := by decide +kernel
theorem dX9_unitOf_6 : decode cX9_unitOf 6 = .ok (.istore_n 2, 1) := by decide +kernel
theorem dX9_unitOf_7 : decode cX9_unitOf 7 = .ok (.iload_n 2, 1) := by decide +kernel
theorem dX9_unitOf_8 : decode cX9_unitOf 8 = .ok (.ifCond .ne 14, 3) := by decide +kernel
theorem dX9_unitOf_11 : decode cX9_unitOf 11 = .ok (.new 163, 3) := by decide +kernel
theorem dX9_unitOf_14 : decode cX9_unitOf 14 = .ok (.dup, 1) := by decide +kernel
theorem dX9_unitOf_15 : decode cX9_unitOf 15 = .ok (.ldc_w 377, 3) := by decide +kernel
theorem dX9_unitOf_18 : decode cX9_unitOf 18 = .ok (.invokespecial 167, 3) := by decide +kernel
theorem dX9_unitOf_21 : decode cX9_unitOf 21 = .ok (.athrow, 1) := by decide +kernel
theorem dX9_unitOf_22 : decode cX9_unitOf 22 = .ok (.iload_n 2, 1) := by decide +kernel
theorem dX9_unitOf_23 : decode cX9_unitOf 23 = .ok (.ireturn, 1) := by decide +kernel
theorem dX9_isKind_0 : decode cX9_isKind 0 = .ok (.iload_n 0, 1) := by decide +kernel
theorem dX9_isKind_1 : decode cX9_isKind 1 = .ok (.ifCond .lt 12, 3) := by decide +kernel
theorem dX9_isKind_4 : decode cX9_isKind 4 = .ok (.iload_n 0, 1) := by decide +kernel
theorem dX9_isKind_5 : decode cX9_isKind 5 = .ok (.iconst 2, 1) := by decide +kernel
theorem dX9_isKind_6 : decode cX9_isKind 6 = .ok (.if_icmp .gt 7, 3) := by decide +kernel
theorem dX9_isKind_9 : decode cX9_isKind 9 = .ok (.iconst 1, 1) := by decide +kernel
theorem dX9_isKind_10 : decode cX9_isKind 10 = .ok (.goto 4, 3) := by decide +kernel
theorem dX9_isKind_13 : decode cX9_isKind 13 = .ok (.iconst 0, 1) := by decide +kernel
theorem dX9_isKind_14 : decode cX9_isKind 14 = .ok (.ireturn, 1) := by decide +kernel
theorem dX9_isLength_0 : decode cX9_isLength 0 = .ok (.iload_n 0, 1) := by decide +kernel
theorem dX9_isLength_1 : decode cX9_isLength 1 = .ok (.iconst 1, 1) := by decide +kernel
theorem dX9_isLength_2 : decode cX9_isLength 2 = .ok (.if_icmp .lt 13, 3) := by decide +kernel
theorem dX9_isLength_5 : decode cX9_isLength 5 = .ok (.iload_n 0, 1) := by decide +kernel
theorem dX9_isLength_6 : decode cX9_isLength 6 = .ok (.bipush 64, 2) := by decide +kernel
theorem dX9_isLength_8 : decode cX9_isLength 8 = .ok (.if_icmp .gt 7, 3) := by decide +kernel
theorem dX9_isLength_11 : decode cX9_isLength 11 = .ok (.iconst 1, 1) := by decide +kernel
theorem dX9_isLength_12 : decode cX9_isLength 12 = .ok (.goto 4, 3) := by decide +kernel
theorem dX9_isLength_15 : decode cX9_isLength 15 = .ok (.iconst 0, 1) := by decide +kernel
theorem dX9_isLength_16 : decode cX9_isLength 16 = .ok (.ireturn, 1) := by decide +kernel
theorem dX9_isTerm_0 : decode cX9_isTerm 0 = .ok (.lload_n 0, 1) := by decide +kernel
theorem dX9_isTerm_1 : decode cX9_isTerm 1 = .ok (.ldc2_w 379, 3) := by decide +kernel
theorem dX9_isTerm_4 : decode cX9_isTerm 4 = .ok (.lcmp, 1) := by decide +kernel
theorem dX9_isTerm_5 : decode cX9_isTerm 5 = .ok (.ifCond .lt 15, 3) := by decide +kernel
theorem dX9_isTerm_8 : decode cX9_isTerm 8 = .ok (.lload_n 0, 1) := by decide +kernel
theorem dX9_isTerm_9 : decode cX9_isTerm 9 = .ok (.ldc2_w 381, 3) := by decide +kernel
theorem dX9_isTerm_12 : decode cX9_isTerm 12 = .ok (.lcmp, 1) := by decide +kernel
theorem dX9_isTerm_13 : decode cX9_isTerm 13 = .ok (.ifCond .gt 7, 3) := by decide +kernel
theorem dX9_isTerm_16 : decode cX9_isTerm 16 = .ok (.iconst 1, 1) := by decide +kernel
theorem dX9_isTerm_17 : decode cX9_isTerm 17 = .ok (.goto 4, 3) := by decide +kernel
theorem dX9_isTerm_20 : decode cX9_isTerm 20 = .ok (.iconst 0, 1) := by decide +kernel
theorem dX9_isTerm_21 : decode cX9_isTerm 21 = .ok (.ireturn, 1) := by decide +kernel
theorem dX9_isPrime_0 : decode cX9_isPrime 0 = .ok (.iload_n 0, 1) := by decide +kernel
theorem dX9_isPrime_1 : decode cX9_isPrime 1 = .ok (.iconst 2, 1) := by decide +kernel
theorem dX9_isPrime_2 : decode cX9_isPrime 2 = .ok (.if_icmp .ge 5, 3) := by decide +kernel
theorem dX9_isPrime_5 : decode cX9_isPrime 5 = .ok (.iconst 0, 1) := by decide +kernel
theorem dX9_isPrime_6 : decode cX9_isPrime 6 = .ok (.ireturn, 1) := by decide +kernel
theorem dX9_isPrime_7 : decode cX9_isPrime 7 = .ok (.iconst 2, 1) := by decide +kernel
theorem dX9_isPrime_8 : decode cX9_isPrime 8 = .ok (.istore_n 1, 1) := by decide +kernel
theorem dX9_isPrime_9 : decode cX9_isPrime 9 = .ok (.iload_n 1, 1) := by decide +kernel
theorem dX9_isPrime_10 : decode cX9_isPrime 10 = .ok (.iload_n 0, 1) := by decide +kernel
theorem dX9_isPrime_11 : decode cX9_isPrime 11 = .ok (.iload_n 1, 1) := by decide +kernel
theorem dX9_isPrime_12 : decode cX9_isPrime 12 = .ok (.idiv, 1) := by decide +kernel
theorem dX9_isPrime_13 : decode cX9_isPrime 13 = .ok (.if_icmp .gt 17, 3) := by decide +kernel
theorem dX9_isPrime_16 : decode cX9_isPrime 16 = .ok (.iload_n 0, 1) := by decide +kernel
theorem dX9_isPrime_17 : decode cX9_isPrime 17 = .ok (.iload_n 1, 1) := by decide +kernel
theorem dX9_isPrime_18 : decode cX9_isPrime 18 = .ok (.irem, 1) := by decide +kernel
theorem dX9_isPrime_19 : decode cX9_isPrime 19 = .ok (.ifCond .ne 5, 3) := by decide +kernel
theorem dX9_isPrime_22 : decode cX9_isPrime 22 = .ok (.iconst 0, 1) := by decide +kernel
theorem dX9_isPrime_23 : decode cX9_isPrime 23 = .ok (.ireturn, 1) := by decide +kernel
theorem dX9_isPrime_24 : decode cX9_isPrime 24 = .ok (.iinc 1 1, 3) := by decide +kernel
theorem dX9_isPrime_27 : decode cX9_isPrime 27 = .ok (.goto (-18), 3) := by decide +kernel
theorem dX9_isPrime_30 : decode cX9_isPrime 30 = .ok (.iconst 1, 1) := by decide +kernel
theorem dX9_isPrime_31 : decode cX9_isPrime 31 = .ok (.ireturn, 1) := by decide +kernel
theorem dX9_leastPrime_0 : decode cX9_leastPrime 0 = .ok (.iload_n 0, 1) := by decide +kernel
theorem dX9_leastPrime_1 : decode cX9_leastPrime 1 = .ok (.iconst 1, 1) := by decide +kernel
theorem dX9_leastPrime_2 : decode cX9_leastPrime 2 = .ok (.if_icmp .ge 5, 3) := by decide +kernel
theorem dX9_leastPrime_5 : decode cX9_leastPrime 5 = .ok (.iconst (-1), 1) := by decide +kernel
theorem dX9_leastPrime_6 : decode cX9_leastPrime 6 = .ok (.ireturn, 1) := by decide +kernel
theorem dX9_leastPrime_7 : decode cX9_leastPrime 7 = .ok (.iload_n 1, 1) := by decide +kernel
theorem dX9_leastPrime_8 : decode cX9_leastPrime 8 = .ok (.iconst 1, 1) := by decide +kernel
theorem dX9_leastPrime_9 : decode cX9_leastPrime 9 = .ok (.isub, 1) := by decide +kernel
theorem dX9_leastPrime_10 : decode cX9_leastPrime 10 = .ok (.iload_n 0, 1) := by decide +kernel
theorem dX9_leastPrime_11 : decode cX9_leastPrime 11 = .ok (.idiv, 1) := by decide +kernel
theorem dX9_leastPrime_12 : decode cX9_leastPrime 12 = .ok (.iconst 1, 1) := by decide +kernel
theorem dX9_leastPrime_13 : decode cX9_leastPrime 13 = .ok (.iadd, 1) := by decide +kernel
theorem dX9_leastPrime_14 : decode cX9_leastPrime 14 = .ok (.iload_n 0, 1) := by decide +kernel
theorem dX9_leastPrime_15 : decode cX9_leastPrime 15 = .ok (.imul, 1) := by decide +kernel
theorem dX9_leastPrime_16 : decode cX9_leastPrime 16 = .ok (.iconst 1, 1) := by decide +kernel
theorem dX9_leastPrime_17 : decode cX9_leastPrime 17 = .ok (.iadd, 1) := by decide +kernel
theorem dX9_leastPrime_18 : decode cX9_leastPrime 18 = .ok (.istore_n 2, 1) := by decide +kernel
theorem dX9_leastPrime_19 : decode cX9_leastPrime 19 = .ok (.iload_n 2, 1) := by decide +kernel
theorem dX9_leastPrime_20 : decode cX9_leastPrime 20 = .ok (.istore_n 3, 1) := by decide +kernel
theorem dX9_leastPrime_21 : decode cX9_leastPrime 21 = .ok (.iload_n 3, 1) := by decide +kernel
theorem dX9_leastPrime_22 : decode cX9_leastPrime 22 = .ok (.ldc 159, 2) := by decide +kernel
theorem dX9_leastPrime_24 : decode cX9_leastPrime 24 = .ok (.if_icmp .gt 19, 3) := by decide +kernel
theorem dX9_leastPrime_27 : decode cX9_leastPrime 27 = .ok (.iload_n 3, 1) := by decide +kernel
theorem dX9_leastPrime_28 : decode cX9_leastPrime 28 = .ok (.invokestatic 383, 3) := by decide +kernel
theorem dX9_leastPrime_31 : decode cX9_leastPrime 31 = .ok (.ifCond .eq 5, 3) := by decide +kernel
theorem dX9_leastPrime_34 : decode cX9_leastPrime 34 = .ok (.iload_n 3, 1) := by decide +kernel
theorem dX9_leastPrime_35 : decode cX9_leastPrime 35 = .ok (.ireturn, 1) := by decide +kernel
theorem dX9_leastPrime_36 : decode cX9_leastPrime 36 = .ok (.iload_n 3, 1) := by decide +kernel
theorem dX9_leastPrime_37 : decode cX9_leastPrime 37 = .ok (.iload_n 0, 1) := by decide +kernel
theorem dX9_leastPrime_38 : decode cX9_leastPrime 38 = .ok (.iadd, 1) := by decide +kernel
theorem dX9_leastPrime_39 : decode cX9_leastPrime 39 = .ok (.istore_n 3, 1) := by decide +kernel
theorem dX9_leastPrime_40 : decode cX9_leastPrime 40 = .ok (.goto (-19), 3) := by decide +kernel
theorem dX9_leastPrime_43 : decode cX9_leastPrime 43 = .ok (.iconst (-1), 1) := by decide +kernel
theorem dX9_leastPrime_44 : decode cX9_leastPrime 44 = .ok (.ireturn, 1) := by decide +kernel
theorem dX9_sizeOf_0 : decode cX9_sizeOf 0 = .ok (.iload_n 0, 1) := by decide +kernel
theorem dX9_sizeOf_1 : decode cX9_sizeOf 1 = .ok (.invokestatic 168, 3) := by decide +kernel
theorem dX9_sizeOf_4 : decode cX9_sizeOf 4 = .ok (.invokestatic 70, 3) := by decide +kernel
theorem dX9_sizeOf_7 : decode cX9_sizeOf 7 = .ok (.iload_n 0, 1) := by decide +kernel
theorem dX9_sizeOf_8 : decode cX9_sizeOf 8 = .ok (.ifCond .ne 15, 3) := by decide +kernel
theorem dX9_sizeOf_11 : decode cX9_sizeOf 11 = .ok (.aload_n 1, 1) := by decide +kernel
theorem dX9_sizeOf_12 : decode cX9_sizeOf 12 = .ok (.getfield 181, 3) := by decide +kernel
theorem dX9_sizeOf_15 : decode cX9_sizeOf 15 = .ok (.aload_n 2, 1) := by decide +kernel
theorem dX9_sizeOf_16 : decode cX9_sizeOf 16 = .ok (.getfield 181, 3) := by decide +kernel
theorem dX9_sizeOf_19 : decode cX9_sizeOf 19 = .ok (.iadd, 1) := by decide +kernel
theorem dX9_sizeOf_20 : decode cX9_sizeOf 20 = .ok (.iconst 1, 1) := by decide +kernel
theorem dX9_sizeOf_21 : decode cX9_sizeOf 21 = .ok (.isub, 1) := by decide +kernel
theorem dX9_sizeOf_22 : decode cX9_sizeOf 22 = .ok (.ireturn, 1) := by decide +kernel
theorem dX9_sizeOf_23 : decode cX9_sizeOf 23 = .ok (.iload_n 3, 1) := by decide +kernel
theorem dX9_sizeOf_24 : decode cX9_sizeOf 24 = .ok (.invokestatic 171, 3) := by decide +kernel
theorem dX9_sizeOf_27 : decode cX9_sizeOf 27 = .ok (.ifCond .eq 17, 3) := by decide +kernel
theorem dX9_sizeOf_30 : decode cX9_sizeOf 30 = .ok (.iload_n 0, 1) := by decide +kernel
theorem dX9_sizeOf_31 : decode cX9_sizeOf 31 = .ok (.aload_n 1, 1) := by decide +kernel
theorem dX9_sizeOf_32 : decode cX9_sizeOf 32 = .ok (.aload_n 2, 1) := by decide +kernel
theorem dX9_sizeOf_33 : decode cX9_sizeOf 33 = .ok (.iload_n 3, 1) := by decide +kernel
theorem dX9_sizeOf_34 : decode cX9_sizeOf 34 = .ok (.invokestatic 331, 3) := by decide +kernel
theorem dX9_sizeOf_37 : decode cX9_sizeOf 37 = .ok (.ifCond .eq 7, 3) := by decide +kernel
theorem dX9_sizeOf_40 : decode cX9_sizeOf 40 = .ok (.iconst 1, 1) := by decide +kernel
theorem dX9_sizeOf_41 : decode cX9_sizeOf 41 = .ok (.goto 4, 3) := by decide +kernel
theorem dX9_sizeOf_44 : decode cX9_sizeOf 44 = .ok (.iconst 0, 1) := by decide +kernel
theorem dX9_sizeOf_45 : decode cX9_sizeOf 45 = .ok (.invokestatic 70, 3) := by decide +kernel
theorem dX9_sizeOf_48 : decode cX9_sizeOf 48 = .ok (.iload_n 3, 1) := by decide +kernel
theorem dX9_sizeOf_49 : decode cX9_sizeOf 49 = .ok (.ireturn, 1) := by decide +kernel
theorem dX9_isSizeOf_0 : decode cX9_isSizeOf 0 = .ok (.iload_n 0, 1) := by decide +kernel
theorem dX9_isSizeOf_1 : decode cX9_isSizeOf 1 = .ok (.ifCond .ne 24, 3) := by decide +kernel
theorem dX9_isSizeOf_4 : decode cX9_isSizeOf 4 = .ok (.iload_n 3, 1) := by decide +kernel
theorem dX9_isSizeOf_5 : decode cX9_isSizeOf 5 = .ok (.aload_n 1, 1) := by decide +kernel
theorem dX9_isSizeOf_6 : decode cX9_isSizeOf 6 = .ok (.getfield 181, 3) := by decide +kernel
theorem dX9_isSizeOf_9 : decode cX9_isSizeOf 9 = .ok (.aload_n 2, 1) := by decide +kernel
theorem dX9_isSizeOf_10 : decode cX9_isSizeOf 10 = .ok (.getfield 181, 3) := by decide +kernel
theorem dX9_isSizeOf_13 : decode cX9_isSizeOf 13 = .ok (.iadd, 1) := by decide +kernel
theorem dX9_isSizeOf_14 : decode cX9_isSizeOf 14 = .ok (.iconst 1, 1) := by decide +kernel
theorem dX9_isSizeOf_15 : decode cX9_isSizeOf 15 = .ok (.isub, 1) := by decide +kernel
theorem dX9_isSizeOf_16 : decode cX9_isSizeOf 16 = .ok (.if_icmp .ne 7, 3) := by decide +kernel
theorem dX9_isSizeOf_19 : decode cX9_isSizeOf 19 = .ok (.iconst 1, 1) := by decide +kernel
theorem dX9_isSizeOf_20 : decode cX9_isSizeOf 20 = .ok (.goto 4, 3) := by decide +kernel
theorem dX9_isSizeOf_23 : decode cX9_isSizeOf 23 = .ok (.iconst 0, 1) := by decide +kernel
theorem dX9_isSizeOf_24 : decode cX9_isSizeOf 24 = .ok (.ireturn, 1) := by decide +kernel
theorem dX9_isSizeOf_25 : decode cX9_isSizeOf 25 = .ok (.iload_n 3, 1) := by decide +kernel
theorem dX9_isSizeOf_26 : decode cX9_isSizeOf 26 = .ok (.aload_n 1, 1) := by decide +kernel
theorem dX9_isSizeOf_27 : decode cX9_isSizeOf 27 = .ok (.getfield 181, 3) := by decide +kernel
theorem dX9_isSizeOf_30 : decode cX9_isSizeOf 30 = .ok (.if_icmp .lt 15, 3) := by decide +kernel
theorem dX9_isSizeOf_33 : decode cX9_isSizeOf 33 = .ok (.iload_n 3, 1) := by decide +kernel
theorem dX9_isSizeOf_34 : decode cX9_isSizeOf 34 = .ok (.aload_n 2, 1) := by decide +kernel
theorem dX9_isSizeOf_35 : decode cX9_isSizeOf 35 = .ok (.getfield 181, 3) := by decide +kernel
theorem dX9_isSizeOf_38 : decode cX9_isSizeOf 38 = .ok (.if_icmp .lt 7, 3) := by decide +kernel
theorem dX9_isSizeOf_41 : decode cX9_isSizeOf 41 = .ok (.iconst 1, 1) := by decide +kernel
theorem dX9_isSizeOf_42 : decode cX9_isSizeOf 42 = .ok (.goto 4, 3) := by decide +kernel
theorem dX9_isSizeOf_45 : decode cX9_isSizeOf 45 = .ok (.iconst 0, 1) := by decide +kernel
theorem dX9_isSizeOf_46 : decode cX9_isSizeOf 46 = .ok (.ireturn, 1) := by decide +kernel
theorem dX9_boundOf_0 : decode cX9_boundOf 0 = .ok (.aload_n 0, 1) := by decide +kernel
theorem dX9_boundOf_1 : decode cX9_boundOf 1 = .ok (.getfield 181, 3) := by decide +kernel
theorem dX9_boundOf_4 : decode cX9_boundOf 4 = .ok (.aload_n 1, 1) := by decide +kernel
theorem dX9_boundOf_5 : decode cX9_boundOf 5 = .ok (.getfield 181, 3) := by decide +kernel
theorem dX9_boundOf_8 : decode cX9_boundOf 8 = .ok (.invokestatic 386, 3) := by decide +kernel
theorem dX9_boundOf_11 : decode cX9_boundOf 11 = .ok (.i2l, 1) := by decide +kernel
theorem dX9_boundOf_12 : decode cX9_boundOf 12 = .ok (.aload_n 0, 1) := by decide +kernel
theorem dX9_boundOf_13 : decode cX9_boundOf 13 = .ok (.invokevirtual 389, 3) := by decide +kernel
theorem dX9_boundOf_16 : decode cX9_boundOf 16 = .ok (.i2l, 1) := by decide +kernel
theorem dX9_boundOf_17 : decode cX9_boundOf 17 = .ok (.lmul, 1) := by decide +kernel
theorem dX9_boundOf_18 : decode cX9_boundOf 18 = .ok (.aload_n 1, 1) := by decide +kernel
theorem dX9_boundOf_19 : decode cX9_boundOf 19 = .ok (.invokevirtual 389, 3) := by decide +kernel
theorem dX9_boundOf_22 : decode cX9_boundOf 22 = .ok (.i2l, 1) := by decide +kernel
theorem dX9_boundOf_23 : decode cX9_boundOf 23 = .ok (.lmul, 1) := by decide +kernel
theorem dX9_boundOf_24 : decode cX9_boundOf 24 = .ok (.lreturn, 1) := by decide +kernel
theorem dX9_coefficientOf_0 : decode cX9_coefficientOf 0 = .ok (.aload_n 1, 1) := by decide +kernel
theorem dX9_coefficientOf_1 : decode cX9_coefficientOf 1 = .ok (.aload_n 2, 1) := by decide +kernel
theorem dX9_coefficientOf_2 : decode cX9_coefficientOf 2 = .ok (.iload 4, 2) := by decide +kernel
theorem dX9_coefficientOf_4 : decode cX9_coefficientOf 4 = .ok (.invokestatic 392, 3) := by decide +kernel
theorem dX9_coefficientOf_7 : decode cX9_coefficientOf 7 = .ok (.lstore 5, 2) := by decide +kernel
theorem dX9_coefficientOf_9 : decode cX9_coefficientOf 9 = .ok (.iload_n 0, 1) := by decide +kernel
theorem dX9_coefficientOf_10 : decode cX9_coefficientOf 10 = .ok (.ifCond .ne 6, 3) := by decide +kernel
theorem dX9_coefficientOf_13 : decode cX9_coefficientOf 13 = .ok (.lload 5, 2) := by decide +kernel
theorem dX9_coefficientOf_15 : decode cX9_coefficientOf 15 = .ok (.lreturn, 1) := by decide +kernel
theorem dX9_coefficientOf_16 : decode cX9_coefficientOf 16 = .ok (.aload_n 1, 1) := by decide +kernel
theorem dX9_coefficientOf_17 : decode cX9_coefficientOf 17 = .ok (.aload_n 2, 1) := by decide +kernel
theorem dX9_coefficientOf_18 : decode cX9_coefficientOf 18 = .ok (.iload 4, 2) := by decide +kernel
theorem dX9_coefficientOf_20 : decode cX9_coefficientOf 20 = .ok (.iload_n 3, 1) := by decide +kernel
theorem dX9_coefficientOf_21 : decode cX9_coefficientOf 21 = .ok (.iadd, 1) := by decide +kernel
theorem dX9_coefficientOf_22 : decode cX9_coefficientOf 22 = .ok (.invokestatic 392, 3) := by decide +kernel
theorem dX9_coefficientOf_25 : decode cX9_coefficientOf 25 = .ok (.lstore 7, 2) := by decide +kernel
theorem dX9_coefficientOf_27 : decode cX9_coefficientOf 27 = .ok (.iload_n 0, 1) := by decide +kernel
theorem dX9_coefficientOf_28 : decode cX9_coefficientOf 28 = .ok (.iconst 1, 1) := by decide +kernel
theorem dX9_coefficientOf_29 : decode cX9_coefficientOf 29 = .ok (.if_icmp .ne 11, 3) := by decide +kernel
theorem dX9_coefficientOf_32 : decode cX9_coefficientOf 32 = .ok (.lload 5, 2) := by decide +kernel
theorem dX9_coefficientOf_34 : decode cX9_coefficientOf 34 = .ok (.lload 7, 2) := by decide +kernel
theorem dX9_coefficientOf_36 : decode cX9_coefficientOf 36 = .ok (.ladd, 1) := by decide +kernel
theorem dX9_coefficientOf_37 : decode cX9_coefficientOf 37 = .ok (.goto 8, 3) := by decide +kernel
theorem dX9_coefficientOf_40 : decode cX9_coefficientOf 40 = .ok (.lload 5, 2) := by decide +kernel
theorem dX9_coefficientOf_42 : decode cX9_coefficientOf 42 = .ok (.lload 7, 2) := by decide +kernel
theorem dX9_coefficientOf_44 : decode cX9_coefficientOf 44 = .ok (.lsub, 1) := by decide +kernel
theorem dX9_coefficientOf_45 : decode cX9_coefficientOf 45 = .ok (.lreturn, 1) := by decide +kernel
theorem dX9_linearCoefficient_0 : decode cX9_linearCoefficient 0 = .ok (.lconst 0, 1) := by decide +kernel
theorem dX9_linearCoefficient_1 : decode cX9_linearCoefficient 1 = .ok (.lstore_n 3, 1) := by decide +kernel
theorem dX9_linearCoefficient_2 : decode cX9_linearCoefficient 2 = .ok (.iconst 0, 1) := by decide +kernel
theorem dX9_linearCoefficient_3 : decode cX9_linearCoefficient 3 = .ok (.istore 5, 2) := by decide +kernel
theorem dX9_linearCoefficient_5 : decode cX9_linearCoefficient 5 = .ok (.iload 5, 2) := by decide +kernel
theorem dX9_linearCoefficient_7 : decode cX9_linearCoefficient 7 = .ok (.aload_n 0, 1) := by decide +kernel
theorem dX9_linearCoefficient_8 : decode cX9_linearCoefficient 8 = .ok (.getfield 181, 3) := by decide +kernel
theorem dX9_linearCoefficient_11 : decode cX9_linearCoefficient 11 = .ok (.if_icmp .ge 49, 3) := by decide +kernel
theorem dX9_linearCoefficient_14 : decode cX9_linearCoefficient 14 = .ok (.iload_n 2, 1) := by decide +kernel
theorem dX9_linearCoefficient_15 : decode cX9_linearCoefficient 15 = .ok (.iload 5, 2) := by decide +kernel
theorem dX9_linearCoefficient_17 : decode cX9_linearCoefficient 17 = .ok (.isub, 1) := by decide +kernel
theorem dX9_linearCoefficient_18 : decode cX9_linearCoefficient 18 = .ok (.istore 6, 2) := by decide +kernel
theorem dX9_linearCoefficient_20 : decode cX9_linearCoefficient 20 = .ok (.iload 6, 2) := by decide +kernel
theorem dX9_linearCoefficient_22 : decode cX9_linearCoefficient 22 = .ok (.ifCond .lt 32, 3) := by decide +kernel
theorem dX9_linearCoefficient_25 : decode cX9_linearCoefficient 25 = .ok (.iload 6, 2) := by decide +kernel
theorem dX9_linearCoefficient_27 : decode cX9_linearCoefficient 27 = .ok (.aload_n 1, 1) := by decide +kernel
theorem dX9_linearCoefficient_28 : decode cX9_linearCoefficient 28 = .ok (.getfield 181, 3) := by decide +kernel
theorem dX9_linearCoefficient_31 : decode cX9_linearCoefficient 31 = .ok (.if_icmp .ge 23, 3) := by decide +kernel
theorem dX9_linearCoefficient_34 : decode cX9_linearCoefficient 34 = .ok (.lload_n 3, 1) := by decide +kernel
theorem dX9_linearCoefficient_35 : decode cX9_linearCoefficient 35 = .ok (.aload_n 0, 1) := by decide +kernel
theorem dX9_linearCoefficient_36 : decode cX9_linearCoefficient 36 = .ok (.getfield 191, 3) := by decide +kernel
theorem dX9_linearCoefficient_39 : decode cX9_linearCoefficient 39 = .ok (.iload 5, 2) := by decide +kernel
theorem dX9_linearCoefficient_41 : decode cX9_linearCoefficient 41 = .ok (.iaload, 1) := by decide +kernel
theorem dX9_linearCoefficient_42 : decode cX9_linearCoefficient 42 = .ok (.i2l, 1) := by decide +kernel
theorem dX9_linearCoefficient_43 : decode cX9_linearCoefficient 43 = .ok (.aload_n 1, 1) := by decide +kernel
theorem dX9_linearCoefficient_44 : decode cX9_linearCoefficient 44 = .ok (.getfield 191, 3) := by decide +kernel
theorem dX9_linearCoefficient_47 : decode cX9_linearCoefficient 47 = .ok (.iload 6, 2) := by decide +kernel
theorem dX9_linearCoefficient_49 : decode cX9_linearCoefficient 49 = .ok (.iaload, 1) := by decide +kernel
theorem dX9_linearCoefficient_50 : decode cX9_linearCoefficient 50 = .ok (.i2l, 1) := by decide +kernel
theorem dX9_linearCoefficient_51 : decode cX9_linearCoefficient 51 = .ok (.lmul, 1) := by decide +kernel
theorem dX9_linearCoefficient_52 : decode cX9_linearCoefficient 52 = .ok (.ladd, 1) := by decide +kernel
theorem dX9_linearCoefficient_53 : decode cX9_linearCoefficient 53 = .ok (.lstore_n 3, 1) := by decide +kernel
theorem dX9_linearCoefficient_54 : decode cX9_linearCoefficient 54 = .ok (.iinc 5 1, 3) := by decide +kernel
theorem dX9_linearCoefficient_57 : decode cX9_linearCoefficient 57 = .ok (.goto (-52), 3) := by decide +kernel
theorem dX9_linearCoefficient_60 : decode cX9_linearCoefficient 60 = .ok (.lload_n 3, 1) := by decide +kernel
theorem dX9_linearCoefficient_61 : decode cX9_linearCoefficient 61 = .ok (.lreturn, 1) := by decide +kernel
theorem dX9_methodCost_0 : decode cX9_methodCost 0 = .ok (.iload_n 2, 1) := by decide +kernel
theorem dX9_methodCost_1 : decode cX9_methodCost 1 = .ok (.lookupswitch 36 #[(0, 27), (1, 31)], 27) := by decide +kernel
theorem dX9_methodCost_28 : decode cX9_methodCost 28 = .ok (.iload_n 1, 1) := by decide +kernel
theorem dX9_methodCost_29 : decode cX9_methodCost 29 = .ok (.iload_n 1, 1) := by decide +kernel
theorem dX9_methodCost_30 : decode cX9_methodCost 30 = .ok (.imul, 1) := by decide +kernel
theorem dX9_methodCost_31 : decode cX9_methodCost 31 = .ok (.ireturn, 1) := by decide +kernel
theorem dX9_methodCost_32 : decode cX9_methodCost 32 = .ok (.iload_n 1, 1) := by decide +kernel
theorem dX9_methodCost_33 : decode cX9_methodCost 33 = .ok (.invokestatic 396, 3) := by decide +kernel
theorem dX9_methodCost_36 : decode cX9_methodCost 36 = .ok (.ireturn, 1) := by decide +kernel
theorem dX9_methodCost_37 : decode cX9_methodCost 37 = .ok (.aload_n 0, 1) := by decide +kernel
theorem dX9_methodCost_38 : decode cX9_methodCost 38 = .ok (.iload_n 1, 1) := by decide +kernel
theorem dX9_methodCost_39 : decode cX9_methodCost 39 = .ok (.invokestatic 399, 3) := by decide +kernel
theorem dX9_methodCost_42 : decode cX9_methodCost 42 = .ok (.ireturn, 1) := by decide +kernel
theorem dX9_splittingCost_0 : decode cX9_splittingCost 0 = .ok (.iconst 0, 1) := by decide +kernel
theorem dX9_splittingCost_1 : decode cX9_splittingCost 1 = .ok (.istore_n 1, 1) := by decide +kernel
theorem dX9_splittingCost_2 : decode cX9_splittingCost 2 = .ok (.iload_n 0, 1) := by decide +kernel
theorem dX9_splittingCost_3 : decode cX9_splittingCost 3 = .ok (.istore_n 2, 1) := by decide +kernel
theorem dX9_splittingCost_4 : decode cX9_splittingCost 4 = .ok (.iconst 2, 1) := by decide +kernel
theorem dX9_splittingCost_5 : decode cX9_splittingCost 5 = .ok (.istore_n 3, 1) := by decide +kernel
theorem dX9_splittingCost_6 : decode cX9_splittingCost 6 = .ok (.iload_n 3, 1) := by decide +kernel
theorem dX9_splittingCost_7 : decode cX9_splittingCost 7 = .ok (.iload_n 0, 1) := by decide +kernel
theorem dX9_splittingCost_8 : decode cX9_splittingCost 8 = .ok (.if_icmp .gt 33, 3) := by decide +kernel
theorem dX9_splittingCost_11 : decode cX9_splittingCost 11 = .ok (.iload_n 2, 1) := by decide +kernel
theorem dX9_splittingCost_12 : decode cX9_splittingCost 12 = .ok (.iconst 1, 1) := by decide +kernel
theorem dX9_splittingCost_13 : decode cX9_splittingCost 13 = .ok (.if_icmp .le 22, 3) := by decide +kernel
theorem dX9_splittingCost_16 : decode cX9_splittingCost 16 = .ok (.iload_n 2, 1) := by decide +kernel
theorem dX9_splittingCost_17 : decode cX9_splittingCost 17 = .ok (.iload_n 3, 1) := by decide +kernel
theorem dX9_splittingCost_18 : decode cX9_splittingCost 18 = .ok (.irem, 1) := by decide +kernel
theorem dX9_splittingCost_19 : decode cX9_splittingCost 19 = .ok (.ifCond .ne 16, 3) := by decide +kernel
theorem dX9_splittingCost_22 : decode cX9_splittingCost 22 = .ok (.iload_n 2, 1) := by decide +kernel
theorem dX9_splittingCost_23 : decode cX9_splittingCost 23 = .ok (.iload_n 3, 1) := by decide +kernel
theorem dX9_splittingCost_24 : decode cX9_splittingCost 24 = .ok (.idiv, 1) := by decide +kernel
theorem dX9_splittingCost_25 : decode cX9_splittingCost 25 = .ok (.istore_n 2, 1) := by decide +kernel
theorem dX9_splittingCost_26 : decode cX9_splittingCost 26 = .ok (.iload_n 1, 1) := by decide +kernel
theorem dX9_splittingCost_27 : decode cX9_splittingCost 27 = .ok (.iload_n 3, 1) := by decide +kernel
theorem dX9_splittingCost_28 : decode cX9_splittingCost 28 = .ok (.iconst 1, 1) := by decide +kernel
theorem dX9_splittingCost_29 : decode cX9_splittingCost 29 = .ok (.isub, 1) := by decide +kernel
theorem dX9_splittingCost_30 : decode cX9_splittingCost 30 = .ok (.iadd, 1) := by decide +kernel
theorem dX9_splittingCost_31 : decode cX9_splittingCost 31 = .ok (.istore_n 1, 1) := by decide +kernel
theorem dX9_splittingCost_32 : decode cX9_splittingCost 32 = .ok (.goto (-21), 3) := by decide +kernel
theorem dX9_splittingCost_35 : decode cX9_splittingCost 35 = .ok (.iinc 3 1, 3) := by decide +kernel
theorem dX9_splittingCost_38 : decode cX9_splittingCost 38 = .ok (.goto (-32), 3) := by decide +kernel
theorem dX9_splittingCost_41 : decode cX9_splittingCost 41 = .ok (.iload_n 0, 1) := by decide +kernel
theorem dX9_splittingCost_42 : decode cX9_splittingCost 42 = .ok (.iload_n 1, 1) := by decide +kernel
theorem dX9_splittingCost_43 : decode cX9_splittingCost 43 = .ok (.imul, 1) := by decide +kernel
theorem dX9_splittingCost_44 : decode cX9_splittingCost 44 = .ok (.ireturn, 1) := by decide +kernel
theorem dX9_chirpCost_0 : decode cX9_chirpCost 0 = .ok (.iconst 1, 1) := by decide +kernel
theorem dX9_chirpCost_1 : decode cX9_chirpCost 1 = .ok (.istore_n 2, 1) := by decide +kernel
theorem dX9_chirpCost_2 : decode cX9_chirpCost 2 = .ok (.iconst 0, 1) := by decide +kernel
theorem dX9_chirpCost_3 : decode cX9_chirpCost 3 = .ok (.istore_n 3, 1) := by decide +kernel
theorem dX9_chirpCost_4 : decode cX9_chirpCost 4 = .ok (.iload_n 2, 1) := by decide +kernel
theorem dX9_chirpCost_5 : decode cX9_chirpCost 5 = .ok (.iconst 2, 1) := by decide +kernel
theorem dX9_chirpCost_6 : decode cX9_chirpCost 6 = .ok (.iload_n 1, 1) := by decide +kernel
theorem dX9_chirpCost_7 : decode cX9_chirpCost 7 = .ok (.imul, 1) := by decide +kernel
theorem dX9_chirpCost_8 : decode cX9_chirpCost 8 = .ok (.iconst 1, 1) := by decide +kernel
theorem dX9_chirpCost_9 : decode cX9_chirpCost 9 = .ok (.isub, 1) := by decide +kernel
theorem dX9_chirpCost_10 : decode cX9_chirpCost 10 = .ok (.if_icmp .ge 19, 3) := by decide +kernel
theorem dX9_chirpCost_13 : decode cX9_chirpCost 13 = .ok (.iload_n 3, 1) := by decide +kernel
theorem dX9_chirpCost_14 : decode cX9_chirpCost 14 = .ok (.bipush 30, 2) := by decide +kernel
theorem dX9_chirpCost_16 : decode cX9_chirpCost 16 = .ok (.if_icmp .ge 13, 3) := by decide +kernel
theorem dX9_chirpCost_19 : decode cX9_chirpCost 19 = .ok (.iload_n 2, 1) := by decide +kernel
theorem dX9_chirpCost_20 : decode cX9_chirpCost 20 = .ok (.iconst 2, 1) := by decide +kernel
theorem dX9_chirpCost_21 : decode cX9_chirpCost 21 = .ok (.imul, 1) := by decide +kernel
theorem dX9_chirpCost_22 : decode cX9_chirpCost 22 = .ok (.istore_n 2, 1) := by decide +kernel
theorem dX9_chirpCost_23 : decode cX9_chirpCost 23 = .ok (.iinc 3 1, 3) := by decide +kernel
theorem dX9_chirpCost_26 : decode cX9_chirpCost 26 = .ok (.goto (-22), 3) := by decide +kernel
theorem dX9_chirpCost_29 : decode cX9_chirpCost 29 = .ok (.aload_n 0, 1) := by decide +kernel
theorem dX9_chirpCost_30 : decode cX9_chirpCost 30 = .ok (.iload_n 2, 1) := by decide +kernel
theorem dX9_chirpCost_31 : decode cX9_chirpCost 31 = .ok (.invokevirtual 357, 3) := by decide +kernel
theorem dX9_chirpCost_34 : decode cX9_chirpCost 34 = .ok (.ifCond .eq 17, 3) := by decide +kernel
theorem dX9_chirpCost_37 : decode cX9_chirpCost 37 = .ok (.iconst 3, 1) := by decide +kernel
theorem dX9_chirpCost_38 : decode cX9_chirpCost 38 = .ok (.iload_n 2, 1) := by decide +kernel
theorem dX9_chirpCost_39 : decode cX9_chirpCost 39 = .ok (.imul, 1) := by decide +kernel
theorem dX9_chirpCost_40 : decode cX9_chirpCost 40 = .ok (.iload_n 3, 1) := by decide +kernel
theorem dX9_chirpCost_41 : decode cX9_chirpCost 41 = .ok (.imul, 1) := by decide +kernel
theorem dX9_chirpCost_42 : decode cX9_chirpCost 42 = .ok (.iload_n 2, 1) := by decide +kernel
theorem dX9_chirpCost_43 : decode cX9_chirpCost 43 = .ok (.iadd, 1) := by decide +kernel
theorem dX9_chirpCost_44 : decode cX9_chirpCost 44 = .ok (.iconst 2, 1) := by decide +kernel
theorem dX9_chirpCost_45 : decode cX9_chirpCost 45 = .ok (.iload_n 1, 1) := by decide +kernel
theorem dX9_chirpCost_46 : decode cX9_chirpCost 46 = .ok (.imul, 1) := by decide +kernel
theorem dX9_chirpCost_47 : decode cX9_chirpCost 47 = .ok (.iadd, 1) := by decide +kernel
theorem dX9_chirpCost_48 : decode cX9_chirpCost 48 = .ok (.goto 4, 3) := by decide +kernel
theorem dX9_chirpCost_51 : decode cX9_chirpCost 51 = .ok (.iconst (-1), 1) := by decide +kernel
theorem dX9_chirpCost_52 : decode cX9_chirpCost 52 = .ok (.ireturn, 1) := by decide +kernel
theorem dX9_cheapestMethod_0 : decode cX9_cheapestMethod 0 = .ok (.iconst 0, 1) := by decide +kernel
theorem dX9_cheapestMethod_1 : decode cX9_cheapestMethod 1 = .ok (.istore_n 2, 1) := by decide +kernel
theorem dX9_cheapestMethod_2 : decode cX9_cheapestMethod 2 = .ok (.iconst 1, 1) := by decide +kernel
theorem dX9_cheapestMethod_3 : decode cX9_cheapestMethod 3 = .ok (.istore_n 3, 1) := by decide +kernel
theorem dX9_cheapestMethod_4 : decode cX9_cheapestMethod 4 = .ok (.iload_n 3, 1) := by decide +kernel
theorem dX9_cheapestMethod_5 : decode cX9_cheapestMethod 5 = .ok (.iconst 2, 1) := by decide +kernel
theorem dX9_cheapestMethod_6 : decode cX9_cheapestMethod 6 = .ok (.if_icmp .gt 36, 3) := by decide +kernel
theorem dX9_cheapestMethod_9 : decode cX9_cheapestMethod 9 = .ok (.aload_n 0, 1) := by decide +kernel
theorem dX9_cheapestMethod_10 : decode cX9_cheapestMethod 10 = .ok (.iload_n 1, 1) := by decide +kernel
theorem dX9_cheapestMethod_11 : decode cX9_cheapestMethod 11 = .ok (.iload_n 3, 1) := by decide +kernel
theorem dX9_cheapestMethod_12 : decode cX9_cheapestMethod 12 = .ok (.invokestatic 230, 3) := by decide +kernel
theorem dX9_cheapestMethod_15 : decode cX9_cheapestMethod 15 = .ok (.istore 4, 2) := by decide +kernel
theorem dX9_cheapestMethod_17 : decode cX9_cheapestMethod 17 = .ok (.iload 4, 2) := by decide +kernel
theorem dX9_cheapestMethod_19 : decode cX9_cheapestMethod 19 = .ok (.iconst (-1), 1) := by decide +kernel
theorem dX9_cheapestMethod_20 : decode cX9_cheapestMethod 20 = .ok (.if_icmp .eq 16, 3) := by decide +kernel
theorem dX9_cheapestMethod_23 : decode cX9_cheapestMethod 23 = .ok (.iload 4, 2) := by decide +kernel
theorem dX9_cheapestMethod_25 : decode cX9_cheapestMethod 25 = .ok (.aload_n 0, 1) := by decide +kernel
theorem dX9_cheapestMethod_26 : decode cX9_cheapestMethod 26 = .ok (.iload_n 1, 1) := by decide +kernel
theorem dX9_cheapestMethod_27 : decode cX9_cheapestMethod 27 = .ok (.iload_n 2, 1) := by decide +kernel
theorem dX9_cheapestMethod_28 : decode cX9_cheapestMethod 28 = .ok (.invokestatic 230, 3) := by decide +kernel
theorem dX9_cheapestMethod_31 : decode cX9_cheapestMethod 31 = .ok (.if_icmp .ge 5, 3) := by decide +kernel
theorem dX9_cheapestMethod_34 : decode cX9_cheapestMethod 34 = .ok (.iload_n 3, 1) := by decide +kernel
theorem dX9_cheapestMethod_35 : decode cX9_cheapestMethod 35 = .ok (.istore_n 2, 1) := by decide +kernel
theorem dX9_cheapestMethod_36 : decode cX9_cheapestMethod 36 = .ok (.iinc 3 1, 3) := by decide +kernel
theorem dX9_cheapestMethod_39 : decode cX9_cheapestMethod 39 = .ok (.goto (-35), 3) := by decide +kernel
theorem dX9_cheapestMethod_42 : decode cX9_cheapestMethod 42 = .ok (.iload_n 2, 1) := by decide +kernel
theorem dX9_cheapestMethod_43 : decode cX9_cheapestMethod 43 = .ok (.ireturn, 1) := by decide +kernel
theorem dX9_copyFields_0 : decode cX9_copyFields 0 = .ok (.iconst 0, 1) := by decide +kernel
theorem dX9_copyFields_1 : decode cX9_copyFields 1 = .ok (.istore_n 2, 1) := by decide +kernel
theorem dX9_copyFields_2 : decode cX9_copyFields 2 = .ok (.iload_n 2, 1) := by decide +kernel
theorem dX9_copyFields_3 : decode cX9_copyFields 3 = .ok (.aload_n 0, 1) := by decide +kernel
theorem dX9_copyFields_4 : decode cX9_copyFields 4 = .ok (.arraylength, 1) := by decide +kernel
theorem dX9_copyFields_5 : decode cX9_copyFields 5 = .ok (.if_icmp .ge 21, 3) := by decide +kernel
theorem dX9_copyFields_8 : decode cX9_copyFields 8 = .ok (.iload_n 2, 1) := by decide +kernel
theorem dX9_copyFields_9 : decode cX9_copyFields 9 = .ok (.aload_n 1, 1) := by decide +kernel
theorem dX9_copyFields_10 : decode cX9_copyFields 10 = .ok (.arraylength, 1) := by decide +kernel
theorem dX9_copyFields_11 : decode cX9_copyFields 11 = .ok (.if_icmp .ge 15, 3) := by decide +kernel
theorem dX9_copyFields_14 : decode cX9_copyFields 14 = .ok (.aload_n 1, 1) := by decide +kernel
theorem dX9_copyFields_15 : decode cX9_copyFields 15 = .ok (.iload_n 2, 1) := by decide +kernel
theorem dX9_copyFields_16 : decode cX9_copyFields 16 = .ok (.aload_n 0, 1) := by decide +kernel
theorem dX9_copyFields_17 : decode cX9_copyFields 17 = .ok (.iload_n 2, 1) := by decide +kernel
theorem dX9_copyFields_18 : decode cX9_copyFields 18 = .ok (.aaload, 1) := by decide +kernel
theorem dX9_copyFields_19 : decode cX9_copyFields 19 = .ok (.aastore, 1) := by decide +kernel
theorem dX9_copyFields_20 : decode cX9_copyFields 20 = .ok (.iinc 2 1, 3) := by decide +kernel
theorem dX9_copyFields_23 : decode cX9_copyFields 23 = .ok (.goto (-21), 3) := by decide +kernel
theorem dX9_copyFields_26 : decode cX9_copyFields 26 = .ok (.return_, 1) := by decide +kernel
theorem dJ9_floorMod_f86c9_0 : decode cJ9_floorMod_f86c9 0 = .ok (.lload_n 0, 1) := by decide +kernel
theorem dJ9_floorMod_f86c9_1 : decode cJ9_floorMod_f86c9 1 = .ok (.lload_n 2, 1) := by decide +kernel
theorem dJ9_floorMod_f86c9_2 : decode cJ9_floorMod_f86c9 2 = .ok (.lrem, 1) := by decide +kernel
theorem dJ9_floorMod_f86c9_3 : decode cJ9_floorMod_f86c9 3 = .ok (.lstore 4, 2) := by decide +kernel
theorem dJ9_floorMod_f86c9_5 : decode cJ9_floorMod_f86c9 5 = .ok (.lload_n 0, 1) := by decide +kernel
theorem dJ9_floorMod_f86c9_6 : decode cJ9_floorMod_f86c9 6 = .ok (.lload_n 2, 1) := by decide +kernel
theorem dJ9_floorMod_f86c9_7 : decode cJ9_floorMod_f86c9 7 = .ok (.lxor, 1) := by decide +kernel
theorem dJ9_floorMod_f86c9_8 : decode cJ9_floorMod_f86c9 8 = .ok (.lconst 0, 1) := by decide +kernel
theorem dJ9_floorMod_f86c9_9 : decode cJ9_floorMod_f86c9 9 = .ok (.lcmp, 1) := by decide +kernel
theorem dJ9_floorMod_f86c9_10 : decode cJ9_floorMod_f86c9 10 = .ok (.ifCond .ge 15, 3) := by decide +kernel
theorem dJ9_floorMod_f86c9_13 : decode cJ9_floorMod_f86c9 13 = .ok (.lload 4, 2) := by decide +kernel
theorem dJ9_floorMod_f86c9_15 : decode cJ9_floorMod_f86c9 15 = .ok (.lconst 0, 1) := by decide +kernel
theorem dJ9_floorMod_f86c9_16 : decode cJ9_floorMod_f86c9 16 = .ok (.lcmp, 1) := by decide +kernel
theorem dJ9_floorMod_f86c9_17 : decode cJ9_floorMod_f86c9 17 = .ok (.ifCond .eq 8, 3) := by decide +kernel
theorem dJ9_floorMod_f86c9_20 : decode cJ9_floorMod_f86c9 20 = .ok (.lload 4, 2) := by decide +kernel
theorem dJ9_floorMod_f86c9_22 : decode cJ9_floorMod_f86c9 22 = .ok (.lload_n 2, 1) := by decide +kernel
theorem dJ9_floorMod_f86c9_23 : decode cJ9_floorMod_f86c9 23 = .ok (.ladd, 1) := by decide +kernel
theorem dJ9_floorMod_f86c9_24 : decode cJ9_floorMod_f86c9 24 = .ok (.lreturn, 1) := by decide +kernel
theorem dJ9_floorMod_f86c9_25 : decode cJ9_floorMod_f86c9 25 = .ok (.lload 4, 2) := by decide +kernel
theorem dJ9_floorMod_f86c9_27 : decode cJ9_floorMod_f86c9 27 = .ok (.lreturn, 1) := by decide +kernel
theorem dJ9_abs_0f7a4_0 : decode cJ9_abs_0f7a4 0 = .ok (.iload_n 0, 1) := by decide +kernel
theorem dJ9_abs_0f7a4_1 : decode cJ9_abs_0f7a4 1 = .ok (.ifCond .ge 8, 3) := by decide +kernel
theorem dJ9_abs_0f7a4_4 : decode cJ9_abs_0f7a4 4 = .ok (.iload_n 0, 1) := by decide +kernel
theorem dJ9_abs_0f7a4_5 : decode cJ9_abs_0f7a4 5 = .ok (.ineg, 1) := by decide +kernel
theorem dJ9_abs_0f7a4_6 : decode cJ9_abs_0f7a4 6 = .ok (.goto 4, 3) := by decide +kernel
theorem dJ9_abs_0f7a4_9 : decode cJ9_abs_0f7a4 9 = .ok (.iload_n 0, 1) := by decide +kernel
theorem dJ9_abs_0f7a4_10 : decode cJ9_abs_0f7a4 10 = .ok (.ireturn, 1) := by decide +kernel
theorem dJ9_abs_067f4_0 : decode cJ9_abs_067f4 0 = .ok (.lload_n 0, 1) := by decide +kernel
theorem dJ9_abs_067f4_1 : decode cJ9_abs_067f4 1 = .ok (.lconst 0, 1) := by decide +kernel
theorem dJ9_abs_067f4_2 : decode cJ9_abs_067f4 2 = .ok (.lcmp, 1) := by decide +kernel
theorem dJ9_abs_067f4_3 : decode cJ9_abs_067f4 3 = .ok (.ifCond .ge 8, 3) := by decide +kernel
theorem dJ9_abs_067f4_6 : decode cJ9_abs_067f4 6 = .ok (.lload_n 0, 1) := by decide +kernel
theorem dJ9_abs_067f4_7 : decode cJ9_abs_067f4 7 = .ok (.lneg, 1) := by decide +kernel
theorem dJ9_abs_067f4_8 : decode cJ9_abs_067f4 8 = .ok (.goto 4, 3) := by decide +kernel
theorem dJ9_abs_067f4_11 : decode cJ9_abs_067f4 11 = .ok (.lload_n 0, 1) := by decide +kernel
theorem dJ9_abs_067f4_12 : decode cJ9_abs_067f4 12 = .ok (.lreturn, 1) := by decide +kernel
theorem dJ9_max_7cf53_0 : decode cJ9_max_7cf53 0 = .ok (.iload_n 0, 1) := by decide +kernel
theorem dJ9_max_7cf53_1 : decode cJ9_max_7cf53 1 = .ok (.iload_n 1, 1) := by decide +kernel
theorem dJ9_max_7cf53_2 : decode cJ9_max_7cf53 2 = .ok (.if_icmp .lt 7, 3) := by decide +kernel
theorem dJ9_max_7cf53_5 : decode cJ9_max_7cf53 5 = .ok (.iload_n 0, 1) := by decide +kernel
theorem dJ9_max_7cf53_6 : decode cJ9_max_7cf53 6 = .ok (.goto 4, 3) := by decide +kernel
theorem dJ9_max_7cf53_9 : decode cJ9_max_7cf53 9 = .ok (.iload_n 1, 1) := by decide +kernel
theorem dJ9_max_7cf53_10 : decode cJ9_max_7cf53 10 = .ok (.ireturn, 1) := by decide +kernel
theorem dJ9_min_7cf53_0 : decode cJ9_min_7cf53 0 = .ok (.iload_n 0, 1) := by decide +kernel
theorem dJ9_min_7cf53_1 : decode cJ9_min_7cf53 1 = .ok (.iload_n 1, 1) := by decide +kernel
theorem dJ9_min_7cf53_2 : decode cJ9_min_7cf53 2 = .ok (.if_icmp .gt 7, 3) := by decide +kernel
theorem dJ9_min_7cf53_5 : decode cJ9_min_7cf53 5 = .ok (.iload_n 0, 1) := by decide +kernel
theorem dJ9_min_7cf53_6 : decode cJ9_min_7cf53 6 = .ok (.goto 4, 3) := by decide +kernel
theorem dJ9_min_7cf53_9 : decode cJ9_min_7cf53 9 = .ok (.iload_n 1, 1) := by decide +kernel
theorem dJ9_min_7cf53_10 : decode cJ9_min_7cf53 10 = .ok (.ireturn, 1) := by decide +kernel
theorem dJ0_length_8abf5_0 : decode cJ0_length_8abf5 0 = .ok (.aload_n 0, 1) := by decide +kernel
theorem dJ0_length_8abf5_1 : decode cJ0_length_8abf5 1 = .ok (.getfield 9, 3) := by decide +kernel
theorem dJ0_length_8abf5_4 : decode cJ0_length_8abf5 4 = .ok (.arraylength, 1) := by decide +kernel
theorem dJ0_length_8abf5_5 : decode cJ0_length_8abf5 5 = .ok (.aload_n 0, 1) := by decide +kernel
theorem dJ0_length_8abf5_6 : decode cJ0_length_8abf5 6 = .ok (.invokevirtual 335, 3) := by decide +kernel
theorem dJ0_length_8abf5_9 : decode cJ0_length_8abf5 9 = .ok (.ishr, 1) := by decide +kernel
theorem dJ0_length_8abf5_10 : decode cJ0_length_8abf5 10 = .ok (.ireturn, 1) := by decide +kernel
theorem dJ0_charAt_5068e_0 : decode cJ0_charAt_5068e 0 = .ok (.aload_n 0, 1) := by decide +kernel
theorem dJ0_charAt_5068e_1 : decode cJ0_charAt_5068e 1 = .ok (.invokevirtual 492, 3) := by decide +kernel
theorem dJ0_charAt_5068e_4 : decode cJ0_charAt_5068e 4 = .ok (.ifCond .eq 12, 3) := by decide +kernel
theorem dJ0_charAt_5068e_7 : decode cJ0_charAt_5068e 7 = .ok (.aload_n 0, 1) := by decide +kernel
theorem dJ0_charAt_5068e_8 : decode cJ0_charAt_5068e 8 = .ok (.getfield 9, 3) := by decide +kernel
theorem dJ0_charAt_5068e_11 : decode cJ0_charAt_5068e 11 = .ok (.iload_n 1, 1) := by decide +kernel
theorem dJ0_charAt_5068e_12 : decode cJ0_charAt_5068e 12 = .ok (.invokestatic 495, 3) := by decide +kernel
theorem dJ0_charAt_5068e_15 : decode cJ0_charAt_5068e 15 = .ok (.ireturn, 1) := by decide +kernel
theorem dJ0_charAt_5068e_16 : decode cJ0_charAt_5068e 16 = .ok (.aload_n 0, 1) := by decide +kernel
theorem dJ0_charAt_5068e_17 : decode cJ0_charAt_5068e 17 = .ok (.getfield 9, 3) := by decide +kernel
theorem dJ0_charAt_5068e_20 : decode cJ0_charAt_5068e 20 = .ok (.iload_n 1, 1) := by decide +kernel
theorem dJ0_charAt_5068e_21 : decode cJ0_charAt_5068e 21 = .ok (.invokestatic 498, 3) := by decide +kernel
theorem dJ0_charAt_5068e_24 : decode cJ0_charAt_5068e 24 = .ok (.ireturn, 1) := by decide +kernel
theorem dJ0_coder_7d493_0 : decode cJ0_coder_7d493 0 = .ok (.getstatic 38, 3) := by decide +kernel
theorem dJ0_coder_7d493_3 : decode cJ0_coder_7d493 3 = .ok (.ifCond .eq 10, 3) := by decide +kernel
theorem dJ0_coder_7d493_6 : decode cJ0_coder_7d493 6 = .ok (.aload_n 0, 1) := by decide +kernel
theorem dJ0_coder_7d493_7 : decode cJ0_coder_7d493 7 = .ok (.getfield 15, 3) := by decide +kernel
theorem dJ0_coder_7d493_10 : decode cJ0_coder_7d493 10 = .ok (.goto 4, 3) := by decide +kernel
theorem dJ0_coder_7d493_13 : decode cJ0_coder_7d493 13 = .ok (.iconst 1, 1) := by decide +kernel
theorem dJ0_coder_7d493_14 : decode cJ0_coder_7d493 14 = .ok (.ireturn, 1) := by decide +kernel
theorem dJ0_isLatin1_aae02_0 : decode cJ0_isLatin1_aae02 0 = .ok (.getstatic 38, 3) := by decide +kernel
theorem dJ0_isLatin1_aae02_3 : decode cJ0_isLatin1_aae02 3 = .ok (.ifCond .eq 14, 3) := by decide +kernel
theorem dJ0_isLatin1_aae02_6 : decode cJ0_isLatin1_aae02 6 = .ok (.aload_n 0, 1) := by decide +kernel
theorem dJ0_isLatin1_aae02_7 : decode cJ0_isLatin1_aae02 7 = .ok (.getfield 15, 3) := by decide +kernel
theorem dJ0_isLatin1_aae02_10 : decode cJ0_isLatin1_aae02 10 = .ok (.ifCond .ne 7, 3) := by decide +kernel
theorem dJ0_isLatin1_aae02_13 : decode cJ0_isLatin1_aae02 13 = .ok (.iconst 1, 1) := by decide +kernel
theorem dJ0_isLatin1_aae02_14 : decode cJ0_isLatin1_aae02 14 = .ok (.goto 4, 3) := by decide +kernel
theorem dJ0_isLatin1_aae02_17 : decode cJ0_isLatin1_aae02 17 = .ok (.iconst 0, 1) := by decide +kernel
theorem dJ0_isLatin1_aae02_18 : decode cJ0_isLatin1_aae02 18 = .ok (.ireturn, 1) := by decide +kernel
theorem dJ0_checkIndex_df160_0 : decode cJ0_checkIndex_df160 0 = .ok (.iload_n 0, 1) := by decide +kernel
theorem dJ0_checkIndex_df160_1 : decode cJ0_checkIndex_df160 1 = .ok (.iload_n 1, 1) := by decide +kernel
theorem dJ0_checkIndex_df160_2 : decode cJ0_checkIndex_df160 2 = .ok (.getstatic 1053, 3) := by decide +kernel
theorem dJ0_checkIndex_df160_5 : decode cJ0_checkIndex_df160 5 = .ok (.invokestatic 1059, 3) := by decide +kernel
theorem dJ0_checkIndex_df160_8 : decode cJ0_checkIndex_df160 8 = .ok (.pop, 1) := by decide +kernel
theorem dJ0_checkIndex_df160_9 : decode cJ0_checkIndex_df160 9 = .ok (.return_, 1) := by decide +kernel
theorem dJ1_charAt_3b067_0 : decode cJ1_charAt_3b067 0 = .ok (.iload_n 1, 1) := by decide +kernel
theorem dJ1_charAt_3b067_1 : decode cJ1_charAt_3b067 1 = .ok (.aload_n 0, 1) := by decide +kernel
theorem dJ1_charAt_3b067_2 : decode cJ1_charAt_3b067 2 = .ok (.arraylength, 1) := by decide +kernel
theorem dJ1_charAt_3b067_3 : decode cJ1_charAt_3b067 3 = .ok (.invokestatic 9, 3) := by decide +kernel
theorem dJ1_charAt_3b067_6 : decode cJ1_charAt_3b067 6 = .ok (.aload_n 0, 1) := by decide +kernel
theorem dJ1_charAt_3b067_7 : decode cJ1_charAt_3b067 7 = .ok (.iload_n 1, 1) := by decide +kernel
theorem dJ1_charAt_3b067_8 : decode cJ1_charAt_3b067 8 = .ok (.baload, 1) := by decide +kernel
theorem dJ1_charAt_3b067_9 : decode cJ1_charAt_3b067 9 = .ok (.sipush 255, 3) := by decide +kernel
theorem dJ1_charAt_3b067_12 : decode cJ1_charAt_3b067 12 = .ok (.iand, 1) := by decide +kernel
theorem dJ1_charAt_3b067_13 : decode cJ1_charAt_3b067 13 = .ok (.i2c, 1) := by decide +kernel
theorem dJ1_charAt_3b067_14 : decode cJ1_charAt_3b067 14 = .ok (.ireturn, 1) := by decide +kernel
theorem dJ2_getChar_3b067_0 : decode cJ2_getChar_3b067 0 = .ok (.getstatic 44, 3) := by decide +kernel
theorem dJ2_getChar_3b067_3 : decode cJ2_getChar_3b067 3 = .ok (.ifCond .ne 25, 3) := by decide +kernel
theorem dJ2_getChar_3b067_6 : decode cJ2_getChar_3b067 6 = .ok (.iload_n 1, 1) := by decide +kernel
theorem dJ2_getChar_3b067_7 : decode cJ2_getChar_3b067 7 = .ok (.ifCond .lt 11, 3) := by decide +kernel
theorem dJ2_getChar_3b067_10 : decode cJ2_getChar_3b067 10 = .ok (.iload_n 1, 1) := by decide +kernel
theorem dJ2_getChar_3b067_11 : decode cJ2_getChar_3b067 11 = .ok (.aload_n 0, 1) := by decide +kernel
theorem dJ2_getChar_3b067_12 : decode cJ2_getChar_3b067 12 = .ok (.invokestatic 48, 3) := by decide +kernel
theorem dJ2_getChar_3b067_15 : decode cJ2_getChar_3b067 15 = .ok (.if_icmp .lt 13, 3) := by decide +kernel
theorem dJ2_getChar_3b067_18 : decode cJ2_getChar_3b067 18 = .ok (.new 52, 3) := by decide +kernel
theorem dJ2_getChar_3b067_21 : decode cJ2_getChar_3b067 21 = .ok (.dup, 1) := by decide +kernel
theorem dJ2_getChar_3b067_22 : decode cJ2_getChar_3b067 22 = .ok (.ldc 54, 2) := by decide +kernel
theorem dJ2_getChar_3b067_24 : decode cJ2_getChar_3b067 24 = .ok (.invokespecial 56, 3) := by decide +kernel
theorem dJ2_getChar_3b067_27 : decode cJ2_getChar_3b067 27 = .ok (.athrow, 1) := by decide +kernel
theorem dJ2_getChar_3b067_28 : decode cJ2_getChar_3b067 28 = .ok (.iload_n 1, 1) := by decide +kernel
theorem dJ2_getChar_3b067_29 : decode cJ2_getChar_3b067 29 = .ok (.iconst 1, 1) := by decide +kernel
theorem dJ2_getChar_3b067_30 : decode cJ2_getChar_3b067 30 = .ok (.ishl, 1) := by decide +kernel
theorem dJ2_getChar_3b067_31 : decode cJ2_getChar_3b067 31 = .ok (.istore_n 1, 1) := by decide +kernel
theorem dJ2_getChar_3b067_32 : decode cJ2_getChar_3b067 32 = .ok (.aload_n 0, 1) := by decide +kernel
theorem dJ2_getChar_3b067_33 : decode cJ2_getChar_3b067 33 = .ok (.iload_n 1, 1) := by decide +kernel
theorem dJ2_getChar_3b067_34 : decode cJ2_getChar_3b067 34 = .ok (.iinc 1 1, 3) := by decide +kernel
theorem dJ2_getChar_3b067_37 : decode cJ2_getChar_3b067 37 = .ok (.baload, 1) := by decide +kernel
theorem dJ2_getChar_3b067_38 : decode cJ2_getChar_3b067 38 = .ok (.sipush 255, 3) := by decide +kernel
theorem dJ2_getChar_3b067_41 : decode cJ2_getChar_3b067 41 = .ok (.iand, 1) := by decide +kernel
theorem dJ2_getChar_3b067_42 : decode cJ2_getChar_3b067 42 = .ok (.getstatic 59, 3) := by decide +kernel
theorem dJ2_getChar_3b067_45 : decode cJ2_getChar_3b067 45 = .ok (.ishl, 1) := by decide +kernel
theorem dJ2_getChar_3b067_46 : decode cJ2_getChar_3b067 46 = .ok (.aload_n 0, 1) := by decide +kernel
theorem dJ2_getChar_3b067_47 : decode cJ2_getChar_3b067 47 = .ok (.iload_n 1, 1) := by decide +kernel
theorem dJ2_getChar_3b067_48 : decode cJ2_getChar_3b067 48 = .ok (.baload, 1) := by decide +kernel
theorem dJ2_getChar_3b067_49 : decode cJ2_getChar_3b067 49 = .ok (.sipush 255, 3) := by decide +kernel
theorem dJ2_getChar_3b067_52 : decode cJ2_getChar_3b067 52 = .ok (.iand, 1) := by decide +kernel
theorem dJ2_getChar_3b067_53 : decode cJ2_getChar_3b067 53 = .ok (.getstatic 63, 3) := by decide +kernel
theorem dJ2_getChar_3b067_56 : decode cJ2_getChar_3b067 56 = .ok (.ishl, 1) := by decide +kernel
theorem dJ2_getChar_3b067_57 : decode cJ2_getChar_3b067 57 = .ok (.ior, 1) := by decide +kernel
theorem dJ2_getChar_3b067_58 : decode cJ2_getChar_3b067 58 = .ok (.i2c, 1) := by decide +kernel
theorem dJ2_getChar_3b067_59 : decode cJ2_getChar_3b067 59 = .ok (.ireturn, 1) := by decide +kernel
theorem dJ2_length_9d52b_0 : decode cJ2_length_9d52b 0 = .ok (.aload_n 0, 1) := by decide +kernel
theorem dJ2_length_9d52b_1 : decode cJ2_length_9d52b 1 = .ok (.arraylength, 1) := by decide +kernel
theorem dJ2_length_9d52b_2 : decode cJ2_length_9d52b 2 = .ok (.iconst 1, 1) := by decide +kernel
theorem dJ2_length_9d52b_3 : decode cJ2_length_9d52b 3 = .ok (.ishr, 1) := by decide +kernel
theorem dJ2_length_9d52b_4 : decode cJ2_length_9d52b 4 = .ok (.ireturn, 1) := by decide +kernel
theorem dJ2_charAt_3b067_0 : decode cJ2_charAt_3b067 0 = .ok (.iload_n 1, 1) := by decide +kernel
theorem dJ2_charAt_3b067_1 : decode cJ2_charAt_3b067 1 = .ok (.aload_n 0, 1) := by decide +kernel
theorem dJ2_charAt_3b067_2 : decode cJ2_charAt_3b067 2 = .ok (.invokestatic 67, 3) := by decide +kernel
theorem dJ2_charAt_3b067_5 : decode cJ2_charAt_3b067 5 = .ok (.aload_n 0, 1) := by decide +kernel
theorem dJ2_charAt_3b067_6 : decode cJ2_charAt_3b067 6 = .ok (.iload_n 1, 1) := by decide +kernel
theorem dJ2_charAt_3b067_7 : decode cJ2_charAt_3b067 7 = .ok (.invokestatic 71, 3) := by decide +kernel
theorem dJ2_charAt_3b067_10 : decode cJ2_charAt_3b067 10 = .ok (.ireturn, 1) := by decide +kernel
theorem dJ2_checkIndex_2214a_0 : decode cJ2_checkIndex_2214a 0 = .ok (.iload_n 0, 1) := by decide +kernel
theorem dJ2_checkIndex_2214a_1 : decode cJ2_checkIndex_2214a 1 = .ok (.aload_n 1, 1) := by decide +kernel
theorem dJ2_checkIndex_2214a_2 : decode cJ2_checkIndex_2214a 2 = .ok (.invokestatic 48, 3) := by decide +kernel
theorem dJ2_checkIndex_2214a_5 : decode cJ2_checkIndex_2214a 5 = .ok (.invokestatic 414, 3) := by decide +kernel
theorem dJ2_checkIndex_2214a_8 : decode cJ2_checkIndex_2214a 8 = .ok (.return_, 1) := by decide +kernel
theorem dJ3_checkIndex_8e157_0 : decode cJ3_checkIndex_8e157 0 = .ok (.iload_n 0, 1) := by decide +kernel
theorem dJ3_checkIndex_8e157_1 : decode cJ3_checkIndex_8e157 1 = .ok (.ifCond .lt 8, 3) := by decide +kernel
theorem dJ3_checkIndex_8e157_4 : decode cJ3_checkIndex_8e157 4 = .ok (.iload_n 0, 1) := by decide +kernel
theorem dJ3_checkIndex_8e157_5 : decode cJ3_checkIndex_8e157 5 = .ok (.iload_n 1, 1) := by decide +kernel
theorem dJ3_checkIndex_8e157_6 : decode cJ3_checkIndex_8e157 6 = .ok (.if_icmp .lt 10, 3) := by decide +kernel
theorem dJ3_checkIndex_8e157_9 : decode cJ3_checkIndex_8e157 9 = .ok (.aload_n 2, 1) := by decide +kernel
theorem dJ3_checkIndex_8e157_10 : decode cJ3_checkIndex_8e157 10 = .ok (.iload_n 0, 1) := by decide +kernel
theorem dJ3_checkIndex_8e157_11 : decode cJ3_checkIndex_8e157 11 = .ok (.iload_n 1, 1) := by decide +kernel
theorem dJ3_checkIndex_8e157_12 : decode cJ3_checkIndex_8e157 12 = .ok (.invokestatic 95, 3) := by decide +kernel
theorem dJ3_checkIndex_8e157_15 : decode cJ3_checkIndex_8e157 15 = .ok (.athrow, 1) := by decide +kernel
theorem dJ3_checkIndex_8e157_16 : decode cJ3_checkIndex_8e157 16 = .ok (.iload_n 0, 1) := by decide +kernel
theorem dJ3_checkIndex_8e157_17 : decode cJ3_checkIndex_8e157 17 = .ok (.ireturn, 1) := by decide +kernel
