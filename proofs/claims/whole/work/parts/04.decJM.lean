theorem d_AL_init_0 : decode b_AL_init 0 = .ok (.aload_n 0, 1) := by decide +kernel
theorem d_AL_init_1 : decode b_AL_init 1 = .ok (.invokespecial 1, 3) := by decide +kernel
theorem d_AL_init_4 : decode b_AL_init 4 = .ok (.aload_n 0, 1) := by decide +kernel
theorem d_AL_init_5 : decode b_AL_init 5 = .ok (.getstatic 39, 3) := by decide +kernel
theorem d_AL_init_8 : decode b_AL_init 8 = .ok (.putfield 9, 3) := by decide +kernel
theorem d_AL_init_11 : decode b_AL_init 11 = .ok (.return_, 1) := by decide +kernel
theorem d_Ab_init_0 : decode b_Ab_init 0 = .ok (.aload_n 0, 1) := by decide +kernel
theorem d_Ab_init_1 : decode b_Ab_init 1 = .ok (.invokespecial 1, 3) := by decide +kernel
theorem d_Ab_init_4 : decode b_Ab_init 4 = .ok (.aload_n 0, 1) := by decide +kernel
theorem d_Ab_init_5 : decode b_Ab_init 5 = .ok (.iconst 0, 1) := by decide +kernel
theorem d_Ab_init_6 : decode b_Ab_init 6 = .ok (.putfield 7, 3) := by decide +kernel
theorem d_Ab_init_9 : decode b_Ab_init 9 = .ok (.return_, 1) := by decide +kernel
theorem d_Ac_init_0 : decode b_Ac_init 0 = .ok (.aload_n 0, 1) := by decide +kernel
theorem d_Ac_init_1 : decode b_Ac_init 1 = .ok (.invokespecial 1, 3) := by decide +kernel
theorem d_Ac_init_4 : decode b_Ac_init 4 = .ok (.return_, 1) := by decide +kernel
theorem d_Mt_min_0_0 : decode b_Mt_min_0 0 = .ok (.iload_n 0, 1) := by decide +kernel
theorem d_Mt_min_0_1 : decode b_Mt_min_0 1 = .ok (.iload_n 1, 1) := by decide +kernel
theorem d_Mt_min_0_2 : decode b_Mt_min_0 2 = .ok (.if_icmp .gt 7, 3) := by decide +kernel
theorem d_Mt_min_0_5 : decode b_Mt_min_0 5 = .ok (.iload_n 0, 1) := by decide +kernel
theorem d_Mt_min_0_6 : decode b_Mt_min_0 6 = .ok (.goto 4, 3) := by decide +kernel
theorem d_Mt_min_0_9 : decode b_Mt_min_0 9 = .ok (.iload_n 1, 1) := by decide +kernel
theorem d_Mt_min_0_10 : decode b_Mt_min_0 10 = .ok (.ireturn, 1) := by decide +kernel
theorem d_Mt_max_0_0 : decode b_Mt_max_0 0 = .ok (.iload_n 0, 1) := by decide +kernel
theorem d_Mt_max_0_1 : decode b_Mt_max_0 1 = .ok (.iload_n 1, 1) := by decide +kernel
theorem d_Mt_max_0_2 : decode b_Mt_max_0 2 = .ok (.if_icmp .lt 7, 3) := by decide +kernel
theorem d_Mt_max_0_5 : decode b_Mt_max_0 5 = .ok (.iload_n 0, 1) := by decide +kernel
theorem d_Mt_max_0_6 : decode b_Mt_max_0 6 = .ok (.goto 4, 3) := by decide +kernel
theorem d_Mt_max_0_9 : decode b_Mt_max_0 9 = .ok (.iload_n 1, 1) := by decide +kernel
theorem d_Mt_max_0_10 : decode b_Mt_max_0 10 = .ok (.ireturn, 1) := by decide +kernel
theorem d_AL_size_0 : decode b_AL_size 0 = .ok (.aload_n 0, 1) := by decide +kernel
theorem d_AL_size_1 : decode b_AL_size 1 = .ok (.getfield 48, 3) := by decide +kernel
theorem d_AL_size_4 : decode b_AL_size 4 = .ok (.ireturn, 1) := by decide +kernel
theorem d_AL_add_0_0 : decode b_AL_add_0 0 = .ok (.aload_n 0, 1) := by decide +kernel
theorem d_AL_add_0_1 : decode b_AL_add_0 1 = .ok (.dup, 1) := by decide +kernel
theorem d_AL_add_0_2 : decode b_AL_add_0 2 = .ok (.getfield 63, 3) := by decide +kernel
theorem d_AL_add_0_5 : decode b_AL_add_0 5 = .ok (.iconst 1, 1) := by decide +kernel
theorem d_AL_add_0_6 : decode b_AL_add_0 6 = .ok (.iadd, 1) := by decide +kernel
theorem d_AL_add_0_7 : decode b_AL_add_0 7 = .ok (.putfield 63, 3) := by decide +kernel
theorem d_AL_add_0_10 : decode b_AL_add_0 10 = .ok (.aload_n 0, 1) := by decide +kernel
theorem d_AL_add_0_11 : decode b_AL_add_0 11 = .ok (.aload_n 1, 1) := by decide +kernel
theorem d_AL_add_0_12 : decode b_AL_add_0 12 = .ok (.aload_n 0, 1) := by decide +kernel
theorem d_AL_add_0_13 : decode b_AL_add_0 13 = .ok (.getfield 9, 3) := by decide +kernel
theorem d_AL_add_0_16 : decode b_AL_add_0 16 = .ok (.aload_n 0, 1) := by decide +kernel
theorem d_AL_add_0_17 : decode b_AL_add_0 17 = .ok (.getfield 48, 3) := by decide +kernel
theorem d_AL_add_0_20 : decode b_AL_add_0 20 = .ok (.invokevirtual 131, 3) := by decide +kernel
theorem d_AL_add_0_23 : decode b_AL_add_0 23 = .ok (.iconst 1, 1) := by decide +kernel
theorem d_AL_add_0_24 : decode b_AL_add_0 24 = .ok (.ireturn, 1) := by decide +kernel
theorem d_AL_add_1_0 : decode b_AL_add_1 0 = .ok (.iload_n 3, 1) := by decide +kernel
theorem d_AL_add_1_1 : decode b_AL_add_1 1 = .ok (.aload_n 2, 1) := by decide +kernel
theorem d_AL_add_1_2 : decode b_AL_add_1 2 = .ok (.arraylength, 1) := by decide +kernel
theorem d_AL_add_1_3 : decode b_AL_add_1 3 = .ok (.if_icmp .ne 8, 3) := by decide +kernel
theorem d_AL_add_1_6 : decode b_AL_add_1 6 = .ok (.aload_n 0, 1) := by decide +kernel
theorem d_AL_add_1_7 : decode b_AL_add_1 7 = .ok (.invokevirtual 129, 3) := by decide +kernel
theorem d_AL_add_1_10 : decode b_AL_add_1 10 = .ok (.astore_n 2, 1) := by decide +kernel
theorem d_AL_add_1_11 : decode b_AL_add_1 11 = .ok (.aload_n 2, 1) := by decide +kernel
theorem d_AL_add_1_12 : decode b_AL_add_1 12 = .ok (.iload_n 3, 1) := by decide +kernel
theorem d_AL_add_1_13 : decode b_AL_add_1 13 = .ok (.aload_n 1, 1) := by decide +kernel
theorem d_AL_add_1_14 : decode b_AL_add_1 14 = .ok (.aastore, 1) := by decide +kernel
theorem d_AL_add_1_15 : decode b_AL_add_1 15 = .ok (.aload_n 0, 1) := by decide +kernel
theorem d_AL_add_1_16 : decode b_AL_add_1 16 = .ok (.iload_n 3, 1) := by decide +kernel
theorem d_AL_add_1_17 : decode b_AL_add_1 17 = .ok (.iconst 1, 1) := by decide +kernel
theorem d_AL_add_1_18 : decode b_AL_add_1 18 = .ok (.iadd, 1) := by decide +kernel
theorem d_AL_add_1_19 : decode b_AL_add_1 19 = .ok (.putfield 48, 3) := by decide +kernel
theorem d_AL_add_1_22 : decode b_AL_add_1 22 = .ok (.return_, 1) := by decide +kernel
theorem d_AL_grow_0_0 : decode b_AL_grow_0 0 = .ok (.aload_n 0, 1) := by decide +kernel
theorem d_AL_grow_0_1 : decode b_AL_grow_0 1 = .ok (.aload_n 0, 1) := by decide +kernel
theorem d_AL_grow_0_2 : decode b_AL_grow_0 2 = .ok (.getfield 48, 3) := by decide +kernel
theorem d_AL_grow_0_5 : decode b_AL_grow_0 5 = .ok (.iconst 1, 1) := by decide +kernel
theorem d_AL_grow_0_6 : decode b_AL_grow_0 6 = .ok (.iadd, 1) := by decide +kernel
theorem d_AL_grow_0_7 : decode b_AL_grow_0 7 = .ok (.invokevirtual 69, 3) := by decide +kernel
theorem d_AL_grow_0_10 : decode b_AL_grow_0 10 = .ok (.areturn, 1) := by decide +kernel
theorem d_AL_grow_1_0 : decode b_AL_grow_1 0 = .ok (.aload_n 0, 1) := by decide +kernel
theorem d_AL_grow_1_1 : decode b_AL_grow_1 1 = .ok (.getfield 9, 3) := by decide +kernel
theorem d_AL_grow_1_4 : decode b_AL_grow_1 4 = .ok (.arraylength, 1) := by decide +kernel
theorem d_AL_grow_1_5 : decode b_AL_grow_1 5 = .ok (.istore_n 2, 1) := by decide +kernel
theorem d_AL_grow_1_6 : decode b_AL_grow_1 6 = .ok (.iload_n 2, 1) := by decide +kernel
theorem d_AL_grow_1_7 : decode b_AL_grow_1 7 = .ok (.ifCond .gt 13, 3) := by decide +kernel
theorem d_AL_grow_1_10 : decode b_AL_grow_1 10 = .ok (.aload_n 0, 1) := by decide +kernel
theorem d_AL_grow_1_11 : decode b_AL_grow_1 11 = .ok (.getfield 9, 3) := by decide +kernel
theorem d_AL_grow_1_14 : decode b_AL_grow_1 14 = .ok (.getstatic 39, 3) := by decide +kernel
theorem d_AL_grow_1_17 : decode b_AL_grow_1 17 = .ok (.if_acmp .eq 28, 3) := by decide +kernel
theorem d_AL_grow_1_20 : decode b_AL_grow_1 20 = .ok (.iload_n 2, 1) := by decide +kernel
theorem d_AL_grow_1_21 : decode b_AL_grow_1 21 = .ok (.iload_n 1, 1) := by decide +kernel
theorem d_AL_grow_1_22 : decode b_AL_grow_1 22 = .ok (.iload_n 2, 1) := by decide +kernel
theorem d_AL_grow_1_23 : decode b_AL_grow_1 23 = .ok (.isub, 1) := by decide +kernel
theorem d_AL_grow_1_24 : decode b_AL_grow_1 24 = .ok (.iload_n 2, 1) := by decide +kernel
theorem d_AL_grow_1_25 : decode b_AL_grow_1 25 = .ok (.iconst 1, 1) := by decide +kernel
theorem d_AL_grow_1_26 : decode b_AL_grow_1 26 = .ok (.ishr, 1) := by decide +kernel
theorem d_AL_grow_1_27 : decode b_AL_grow_1 27 = .ok (.invokestatic 73, 3) := by decide +kernel
theorem d_AL_grow_1_30 : decode b_AL_grow_1 30 = .ok (.istore_n 3, 1) := by decide +kernel
theorem d_AL_grow_1_31 : decode b_AL_grow_1 31 = .ok (.aload_n 0, 1) := by decide +kernel
theorem d_AL_grow_1_32 : decode b_AL_grow_1 32 = .ok (.aload_n 0, 1) := by decide +kernel
theorem d_AL_grow_1_33 : decode b_AL_grow_1 33 = .ok (.getfield 9, 3) := by decide +kernel
theorem d_AL_grow_1_36 : decode b_AL_grow_1 36 = .ok (.iload_n 3, 1) := by decide +kernel
theorem d_AL_grow_1_37 : decode b_AL_grow_1 37 = .ok (.invokestatic 66, 3) := by decide +kernel
theorem d_AL_grow_1_40 : decode b_AL_grow_1 40 = .ok (.dup_x1, 1) := by decide +kernel
theorem d_AL_grow_1_41 : decode b_AL_grow_1 41 = .ok (.putfield 9, 3) := by decide +kernel
theorem d_AL_grow_1_44 : decode b_AL_grow_1 44 = .ok (.areturn, 1) := by decide +kernel
theorem d_AL_grow_1_45 : decode b_AL_grow_1 45 = .ok (.aload_n 0, 1) := by decide +kernel
theorem d_AL_grow_1_46 : decode b_AL_grow_1 46 = .ok (.bipush 10, 2) := by decide +kernel
theorem d_AL_grow_1_48 : decode b_AL_grow_1 48 = .ok (.iload_n 1, 1) := by decide +kernel
theorem d_AL_grow_1_49 : decode b_AL_grow_1 49 = .ok (.invokestatic 79, 3) := by decide +kernel
theorem d_AL_grow_1_52 : decode b_AL_grow_1 52 = .ok (.anewarray 7, 3) := by decide +kernel
theorem d_AL_grow_1_55 : decode b_AL_grow_1 55 = .ok (.dup_x1, 1) := by decide +kernel
theorem d_AL_grow_1_56 : decode b_AL_grow_1 56 = .ok (.putfield 9, 3) := by decide +kernel
theorem d_AL_grow_1_59 : decode b_AL_grow_1 59 = .ok (.areturn, 1) := by decide +kernel
theorem d_AS_newLength_0 : decode b_AS_newLength 0 = .ok (.iload_n 0, 1) := by decide +kernel
theorem d_AS_newLength_1 : decode b_AS_newLength 1 = .ok (.iload_n 1, 1) := by decide +kernel
theorem d_AS_newLength_2 : decode b_AS_newLength 2 = .ok (.iload_n 2, 1) := by decide +kernel
theorem d_AS_newLength_3 : decode b_AS_newLength 3 = .ok (.invokestatic 194, 3) := by decide +kernel
theorem d_AS_newLength_6 : decode b_AS_newLength 6 = .ok (.iadd, 1) := by decide +kernel
theorem d_AS_newLength_7 : decode b_AS_newLength 7 = .ok (.istore_n 3, 1) := by decide +kernel
theorem d_AS_newLength_8 : decode b_AS_newLength 8 = .ok (.iconst 0, 1) := by decide +kernel
theorem d_AS_newLength_9 : decode b_AS_newLength 9 = .ok (.iload_n 3, 1) := by decide +kernel
theorem d_AS_newLength_10 : decode b_AS_newLength 10 = .ok (.if_icmp .ge 11, 3) := by decide +kernel
theorem d_AS_newLength_13 : decode b_AS_newLength 13 = .ok (.iload_n 3, 1) := by decide +kernel
theorem d_AS_newLength_14 : decode b_AS_newLength 14 = .ok (.ldc 200, 2) := by decide +kernel
theorem d_AS_newLength_16 : decode b_AS_newLength 16 = .ok (.if_icmp .gt 5, 3) := by decide +kernel
theorem d_AS_newLength_19 : decode b_AS_newLength 19 = .ok (.iload_n 3, 1) := by decide +kernel
theorem d_AS_newLength_20 : decode b_AS_newLength 20 = .ok (.ireturn, 1) := by decide +kernel
theorem d_AS_newLength_21 : decode b_AS_newLength 21 = .ok (.iload_n 0, 1) := by decide +kernel
theorem d_AS_newLength_22 : decode b_AS_newLength 22 = .ok (.iload_n 1, 1) := by decide +kernel
theorem d_AS_newLength_23 : decode b_AS_newLength 23 = .ok (.invokestatic 201, 3) := by decide +kernel
theorem d_AS_newLength_26 : decode b_AS_newLength 26 = .ok (.ireturn, 1) := by decide +kernel
theorem d_AS_hugeLength_0 : decode b_AS_hugeLength 0 = .ok (.iload_n 0, 1) := by decide +kernel
theorem d_AS_hugeLength_1 : decode b_AS_hugeLength 1 = .ok (.iload_n 1, 1) := by decide +kernel
theorem d_AS_hugeLength_2 : decode b_AS_hugeLength 2 = .ok (.iadd, 1) := by decide +kernel
theorem d_AS_hugeLength_3 : decode b_AS_hugeLength 3 = .ok (.istore_n 2, 1) := by decide +kernel
theorem d_AS_hugeLength_4 : decode b_AS_hugeLength 4 = .ok (.iload_n 2, 1) := by decide +kernel
theorem d_AS_hugeLength_5 : decode b_AS_hugeLength 5 = .ok (.ifCond .ge 44, 3) := by decide +kernel
theorem d_AS_hugeLength_8 : decode b_AS_hugeLength 8 = .ok (.new 204, 3) := by decide +kernel
theorem d_AS_hugeLength_11 : decode b_AS_hugeLength 11 = .ok (.dup, 1) := by decide +kernel
theorem d_AS_hugeLength_12 : decode b_AS_hugeLength 12 = .ok (.new 89, 3) := by decide +kernel
theorem d_AS_hugeLength_15 : decode b_AS_hugeLength 15 = .ok (.dup, 1) := by decide +kernel
theorem d_AS_hugeLength_16 : decode b_AS_hugeLength 16 = .ok (.invokespecial 91, 3) := by decide +kernel
theorem d_AS_hugeLength_19 : decode b_AS_hugeLength 19 = .ok (.ldc 206, 2) := by decide +kernel
theorem d_AS_hugeLength_21 : decode b_AS_hugeLength 21 = .ok (.invokevirtual 94, 3) := by decide +kernel
theorem d_AS_hugeLength_24 : decode b_AS_hugeLength 24 = .ok (.iload_n 0, 1) := by decide +kernel
theorem d_AS_hugeLength_25 : decode b_AS_hugeLength 25 = .ok (.invokevirtual 98, 3) := by decide +kernel
theorem d_AS_hugeLength_28 : decode b_AS_hugeLength 28 = .ok (.ldc 208, 2) := by decide +kernel
theorem d_AS_hugeLength_30 : decode b_AS_hugeLength 30 = .ok (.invokevirtual 94, 3) := by decide +kernel
theorem d_AS_hugeLength_33 : decode b_AS_hugeLength 33 = .ok (.iload_n 1, 1) := by decide +kernel
theorem d_AS_hugeLength_34 : decode b_AS_hugeLength 34 = .ok (.invokevirtual 98, 3) := by decide +kernel
theorem d_AS_hugeLength_37 : decode b_AS_hugeLength 37 = .ok (.ldc 210, 2) := by decide +kernel
theorem d_AS_hugeLength_39 : decode b_AS_hugeLength 39 = .ok (.invokevirtual 94, 3) := by decide +kernel
theorem d_AS_hugeLength_42 : decode b_AS_hugeLength 42 = .ok (.invokevirtual 101, 3) := by decide +kernel
theorem d_AS_hugeLength_45 : decode b_AS_hugeLength 45 = .ok (.invokespecial 212, 3) := by decide +kernel
theorem d_AS_hugeLength_48 : decode b_AS_hugeLength 48 = .ok (.athrow, 1) := by decide +kernel
theorem d_AS_hugeLength_49 : decode b_AS_hugeLength 49 = .ok (.iload_n 2, 1) := by decide +kernel
theorem d_AS_hugeLength_50 : decode b_AS_hugeLength 50 = .ok (.ldc 200, 2) := by decide +kernel
theorem d_AS_hugeLength_52 : decode b_AS_hugeLength 52 = .ok (.if_icmp .gt 6, 3) := by decide +kernel
theorem d_AS_hugeLength_55 : decode b_AS_hugeLength 55 = .ok (.ldc 200, 2) := by decide +kernel
theorem d_AS_hugeLength_57 : decode b_AS_hugeLength 57 = .ok (.ireturn, 1) := by decide +kernel
theorem d_AS_hugeLength_58 : decode b_AS_hugeLength 58 = .ok (.iload_n 2, 1) := by decide +kernel
theorem d_AS_hugeLength_59 : decode b_AS_hugeLength 59 = .ok (.ireturn, 1) := by decide +kernel
theorem d_Ar_copyOf_0_0 : decode b_Ar_copyOf_0 0 = .ok (.aload_n 0, 1) := by decide +kernel
theorem d_Ar_copyOf_0_1 : decode b_Ar_copyOf_0 1 = .ok (.iload_n 1, 1) := by decide +kernel
theorem d_Ar_copyOf_0_2 : decode b_Ar_copyOf_0 2 = .ok (.aload_n 0, 1) := by decide +kernel
theorem d_Ar_copyOf_0_3 : decode b_Ar_copyOf_0 3 = .ok (.invokevirtual 86, 3) := by decide +kernel
theorem d_Ar_copyOf_0_6 : decode b_Ar_copyOf_0 6 = .ok (.invokestatic 300, 3) := by decide +kernel
theorem d_Ar_copyOf_0_9 : decode b_Ar_copyOf_0 9 = .ok (.areturn, 1) := by decide +kernel
theorem d_Ar_copyOf_1_0 : decode b_Ar_copyOf_1 0 = .ok (.aload_n 2, 1) := by decide +kernel
theorem d_Ar_copyOf_1_1 : decode b_Ar_copyOf_1 1 = .ok (.ldc 110, 2) := by decide +kernel
theorem d_Ar_copyOf_1_3 : decode b_Ar_copyOf_1 3 = .ok (.if_acmp .ne 10, 3) := by decide +kernel
theorem d_Ar_copyOf_1_6 : decode b_Ar_copyOf_1 6 = .ok (.iload_n 1, 1) := by decide +kernel
theorem d_Ar_copyOf_1_7 : decode b_Ar_copyOf_1 7 = .ok (.anewarray 2, 3) := by decide +kernel
theorem d_Ar_copyOf_1_10 : decode b_Ar_copyOf_1 10 = .ok (.goto 14, 3) := by decide +kernel
theorem d_Ar_copyOf_1_13 : decode b_Ar_copyOf_1 13 = .ok (.aload_n 2, 1) := by decide +kernel
theorem d_Ar_copyOf_1_14 : decode b_Ar_copyOf_1 14 = .ok (.invokevirtual 90, 3) := by decide +kernel
theorem d_Ar_copyOf_1_17 : decode b_Ar_copyOf_1 17 = .ok (.iload_n 1, 1) := by decide +kernel
theorem d_Ar_copyOf_1_18 : decode b_Ar_copyOf_1 18 = .ok (.invokestatic 95, 3) := by decide +kernel
theorem d_Ar_copyOf_1_21 : decode b_Ar_copyOf_1 21 = .ok (.checkcast 110, 3) := by decide +kernel
theorem d_Ar_copyOf_1_24 : decode b_Ar_copyOf_1 24 = .ok (.astore_n 3, 1) := by decide +kernel
theorem d_Ar_copyOf_1_25 : decode b_Ar_copyOf_1 25 = .ok (.aload_n 0, 1) := by decide +kernel
theorem d_Ar_copyOf_1_26 : decode b_Ar_copyOf_1 26 = .ok (.iconst 0, 1) := by decide +kernel
theorem d_Ar_copyOf_1_27 : decode b_Ar_copyOf_1 27 = .ok (.aload_n 3, 1) := by decide +kernel
theorem d_Ar_copyOf_1_28 : decode b_Ar_copyOf_1 28 = .ok (.iconst 0, 1) := by decide +kernel
theorem d_Ar_copyOf_1_29 : decode b_Ar_copyOf_1 29 = .ok (.aload_n 0, 1) := by decide +kernel
theorem d_Ar_copyOf_1_30 : decode b_Ar_copyOf_1 30 = .ok (.arraylength, 1) := by decide +kernel
theorem d_Ar_copyOf_1_31 : decode b_Ar_copyOf_1 31 = .ok (.iload_n 1, 1) := by decide +kernel
theorem d_Ar_copyOf_1_32 : decode b_Ar_copyOf_1 32 = .ok (.invokestatic 304, 3) := by decide +kernel
theorem d_Ar_copyOf_1_35 : decode b_Ar_copyOf_1 35 = .ok (.invokestatic 150, 3) := by decide +kernel
theorem d_Ar_copyOf_1_38 : decode b_Ar_copyOf_1 38 = .ok (.aload_n 3, 1) := by decide +kernel
theorem d_Ar_copyOf_1_39 : decode b_Ar_copyOf_1 39 = .ok (.areturn, 1) := by decide +kernel
theorem d_AL_get_0 : decode b_AL_get 0 = .ok (.iload_n 1, 1) := by decide +kernel
theorem d_AL_get_1 : decode b_AL_get 1 = .ok (.aload_n 0, 1) := by decide +kernel
theorem d_AL_get_2 : decode b_AL_get 2 = .ok (.getfield 48, 3) := by decide +kernel
theorem d_AL_get_5 : decode b_AL_get 5 = .ok (.invokestatic 118, 3) := by decide +kernel
theorem d_AL_get_8 : decode b_AL_get 8 = .ok (.pop, 1) := by decide +kernel
theorem d_AL_get_9 : decode b_AL_get 9 = .ok (.aload_n 0, 1) := by decide +kernel
theorem d_AL_get_10 : decode b_AL_get 10 = .ok (.iload_n 1, 1) := by decide +kernel
theorem d_AL_get_11 : decode b_AL_get 11 = .ok (.invokevirtual 123, 3) := by decide +kernel
theorem d_AL_get_14 : decode b_AL_get 14 = .ok (.areturn, 1) := by decide +kernel
theorem d_Ob_checkIndex_0 : decode b_Ob_checkIndex 0 = .ok (.iload_n 0, 1) := by decide +kernel
theorem d_Ob_checkIndex_1 : decode b_Ob_checkIndex 1 = .ok (.iload_n 1, 1) := by decide +kernel
theorem d_Ob_checkIndex_2 : decode b_Ob_checkIndex 2 = .ok (.aconst_null, 1) := by decide +kernel
theorem d_Ob_checkIndex_3 : decode b_Ob_checkIndex 3 = .ok (.invokestatic 105, 3) := by decide +kernel
theorem d_Ob_checkIndex_6 : decode b_Ob_checkIndex 6 = .ok (.ireturn, 1) := by decide +kernel
theorem d_Pr_checkIndex_0 : decode b_Pr_checkIndex 0 = .ok (.iload_n 0, 1) := by decide +kernel
theorem d_Pr_checkIndex_1 : decode b_Pr_checkIndex 1 = .ok (.ifCond .lt 8, 3) := by decide +kernel
theorem d_Pr_checkIndex_4 : decode b_Pr_checkIndex 4 = .ok (.iload_n 0, 1) := by decide +kernel
theorem d_Pr_checkIndex_5 : decode b_Pr_checkIndex 5 = .ok (.iload_n 1, 1) := by decide +kernel
theorem d_Pr_checkIndex_6 : decode b_Pr_checkIndex 6 = .ok (.if_icmp .lt 10, 3) := by decide +kernel
theorem d_Pr_checkIndex_9 : decode b_Pr_checkIndex 9 = .ok (.aload_n 2, 1) := by decide +kernel
theorem d_Pr_checkIndex_10 : decode b_Pr_checkIndex 10 = .ok (.iload_n 0, 1) := by decide +kernel
theorem d_Pr_checkIndex_11 : decode b_Pr_checkIndex 11 = .ok (.iload_n 1, 1) := by decide +kernel
theorem d_Pr_checkIndex_12 : decode b_Pr_checkIndex 12 = .ok (.invokestatic 95, 3) := by decide +kernel
theorem d_Pr_checkIndex_15 : decode b_Pr_checkIndex 15 = .ok (.athrow, 1) := by decide +kernel
theorem d_Pr_checkIndex_16 : decode b_Pr_checkIndex 16 = .ok (.iload_n 0, 1) := by decide +kernel
theorem d_Pr_checkIndex_17 : decode b_Pr_checkIndex 17 = .ok (.ireturn, 1) := by decide +kernel
theorem d_AL_elementData_0 : decode b_AL_elementData 0 = .ok (.aload_n 0, 1) := by decide +kernel
theorem d_AL_elementData_1 : decode b_AL_elementData 1 = .ok (.getfield 9, 3) := by decide +kernel
theorem d_AL_elementData_4 : decode b_AL_elementData 4 = .ok (.iload_n 1, 1) := by decide +kernel
theorem d_AL_elementData_5 : decode b_AL_elementData 5 = .ok (.aaload, 1) := by decide +kernel
theorem d_AL_elementData_6 : decode b_AL_elementData 6 = .ok (.areturn, 1) := by decide +kernel
theorem d_Ar_fill_0 : decode b_Ar_fill 0 = .ok (.iconst 0, 1) := by decide +kernel
theorem d_Ar_fill_1 : decode b_Ar_fill 1 = .ok (.istore_n 2, 1) := by decide +kernel
theorem d_Ar_fill_2 : decode b_Ar_fill 2 = .ok (.aload_n 0, 1) := by decide +kernel
theorem d_Ar_fill_3 : decode b_Ar_fill 3 = .ok (.arraylength, 1) := by decide +kernel
theorem d_Ar_fill_4 : decode b_Ar_fill 4 = .ok (.istore_n 3, 1) := by decide +kernel
theorem d_Ar_fill_5 : decode b_Ar_fill 5 = .ok (.iload_n 2, 1) := by decide +kernel
theorem d_Ar_fill_6 : decode b_Ar_fill 6 = .ok (.iload_n 3, 1) := by decide +kernel
theorem d_Ar_fill_7 : decode b_Ar_fill 7 = .ok (.if_icmp .ge 13, 3) := by decide +kernel
theorem d_Ar_fill_10 : decode b_Ar_fill 10 = .ok (.aload_n 0, 1) := by decide +kernel
theorem d_Ar_fill_11 : decode b_Ar_fill 11 = .ok (.iload_n 2, 1) := by decide +kernel
theorem d_Ar_fill_12 : decode b_Ar_fill 12 = .ok (.iload_n 1, 1) := by decide +kernel
theorem d_Ar_fill_13 : decode b_Ar_fill 13 = .ok (.iastore, 1) := by decide +kernel
theorem d_Ar_fill_14 : decode b_Ar_fill 14 = .ok (.iinc 2 1, 3) := by decide +kernel
theorem d_Ar_fill_17 : decode b_Ar_fill 17 = .ok (.goto (-12), 3) := by decide +kernel
theorem d_Ar_fill_20 : decode b_Ar_fill 20 = .ok (.return_, 1) := by decide +kernel
theorem d_Lo_signum_0 : decode b_Lo_signum 0 = .ok (.lload_n 0, 1) := by decide +kernel
theorem d_Lo_signum_1 : decode b_Lo_signum 1 = .ok (.bipush 63, 2) := by decide +kernel
theorem d_Lo_signum_3 : decode b_Lo_signum 3 = .ok (.lshr, 1) := by decide +kernel
theorem d_Lo_signum_4 : decode b_Lo_signum 4 = .ok (.lload_n 0, 1) := by decide +kernel
theorem d_Lo_signum_5 : decode b_Lo_signum 5 = .ok (.lneg, 1) := by decide +kernel
theorem d_Lo_signum_6 : decode b_Lo_signum 6 = .ok (.bipush 63, 2) := by decide +kernel
theorem d_Lo_signum_8 : decode b_Lo_signum 8 = .ok (.lushr, 1) := by decide +kernel
theorem d_Lo_signum_9 : decode b_Lo_signum 9 = .ok (.lor, 1) := by decide +kernel
theorem d_Lo_signum_10 : decode b_Lo_signum 10 = .ok (.l2i, 1) := by decide +kernel
theorem d_Lo_signum_11 : decode b_Lo_signum 11 = .ok (.ireturn, 1) := by decide +kernel
theorem d_Mt_min_1_0 : decode b_Mt_min_1 0 = .ok (.lload_n 0, 1) := by decide +kernel
theorem d_Mt_min_1_1 : decode b_Mt_min_1 1 = .ok (.lload_n 2, 1) := by decide +kernel
theorem d_Mt_min_1_2 : decode b_Mt_min_1 2 = .ok (.lcmp, 1) := by decide +kernel
theorem d_Mt_min_1_3 : decode b_Mt_min_1 3 = .ok (.ifCond .gt 7, 3) := by decide +kernel
theorem d_Mt_min_1_6 : decode b_Mt_min_1 6 = .ok (.lload_n 0, 1) := by decide +kernel
theorem d_Mt_min_1_7 : decode b_Mt_min_1 7 = .ok (.goto 4, 3) := by decide +kernel
theorem d_Mt_min_1_10 : decode b_Mt_min_1 10 = .ok (.lload_n 2, 1) := by decide +kernel
theorem d_Mt_min_1_11 : decode b_Mt_min_1 11 = .ok (.lreturn, 1) := by decide +kernel
theorem d_Mt_max_1_0 : decode b_Mt_max_1 0 = .ok (.lload_n 0, 1) := by decide +kernel
theorem d_Mt_max_1_1 : decode b_Mt_max_1 1 = .ok (.lload_n 2, 1) := by decide +kernel
theorem d_Mt_max_1_2 : decode b_Mt_max_1 2 = .ok (.lcmp, 1) := by decide +kernel
theorem d_Mt_max_1_3 : decode b_Mt_max_1 3 = .ok (.ifCond .lt 7, 3) := by decide +kernel
theorem d_Mt_max_1_6 : decode b_Mt_max_1 6 = .ok (.lload_n 0, 1) := by decide +kernel
theorem d_Mt_max_1_7 : decode b_Mt_max_1 7 = .ok (.goto 4, 3) := by decide +kernel
theorem d_Mt_max_1_10 : decode b_Mt_max_1 10 = .ok (.lload_n 2, 1) := by decide +kernel
theorem d_Mt_max_1_11 : decode b_Mt_max_1 11 = .ok (.lreturn, 1) := by decide +kernel
theorem d_Mt_floorMod_0 : decode b_Mt_floorMod 0 = .ok (.iload_n 0, 1) := by decide +kernel
theorem d_Mt_floorMod_1 : decode b_Mt_floorMod 1 = .ok (.iload_n 1, 1) := by decide +kernel
theorem d_Mt_floorMod_2 : decode b_Mt_floorMod 2 = .ok (.irem, 1) := by decide +kernel
theorem d_Mt_floorMod_3 : decode b_Mt_floorMod 3 = .ok (.istore_n 2, 1) := by decide +kernel
theorem d_Mt_floorMod_4 : decode b_Mt_floorMod 4 = .ok (.iload_n 0, 1) := by decide +kernel
theorem d_Mt_floorMod_5 : decode b_Mt_floorMod 5 = .ok (.iload_n 1, 1) := by decide +kernel
theorem d_Mt_floorMod_6 : decode b_Mt_floorMod 6 = .ok (.ixor, 1) := by decide +kernel
theorem d_Mt_floorMod_7 : decode b_Mt_floorMod 7 = .ok (.ifCond .ge 11, 3) := by decide +kernel
theorem d_Mt_floorMod_10 : decode b_Mt_floorMod 10 = .ok (.iload_n 2, 1) := by decide +kernel
theorem d_Mt_floorMod_11 : decode b_Mt_floorMod 11 = .ok (.ifCond .eq 7, 3) := by decide +kernel
theorem d_Mt_floorMod_14 : decode b_Mt_floorMod 14 = .ok (.iload_n 2, 1) := by decide +kernel
theorem d_Mt_floorMod_15 : decode b_Mt_floorMod 15 = .ok (.iload_n 1, 1) := by decide +kernel
theorem d_Mt_floorMod_16 : decode b_Mt_floorMod 16 = .ok (.iadd, 1) := by decide +kernel
theorem d_Mt_floorMod_17 : decode b_Mt_floorMod 17 = .ok (.ireturn, 1) := by decide +kernel
theorem d_Mt_floorMod_18 : decode b_Mt_floorMod 18 = .ok (.iload_n 2, 1) := by decide +kernel
theorem d_Mt_floorMod_19 : decode b_Mt_floorMod 19 = .ok (.ireturn, 1) := by decide +kernel
theorem d_Lo_compare_0 : decode b_Lo_compare 0 = .ok (.lload_n 0, 1) := by decide +kernel
theorem d_Lo_compare_1 : decode b_Lo_compare 1 = .ok (.lload_n 2, 1) := by decide +kernel
theorem d_Lo_compare_2 : decode b_Lo_compare 2 = .ok (.lcmp, 1) := by decide +kernel
theorem d_Lo_compare_3 : decode b_Lo_compare 3 = .ok (.ifCond .ge 7, 3) := by decide +kernel
theorem d_Lo_compare_6 : decode b_Lo_compare 6 = .ok (.iconst (-1), 1) := by decide +kernel
theorem d_Lo_compare_7 : decode b_Lo_compare 7 = .ok (.goto 14, 3) := by decide +kernel
theorem d_Lo_compare_10 : decode b_Lo_compare 10 = .ok (.lload_n 0, 1) := by decide +kernel
theorem d_Lo_compare_11 : decode b_Lo_compare 11 = .ok (.lload_n 2, 1) := by decide +kernel
theorem d_Lo_compare_12 : decode b_Lo_compare 12 = .ok (.lcmp, 1) := by decide +kernel
theorem d_Lo_compare_13 : decode b_Lo_compare 13 = .ok (.ifCond .ne 7, 3) := by decide +kernel
theorem d_Lo_compare_16 : decode b_Lo_compare 16 = .ok (.iconst 0, 1) := by decide +kernel
theorem d_Lo_compare_17 : decode b_Lo_compare 17 = .ok (.goto 4, 3) := by decide +kernel
theorem d_Lo_compare_20 : decode b_Lo_compare 20 = .ok (.iconst 1, 1) := by decide +kernel
theorem d_Lo_compare_21 : decode b_Lo_compare 21 = .ok (.ireturn, 1) := by decide +kernel
theorem d_In_compare_0 : decode b_In_compare 0 = .ok (.iload_n 0, 1) := by decide +kernel
theorem d_In_compare_1 : decode b_In_compare 1 = .ok (.iload_n 1, 1) := by decide +kernel
theorem d_In_compare_2 : decode b_In_compare 2 = .ok (.if_icmp .ge 7, 3) := by decide +kernel
theorem d_In_compare_5 : decode b_In_compare 5 = .ok (.iconst (-1), 1) := by decide +kernel
theorem d_In_compare_6 : decode b_In_compare 6 = .ok (.goto 13, 3) := by decide +kernel
theorem d_In_compare_9 : decode b_In_compare 9 = .ok (.iload_n 0, 1) := by decide +kernel
theorem d_In_compare_10 : decode b_In_compare 10 = .ok (.iload_n 1, 1) := by decide +kernel
theorem d_In_compare_11 : decode b_In_compare 11 = .ok (.if_icmp .ne 7, 3) := by decide +kernel
theorem d_In_compare_14 : decode b_In_compare 14 = .ok (.iconst 0, 1) := by decide +kernel
theorem d_In_compare_15 : decode b_In_compare 15 = .ok (.goto 4, 3) := by decide +kernel
theorem d_In_compare_18 : decode b_In_compare 18 = .ok (.iconst 1, 1) := by decide +kernel
theorem d_In_compare_19 : decode b_In_compare 19 = .ok (.ireturn, 1) := by decide +kernel
theorem d_Md_init_0 : decode b_Md_init 0 = .ok (.aload_n 0, 1) := by decide +kernel
theorem d_Md_init_1 : decode b_Md_init 1 = .ok (.invokespecial 1, 3) := by decide +kernel
theorem d_Md_init_4 : decode b_Md_init 4 = .ok (.aload_n 0, 1) := by decide +kernel
theorem d_Md_init_5 : decode b_Md_init 5 = .ok (.bipush 120, 2) := by decide +kernel
theorem d_Md_init_7 : decode b_Md_init 7 = .ok (.newarray .int, 2) := by decide +kernel
theorem d_Md_init_9 : decode b_Md_init 9 = .ok (.putfield 7, 3) := by decide +kernel
theorem d_Md_init_12 : decode b_Md_init 12 = .ok (.aload_n 0, 1) := by decide +kernel
theorem d_Md_init_13 : decode b_Md_init 13 = .ok (.bipush 120, 2) := by decide +kernel
theorem d_Md_init_15 : decode b_Md_init 15 = .ok (.newarray .int, 2) := by decide +kernel
theorem d_Md_init_17 : decode b_Md_init 17 = .ok (.putfield 13, 3) := by decide +kernel
theorem d_Md_init_20 : decode b_Md_init 20 = .ok (.aload_n 0, 1) := by decide +kernel
theorem d_Md_init_21 : decode b_Md_init 21 = .ok (.bipush 120, 2) := by decide +kernel
theorem d_Md_init_23 : decode b_Md_init 23 = .ok (.newarray .long, 2) := by decide +kernel
theorem d_Md_init_25 : decode b_Md_init 25 = .ok (.putfield 16, 3) := by decide +kernel
theorem d_Md_init_28 : decode b_Md_init 28 = .ok (.aload_n 0, 1) := by decide +kernel
theorem d_Md_init_29 : decode b_Md_init 29 = .ok (.bipush 120, 2) := by decide +kernel
theorem d_Md_init_31 : decode b_Md_init 31 = .ok (.newarray .int, 2) := by decide +kernel
theorem d_Md_init_33 : decode b_Md_init 33 = .ok (.putfield 20, 3) := by decide +kernel
theorem d_Md_init_36 : decode b_Md_init 36 = .ok (.aload_n 0, 1) := by decide +kernel
theorem d_Md_init_37 : decode b_Md_init 37 = .ok (.bipush 120, 2) := by decide +kernel
theorem d_Md_init_39 : decode b_Md_init 39 = .ok (.newarray .int, 2) := by decide +kernel
theorem d_Md_init_41 : decode b_Md_init 41 = .ok (.putfield 23, 3) := by decide +kernel
theorem d_Md_init_44 : decode b_Md_init 44 = .ok (.aload_n 0, 1) := by decide +kernel
theorem d_Md_init_45 : decode b_Md_init 45 = .ok (.bipush 120, 2) := by decide +kernel
theorem d_Md_init_47 : decode b_Md_init 47 = .ok (.newarray .boolean, 2) := by decide +kernel
theorem d_Md_init_49 : decode b_Md_init 49 = .ok (.putfield 26, 3) := by decide +kernel
theorem d_Md_init_52 : decode b_Md_init 52 = .ok (.aload_n 0, 1) := by decide +kernel
theorem d_Md_init_53 : decode b_Md_init 53 = .ok (.sipush 2880, 3) := by decide +kernel
theorem d_Md_init_56 : decode b_Md_init 56 = .ok (.newarray .long, 2) := by decide +kernel
theorem d_Md_init_58 : decode b_Md_init 58 = .ok (.putfield 30, 3) := by decide +kernel
theorem d_Md_init_61 : decode b_Md_init 61 = .ok (.aload_n 0, 1) := by decide +kernel
theorem d_Md_init_62 : decode b_Md_init 62 = .ok (.sipush 2880, 3) := by decide +kernel
theorem d_Md_init_65 : decode b_Md_init 65 = .ok (.newarray .long, 2) := by decide +kernel
theorem d_Md_init_67 : decode b_Md_init 67 = .ok (.putfield 33, 3) := by decide +kernel
theorem d_Md_init_70 : decode b_Md_init 70 = .ok (.aload_n 0, 1) := by decide +kernel
theorem d_Md_init_71 : decode b_Md_init 71 = .ok (.bipush 80, 2) := by decide +kernel
theorem d_Md_init_73 : decode b_Md_init 73 = .ok (.newarray .int, 2) := by decide +kernel
theorem d_Md_init_75 : decode b_Md_init 75 = .ok (.putfield 36, 3) := by decide +kernel
theorem d_Md_init_78 : decode b_Md_init 78 = .ok (.aload_n 0, 1) := by decide +kernel
theorem d_Md_init_79 : decode b_Md_init 79 = .ok (.bipush 80, 2) := by decide +kernel
theorem d_Md_init_81 : decode b_Md_init 81 = .ok (.newarray .int, 2) := by decide +kernel
theorem d_Md_init_83 : decode b_Md_init 83 = .ok (.putfield 39, 3) := by decide +kernel
theorem d_Md_init_86 : decode b_Md_init 86 = .ok (.aload_n 0, 1) := by decide +kernel
theorem d_Md_init_87 : decode b_Md_init 87 = .ok (.bipush 80, 2) := by decide +kernel
theorem d_Md_init_89 : decode b_Md_init 89 = .ok (.newarray .long, 2) := by decide +kernel
theorem d_Md_init_91 : decode b_Md_init 91 = .ok (.putfield 42, 3) := by decide +kernel
theorem d_Md_init_94 : decode b_Md_init 94 = .ok (.aload_n 0, 1) := by decide +kernel
theorem d_Md_init_95 : decode b_Md_init 95 = .ok (.bipush 80, 2) := by decide +kernel
theorem d_Md_init_97 : decode b_Md_init 97 = .ok (.newarray .long, 2) := by decide +kernel
theorem d_Md_init_99 : decode b_Md_init 99 = .ok (.putfield 45, 3) := by decide +kernel
theorem d_Md_init_102 : decode b_Md_init 102 = .ok (.aload_n 0, 1) := by decide +kernel
theorem d_Md_init_103 : decode b_Md_init 103 = .ok (.bipush 80, 2) := by decide +kernel
theorem d_Md_init_105 : decode b_Md_init 105 = .ok (.newarray .int, 2) := by decide +kernel
theorem d_Md_init_107 : decode b_Md_init 107 = .ok (.putfield 48, 3) := by decide +kernel
theorem d_Md_init_110 : decode b_Md_init 110 = .ok (.aload_n 0, 1) := by decide +kernel
theorem d_Md_init_111 : decode b_Md_init 111 = .ok (.bipush 80, 2) := by decide +kernel
theorem d_Md_init_113 : decode b_Md_init 113 = .ok (.newarray .int, 2) := by decide +kernel
theorem d_Md_init_115 : decode b_Md_init 115 = .ok (.putfield 51, 3) := by decide +kernel
theorem d_Md_init_118 : decode b_Md_init 118 = .ok (.aload_n 0, 1) := by decide +kernel
theorem d_Md_init_119 : decode b_Md_init 119 = .ok (.bipush 80, 2) := by decide +kernel
theorem d_Md_init_121 : decode b_Md_init 121 = .ok (.newarray .int, 2) := by decide +kernel
theorem d_Md_init_123 : decode b_Md_init 123 = .ok (.putfield 54, 3) := by decide +kernel
theorem d_Md_init_126 : decode b_Md_init 126 = .ok (.aload_n 0, 1) := by decide +kernel
theorem d_Md_init_127 : decode b_Md_init 127 = .ok (.bipush 80, 2) := by decide +kernel
theorem d_Md_init_129 : decode b_Md_init 129 = .ok (.newarray .long, 2) := by decide +kernel
theorem d_Md_init_131 : decode b_Md_init 131 = .ok (.putfield 57, 3) := by decide +kernel
theorem d_Md_init_134 : decode b_Md_init 134 = .ok (.aload_n 0, 1) := by decide +kernel
theorem d_Md_init_135 : decode b_Md_init 135 = .ok (.bipush 80, 2) := by decide +kernel
theorem d_Md_init_137 : decode b_Md_init 137 = .ok (.newarray .long, 2) := by decide +kernel
theorem d_Md_init_139 : decode b_Md_init 139 = .ok (.putfield 60, 3) := by decide +kernel
theorem d_Md_init_142 : decode b_Md_init 142 = .ok (.aload_n 0, 1) := by decide +kernel
theorem d_Md_init_143 : decode b_Md_init 143 = .ok (.ldc 63, 2) := by decide +kernel
theorem d_Md_init_145 : decode b_Md_init 145 = .ok (.newarray .long, 2) := by decide +kernel
theorem d_Md_init_147 : decode b_Md_init 147 = .ok (.putfield 64, 3) := by decide +kernel
theorem d_Md_init_150 : decode b_Md_init 150 = .ok (.aload_n 0, 1) := by decide +kernel
theorem d_Md_init_151 : decode b_Md_init 151 = .ok (.ldc 63, 2) := by decide +kernel
theorem d_Md_init_153 : decode b_Md_init 153 = .ok (.newarray .long, 2) := by decide +kernel
theorem d_Md_init_155 : decode b_Md_init 155 = .ok (.putfield 67, 3) := by decide +kernel
theorem d_Md_init_158 : decode b_Md_init 158 = .ok (.aload_n 0, 1) := by decide +kernel
theorem d_Md_init_159 : decode b_Md_init 159 = .ok (.sipush 9000, 3) := by decide +kernel
theorem d_Md_init_162 : decode b_Md_init 162 = .ok (.newarray .int, 2) := by decide +kernel
theorem d_Md_init_164 : decode b_Md_init 164 = .ok (.putfield 70, 3) := by decide +kernel
theorem d_Md_init_167 : decode b_Md_init 167 = .ok (.aload_n 0, 1) := by decide +kernel
theorem d_Md_init_168 : decode b_Md_init 168 = .ok (.sipush 9000, 3) := by decide +kernel
theorem d_Md_init_171 : decode b_Md_init 171 = .ok (.newarray .int, 2) := by decide +kernel
theorem d_Md_init_173 : decode b_Md_init 173 = .ok (.putfield 73, 3) := by decide +kernel
theorem d_Md_init_176 : decode b_Md_init 176 = .ok (.aload_n 0, 1) := by decide +kernel
theorem d_Md_init_177 : decode b_Md_init 177 = .ok (.bipush 20, 2) := by decide +kernel
theorem d_Md_init_179 : decode b_Md_init 179 = .ok (.newarray .boolean, 2) := by decide +kernel
theorem d_Md_init_181 : decode b_Md_init 181 = .ok (.putfield 76, 3) := by decide +kernel
theorem d_Md_init_184 : decode b_Md_init 184 = .ok (.aload_n 0, 1) := by decide +kernel
theorem d_Md_init_185 : decode b_Md_init 185 = .ok (.bipush 20, 2) := by decide +kernel
theorem d_Md_init_187 : decode b_Md_init 187 = .ok (.newarray .long, 2) := by decide +kernel
theorem d_Md_init_189 : decode b_Md_init 189 = .ok (.putfield 79, 3) := by decide +kernel
theorem d_Md_init_192 : decode b_Md_init 192 = .ok (.aload_n 0, 1) := by decide +kernel
theorem d_Md_init_193 : decode b_Md_init 193 = .ok (.bipush 22, 2) := by decide +kernel
theorem d_Md_init_195 : decode b_Md_init 195 = .ok (.newarray .int, 2) := by decide +kernel
theorem d_Md_init_197 : decode b_Md_init 197 = .ok (.putfield 82, 3) := by decide +kernel
theorem d_Md_init_200 : decode b_Md_init 200 = .ok (.aload_n 0, 1) := by decide +kernel
theorem d_Md_init_201 : decode b_Md_init 201 = .ok (.bipush 22, 2) := by decide +kernel
theorem d_Md_init_203 : decode b_Md_init 203 = .ok (.newarray .int, 2) := by decide +kernel
theorem d_Md_init_205 : decode b_Md_init 205 = .ok (.putfield 85, 3) := by decide +kernel
theorem d_Md_init_208 : decode b_Md_init 208 = .ok (.aload_n 0, 1) := by decide +kernel
theorem d_Md_init_209 : decode b_Md_init 209 = .ok (.bipush 22, 2) := by decide +kernel
theorem d_Md_init_211 : decode b_Md_init 211 = .ok (.newarray .int, 2) := by decide +kernel
theorem d_Md_init_213 : decode b_Md_init 213 = .ok (.putfield 88, 3) := by decide +kernel
theorem d_Md_init_216 : decode b_Md_init 216 = .ok (.aload_n 0, 1) := by decide +kernel
theorem d_Md_init_217 : decode b_Md_init 217 = .ok (.bipush 22, 2) := by decide +kernel
theorem d_Md_init_219 : decode b_Md_init 219 = .ok (.newarray .int, 2) := by decide +kernel
theorem d_Md_init_221 : decode b_Md_init 221 = .ok (.putfield 91, 3) := by decide +kernel
theorem d_Md_init_224 : decode b_Md_init 224 = .ok (.aload_n 0, 1) := by decide +kernel
theorem d_Md_init_225 : decode b_Md_init 225 = .ok (.bipush 80, 2) := by decide +kernel
theorem d_Md_init_227 : decode b_Md_init 227 = .ok (.newarray .long, 2) := by decide +kernel
theorem d_Md_init_229 : decode b_Md_init 229 = .ok (.putfield 94, 3) := by decide +kernel
theorem d_Md_init_232 : decode b_Md_init 232 = .ok (.aload_n 0, 1) := by decide +kernel
theorem d_Md_init_233 : decode b_Md_init 233 = .ok (.bipush 20, 2) := by decide +kernel
theorem d_Md_init_235 : decode b_Md_init 235 = .ok (.newarray .boolean, 2) := by decide +kernel
theorem d_Md_init_237 : decode b_Md_init 237 = .ok (.putfield 97, 3) := by decide +kernel
theorem d_Md_init_240 : decode b_Md_init 240 = .ok (.aload_n 0, 1) := by decide +kernel
theorem d_Md_init_241 : decode b_Md_init 241 = .ok (.sipush 3000, 3) := by decide +kernel
theorem d_Md_init_244 : decode b_Md_init 244 = .ok (.newarray .boolean, 2) := by decide +kernel
theorem d_Md_init_246 : decode b_Md_init 246 = .ok (.putfield 100, 3) := by decide +kernel
theorem d_Md_init_249 : decode b_Md_init 249 = .ok (.aload_n 0, 1) := by decide +kernel
theorem d_Md_init_250 : decode b_Md_init 250 = .ok (.iload_n 1, 1) := by decide +kernel
theorem d_Md_init_251 : decode b_Md_init 251 = .ok (.iconst 1, 1) := by decide +kernel
theorem d_Md_init_252 : decode b_Md_init 252 = .ok (.if_icmp .ge 7, 3) := by decide +kernel
theorem d_Md_init_255 : decode b_Md_init 255 = .ok (.iconst 1, 1) := by decide +kernel
theorem d_Md_init_256 : decode b_Md_init 256 = .ok (.goto 15, 3) := by decide +kernel
theorem d_Md_init_259 : decode b_Md_init 259 = .ok (.iload_n 1, 1) := by decide +kernel
theorem d_Md_init_260 : decode b_Md_init 260 = .ok (.ldc 103, 2) := by decide +kernel
theorem d_Md_init_262 : decode b_Md_init 262 = .ok (.if_icmp .le 8, 3) := by decide +kernel
theorem d_Md_init_265 : decode b_Md_init 265 = .ok (.ldc 103, 2) := by decide +kernel
theorem d_Md_init_267 : decode b_Md_init 267 = .ok (.goto 4, 3) := by decide +kernel
theorem d_Md_init_270 : decode b_Md_init 270 = .ok (.iload_n 1, 1) := by decide +kernel
theorem d_Md_init_271 : decode b_Md_init 271 = .ok (.putfield 104, 3) := by decide +kernel
theorem d_Md_init_274 : decode b_Md_init 274 = .ok (.return_, 1) := by decide +kernel
theorem d_Md_thrown_0 : decode b_Md_thrown 0 = .ok (.aload_n 0, 1) := by decide +kernel
theorem d_Md_thrown_1 : decode b_Md_thrown 1 = .ok (.getfield 108, 3) := by decide +kernel
theorem d_Md_thrown_4 : decode b_Md_thrown 4 = .ok (.ireturn, 1) := by decide +kernel
theorem d_Md_cell_0 : decode b_Md_cell 0 = .ok (.aload_n 0, 1) := by decide +kernel
theorem d_Md_cell_1 : decode b_Md_cell 1 = .ok (.aload_n 0, 1) := by decide +kernel
theorem d_Md_cell_2 : decode b_Md_cell 2 = .ok (.getfield 111, 3) := by decide +kernel
theorem d_Md_cell_5 : decode b_Md_cell 5 = .ok (.bipush 20, 2) := by decide +kernel
theorem d_Md_cell_7 : decode b_Md_cell 7 = .ok (.if_icmp .ne 7, 3) := by decide +kernel
theorem d_Md_cell_10 : decode b_Md_cell 10 = .ok (.iconst 1, 1) := by decide +kernel
theorem d_Md_cell_11 : decode b_Md_cell 11 = .ok (.goto 4, 3) := by decide +kernel
theorem d_Md_cell_14 : decode b_Md_cell 14 = .ok (.iconst 0, 1) := by decide +kernel
theorem d_Md_cell_15 : decode b_Md_cell 15 = .ok (.putfield 108, 3) := by decide +kernel
theorem d_Md_cell_18 : decode b_Md_cell 18 = .ok (.aload_n 0, 1) := by decide +kernel
theorem d_Md_cell_19 : decode b_Md_cell 19 = .ok (.getfield 108, 3) := by decide +kernel
theorem d_Md_cell_22 : decode b_Md_cell 22 = .ok (.ifCond .le 5, 3) := by decide +kernel
theorem d_Md_cell_25 : decode b_Md_cell 25 = .ok (.iconst 0, 1) := by decide +kernel
theorem d_Md_cell_26 : decode b_Md_cell 26 = .ok (.ireturn, 1) := by decide +kernel
theorem d_Md_cell_27 : decode b_Md_cell 27 = .ok (.aload_n 0, 1) := by decide +kernel
theorem d_Md_cell_28 : decode b_Md_cell 28 = .ok (.dup, 1) := by decide +kernel
theorem d_Md_cell_29 : decode b_Md_cell 29 = .ok (.getfield 111, 3) := by decide +kernel
theorem d_Md_cell_32 : decode b_Md_cell 32 = .ok (.iconst 1, 1) := by decide +kernel
theorem d_Md_cell_33 : decode b_Md_cell 33 = .ok (.iadd, 1) := by decide +kernel
theorem d_Md_cell_34 : decode b_Md_cell 34 = .ok (.putfield 111, 3) := by decide +kernel
theorem d_Md_cell_37 : decode b_Md_cell 37 = .ok (.aload_n 0, 1) := by decide +kernel
theorem d_Md_cell_38 : decode b_Md_cell 38 = .ok (.getfield 111, 3) := by decide +kernel
theorem d_Md_cell_41 : decode b_Md_cell 41 = .ok (.iconst 1, 1) := by decide +kernel
theorem d_Md_cell_42 : decode b_Md_cell 42 = .ok (.isub, 1) := by decide +kernel
theorem d_Md_cell_43 : decode b_Md_cell 43 = .ok (.ireturn, 1) := by decide +kernel
theorem d_Md_polygon_0 : decode b_Md_polygon 0 = .ok (.aload_n 0, 1) := by decide +kernel
theorem d_Md_polygon_1 : decode b_Md_polygon 1 = .ok (.aload_n 0, 1) := by decide +kernel
theorem d_Md_polygon_2 : decode b_Md_polygon 2 = .ok (.iload_n 1, 1) := by decide +kernel
theorem d_Md_polygon_3 : decode b_Md_polygon 3 = .ok (.invokevirtual 121, 3) := by decide +kernel
theorem d_Md_polygon_6 : decode b_Md_polygon 6 = .ok (.ifCond .eq 11, 3) := by decide +kernel
theorem d_Md_polygon_9 : decode b_Md_polygon 9 = .ok (.aload_n 0, 1) := by decide +kernel
theorem d_Md_polygon_10 : decode b_Md_polygon 10 = .ok (.iload_n 2, 1) := by decide +kernel
theorem d_Md_polygon_11 : decode b_Md_polygon 11 = .ok (.invokevirtual 125, 3) := by decide +kernel
theorem d_Md_polygon_14 : decode b_Md_polygon 14 = .ok (.ifCond .ne 7, 3) := by decide +kernel
theorem d_Md_polygon_17 : decode b_Md_polygon 17 = .ok (.iconst 1, 1) := by decide +kernel
theorem d_Md_polygon_18 : decode b_Md_polygon 18 = .ok (.goto 17, 3) := by decide +kernel
theorem d_Md_polygon_21 : decode b_Md_polygon 21 = .ok (.aload_n 0, 1) := by decide +kernel
theorem d_Md_polygon_22 : decode b_Md_polygon 22 = .ok (.getfield 118, 3) := by decide +kernel
theorem d_Md_polygon_25 : decode b_Md_polygon 25 = .ok (.bipush 120, 2) := by decide +kernel
theorem d_Md_polygon_27 : decode b_Md_polygon 27 = .ok (.if_icmp .ne 7, 3) := by decide +kernel
theorem d_Md_polygon_30 : decode b_Md_polygon 30 = .ok (.iconst 2, 1) := by decide +kernel
theorem d_Md_polygon_31 : decode b_Md_polygon 31 = .ok (.goto 4, 3) := by decide +kernel
theorem d_Md_polygon_34 : decode b_Md_polygon 34 = .ok (.iconst 0, 1) := by decide +kernel
theorem d_Md_polygon_35 : decode b_Md_polygon 35 = .ok (.putfield 108, 3) := by decide +kernel
theorem d_Md_polygon_38 : decode b_Md_polygon 38 = .ok (.aload_n 0, 1) := by decide +kernel
theorem d_Md_polygon_39 : decode b_Md_polygon 39 = .ok (.getfield 108, 3) := by decide +kernel
theorem d_Md_polygon_42 : decode b_Md_polygon 42 = .ok (.ifCond .le 7, 3) := by decide +kernel
theorem d_Md_polygon_45 : decode b_Md_polygon 45 = .ok (.iconst 0, 1) := by decide +kernel
theorem d_Md_polygon_46 : decode b_Md_polygon 46 = .ok (.goto 11, 3) := by decide +kernel
theorem d_Md_polygon_49 : decode b_Md_polygon 49 = .ok (.aload_n 0, 1) := by decide +kernel
theorem d_Md_polygon_50 : decode b_Md_polygon 50 = .ok (.iload_n 1, 1) := by decide +kernel
theorem d_Md_polygon_51 : decode b_Md_polygon 51 = .ok (.iload_n 2, 1) := by decide +kernel
theorem d_Md_polygon_52 : decode b_Md_polygon 52 = .ok (.lconst 0, 1) := by decide +kernel
theorem d_Md_polygon_53 : decode b_Md_polygon 53 = .ok (.iconst 0, 1) := by decide +kernel
theorem d_Md_polygon_54 : decode b_Md_polygon 54 = .ok (.invokevirtual 128, 3) := by decide +kernel
theorem d_Md_polygon_57 : decode b_Md_polygon 57 = .ok (.ireturn, 1) := by decide +kernel
theorem d_Md_isCell_0 : decode b_Md_isCell 0 = .ok (.iload_n 1, 1) := by decide +kernel
theorem d_Md_isCell_1 : decode b_Md_isCell 1 = .ok (.ifCond .lt 15, 3) := by decide +kernel
theorem d_Md_isCell_4 : decode b_Md_isCell 4 = .ok (.iload_n 1, 1) := by decide +kernel
theorem d_Md_isCell_5 : decode b_Md_isCell 5 = .ok (.aload_n 0, 1) := by decide +kernel
theorem d_Md_isCell_6 : decode b_Md_isCell 6 = .ok (.getfield 111, 3) := by decide +kernel
theorem d_Md_isCell_9 : decode b_Md_isCell 9 = .ok (.if_icmp .ge 7, 3) := by decide +kernel
theorem d_Md_isCell_12 : decode b_Md_isCell 12 = .ok (.iconst 1, 1) := by decide +kernel
theorem d_Md_isCell_13 : decode b_Md_isCell 13 = .ok (.goto 4, 3) := by decide +kernel
theorem d_Md_isCell_16 : decode b_Md_isCell 16 = .ok (.iconst 0, 1) := by decide +kernel
theorem d_Md_isCell_17 : decode b_Md_isCell 17 = .ok (.ireturn, 1) := by decide +kernel
theorem d_Md_isLayer_0 : decode b_Md_isLayer 0 = .ok (.iload_n 1, 1) := by decide +kernel
theorem d_Md_isLayer_1 : decode b_Md_isLayer 1 = .ok (.ifCond .lt 15, 3) := by decide +kernel
theorem d_Md_isLayer_4 : decode b_Md_isLayer 4 = .ok (.iload_n 1, 1) := by decide +kernel
theorem d_Md_isLayer_5 : decode b_Md_isLayer 5 = .ok (.aload_n 0, 1) := by decide +kernel
theorem d_Md_isLayer_6 : decode b_Md_isLayer 6 = .ok (.getfield 104, 3) := by decide +kernel
theorem d_Md_isLayer_9 : decode b_Md_isLayer 9 = .ok (.if_icmp .ge 7, 3) := by decide +kernel
theorem d_Md_isLayer_12 : decode b_Md_isLayer 12 = .ok (.iconst 1, 1) := by decide +kernel
theorem d_Md_isLayer_13 : decode b_Md_isLayer 13 = .ok (.goto 4, 3) := by decide +kernel
theorem d_Md_isLayer_16 : decode b_Md_isLayer 16 = .ok (.iconst 0, 1) := by decide +kernel
theorem d_Md_isLayer_17 : decode b_Md_isLayer 17 = .ok (.ireturn, 1) := by decide +kernel
theorem d_Md_shape_0 : decode b_Md_shape 0 = .ok (.aload_n 0, 1) := by decide +kernel
theorem d_Md_shape_1 : decode b_Md_shape 1 = .ok (.getfield 7, 3) := by decide +kernel
theorem d_Md_shape_4 : decode b_Md_shape 4 = .ok (.aload_n 0, 1) := by decide +kernel
theorem d_Md_shape_5 : decode b_Md_shape 5 = .ok (.getfield 118, 3) := by decide +kernel
theorem d_Md_shape_8 : decode b_Md_shape 8 = .ok (.iload_n 1, 1) := by decide +kernel
theorem d_Md_shape_9 : decode b_Md_shape 9 = .ok (.iastore, 1) := by decide +kernel
theorem d_Md_shape_10 : decode b_Md_shape 10 = .ok (.aload_n 0, 1) := by decide +kernel
theorem d_Md_shape_11 : decode b_Md_shape 11 = .ok (.getfield 13, 3) := by decide +kernel
theorem d_Md_shape_14 : decode b_Md_shape 14 = .ok (.aload_n 0, 1) := by decide +kernel
theorem d_Md_shape_15 : decode b_Md_shape 15 = .ok (.getfield 118, 3) := by decide +kernel
theorem d_Md_shape_18 : decode b_Md_shape 18 = .ok (.iload_n 2, 1) := by decide +kernel
theorem d_Md_shape_19 : decode b_Md_shape 19 = .ok (.iastore, 1) := by decide +kernel
theorem d_Md_shape_20 : decode b_Md_shape 20 = .ok (.aload_n 0, 1) := by decide +kernel
theorem d_Md_shape_21 : decode b_Md_shape 21 = .ok (.getfield 16, 3) := by decide +kernel
theorem d_Md_shape_24 : decode b_Md_shape 24 = .ok (.aload_n 0, 1) := by decide +kernel
theorem d_Md_shape_25 : decode b_Md_shape 25 = .ok (.getfield 118, 3) := by decide +kernel
theorem d_Md_shape_28 : decode b_Md_shape 28 = .ok (.lload_n 3, 1) := by decide +kernel
theorem d_Md_shape_29 : decode b_Md_shape 29 = .ok (.lastore, 1) := by decide +kernel
theorem d_Md_shape_30 : decode b_Md_shape 30 = .ok (.aload_n 0, 1) := by decide +kernel
theorem d_Md_shape_31 : decode b_Md_shape 31 = .ok (.getfield 20, 3) := by decide +kernel
theorem d_Md_shape_34 : decode b_Md_shape 34 = .ok (.aload_n 0, 1) := by decide +kernel
theorem d_Md_shape_35 : decode b_Md_shape 35 = .ok (.getfield 118, 3) := by decide +kernel
theorem d_Md_shape_38 : decode b_Md_shape 38 = .ok (.iload 5, 2) := by decide +kernel
theorem d_Md_shape_40 : decode b_Md_shape 40 = .ok (.iastore, 1) := by decide +kernel
theorem d_Md_shape_41 : decode b_Md_shape 41 = .ok (.aload_n 0, 1) := by decide +kernel
theorem d_Md_shape_42 : decode b_Md_shape 42 = .ok (.getfield 23, 3) := by decide +kernel
theorem d_Md_shape_45 : decode b_Md_shape 45 = .ok (.aload_n 0, 1) := by decide +kernel
theorem d_Md_shape_46 : decode b_Md_shape 46 = .ok (.getfield 118, 3) := by decide +kernel
theorem d_Md_shape_49 : decode b_Md_shape 49 = .ok (.iconst 0, 1) := by decide +kernel
theorem d_Md_shape_50 : decode b_Md_shape 50 = .ok (.iastore, 1) := by decide +kernel
theorem d_Md_shape_51 : decode b_Md_shape 51 = .ok (.aload_n 0, 1) := by decide +kernel
theorem d_Md_shape_52 : decode b_Md_shape 52 = .ok (.dup, 1) := by decide +kernel
theorem d_Md_shape_53 : decode b_Md_shape 53 = .ok (.getfield 118, 3) := by decide +kernel
theorem d_Md_shape_56 : decode b_Md_shape 56 = .ok (.iconst 1, 1) := by decide +kernel
theorem d_Md_shape_57 : decode b_Md_shape 57 = .ok (.iadd, 1) := by decide +kernel
theorem d_Md_shape_58 : decode b_Md_shape 58 = .ok (.putfield 118, 3) := by decide +kernel
theorem d_Md_shape_61 : decode b_Md_shape 61 = .ok (.aload_n 0, 1) := by decide +kernel
theorem d_Md_shape_62 : decode b_Md_shape 62 = .ok (.getfield 118, 3) := by decide +kernel
theorem d_Md_shape_65 : decode b_Md_shape 65 = .ok (.iconst 1, 1) := by decide +kernel
theorem d_Md_shape_66 : decode b_Md_shape 66 = .ok (.isub, 1) := by decide +kernel
theorem d_Md_shape_67 : decode b_Md_shape 67 = .ok (.ireturn, 1) := by decide +kernel
theorem d_Md_path_0 : decode b_Md_path 0 = .ok (.aload_n 0, 1) := by decide +kernel
theorem d_Md_path_1 : decode b_Md_path 1 = .ok (.aload_n 0, 1) := by decide +kernel
theorem d_Md_path_2 : decode b_Md_path 2 = .ok (.iload_n 1, 1) := by decide +kernel
theorem d_Md_path_3 : decode b_Md_path 3 = .ok (.invokevirtual 121, 3) := by decide +kernel
theorem d_Md_path_6 : decode b_Md_path 6 = .ok (.ifCond .eq 11, 3) := by decide +kernel
theorem d_Md_path_9 : decode b_Md_path 9 = .ok (.aload_n 0, 1) := by decide +kernel
theorem d_Md_path_10 : decode b_Md_path 10 = .ok (.iload_n 2, 1) := by decide +kernel
theorem d_Md_path_11 : decode b_Md_path 11 = .ok (.invokevirtual 125, 3) := by decide +kernel
theorem d_Md_path_14 : decode b_Md_path 14 = .ok (.ifCond .ne 7, 3) := by decide +kernel
theorem d_Md_path_17 : decode b_Md_path 17 = .ok (.iconst 1, 1) := by decide +kernel
theorem d_Md_path_18 : decode b_Md_path 18 = .ok (.goto 58, 3) := by decide +kernel
theorem d_Md_path_21 : decode b_Md_path 21 = .ok (.aload_n 0, 1) := by decide +kernel
theorem d_Md_path_22 : decode b_Md_path 22 = .ok (.getfield 118, 3) := by decide +kernel
theorem d_Md_path_25 : decode b_Md_path 25 = .ok (.bipush 120, 2) := by decide +kernel
theorem d_Md_path_27 : decode b_Md_path 27 = .ok (.if_icmp .ne 7, 3) := by decide +kernel
theorem d_Md_path_30 : decode b_Md_path 30 = .ok (.iconst 2, 1) := by decide +kernel
theorem d_Md_path_31 : decode b_Md_path 31 = .ok (.goto 45, 3) := by decide +kernel
theorem d_Md_path_34 : decode b_Md_path 34 = .ok (.lload_n 3, 1) := by decide +kernel
theorem d_Md_path_35 : decode b_Md_path 35 = .ok (.ldc2_w 132, 3) := by decide +kernel
theorem d_Md_path_38 : decode b_Md_path 38 = .ok (.lcmp, 1) := by decide +kernel
theorem d_Md_path_39 : decode b_Md_path 39 = .ok (.ifCond .lt 32, 3) := by decide +kernel
theorem d_Md_path_42 : decode b_Md_path 42 = .ok (.lload_n 3, 1) := by decide +kernel
theorem d_Md_path_43 : decode b_Md_path 43 = .ok (.ldc2_w 134, 3) := by decide +kernel
theorem d_Md_path_46 : decode b_Md_path 46 = .ok (.lcmp, 1) := by decide +kernel
theorem d_Md_path_47 : decode b_Md_path 47 = .ok (.ifCond .gt 24, 3) := by decide +kernel
theorem d_Md_path_50 : decode b_Md_path 50 = .ok (.lload_n 3, 1) := by decide +kernel
theorem d_Md_path_51 : decode b_Md_path 51 = .ok (.ldc2_w 132, 3) := by decide +kernel
theorem d_Md_path_54 : decode b_Md_path 54 = .ok (.lrem, 1) := by decide +kernel
theorem d_Md_path_55 : decode b_Md_path 55 = .ok (.lconst 0, 1) := by decide +kernel
theorem d_Md_path_56 : decode b_Md_path 56 = .ok (.lcmp, 1) := by decide +kernel
theorem d_Md_path_57 : decode b_Md_path 57 = .ok (.ifCond .ne 14, 3) := by decide +kernel
theorem d_Md_path_60 : decode b_Md_path 60 = .ok (.iload 5, 2) := by decide +kernel
theorem d_Md_path_62 : decode b_Md_path 62 = .ok (.ifCond .lt 9, 3) := by decide +kernel
theorem d_Md_path_65 : decode b_Md_path 65 = .ok (.iload 5, 2) := by decide +kernel
theorem d_Md_path_67 : decode b_Md_path 67 = .ok (.iconst 1, 1) := by decide +kernel
theorem d_Md_path_68 : decode b_Md_path 68 = .ok (.if_icmp .le 7, 3) := by decide +kernel
theorem d_Md_path_71 : decode b_Md_path 71 = .ok (.iconst 3, 1) := by decide +kernel
theorem d_Md_path_72 : decode b_Md_path 72 = .ok (.goto 4, 3) := by decide +kernel
theorem d_Md_path_75 : decode b_Md_path 75 = .ok (.iconst 0, 1) := by decide +kernel
theorem d_Md_path_76 : decode b_Md_path 76 = .ok (.putfield 108, 3) := by decide +kernel
theorem d_Md_path_79 : decode b_Md_path 79 = .ok (.aload_n 0, 1) := by decide +kernel
theorem d_Md_path_80 : decode b_Md_path 80 = .ok (.getfield 108, 3) := by decide +kernel
theorem d_Md_path_83 : decode b_Md_path 83 = .ok (.ifCond .le 7, 3) := by decide +kernel
theorem d_Md_path_86 : decode b_Md_path 86 = .ok (.iconst 0, 1) := by decide +kernel
theorem d_Md_path_87 : decode b_Md_path 87 = .ok (.goto 12, 3) := by decide +kernel
theorem d_Md_path_90 : decode b_Md_path 90 = .ok (.aload_n 0, 1) := by decide +kernel
theorem d_Md_path_91 : decode b_Md_path 91 = .ok (.iload_n 1, 1) := by decide +kernel
theorem d_Md_path_92 : decode b_Md_path 92 = .ok (.iload_n 2, 1) := by decide +kernel
theorem d_Md_path_93 : decode b_Md_path 93 = .ok (.lload_n 3, 1) := by decide +kernel
theorem d_Md_path_94 : decode b_Md_path 94 = .ok (.iload 5, 2) := by decide +kernel
theorem d_Md_path_96 : decode b_Md_path 96 = .ok (.invokevirtual 128, 3) := by decide +kernel
theorem d_Md_path_99 : decode b_Md_path 99 = .ok (.ireturn, 1) := by decide +kernel
theorem d_Md_corner_0 : decode b_Md_corner 0 = .ok (.aload_n 0, 1) := by decide +kernel
theorem d_Md_corner_1 : decode b_Md_corner 1 = .ok (.aload_n 0, 1) := by decide +kernel
theorem d_Md_corner_2 : decode b_Md_corner 2 = .ok (.iload_n 1, 1) := by decide +kernel
theorem d_Md_corner_3 : decode b_Md_corner 3 = .ok (.iconst 0, 1) := by decide +kernel
theorem d_Md_corner_4 : decode b_Md_corner 4 = .ok (.lload_n 2, 1) := by decide +kernel
theorem d_Md_corner_5 : decode b_Md_corner 5 = .ok (.lload 4, 2) := by decide +kernel
theorem d_Md_corner_7 : decode b_Md_corner 7 = .ok (.invokevirtual 140, 3) := by decide +kernel
theorem d_Md_corner_10 : decode b_Md_corner 10 = .ok (.putfield 108, 3) := by decide +kernel
theorem d_Md_corner_13 : decode b_Md_corner 13 = .ok (.aload_n 0, 1) := by decide +kernel
theorem d_Md_corner_14 : decode b_Md_corner 14 = .ok (.getfield 108, 3) := by decide +kernel
theorem d_Md_corner_17 : decode b_Md_corner 17 = .ok (.ifCond .le 5, 3) := by decide +kernel
theorem d_Md_corner_20 : decode b_Md_corner 20 = .ok (.iconst 0, 1) := by decide +kernel
theorem d_Md_corner_21 : decode b_Md_corner 21 = .ok (.ireturn, 1) := by decide +kernel
theorem d_Md_corner_22 : decode b_Md_corner 22 = .ok (.bipush 24, 2) := by decide +kernel
theorem d_Md_corner_24 : decode b_Md_corner 24 = .ok (.iload_n 1, 1) := by decide +kernel
theorem d_Md_corner_25 : decode b_Md_corner 25 = .ok (.imul, 1) := by decide +kernel
theorem d_Md_corner_26 : decode b_Md_corner 26 = .ok (.aload_n 0, 1) := by decide +kernel
theorem d_Md_corner_27 : decode b_Md_corner 27 = .ok (.getfield 23, 3) := by decide +kernel
theorem d_Md_corner_30 : decode b_Md_corner 30 = .ok (.iload_n 1, 1) := by decide +kernel
theorem d_Md_corner_31 : decode b_Md_corner 31 = .ok (.iaload, 1) := by decide +kernel
theorem d_Md_corner_32 : decode b_Md_corner 32 = .ok (.iadd, 1) := by decide +kernel
theorem d_Md_corner_33 : decode b_Md_corner 33 = .ok (.iconst 1, 1) := by decide +kernel
theorem d_Md_corner_34 : decode b_Md_corner 34 = .ok (.isub, 1) := by decide +kernel
theorem d_Md_corner_35 : decode b_Md_corner 35 = .ok (.istore 6, 2) := by decide +kernel
theorem d_Md_corner_37 : decode b_Md_corner 37 = .ok (.aload_n 0, 1) := by decide +kernel
theorem d_Md_corner_38 : decode b_Md_corner 38 = .ok (.getfield 23, 3) := by decide +kernel
theorem d_Md_corner_41 : decode b_Md_corner 41 = .ok (.iload_n 1, 1) := by decide +kernel
theorem d_Md_corner_42 : decode b_Md_corner 42 = .ok (.iaload, 1) := by decide +kernel
theorem d_Md_corner_43 : decode b_Md_corner 43 = .ok (.ifCond .le 30, 3) := by decide +kernel
theorem d_Md_corner_46 : decode b_Md_corner 46 = .ok (.aload_n 0, 1) := by decide +kernel
theorem d_Md_corner_47 : decode b_Md_corner 47 = .ok (.getfield 30, 3) := by decide +kernel
theorem d_Md_corner_50 : decode b_Md_corner 50 = .ok (.iload 6, 2) := by decide +kernel
theorem d_Md_corner_52 : decode b_Md_corner 52 = .ok (.laload, 1) := by decide +kernel
theorem d_Md_corner_53 : decode b_Md_corner 53 = .ok (.lload_n 2, 1) := by decide +kernel
theorem d_Md_corner_54 : decode b_Md_corner 54 = .ok (.lcmp, 1) := by decide +kernel
theorem d_Md_corner_55 : decode b_Md_corner 55 = .ok (.ifCond .ne 18, 3) := by decide +kernel
theorem d_Md_corner_58 : decode b_Md_corner 58 = .ok (.aload_n 0, 1) := by decide +kernel
theorem d_Md_corner_59 : decode b_Md_corner 59 = .ok (.getfield 33, 3) := by decide +kernel
theorem d_Md_corner_62 : decode b_Md_corner 62 = .ok (.iload 6, 2) := by decide +kernel
theorem d_Md_corner_64 : decode b_Md_corner 64 = .ok (.laload, 1) := by decide +kernel
theorem d_Md_corner_65 : decode b_Md_corner 65 = .ok (.lload 4, 2) := by decide +kernel
theorem d_Md_corner_67 : decode b_Md_corner 67 = .ok (.lcmp, 1) := by decide +kernel
theorem d_Md_corner_68 : decode b_Md_corner 68 = .ok (.ifCond .ne 5, 3) := by decide +kernel
theorem d_Md_corner_71 : decode b_Md_corner 71 = .ok (.iconst 0, 1) := by decide +kernel
theorem d_Md_corner_72 : decode b_Md_corner 72 = .ok (.ireturn, 1) := by decide +kernel
theorem d_Md_corner_73 : decode b_Md_corner 73 = .ok (.aload_n 0, 1) := by decide +kernel
theorem d_Md_corner_74 : decode b_Md_corner 74 = .ok (.iload_n 1, 1) := by decide +kernel
theorem d_Md_corner_75 : decode b_Md_corner 75 = .ok (.lload_n 2, 1) := by decide +kernel
theorem d_Md_corner_76 : decode b_Md_corner 76 = .ok (.lload 4, 2) := by decide +kernel
theorem d_Md_corner_78 : decode b_Md_corner 78 = .ok (.invokevirtual 144, 3) := by decide +kernel
theorem d_Md_corner_81 : decode b_Md_corner 81 = .ok (.iconst 1, 1) := by decide +kernel
theorem d_Md_corner_82 : decode b_Md_corner 82 = .ok (.ireturn, 1) := by decide +kernel
theorem d_Md_faultOf_0 : decode b_Md_faultOf 0 = .ok (.iload_n 1, 1) := by decide +kernel
theorem d_Md_faultOf_1 : decode b_Md_faultOf 1 = .ok (.ifCond .lt 44, 3) := by decide +kernel
theorem d_Md_faultOf_4 : decode b_Md_faultOf 4 = .ok (.iload_n 1, 1) := by decide +kernel
theorem d_Md_faultOf_5 : decode b_Md_faultOf 5 = .ok (.aload_n 0, 1) := by decide +kernel
theorem d_Md_faultOf_6 : decode b_Md_faultOf 6 = .ok (.getfield 118, 3) := by decide +kernel
theorem d_Md_faultOf_9 : decode b_Md_faultOf 9 = .ok (.if_icmp .ge 36, 3) := by decide +kernel
theorem d_Md_faultOf_12 : decode b_Md_faultOf 12 = .ok (.aload_n 0, 1) := by decide +kernel
theorem d_Md_faultOf_13 : decode b_Md_faultOf 13 = .ok (.getfield 26, 3) := by decide +kernel
theorem d_Md_faultOf_16 : decode b_Md_faultOf 16 = .ok (.iload_n 1, 1) := by decide +kernel
theorem d_Md_faultOf_17 : decode b_Md_faultOf 17 = .ok (.baload, 1) := by decide +kernel
theorem d_Md_faultOf_18 : decode b_Md_faultOf 18 = .ok (.ifCond .ne 27, 3) := by decide +kernel
theorem d_Md_faultOf_21 : decode b_Md_faultOf 21 = .ok (.aload_n 0, 1) := by decide +kernel
theorem d_Md_faultOf_22 : decode b_Md_faultOf 22 = .ok (.getfield 16, 3) := by decide +kernel
theorem d_Md_faultOf_25 : decode b_Md_faultOf 25 = .ok (.iload_n 1, 1) := by decide +kernel
theorem d_Md_faultOf_26 : decode b_Md_faultOf 26 = .ok (.laload, 1) := by decide +kernel
theorem d_Md_faultOf_27 : decode b_Md_faultOf 27 = .ok (.lconst 0, 1) := by decide +kernel
theorem d_Md_faultOf_28 : decode b_Md_faultOf 28 = .ok (.lcmp, 1) := by decide +kernel
theorem d_Md_faultOf_29 : decode b_Md_faultOf 29 = .ok (.ifCond .le 7, 3) := by decide +kernel
theorem d_Md_faultOf_32 : decode b_Md_faultOf 32 = .ok (.iconst 1, 1) := by decide +kernel
theorem d_Md_faultOf_33 : decode b_Md_faultOf 33 = .ok (.goto 4, 3) := by decide +kernel
theorem d_Md_faultOf_36 : decode b_Md_faultOf 36 = .ok (.iconst 0, 1) := by decide +kernel
theorem d_Md_faultOf_37 : decode b_Md_faultOf 37 = .ok (.iload_n 2, 1) := by decide +kernel
theorem d_Md_faultOf_38 : decode b_Md_faultOf 38 = .ok (.if_icmp .ne 7, 3) := by decide +kernel
theorem d_Md_faultOf_41 : decode b_Md_faultOf 41 = .ok (.iconst 1, 1) := by decide +kernel
theorem d_Md_faultOf_42 : decode b_Md_faultOf 42 = .ok (.goto 4, 3) := by decide +kernel
theorem d_Md_faultOf_45 : decode b_Md_faultOf 45 = .ok (.iconst 0, 1) := by decide +kernel
theorem d_Md_faultOf_46 : decode b_Md_faultOf 46 = .ok (.istore 7, 2) := by decide +kernel
theorem d_Md_faultOf_48 : decode b_Md_faultOf 48 = .ok (.iload 7, 2) := by decide +kernel
theorem d_Md_faultOf_50 : decode b_Md_faultOf 50 = .ok (.ifCond .ne 7, 3) := by decide +kernel
theorem d_Md_faultOf_53 : decode b_Md_faultOf 53 = .ok (.iconst 1, 1) := by decide +kernel
theorem d_Md_faultOf_54 : decode b_Md_faultOf 54 = .ok (.goto 38, 3) := by decide +kernel
theorem d_Md_faultOf_57 : decode b_Md_faultOf 57 = .ok (.aload_n 0, 1) := by decide +kernel
theorem d_Md_faultOf_58 : decode b_Md_faultOf 58 = .ok (.getfield 23, 3) := by decide +kernel
theorem d_Md_faultOf_61 : decode b_Md_faultOf 61 = .ok (.iload_n 1, 1) := by decide +kernel
theorem d_Md_faultOf_62 : decode b_Md_faultOf 62 = .ok (.iaload, 1) := by decide +kernel
theorem d_Md_faultOf_63 : decode b_Md_faultOf 63 = .ok (.bipush 24, 2) := by decide +kernel
theorem d_Md_faultOf_65 : decode b_Md_faultOf 65 = .ok (.if_icmp .ne 7, 3) := by decide +kernel
theorem d_Md_faultOf_68 : decode b_Md_faultOf 68 = .ok (.iconst 2, 1) := by decide +kernel
theorem d_Md_faultOf_69 : decode b_Md_faultOf 69 = .ok (.goto 23, 3) := by decide +kernel
theorem d_Md_faultOf_72 : decode b_Md_faultOf 72 = .ok (.lload_n 3, 1) := by decide +kernel
theorem d_Md_faultOf_73 : decode b_Md_faultOf 73 = .ok (.invokestatic 136, 3) := by decide +kernel
theorem d_Md_faultOf_76 : decode b_Md_faultOf 76 = .ok (.ifCond .ne 11, 3) := by decide +kernel
theorem d_Md_faultOf_79 : decode b_Md_faultOf 79 = .ok (.lload 5, 2) := by decide +kernel
theorem d_Md_faultOf_81 : decode b_Md_faultOf 81 = .ok (.invokestatic 136, 3) := by decide +kernel
theorem d_Md_faultOf_84 : decode b_Md_faultOf 84 = .ok (.ifCond .eq 7, 3) := by decide +kernel
theorem d_Md_faultOf_87 : decode b_Md_faultOf 87 = .ok (.iconst 3, 1) := by decide +kernel
theorem d_Md_faultOf_88 : decode b_Md_faultOf 88 = .ok (.goto 4, 3) := by decide +kernel
theorem d_Md_faultOf_91 : decode b_Md_faultOf 91 = .ok (.iconst 0, 1) := by decide +kernel
theorem d_Md_faultOf_92 : decode b_Md_faultOf 92 = .ok (.ireturn, 1) := by decide +kernel
theorem d_Md_isFar_0 : decode b_Md_isFar 0 = .ok (.lload_n 0, 1) := by decide +kernel
theorem d_Md_isFar_1 : decode b_Md_isFar 1 = .ok (.ldc2_w 114, 3) := by decide +kernel
theorem d_Md_isFar_4 : decode b_Md_isFar 4 = .ok (.lcmp, 1) := by decide +kernel
theorem d_Md_isFar_5 : decode b_Md_isFar 5 = .ok (.ifCond .lt 11, 3) := by decide +kernel
theorem d_Md_isFar_8 : decode b_Md_isFar 8 = .ok (.lload_n 0, 1) := by decide +kernel
theorem d_Md_isFar_9 : decode b_Md_isFar 9 = .ok (.ldc2_w 116, 3) := by decide +kernel
theorem d_Md_isFar_12 : decode b_Md_isFar 12 = .ok (.lcmp, 1) := by decide +kernel
theorem d_Md_isFar_13 : decode b_Md_isFar 13 = .ok (.ifCond .le 7, 3) := by decide +kernel
theorem d_Md_isFar_16 : decode b_Md_isFar 16 = .ok (.iconst 1, 1) := by decide +kernel
theorem d_Md_isFar_17 : decode b_Md_isFar 17 = .ok (.goto 4, 3) := by decide +kernel
theorem d_Md_isFar_20 : decode b_Md_isFar 20 = .ok (.iconst 0, 1) := by decide +kernel
theorem d_Md_isFar_21 : decode b_Md_isFar 21 = .ok (.ireturn, 1) := by decide +kernel
theorem d_Md_add_0 : decode b_Md_add 0 = .ok (.aload_n 0, 1) := by decide +kernel
theorem d_Md_add_1 : decode b_Md_add 1 = .ok (.getfield 30, 3) := by decide +kernel
theorem d_Md_add_4 : decode b_Md_add 4 = .ok (.bipush 24, 2) := by decide +kernel
theorem d_Md_add_6 : decode b_Md_add 6 = .ok (.iload_n 1, 1) := by decide +kernel
theorem d_Md_add_7 : decode b_Md_add 7 = .ok (.imul, 1) := by decide +kernel
theorem d_Md_add_8 : decode b_Md_add 8 = .ok (.aload_n 0, 1) := by decide +kernel
theorem d_Md_add_9 : decode b_Md_add 9 = .ok (.getfield 23, 3) := by decide +kernel
theorem d_Md_add_12 : decode b_Md_add 12 = .ok (.iload_n 1, 1) := by decide +kernel
theorem d_Md_add_13 : decode b_Md_add 13 = .ok (.iaload, 1) := by decide +kernel
theorem d_Md_add_14 : decode b_Md_add 14 = .ok (.iadd, 1) := by decide +kernel
theorem d_Md_add_15 : decode b_Md_add 15 = .ok (.lload_n 2, 1) := by decide +kernel
theorem d_Md_add_16 : decode b_Md_add 16 = .ok (.lastore, 1) := by decide +kernel
theorem d_Md_add_17 : decode b_Md_add 17 = .ok (.aload_n 0, 1) := by decide +kernel
theorem d_Md_add_18 : decode b_Md_add 18 = .ok (.getfield 33, 3) := by decide +kernel
theorem d_Md_add_21 : decode b_Md_add 21 = .ok (.bipush 24, 2) := by decide +kernel
theorem d_Md_add_23 : decode b_Md_add 23 = .ok (.iload_n 1, 1) := by decide +kernel
theorem d_Md_add_24 : decode b_Md_add 24 = .ok (.imul, 1) := by decide +kernel
theorem d_Md_add_25 : decode b_Md_add 25 = .ok (.aload_n 0, 1) := by decide +kernel
theorem d_Md_add_26 : decode b_Md_add 26 = .ok (.getfield 23, 3) := by decide +kernel
theorem d_Md_add_29 : decode b_Md_add 29 = .ok (.iload_n 1, 1) := by decide +kernel
theorem d_Md_add_30 : decode b_Md_add 30 = .ok (.iaload, 1) := by decide +kernel
theorem d_Md_add_31 : decode b_Md_add 31 = .ok (.iadd, 1) := by decide +kernel
theorem d_Md_add_32 : decode b_Md_add 32 = .ok (.lload 4, 2) := by decide +kernel
theorem d_Md_add_34 : decode b_Md_add 34 = .ok (.lastore, 1) := by decide +kernel
theorem d_Md_add_35 : decode b_Md_add 35 = .ok (.aload_n 0, 1) := by decide +kernel
theorem d_Md_add_36 : decode b_Md_add 36 = .ok (.getfield 23, 3) := by decide +kernel
theorem d_Md_add_39 : decode b_Md_add 39 = .ok (.iload_n 1, 1) := by decide +kernel
theorem d_Md_add_40 : decode b_Md_add 40 = .ok (.dup2, 1) := by decide +kernel
theorem d_Md_add_41 : decode b_Md_add 41 = .ok (.iaload, 1) := by decide +kernel
theorem d_Md_add_42 : decode b_Md_add 42 = .ok (.iconst 1, 1) := by decide +kernel
theorem d_Md_add_43 : decode b_Md_add 43 = .ok (.iadd, 1) := by decide +kernel
theorem d_Md_add_44 : decode b_Md_add 44 = .ok (.iastore, 1) := by decide +kernel
theorem d_Md_add_45 : decode b_Md_add 45 = .ok (.return_, 1) := by decide +kernel
theorem d_Md_point_0 : decode b_Md_point 0 = .ok (.aload_n 0, 1) := by decide +kernel
theorem d_Md_point_1 : decode b_Md_point 1 = .ok (.aload_n 0, 1) := by decide +kernel
theorem d_Md_point_2 : decode b_Md_point 2 = .ok (.iload_n 1, 1) := by decide +kernel
theorem d_Md_point_3 : decode b_Md_point 3 = .ok (.iconst 1, 1) := by decide +kernel
theorem d_Md_point_4 : decode b_Md_point 4 = .ok (.lload_n 2, 1) := by decide +kernel
theorem d_Md_point_5 : decode b_Md_point 5 = .ok (.lload 4, 2) := by decide +kernel
theorem d_Md_point_7 : decode b_Md_point 7 = .ok (.invokevirtual 140, 3) := by decide +kernel
theorem d_Md_point_10 : decode b_Md_point 10 = .ok (.putfield 108, 3) := by decide +kernel
theorem d_Md_point_13 : decode b_Md_point 13 = .ok (.aload_n 0, 1) := by decide +kernel
theorem d_Md_point_14 : decode b_Md_point 14 = .ok (.getfield 108, 3) := by decide +kernel
theorem d_Md_point_17 : decode b_Md_point 17 = .ok (.ifCond .le 5, 3) := by decide +kernel
theorem d_Md_point_20 : decode b_Md_point 20 = .ok (.iconst 0, 1) := by decide +kernel
theorem d_Md_point_21 : decode b_Md_point 21 = .ok (.ireturn, 1) := by decide +kernel
theorem d_Md_point_22 : decode b_Md_point 22 = .ok (.bipush 24, 2) := by decide +kernel
theorem d_Md_point_24 : decode b_Md_point 24 = .ok (.iload_n 1, 1) := by decide +kernel
theorem d_Md_point_25 : decode b_Md_point 25 = .ok (.imul, 1) := by decide +kernel
theorem d_Md_point_26 : decode b_Md_point 26 = .ok (.aload_n 0, 1) := by decide +kernel
theorem d_Md_point_27 : decode b_Md_point 27 = .ok (.getfield 23, 3) := by decide +kernel
theorem d_Md_point_30 : decode b_Md_point 30 = .ok (.iload_n 1, 1) := by decide +kernel
theorem d_Md_point_31 : decode b_Md_point 31 = .ok (.iaload, 1) := by decide +kernel
theorem d_Md_point_32 : decode b_Md_point 32 = .ok (.iadd, 1) := by decide +kernel
theorem d_Md_point_33 : decode b_Md_point 33 = .ok (.iconst 1, 1) := by decide +kernel
theorem d_Md_point_34 : decode b_Md_point 34 = .ok (.isub, 1) := by decide +kernel
theorem d_Md_point_35 : decode b_Md_point 35 = .ok (.istore 6, 2) := by decide +kernel
theorem d_Md_point_37 : decode b_Md_point 37 = .ok (.aload_n 0, 1) := by decide +kernel
theorem d_Md_point_38 : decode b_Md_point 38 = .ok (.getfield 23, 3) := by decide +kernel
theorem d_Md_point_41 : decode b_Md_point 41 = .ok (.iload_n 1, 1) := by decide +kernel
theorem d_Md_point_42 : decode b_Md_point 42 = .ok (.iaload, 1) := by decide +kernel
theorem d_Md_point_43 : decode b_Md_point 43 = .ok (.ifCond .le 43, 3) := by decide +kernel
theorem d_Md_point_46 : decode b_Md_point 46 = .ok (.aload_n 0, 1) := by decide +kernel
theorem d_Md_point_47 : decode b_Md_point 47 = .ok (.getfield 30, 3) := by decide +kernel
theorem d_Md_point_50 : decode b_Md_point 50 = .ok (.iload 6, 2) := by decide +kernel
theorem d_Md_point_52 : decode b_Md_point 52 = .ok (.laload, 1) := by decide +kernel
theorem d_Md_point_53 : decode b_Md_point 53 = .ok (.lload_n 2, 1) := by decide +kernel
theorem d_Md_point_54 : decode b_Md_point 54 = .ok (.lcmp, 1) := by decide +kernel
theorem d_Md_point_55 : decode b_Md_point 55 = .ok (.ifCond .ne 7, 3) := by decide +kernel
theorem d_Md_point_58 : decode b_Md_point 58 = .ok (.iconst 1, 1) := by decide +kernel
theorem d_Md_point_59 : decode b_Md_point 59 = .ok (.goto 4, 3) := by decide +kernel
theorem d_Md_point_62 : decode b_Md_point 62 = .ok (.iconst 0, 1) := by decide +kernel
theorem d_Md_point_63 : decode b_Md_point 63 = .ok (.aload_n 0, 1) := by decide +kernel
theorem d_Md_point_64 : decode b_Md_point 64 = .ok (.getfield 33, 3) := by decide +kernel
theorem d_Md_point_67 : decode b_Md_point 67 = .ok (.iload 6, 2) := by decide +kernel
theorem d_Md_point_69 : decode b_Md_point 69 = .ok (.laload, 1) := by decide +kernel
theorem d_Md_point_70 : decode b_Md_point 70 = .ok (.lload 4, 2) := by decide +kernel
theorem d_Md_point_72 : decode b_Md_point 72 = .ok (.lcmp, 1) := by decide +kernel
theorem d_Md_point_73 : decode b_Md_point 73 = .ok (.ifCond .ne 7, 3) := by decide +kernel
theorem d_Md_point_76 : decode b_Md_point 76 = .ok (.iconst 1, 1) := by decide +kernel
theorem d_Md_point_77 : decode b_Md_point 77 = .ok (.goto 4, 3) := by decide +kernel
theorem d_Md_point_80 : decode b_Md_point 80 = .ok (.iconst 0, 1) := by decide +kernel
theorem d_Md_point_81 : decode b_Md_point 81 = .ok (.if_icmp .ne 5, 3) := by decide +kernel
theorem d_Md_point_84 : decode b_Md_point 84 = .ok (.iconst 0, 1) := by decide +kernel
theorem d_Md_point_85 : decode b_Md_point 85 = .ok (.ireturn, 1) := by decide +kernel
theorem d_Md_point_86 : decode b_Md_point 86 = .ok (.aload_n 0, 1) := by decide +kernel
theorem d_Md_point_87 : decode b_Md_point 87 = .ok (.iload_n 1, 1) := by decide +kernel
theorem d_Md_point_88 : decode b_Md_point 88 = .ok (.lload_n 2, 1) := by decide +kernel
theorem d_Md_point_89 : decode b_Md_point 89 = .ok (.lload 4, 2) := by decide +kernel
theorem d_Md_point_91 : decode b_Md_point 91 = .ok (.invokevirtual 144, 3) := by decide +kernel
theorem d_Md_point_94 : decode b_Md_point 94 = .ok (.iconst 1, 1) := by decide +kernel
theorem d_Md_point_95 : decode b_Md_point 95 = .ok (.ireturn, 1) := by decide +kernel
theorem d_Md_drop_0 : decode b_Md_drop 0 = .ok (.aload_n 0, 1) := by decide +kernel
theorem d_Md_drop_1 : decode b_Md_drop 1 = .ok (.iload_n 1, 1) := by decide +kernel
theorem d_Md_drop_2 : decode b_Md_drop 2 = .ok (.ifCond .lt 11, 3) := by decide +kernel
theorem d_Md_drop_5 : decode b_Md_drop 5 = .ok (.iload_n 1, 1) := by decide +kernel
theorem d_Md_drop_6 : decode b_Md_drop 6 = .ok (.aload_n 0, 1) := by decide +kernel
theorem d_Md_drop_7 : decode b_Md_drop 7 = .ok (.getfield 118, 3) := by decide +kernel
theorem d_Md_drop_10 : decode b_Md_drop 10 = .ok (.if_icmp .lt 7, 3) := by decide +kernel
theorem d_Md_drop_13 : decode b_Md_drop 13 = .ok (.iconst 1, 1) := by decide +kernel
theorem d_Md_drop_14 : decode b_Md_drop 14 = .ok (.goto 4, 3) := by decide +kernel
theorem d_Md_drop_17 : decode b_Md_drop 17 = .ok (.iconst 0, 1) := by decide +kernel
theorem d_Md_drop_18 : decode b_Md_drop 18 = .ok (.putfield 108, 3) := by decide +kernel
theorem d_Md_drop_21 : decode b_Md_drop 21 = .ok (.aload_n 0, 1) := by decide +kernel
theorem d_Md_drop_22 : decode b_Md_drop 22 = .ok (.getfield 108, 3) := by decide +kernel
theorem d_Md_drop_25 : decode b_Md_drop 25 = .ok (.ifCond .gt 12, 3) := by decide +kernel
theorem d_Md_drop_28 : decode b_Md_drop 28 = .ok (.aload_n 0, 1) := by decide +kernel
theorem d_Md_drop_29 : decode b_Md_drop 29 = .ok (.getfield 26, 3) := by decide +kernel
theorem d_Md_drop_32 : decode b_Md_drop 32 = .ok (.iload_n 1, 1) := by decide +kernel
theorem d_Md_drop_33 : decode b_Md_drop 33 = .ok (.baload, 1) := by decide +kernel
theorem d_Md_drop_34 : decode b_Md_drop 34 = .ok (.ifCond .eq 5, 3) := by decide +kernel
theorem d_Md_drop_37 : decode b_Md_drop 37 = .ok (.iconst 0, 1) := by decide +kernel
theorem d_Md_drop_38 : decode b_Md_drop 38 = .ok (.ireturn, 1) := by decide +kernel
theorem d_Md_drop_39 : decode b_Md_drop 39 = .ok (.aload_n 0, 1) := by decide +kernel
theorem d_Md_drop_40 : decode b_Md_drop 40 = .ok (.getfield 26, 3) := by decide +kernel
theorem d_Md_drop_43 : decode b_Md_drop 43 = .ok (.iload_n 1, 1) := by decide +kernel
theorem d_Md_drop_44 : decode b_Md_drop 44 = .ok (.iconst 1, 1) := by decide +kernel
theorem d_Md_drop_45 : decode b_Md_drop 45 = .ok (.bastore, 1) := by decide +kernel
theorem d_Md_drop_46 : decode b_Md_drop 46 = .ok (.iconst 1, 1) := by decide +kernel
theorem d_Md_drop_47 : decode b_Md_drop 47 = .ok (.ireturn, 1) := by decide +kernel
theorem d_Md_place_0 : decode b_Md_place 0 = .ok (.aload_n 0, 1) := by decide +kernel
theorem d_Md_place_1 : decode b_Md_place 1 = .ok (.aload_n 0, 1) := by decide +kernel
theorem d_Md_place_2 : decode b_Md_place 2 = .ok (.iload_n 1, 1) := by decide +kernel
theorem d_Md_place_3 : decode b_Md_place 3 = .ok (.invokevirtual 121, 3) := by decide +kernel
theorem d_Md_place_6 : decode b_Md_place 6 = .ok (.ifCond .eq 11, 3) := by decide +kernel
theorem d_Md_place_9 : decode b_Md_place 9 = .ok (.aload_n 0, 1) := by decide +kernel
theorem d_Md_place_10 : decode b_Md_place 10 = .ok (.iload_n 2, 1) := by decide +kernel
theorem d_Md_place_11 : decode b_Md_place 11 = .ok (.invokevirtual 121, 3) := by decide +kernel
theorem d_Md_place_14 : decode b_Md_place 14 = .ok (.ifCond .ne 7, 3) := by decide +kernel
theorem d_Md_place_17 : decode b_Md_place 17 = .ok (.iconst 1, 1) := by decide +kernel
theorem d_Md_place_18 : decode b_Md_place 18 = .ok (.goto 48, 3) := by decide +kernel
theorem d_Md_place_21 : decode b_Md_place 21 = .ok (.aload_n 0, 1) := by decide +kernel
theorem d_Md_place_22 : decode b_Md_place 22 = .ok (.getfield 148, 3) := by decide +kernel
theorem d_Md_place_25 : decode b_Md_place 25 = .ok (.bipush 80, 2) := by decide +kernel
theorem d_Md_place_27 : decode b_Md_place 27 = .ok (.if_icmp .ne 7, 3) := by decide +kernel
theorem d_Md_place_30 : decode b_Md_place 30 = .ok (.iconst 2, 1) := by decide +kernel
theorem d_Md_place_31 : decode b_Md_place 31 = .ok (.goto 35, 3) := by decide +kernel
theorem d_Md_place_34 : decode b_Md_place 34 = .ok (.lload_n 3, 1) := by decide +kernel
theorem d_Md_place_35 : decode b_Md_place 35 = .ok (.invokestatic 136, 3) := by decide +kernel
theorem d_Md_place_38 : decode b_Md_place 38 = .ok (.ifCond .ne 23, 3) := by decide +kernel
theorem d_Md_place_41 : decode b_Md_place 41 = .ok (.lload 5, 2) := by decide +kernel
theorem d_Md_place_43 : decode b_Md_place 43 = .ok (.invokestatic 136, 3) := by decide +kernel
theorem d_Md_place_46 : decode b_Md_place 46 = .ok (.ifCond .ne 15, 3) := by decide +kernel
theorem d_Md_place_49 : decode b_Md_place 49 = .ok (.iload 7, 2) := by decide +kernel
theorem d_Md_place_51 : decode b_Md_place 51 = .ok (.ifCond .lt 10, 3) := by decide +kernel
theorem d_Md_place_54 : decode b_Md_place 54 = .ok (.iload 7, 2) := by decide +kernel
theorem d_Md_place_56 : decode b_Md_place 56 = .ok (.bipush 7, 2) := by decide +kernel
theorem d_Md_place_58 : decode b_Md_place 58 = .ok (.if_icmp .le 7, 3) := by decide +kernel
theorem d_Md_place_61 : decode b_Md_place 61 = .ok (.iconst 3, 1) := by decide +kernel
theorem d_Md_place_62 : decode b_Md_place 62 = .ok (.goto 4, 3) := by decide +kernel
theorem d_Md_place_65 : decode b_Md_place 65 = .ok (.iconst 0, 1) := by decide +kernel
theorem d_Md_place_66 : decode b_Md_place 66 = .ok (.putfield 108, 3) := by decide +kernel
theorem d_Md_place_69 : decode b_Md_place 69 = .ok (.aload_n 0, 1) := by decide +kernel
theorem d_Md_place_70 : decode b_Md_place 70 = .ok (.getfield 108, 3) := by decide +kernel
theorem d_Md_place_73 : decode b_Md_place 73 = .ok (.ifCond .le 5, 3) := by decide +kernel
theorem d_Md_place_76 : decode b_Md_place 76 = .ok (.iconst 0, 1) := by decide +kernel
theorem d_Md_place_77 : decode b_Md_place 77 = .ok (.ireturn, 1) := by decide +kernel
theorem d_Md_place_78 : decode b_Md_place 78 = .ok (.aload_n 0, 1) := by decide +kernel
theorem d_Md_place_79 : decode b_Md_place 79 = .ok (.iload_n 2, 1) := by decide +kernel
theorem d_Md_place_80 : decode b_Md_place 80 = .ok (.iload_n 1, 1) := by decide +kernel
theorem d_Md_place_81 : decode b_Md_place 81 = .ok (.invokevirtual 151, 3) := by decide +kernel
theorem d_Md_place_84 : decode b_Md_place 84 = .ok (.ifCond .eq 5, 3) := by decide +kernel
theorem d_Md_place_87 : decode b_Md_place 87 = .ok (.iconst (-1), 1) := by decide +kernel
theorem d_Md_place_88 : decode b_Md_place 88 = .ok (.ireturn, 1) := by decide +kernel
theorem d_Md_place_89 : decode b_Md_place 89 = .ok (.aload_n 0, 1) := by decide +kernel
theorem d_Md_place_90 : decode b_Md_place 90 = .ok (.getfield 36, 3) := by decide +kernel
theorem d_Md_place_93 : decode b_Md_place 93 = .ok (.aload_n 0, 1) := by decide +kernel
theorem d_Md_place_94 : decode b_Md_place 94 = .ok (.getfield 148, 3) := by decide +kernel
theorem d_Md_place_97 : decode b_Md_place 97 = .ok (.iload_n 1, 1) := by decide +kernel
theorem d_Md_place_98 : decode b_Md_place 98 = .ok (.iastore, 1) := by decide +kernel
theorem d_Md_place_99 : decode b_Md_place 99 = .ok (.aload_n 0, 1) := by decide +kernel
theorem d_Md_place_100 : decode b_Md_place 100 = .ok (.getfield 39, 3) := by decide +kernel
theorem d_Md_place_103 : decode b_Md_place 103 = .ok (.aload_n 0, 1) := by decide +kernel
theorem d_Md_place_104 : decode b_Md_place 104 = .ok (.getfield 148, 3) := by decide +kernel
theorem d_Md_place_107 : decode b_Md_place 107 = .ok (.iload_n 2, 1) := by decide +kernel
theorem d_Md_place_108 : decode b_Md_place 108 = .ok (.iastore, 1) := by decide +kernel
theorem d_Md_place_109 : decode b_Md_place 109 = .ok (.aload_n 0, 1) := by decide +kernel
theorem d_Md_place_110 : decode b_Md_place 110 = .ok (.getfield 42, 3) := by decide +kernel
theorem d_Md_place_113 : decode b_Md_place 113 = .ok (.aload_n 0, 1) := by decide +kernel
theorem d_Md_place_114 : decode b_Md_place 114 = .ok (.getfield 148, 3) := by decide +kernel
theorem d_Md_place_117 : decode b_Md_place 117 = .ok (.lload_n 3, 1) := by decide +kernel
theorem d_Md_place_118 : decode b_Md_place 118 = .ok (.lastore, 1) := by decide +kernel
theorem d_Md_place_119 : decode b_Md_place 119 = .ok (.aload_n 0, 1) := by decide +kernel
theorem d_Md_place_120 : decode b_Md_place 120 = .ok (.getfield 45, 3) := by decide +kernel
theorem d_Md_place_123 : decode b_Md_place 123 = .ok (.aload_n 0, 1) := by decide +kernel
theorem d_Md_place_124 : decode b_Md_place 124 = .ok (.getfield 148, 3) := by decide +kernel
theorem d_Md_place_127 : decode b_Md_place 127 = .ok (.lload 5, 2) := by decide +kernel
theorem d_Md_place_129 : decode b_Md_place 129 = .ok (.lastore, 1) := by decide +kernel
theorem d_Md_place_130 : decode b_Md_place 130 = .ok (.aload_n 0, 1) := by decide +kernel
theorem d_Md_place_131 : decode b_Md_place 131 = .ok (.getfield 48, 3) := by decide +kernel
theorem d_Md_place_134 : decode b_Md_place 134 = .ok (.aload_n 0, 1) := by decide +kernel
theorem d_Md_place_135 : decode b_Md_place 135 = .ok (.getfield 148, 3) := by decide +kernel
theorem d_Md_place_138 : decode b_Md_place 138 = .ok (.iload 7, 2) := by decide +kernel
theorem d_Md_place_140 : decode b_Md_place 140 = .ok (.iastore, 1) := by decide +kernel
theorem d_Md_place_141 : decode b_Md_place 141 = .ok (.aload_n 0, 1) := by decide +kernel
theorem d_Md_place_142 : decode b_Md_place 142 = .ok (.getfield 51, 3) := by decide +kernel
theorem d_Md_place_145 : decode b_Md_place 145 = .ok (.aload_n 0, 1) := by decide +kernel
theorem d_Md_place_146 : decode b_Md_place 146 = .ok (.getfield 148, 3) := by decide +kernel
theorem d_Md_place_149 : decode b_Md_place 149 = .ok (.iconst 1, 1) := by decide +kernel
theorem d_Md_place_150 : decode b_Md_place 150 = .ok (.iastore, 1) := by decide +kernel
theorem d_Md_place_151 : decode b_Md_place 151 = .ok (.aload_n 0, 1) := by decide +kernel
theorem d_Md_place_152 : decode b_Md_place 152 = .ok (.getfield 54, 3) := by decide +kernel
theorem d_Md_place_155 : decode b_Md_place 155 = .ok (.aload_n 0, 1) := by decide +kernel
theorem d_Md_place_156 : decode b_Md_place 156 = .ok (.getfield 148, 3) := by decide +kernel
theorem d_Md_place_159 : decode b_Md_place 159 = .ok (.iconst 1, 1) := by decide +kernel
theorem d_Md_place_160 : decode b_Md_place 160 = .ok (.iastore, 1) := by decide +kernel
theorem d_Md_place_161 : decode b_Md_place 161 = .ok (.aload_n 0, 1) := by decide +kernel
theorem d_Md_place_162 : decode b_Md_place 162 = .ok (.getfield 57, 3) := by decide +kernel
theorem d_Md_place_165 : decode b_Md_place 165 = .ok (.aload_n 0, 1) := by decide +kernel
theorem d_Md_place_166 : decode b_Md_place 166 = .ok (.getfield 148, 3) := by decide +kernel
theorem d_Md_place_169 : decode b_Md_place 169 = .ok (.lconst 0, 1) := by decide +kernel
theorem d_Md_place_170 : decode b_Md_place 170 = .ok (.lastore, 1) := by decide +kernel
theorem d_Md_place_171 : decode b_Md_place 171 = .ok (.aload_n 0, 1) := by decide +kernel
theorem d_Md_place_172 : decode b_Md_place 172 = .ok (.getfield 60, 3) := by decide +kernel
theorem d_Md_place_175 : decode b_Md_place 175 = .ok (.aload_n 0, 1) := by decide +kernel
theorem d_Md_place_176 : decode b_Md_place 176 = .ok (.getfield 148, 3) := by decide +kernel
theorem d_Md_place_179 : decode b_Md_place 179 = .ok (.lconst 0, 1) := by decide +kernel
theorem d_Md_place_180 : decode b_Md_place 180 = .ok (.lastore, 1) := by decide +kernel
theorem d_Md_place_181 : decode b_Md_place 181 = .ok (.aload_n 0, 1) := by decide +kernel
theorem d_Md_place_182 : decode b_Md_place 182 = .ok (.dup, 1) := by decide +kernel
theorem d_Md_place_183 : decode b_Md_place 183 = .ok (.getfield 148, 3) := by decide +kernel
theorem d_Md_place_186 : decode b_Md_place 186 = .ok (.iconst 1, 1) := by decide +kernel
theorem d_Md_place_187 : decode b_Md_place 187 = .ok (.iadd, 1) := by decide +kernel
theorem d_Md_place_188 : decode b_Md_place 188 = .ok (.putfield 148, 3) := by decide +kernel
theorem d_Md_place_191 : decode b_Md_place 191 = .ok (.aload_n 0, 1) := by decide +kernel
theorem d_Md_place_192 : decode b_Md_place 192 = .ok (.getfield 148, 3) := by decide +kernel
theorem d_Md_place_195 : decode b_Md_place 195 = .ok (.iconst 1, 1) := by decide +kernel
theorem d_Md_place_196 : decode b_Md_place 196 = .ok (.isub, 1) := by decide +kernel
theorem d_Md_place_197 : decode b_Md_place 197 = .ok (.ireturn, 1) := by decide +kernel
theorem d_Md_has_0 : decode b_Md_has 0 = .ok (.iconst 0, 1) := by decide +kernel
theorem d_Md_has_1 : decode b_Md_has 1 = .ok (.istore_n 3, 1) := by decide +kernel
theorem d_Md_has_2 : decode b_Md_has 2 = .ok (.iload_n 3, 1) := by decide +kernel
theorem d_Md_has_3 : decode b_Md_has 3 = .ok (.bipush 20, 2) := by decide +kernel
theorem d_Md_has_5 : decode b_Md_has 5 = .ok (.if_icmp .ge 25, 3) := by decide +kernel
theorem d_Md_has_8 : decode b_Md_has 8 = .ok (.aload_n 0, 1) := by decide +kernel
theorem d_Md_has_9 : decode b_Md_has 9 = .ok (.getfield 76, 3) := by decide +kernel
theorem d_Md_has_12 : decode b_Md_has 12 = .ok (.iload_n 3, 1) := by decide +kernel
theorem d_Md_has_13 : decode b_Md_has 13 = .ok (.iload_n 3, 1) := by decide +kernel
theorem d_Md_has_14 : decode b_Md_has 14 = .ok (.iload_n 1, 1) := by decide +kernel
theorem d_Md_has_15 : decode b_Md_has 15 = .ok (.if_icmp .ne 7, 3) := by decide +kernel
theorem d_Md_has_18 : decode b_Md_has 18 = .ok (.iconst 1, 1) := by decide +kernel
theorem d_Md_has_19 : decode b_Md_has 19 = .ok (.goto 4, 3) := by decide +kernel
theorem d_Md_has_22 : decode b_Md_has 22 = .ok (.iconst 0, 1) := by decide +kernel
theorem d_Md_has_23 : decode b_Md_has 23 = .ok (.bastore, 1) := by decide +kernel
theorem d_Md_has_24 : decode b_Md_has 24 = .ok (.iinc 3 1, 3) := by decide +kernel
theorem d_Md_has_27 : decode b_Md_has 27 = .ok (.goto (-25), 3) := by decide +kernel
theorem d_Md_has_30 : decode b_Md_has 30 = .ok (.iconst 1, 1) := by decide +kernel
theorem d_Md_has_31 : decode b_Md_has 31 = .ok (.istore_n 3, 1) := by decide +kernel
theorem d_Md_has_32 : decode b_Md_has 32 = .ok (.iload_n 3, 1) := by decide +kernel
theorem d_Md_has_33 : decode b_Md_has 33 = .ok (.ifCond .eq 71, 3) := by decide +kernel
theorem d_Md_has_36 : decode b_Md_has 36 = .ok (.iconst 0, 1) := by decide +kernel
theorem d_Md_has_37 : decode b_Md_has 37 = .ok (.istore_n 3, 1) := by decide +kernel
theorem d_Md_has_38 : decode b_Md_has 38 = .ok (.iconst 0, 1) := by decide +kernel
theorem d_Md_has_39 : decode b_Md_has 39 = .ok (.istore 4, 2) := by decide +kernel
theorem d_Md_has_41 : decode b_Md_has 41 = .ok (.iload 4, 2) := by decide +kernel
theorem d_Md_has_43 : decode b_Md_has 43 = .ok (.aload_n 0, 1) := by decide +kernel
theorem d_Md_has_44 : decode b_Md_has 44 = .ok (.getfield 148, 3) := by decide +kernel
theorem d_Md_has_47 : decode b_Md_has 47 = .ok (.if_icmp .ge 54, 3) := by decide +kernel
theorem d_Md_has_50 : decode b_Md_has 50 = .ok (.aload_n 0, 1) := by decide +kernel
theorem d_Md_has_51 : decode b_Md_has 51 = .ok (.getfield 76, 3) := by decide +kernel
theorem d_Md_has_54 : decode b_Md_has 54 = .ok (.aload_n 0, 1) := by decide +kernel
theorem d_Md_has_55 : decode b_Md_has 55 = .ok (.getfield 36, 3) := by decide +kernel
theorem d_Md_has_58 : decode b_Md_has 58 = .ok (.iload 4, 2) := by decide +kernel
theorem d_Md_has_60 : decode b_Md_has 60 = .ok (.iaload, 1) := by decide +kernel
theorem d_Md_has_61 : decode b_Md_has 61 = .ok (.baload, 1) := by decide +kernel
theorem d_Md_has_62 : decode b_Md_has 62 = .ok (.ifCond .eq 33, 3) := by decide +kernel
theorem d_Md_has_65 : decode b_Md_has 65 = .ok (.aload_n 0, 1) := by decide +kernel
theorem d_Md_has_66 : decode b_Md_has 66 = .ok (.getfield 76, 3) := by decide +kernel
theorem d_Md_has_69 : decode b_Md_has 69 = .ok (.aload_n 0, 1) := by decide +kernel
theorem d_Md_has_70 : decode b_Md_has 70 = .ok (.getfield 39, 3) := by decide +kernel
theorem d_Md_has_73 : decode b_Md_has 73 = .ok (.iload 4, 2) := by decide +kernel
theorem d_Md_has_75 : decode b_Md_has 75 = .ok (.iaload, 1) := by decide +kernel
theorem d_Md_has_76 : decode b_Md_has 76 = .ok (.baload, 1) := by decide +kernel
theorem d_Md_has_77 : decode b_Md_has 77 = .ok (.ifCond .ne 18, 3) := by decide +kernel
theorem d_Md_has_80 : decode b_Md_has 80 = .ok (.aload_n 0, 1) := by decide +kernel
theorem d_Md_has_81 : decode b_Md_has 81 = .ok (.getfield 76, 3) := by decide +kernel
theorem d_Md_has_84 : decode b_Md_has 84 = .ok (.aload_n 0, 1) := by decide +kernel
theorem d_Md_has_85 : decode b_Md_has 85 = .ok (.getfield 39, 3) := by decide +kernel
theorem d_Md_has_88 : decode b_Md_has 88 = .ok (.iload 4, 2) := by decide +kernel
theorem d_Md_has_90 : decode b_Md_has 90 = .ok (.iaload, 1) := by decide +kernel
theorem d_Md_has_91 : decode b_Md_has 91 = .ok (.iconst 1, 1) := by decide +kernel
theorem d_Md_has_92 : decode b_Md_has 92 = .ok (.bastore, 1) := by decide +kernel
theorem d_Md_has_93 : decode b_Md_has 93 = .ok (.iconst 1, 1) := by decide +kernel
theorem d_Md_has_94 : decode b_Md_has 94 = .ok (.istore_n 3, 1) := by decide +kernel
theorem d_Md_has_95 : decode b_Md_has 95 = .ok (.iinc 4 1, 3) := by decide +kernel
theorem d_Md_has_98 : decode b_Md_has 98 = .ok (.goto (-57), 3) := by decide +kernel
theorem d_Md_has_101 : decode b_Md_has 101 = .ok (.goto (-69), 3) := by decide +kernel
theorem d_Md_has_104 : decode b_Md_has 104 = .ok (.aload_n 0, 1) := by decide +kernel
theorem d_Md_has_105 : decode b_Md_has 105 = .ok (.getfield 76, 3) := by decide +kernel
theorem d_Md_has_108 : decode b_Md_has 108 = .ok (.iload_n 2, 1) := by decide +kernel
theorem d_Md_has_109 : decode b_Md_has 109 = .ok (.baload, 1) := by decide +kernel
theorem d_Md_has_110 : decode b_Md_has 110 = .ok (.ireturn, 1) := by decide +kernel
theorem d_Md_array_0 : decode b_Md_array 0 = .ok (.aload_n 0, 1) := by decide +kernel
theorem d_Md_array_1 : decode b_Md_array 1 = .ok (.iload_n 1, 1) := by decide +kernel
theorem d_Md_array_2 : decode b_Md_array 2 = .ok (.ifCond .lt 11, 3) := by decide +kernel
theorem d_Md_array_5 : decode b_Md_array 5 = .ok (.iload_n 1, 1) := by decide +kernel
theorem d_Md_array_6 : decode b_Md_array 6 = .ok (.aload_n 0, 1) := by decide +kernel
theorem d_Md_array_7 : decode b_Md_array 7 = .ok (.getfield 148, 3) := by decide +kernel
theorem d_Md_array_10 : decode b_Md_array 10 = .ok (.if_icmp .lt 7, 3) := by decide +kernel
theorem d_Md_array_13 : decode b_Md_array 13 = .ok (.iconst 1, 1) := by decide +kernel
theorem d_Md_array_14 : decode b_Md_array 14 = .ok (.goto 46, 3) := by decide +kernel
theorem d_Md_array_17 : decode b_Md_array 17 = .ok (.iload_n 2, 1) := by decide +kernel
theorem d_Md_array_18 : decode b_Md_array 18 = .ok (.iconst 1, 1) := by decide +kernel
theorem d_Md_array_19 : decode b_Md_array 19 = .ok (.if_icmp .lt 36, 3) := by decide +kernel
theorem d_Md_array_22 : decode b_Md_array 22 = .ok (.iload_n 2, 1) := by decide +kernel
theorem d_Md_array_23 : decode b_Md_array 23 = .ok (.bipush 20, 2) := by decide +kernel
theorem d_Md_array_25 : decode b_Md_array 25 = .ok (.if_icmp .gt 30, 3) := by decide +kernel
theorem d_Md_array_28 : decode b_Md_array 28 = .ok (.iload_n 3, 1) := by decide +kernel
theorem d_Md_array_29 : decode b_Md_array 29 = .ok (.iconst 1, 1) := by decide +kernel
theorem d_Md_array_30 : decode b_Md_array 30 = .ok (.if_icmp .lt 25, 3) := by decide +kernel
theorem d_Md_array_33 : decode b_Md_array 33 = .ok (.iload_n 3, 1) := by decide +kernel
theorem d_Md_array_34 : decode b_Md_array 34 = .ok (.bipush 20, 2) := by decide +kernel
theorem d_Md_array_36 : decode b_Md_array 36 = .ok (.if_icmp .gt 19, 3) := by decide +kernel
theorem d_Md_array_39 : decode b_Md_array 39 = .ok (.lload 4, 2) := by decide +kernel
theorem d_Md_array_41 : decode b_Md_array 41 = .ok (.invokestatic 136, 3) := by decide +kernel
theorem d_Md_array_44 : decode b_Md_array 44 = .ok (.ifCond .ne 11, 3) := by decide +kernel
theorem d_Md_array_47 : decode b_Md_array 47 = .ok (.lload 6, 2) := by decide +kernel
theorem d_Md_array_49 : decode b_Md_array 49 = .ok (.invokestatic 136, 3) := by decide +kernel
theorem d_Md_array_52 : decode b_Md_array 52 = .ok (.ifCond .eq 7, 3) := by decide +kernel
theorem d_Md_array_55 : decode b_Md_array 55 = .ok (.iconst 2, 1) := by decide +kernel
theorem d_Md_array_56 : decode b_Md_array 56 = .ok (.goto 4, 3) := by decide +kernel
theorem d_Md_array_59 : decode b_Md_array 59 = .ok (.iconst 0, 1) := by decide +kernel
theorem d_Md_array_60 : decode b_Md_array 60 = .ok (.putfield 108, 3) := by decide +kernel
theorem d_Md_array_63 : decode b_Md_array 63 = .ok (.aload_n 0, 1) := by decide +kernel
theorem d_Md_array_64 : decode b_Md_array 64 = .ok (.getfield 108, 3) := by decide +kernel
theorem d_Md_array_67 : decode b_Md_array 67 = .ok (.ifCond .le 5, 3) := by decide +kernel
theorem d_Md_array_70 : decode b_Md_array 70 = .ok (.iconst 0, 1) := by decide +kernel
theorem d_Md_array_71 : decode b_Md_array 71 = .ok (.ireturn, 1) := by decide +kernel
theorem d_Md_array_72 : decode b_Md_array 72 = .ok (.aload_n 0, 1) := by decide +kernel
theorem d_Md_array_73 : decode b_Md_array 73 = .ok (.getfield 51, 3) := by decide +kernel
theorem d_Md_array_76 : decode b_Md_array 76 = .ok (.iload_n 1, 1) := by decide +kernel
theorem d_Md_array_77 : decode b_Md_array 77 = .ok (.iload_n 2, 1) := by decide +kernel
theorem d_Md_array_78 : decode b_Md_array 78 = .ok (.iastore, 1) := by decide +kernel
theorem d_Md_array_79 : decode b_Md_array 79 = .ok (.aload_n 0, 1) := by decide +kernel
theorem d_Md_array_80 : decode b_Md_array 80 = .ok (.getfield 54, 3) := by decide +kernel
theorem d_Md_array_83 : decode b_Md_array 83 = .ok (.iload_n 1, 1) := by decide +kernel
theorem d_Md_array_84 : decode b_Md_array 84 = .ok (.iload_n 3, 1) := by decide +kernel
theorem d_Md_array_85 : decode b_Md_array 85 = .ok (.iastore, 1) := by decide +kernel
theorem d_Md_array_86 : decode b_Md_array 86 = .ok (.aload_n 0, 1) := by decide +kernel
theorem d_Md_array_87 : decode b_Md_array 87 = .ok (.getfield 57, 3) := by decide +kernel
theorem d_Md_array_90 : decode b_Md_array 90 = .ok (.iload_n 1, 1) := by decide +kernel
theorem d_Md_array_91 : decode b_Md_array 91 = .ok (.lload 4, 2) := by decide +kernel
theorem d_Md_array_93 : decode b_Md_array 93 = .ok (.lastore, 1) := by decide +kernel
theorem d_Md_array_94 : decode b_Md_array 94 = .ok (.aload_n 0, 1) := by decide +kernel
theorem d_Md_array_95 : decode b_Md_array 95 = .ok (.getfield 60, 3) := by decide +kernel
theorem d_Md_array_98 : decode b_Md_array 98 = .ok (.iload_n 1, 1) := by decide +kernel
theorem d_Md_array_99 : decode b_Md_array 99 = .ok (.lload 6, 2) := by decide +kernel
theorem d_Md_array_101 : decode b_Md_array 101 = .ok (.lastore, 1) := by decide +kernel
theorem d_Md_array_102 : decode b_Md_array 102 = .ok (.iload_n 2, 1) := by decide +kernel
theorem d_Md_array_103 : decode b_Md_array 103 = .ok (.iload_n 3, 1) := by decide +kernel
theorem d_Md_array_104 : decode b_Md_array 104 = .ok (.imul, 1) := by decide +kernel
theorem d_Md_array_105 : decode b_Md_array 105 = .ok (.ireturn, 1) := by decide +kernel
theorem d_Md_flat_0 : decode b_Md_flat 0 = .ok (.aload_n 0, 1) := by decide +kernel
theorem d_Md_flat_1 : decode b_Md_flat 1 = .ok (.invokevirtual 180, 3) := by decide +kernel
theorem d_Md_flat_4 : decode b_Md_flat 4 = .ok (.aload_n 0, 1) := by decide +kernel
theorem d_Md_flat_5 : decode b_Md_flat 5 = .ok (.aload_n 0, 1) := by decide +kernel
theorem d_Md_flat_6 : decode b_Md_flat 6 = .ok (.iload_n 1, 1) := by decide +kernel
theorem d_Md_flat_7 : decode b_Md_flat 7 = .ok (.invokevirtual 121, 3) := by decide +kernel
theorem d_Md_flat_10 : decode b_Md_flat 10 = .ok (.ifCond .eq 11, 3) := by decide +kernel
theorem d_Md_flat_13 : decode b_Md_flat 13 = .ok (.aload_n 0, 1) := by decide +kernel
theorem d_Md_flat_14 : decode b_Md_flat 14 = .ok (.iload_n 2, 1) := by decide +kernel
theorem d_Md_flat_15 : decode b_Md_flat 15 = .ok (.invokevirtual 125, 3) := by decide +kernel
theorem d_Md_flat_18 : decode b_Md_flat 18 = .ok (.ifCond .ne 7, 3) := by decide +kernel
theorem d_Md_flat_21 : decode b_Md_flat 21 = .ok (.iconst 1, 1) := by decide +kernel
theorem d_Md_flat_22 : decode b_Md_flat 22 = .ok (.goto 21, 3) := by decide +kernel
theorem d_Md_flat_25 : decode b_Md_flat 25 = .ok (.aload_n 0, 1) := by decide +kernel
theorem d_Md_flat_26 : decode b_Md_flat 26 = .ok (.getfield 79, 3) := by decide +kernel
theorem d_Md_flat_29 : decode b_Md_flat 29 = .ok (.iload_n 1, 1) := by decide +kernel
theorem d_Md_flat_30 : decode b_Md_flat 30 = .ok (.laload, 1) := by decide +kernel
theorem d_Md_flat_31 : decode b_Md_flat 31 = .ok (.ldc2_w 183, 3) := by decide +kernel
theorem d_Md_flat_34 : decode b_Md_flat 34 = .ok (.lcmp, 1) := by decide +kernel
theorem d_Md_flat_35 : decode b_Md_flat 35 = .ok (.ifCond .le 7, 3) := by decide +kernel
theorem d_Md_flat_38 : decode b_Md_flat 38 = .ok (.iconst 2, 1) := by decide +kernel
theorem d_Md_flat_39 : decode b_Md_flat 39 = .ok (.goto 4, 3) := by decide +kernel
theorem d_Md_flat_42 : decode b_Md_flat 42 = .ok (.iconst 0, 1) := by decide +kernel
theorem d_Md_flat_43 : decode b_Md_flat 43 = .ok (.putfield 108, 3) := by decide +kernel
theorem d_Md_flat_46 : decode b_Md_flat 46 = .ok (.aload_n 0, 1) := by decide +kernel
theorem d_Md_flat_47 : decode b_Md_flat 47 = .ok (.getfield 108, 3) := by decide +kernel
theorem d_Md_flat_50 : decode b_Md_flat 50 = .ok (.ifCond .le 5, 3) := by decide +kernel
theorem d_Md_flat_53 : decode b_Md_flat 53 = .ok (.iconst 0, 1) := by decide +kernel
theorem d_Md_flat_54 : decode b_Md_flat 54 = .ok (.ireturn, 1) := by decide +kernel
theorem d_Md_flat_55 : decode b_Md_flat 55 = .ok (.aload_n 0, 1) := by decide +kernel
theorem d_Md_flat_56 : decode b_Md_flat 56 = .ok (.aload_n 0, 1) := by decide +kernel
theorem d_Md_flat_57 : decode b_Md_flat 57 = .ok (.iconst 2, 1) := by decide +kernel
theorem d_Md_flat_58 : decode b_Md_flat 58 = .ok (.iload_n 1, 1) := by decide +kernel
theorem d_Md_flat_59 : decode b_Md_flat 59 = .ok (.iload_n 2, 1) := by decide +kernel
theorem d_Md_flat_60 : decode b_Md_flat 60 = .ok (.invokevirtual 185, 3) := by decide +kernel
theorem d_Md_flat_63 : decode b_Md_flat 63 = .ok (.putfield 188, 3) := by decide +kernel
theorem d_Md_flat_66 : decode b_Md_flat 66 = .ok (.aload_n 0, 1) := by decide +kernel
theorem d_Md_flat_67 : decode b_Md_flat 67 = .ok (.getfield 188, 3) := by decide +kernel
theorem d_Md_flat_70 : decode b_Md_flat 70 = .ok (.ireturn, 1) := by decide +kernel
theorem d_Md_reckonSizes_0 : decode b_Md_reckonSizes 0 = .ok (.iconst 0, 1) := by decide +kernel
theorem d_Md_reckonSizes_1 : decode b_Md_reckonSizes 1 = .ok (.istore_n 1, 1) := by decide +kernel
theorem d_Md_reckonSizes_2 : decode b_Md_reckonSizes 2 = .ok (.iload_n 1, 1) := by decide +kernel
theorem d_Md_reckonSizes_3 : decode b_Md_reckonSizes 3 = .ok (.bipush 20, 2) := by decide +kernel
theorem d_Md_reckonSizes_5 : decode b_Md_reckonSizes 5 = .ok (.if_icmp .ge 16, 3) := by decide +kernel
theorem d_Md_reckonSizes_8 : decode b_Md_reckonSizes 8 = .ok (.aload_n 0, 1) := by decide +kernel
theorem d_Md_reckonSizes_9 : decode b_Md_reckonSizes 9 = .ok (.getfield 79, 3) := by decide +kernel
theorem d_Md_reckonSizes_12 : decode b_Md_reckonSizes 12 = .ok (.iload_n 1, 1) := by decide +kernel
theorem d_Md_reckonSizes_13 : decode b_Md_reckonSizes 13 = .ok (.lconst 0, 1) := by decide +kernel
theorem d_Md_reckonSizes_14 : decode b_Md_reckonSizes 14 = .ok (.lastore, 1) := by decide +kernel
theorem d_Md_reckonSizes_15 : decode b_Md_reckonSizes 15 = .ok (.iinc 1 1, 3) := by decide +kernel
theorem d_Md_reckonSizes_18 : decode b_Md_reckonSizes 18 = .ok (.goto (-16), 3) := by decide +kernel
theorem d_Md_reckonSizes_21 : decode b_Md_reckonSizes 21 = .ok (.iconst 0, 1) := by decide +kernel
theorem d_Md_reckonSizes_22 : decode b_Md_reckonSizes 22 = .ok (.istore_n 1, 1) := by decide +kernel
theorem d_Md_reckonSizes_23 : decode b_Md_reckonSizes 23 = .ok (.iload_n 1, 1) := by decide +kernel
theorem d_Md_reckonSizes_24 : decode b_Md_reckonSizes 24 = .ok (.bipush 20, 2) := by decide +kernel
theorem d_Md_reckonSizes_26 : decode b_Md_reckonSizes 26 = .ok (.if_icmp .ge 160, 3) := by decide +kernel
theorem d_Md_reckonSizes_29 : decode b_Md_reckonSizes 29 = .ok (.iconst 0, 1) := by decide +kernel
theorem d_Md_reckonSizes_30 : decode b_Md_reckonSizes 30 = .ok (.istore_n 2, 1) := by decide +kernel
theorem d_Md_reckonSizes_31 : decode b_Md_reckonSizes 31 = .ok (.iload_n 2, 1) := by decide +kernel
theorem d_Md_reckonSizes_32 : decode b_Md_reckonSizes 32 = .ok (.aload_n 0, 1) := by decide +kernel
theorem d_Md_reckonSizes_33 : decode b_Md_reckonSizes 33 = .ok (.getfield 111, 3) := by decide +kernel
theorem d_Md_reckonSizes_36 : decode b_Md_reckonSizes 36 = .ok (.if_icmp .ge 144, 3) := by decide +kernel
theorem d_Md_reckonSizes_39 : decode b_Md_reckonSizes 39 = .ok (.lconst 0, 1) := by decide +kernel
theorem d_Md_reckonSizes_40 : decode b_Md_reckonSizes 40 = .ok (.lstore_n 3, 1) := by decide +kernel
theorem d_Md_reckonSizes_41 : decode b_Md_reckonSizes 41 = .ok (.iconst 0, 1) := by decide +kernel
theorem d_Md_reckonSizes_42 : decode b_Md_reckonSizes 42 = .ok (.istore 5, 2) := by decide +kernel
theorem d_Md_reckonSizes_44 : decode b_Md_reckonSizes 44 = .ok (.iload 5, 2) := by decide +kernel
theorem d_Md_reckonSizes_46 : decode b_Md_reckonSizes 46 = .ok (.aload_n 0, 1) := by decide +kernel
theorem d_Md_reckonSizes_47 : decode b_Md_reckonSizes 47 = .ok (.getfield 118, 3) := by decide +kernel
theorem d_Md_reckonSizes_50 : decode b_Md_reckonSizes 50 = .ok (.if_icmp .ge 37, 3) := by decide +kernel
theorem d_Md_reckonSizes_53 : decode b_Md_reckonSizes 53 = .ok (.lload_n 3, 1) := by decide +kernel
theorem d_Md_reckonSizes_54 : decode b_Md_reckonSizes 54 = .ok (.aload_n 0, 1) := by decide +kernel
theorem d_Md_reckonSizes_55 : decode b_Md_reckonSizes 55 = .ok (.getfield 7, 3) := by decide +kernel
theorem d_Md_reckonSizes_58 : decode b_Md_reckonSizes 58 = .ok (.iload 5, 2) := by decide +kernel
theorem d_Md_reckonSizes_60 : decode b_Md_reckonSizes 60 = .ok (.iaload, 1) := by decide +kernel
theorem d_Md_reckonSizes_61 : decode b_Md_reckonSizes 61 = .ok (.iload_n 2, 1) := by decide +kernel
theorem d_Md_reckonSizes_62 : decode b_Md_reckonSizes 62 = .ok (.if_icmp .ne 16, 3) := by decide +kernel
theorem d_Md_reckonSizes_65 : decode b_Md_reckonSizes 65 = .ok (.aload_n 0, 1) := by decide +kernel
theorem d_Md_reckonSizes_66 : decode b_Md_reckonSizes 66 = .ok (.iload 5, 2) := by decide +kernel
theorem d_Md_reckonSizes_68 : decode b_Md_reckonSizes 68 = .ok (.invokevirtual 155, 3) := by decide +kernel
theorem d_Md_reckonSizes_71 : decode b_Md_reckonSizes 71 = .ok (.ifCond .ne 7, 3) := by decide +kernel
theorem d_Md_reckonSizes_74 : decode b_Md_reckonSizes 74 = .ok (.lconst 1, 1) := by decide +kernel
theorem d_Md_reckonSizes_75 : decode b_Md_reckonSizes 75 = .ok (.goto 4, 3) := by decide +kernel
theorem d_Md_reckonSizes_78 : decode b_Md_reckonSizes 78 = .ok (.lconst 0, 1) := by decide +kernel
theorem d_Md_reckonSizes_79 : decode b_Md_reckonSizes 79 = .ok (.ladd, 1) := by decide +kernel
theorem d_Md_reckonSizes_80 : decode b_Md_reckonSizes 80 = .ok (.lstore_n 3, 1) := by decide +kernel
theorem d_Md_reckonSizes_81 : decode b_Md_reckonSizes 81 = .ok (.iinc 5 1, 3) := by decide +kernel
theorem d_Md_reckonSizes_84 : decode b_Md_reckonSizes 84 = .ok (.goto (-40), 3) := by decide +kernel
theorem d_Md_reckonSizes_87 : decode b_Md_reckonSizes 87 = .ok (.iconst 0, 1) := by decide +kernel
theorem d_Md_reckonSizes_88 : decode b_Md_reckonSizes 88 = .ok (.istore 5, 2) := by decide +kernel
theorem d_Md_reckonSizes_90 : decode b_Md_reckonSizes 90 = .ok (.iload 5, 2) := by decide +kernel
theorem d_Md_reckonSizes_92 : decode b_Md_reckonSizes 92 = .ok (.aload_n 0, 1) := by decide +kernel
theorem d_Md_reckonSizes_93 : decode b_Md_reckonSizes 93 = .ok (.getfield 148, 3) := by decide +kernel
theorem d_Md_reckonSizes_96 : decode b_Md_reckonSizes 96 = .ok (.if_icmp .ge 57, 3) := by decide +kernel
theorem d_Md_reckonSizes_99 : decode b_Md_reckonSizes 99 = .ok (.lload_n 3, 1) := by decide +kernel
theorem d_Md_reckonSizes_100 : decode b_Md_reckonSizes 100 = .ok (.aload_n 0, 1) := by decide +kernel
theorem d_Md_reckonSizes_101 : decode b_Md_reckonSizes 101 = .ok (.getfield 36, 3) := by decide +kernel
theorem d_Md_reckonSizes_104 : decode b_Md_reckonSizes 104 = .ok (.iload 5, 2) := by decide +kernel
theorem d_Md_reckonSizes_106 : decode b_Md_reckonSizes 106 = .ok (.iaload, 1) := by decide +kernel
theorem d_Md_reckonSizes_107 : decode b_Md_reckonSizes 107 = .ok (.iload_n 2, 1) := by decide +kernel
theorem d_Md_reckonSizes_108 : decode b_Md_reckonSizes 108 = .ok (.if_icmp .ne 36, 3) := by decide +kernel
theorem d_Md_reckonSizes_111 : decode b_Md_reckonSizes 111 = .ok (.aload_n 0, 1) := by decide +kernel
theorem d_Md_reckonSizes_112 : decode b_Md_reckonSizes 112 = .ok (.getfield 79, 3) := by decide +kernel
theorem d_Md_reckonSizes_115 : decode b_Md_reckonSizes 115 = .ok (.aload_n 0, 1) := by decide +kernel
theorem d_Md_reckonSizes_116 : decode b_Md_reckonSizes 116 = .ok (.getfield 39, 3) := by decide +kernel
theorem d_Md_reckonSizes_119 : decode b_Md_reckonSizes 119 = .ok (.iload 5, 2) := by decide +kernel
theorem d_Md_reckonSizes_121 : decode b_Md_reckonSizes 121 = .ok (.iaload, 1) := by decide +kernel
theorem d_Md_reckonSizes_122 : decode b_Md_reckonSizes 122 = .ok (.laload, 1) := by decide +kernel
theorem d_Md_reckonSizes_123 : decode b_Md_reckonSizes 123 = .ok (.aload_n 0, 1) := by decide +kernel
theorem d_Md_reckonSizes_124 : decode b_Md_reckonSizes 124 = .ok (.getfield 51, 3) := by decide +kernel
theorem d_Md_reckonSizes_127 : decode b_Md_reckonSizes 127 = .ok (.iload 5, 2) := by decide +kernel
theorem d_Md_reckonSizes_129 : decode b_Md_reckonSizes 129 = .ok (.iaload, 1) := by decide +kernel
theorem d_Md_reckonSizes_130 : decode b_Md_reckonSizes 130 = .ok (.i2l, 1) := by decide +kernel
theorem d_Md_reckonSizes_131 : decode b_Md_reckonSizes 131 = .ok (.lmul, 1) := by decide +kernel
theorem d_Md_reckonSizes_132 : decode b_Md_reckonSizes 132 = .ok (.aload_n 0, 1) := by decide +kernel
theorem d_Md_reckonSizes_133 : decode b_Md_reckonSizes 133 = .ok (.getfield 54, 3) := by decide +kernel
theorem d_Md_reckonSizes_136 : decode b_Md_reckonSizes 136 = .ok (.iload 5, 2) := by decide +kernel
theorem d_Md_reckonSizes_138 : decode b_Md_reckonSizes 138 = .ok (.iaload, 1) := by decide +kernel
theorem d_Md_reckonSizes_139 : decode b_Md_reckonSizes 139 = .ok (.i2l, 1) := by decide +kernel
theorem d_Md_reckonSizes_140 : decode b_Md_reckonSizes 140 = .ok (.lmul, 1) := by decide +kernel
theorem d_Md_reckonSizes_141 : decode b_Md_reckonSizes 141 = .ok (.goto 4, 3) := by decide +kernel
theorem d_Md_reckonSizes_144 : decode b_Md_reckonSizes 144 = .ok (.lconst 0, 1) := by decide +kernel
theorem d_Md_reckonSizes_145 : decode b_Md_reckonSizes 145 = .ok (.ladd, 1) := by decide +kernel
theorem d_Md_reckonSizes_146 : decode b_Md_reckonSizes 146 = .ok (.lstore_n 3, 1) := by decide +kernel
theorem d_Md_reckonSizes_147 : decode b_Md_reckonSizes 147 = .ok (.iinc 5 1, 3) := by decide +kernel
theorem d_Md_reckonSizes_150 : decode b_Md_reckonSizes 150 = .ok (.goto (-60), 3) := by decide +kernel
theorem d_Md_reckonSizes_153 : decode b_Md_reckonSizes 153 = .ok (.aload_n 0, 1) := by decide +kernel
theorem d_Md_reckonSizes_154 : decode b_Md_reckonSizes 154 = .ok (.getfield 79, 3) := by decide +kernel
theorem d_Md_reckonSizes_157 : decode b_Md_reckonSizes 157 = .ok (.iload_n 2, 1) := by decide +kernel
theorem d_Md_reckonSizes_158 : decode b_Md_reckonSizes 158 = .ok (.lload_n 3, 1) := by decide +kernel
theorem d_Md_reckonSizes_159 : decode b_Md_reckonSizes 159 = .ok (.ldc2_w 116, 3) := by decide +kernel
theorem d_Md_reckonSizes_162 : decode b_Md_reckonSizes 162 = .ok (.lcmp, 1) := by decide +kernel
theorem d_Md_reckonSizes_163 : decode b_Md_reckonSizes 163 = .ok (.ifCond .le 9, 3) := by decide +kernel
theorem d_Md_reckonSizes_166 : decode b_Md_reckonSizes 166 = .ok (.ldc2_w 116, 3) := by decide +kernel
theorem d_Md_reckonSizes_169 : decode b_Md_reckonSizes 169 = .ok (.goto 4, 3) := by decide +kernel
theorem d_Md_reckonSizes_172 : decode b_Md_reckonSizes 172 = .ok (.lload_n 3, 1) := by decide +kernel
theorem d_Md_reckonSizes_173 : decode b_Md_reckonSizes 173 = .ok (.lastore, 1) := by decide +kernel
theorem d_Md_reckonSizes_174 : decode b_Md_reckonSizes 174 = .ok (.iinc 2 1, 3) := by decide +kernel
theorem d_Md_reckonSizes_177 : decode b_Md_reckonSizes 177 = .ok (.goto (-146), 3) := by decide +kernel
theorem d_Md_reckonSizes_180 : decode b_Md_reckonSizes 180 = .ok (.iinc 1 1, 3) := by decide +kernel
theorem d_Md_reckonSizes_183 : decode b_Md_reckonSizes 183 = .ok (.goto (-160), 3) := by decide +kernel
theorem d_Md_reckonSizes_186 : decode b_Md_reckonSizes 186 = .ok (.return_, 1) := by decide +kernel
theorem d_Md_isEmpty_0 : decode b_Md_isEmpty 0 = .ok (.aload_n 0, 1) := by decide +kernel
theorem d_Md_isEmpty_1 : decode b_Md_isEmpty 1 = .ok (.getfield 26, 3) := by decide +kernel
theorem d_Md_isEmpty_4 : decode b_Md_isEmpty 4 = .ok (.iload_n 1, 1) := by decide +kernel
theorem d_Md_isEmpty_5 : decode b_Md_isEmpty 5 = .ok (.baload, 1) := by decide +kernel
theorem d_Md_isEmpty_6 : decode b_Md_isEmpty 6 = .ok (.ifCond .ne 28, 3) := by decide +kernel
theorem d_Md_isEmpty_9 : decode b_Md_isEmpty 9 = .ok (.aload_n 0, 1) := by decide +kernel
theorem d_Md_isEmpty_10 : decode b_Md_isEmpty 10 = .ok (.getfield 23, 3) := by decide +kernel
theorem d_Md_isEmpty_13 : decode b_Md_isEmpty 13 = .ok (.iload_n 1, 1) := by decide +kernel
theorem d_Md_isEmpty_14 : decode b_Md_isEmpty 14 = .ok (.iaload, 1) := by decide +kernel
theorem d_Md_isEmpty_15 : decode b_Md_isEmpty 15 = .ok (.aload_n 0, 1) := by decide +kernel
theorem d_Md_isEmpty_16 : decode b_Md_isEmpty 16 = .ok (.getfield 16, 3) := by decide +kernel
theorem d_Md_isEmpty_19 : decode b_Md_isEmpty 19 = .ok (.iload_n 1, 1) := by decide +kernel
theorem d_Md_isEmpty_20 : decode b_Md_isEmpty 20 = .ok (.laload, 1) := by decide +kernel
theorem d_Md_isEmpty_21 : decode b_Md_isEmpty 21 = .ok (.lconst 0, 1) := by decide +kernel
theorem d_Md_isEmpty_22 : decode b_Md_isEmpty 22 = .ok (.lcmp, 1) := by decide +kernel
theorem d_Md_isEmpty_23 : decode b_Md_isEmpty 23 = .ok (.ifCond .le 7, 3) := by decide +kernel
theorem d_Md_isEmpty_26 : decode b_Md_isEmpty 26 = .ok (.iconst 2, 1) := by decide +kernel
theorem d_Md_isEmpty_27 : decode b_Md_isEmpty 27 = .ok (.goto 4, 3) := by decide +kernel
theorem d_Md_isEmpty_30 : decode b_Md_isEmpty 30 = .ok (.iconst 3, 1) := by decide +kernel
theorem d_Md_isEmpty_31 : decode b_Md_isEmpty 31 = .ok (.if_icmp .ge 7, 3) := by decide +kernel
theorem d_Md_isEmpty_34 : decode b_Md_isEmpty 34 = .ok (.iconst 1, 1) := by decide +kernel
theorem d_Md_isEmpty_35 : decode b_Md_isEmpty 35 = .ok (.goto 4, 3) := by decide +kernel
theorem d_Md_isEmpty_38 : decode b_Md_isEmpty 38 = .ok (.iconst 0, 1) := by decide +kernel
theorem d_Md_isEmpty_39 : decode b_Md_isEmpty 39 = .ok (.ireturn, 1) := by decide +kernel
theorem d_Md_lay_0 : decode b_Md_lay 0 = .ok (.aload_n 0, 1) := by decide +kernel
theorem d_Md_lay_1 : decode b_Md_lay 1 = .ok (.iconst 0, 1) := by decide +kernel
theorem d_Md_lay_2 : decode b_Md_lay 2 = .ok (.putfield 165, 3) := by decide +kernel
theorem d_Md_lay_5 : decode b_Md_lay 5 = .ok (.aload_n 0, 1) := by decide +kernel
theorem d_Md_lay_6 : decode b_Md_lay 6 = .ok (.getfield 82, 3) := by decide +kernel
theorem d_Md_lay_9 : decode b_Md_lay 9 = .ok (.iconst 0, 1) := by decide +kernel
theorem d_Md_lay_10 : decode b_Md_lay 10 = .ok (.iload_n 2, 1) := by decide +kernel
theorem d_Md_lay_11 : decode b_Md_lay 11 = .ok (.iastore, 1) := by decide +kernel
theorem d_Md_lay_12 : decode b_Md_lay 12 = .ok (.aload_n 0, 1) := by decide +kernel
theorem d_Md_lay_13 : decode b_Md_lay 13 = .ok (.getfield 85, 3) := by decide +kernel
theorem d_Md_lay_16 : decode b_Md_lay 16 = .ok (.iconst 0, 1) := by decide +kernel
theorem d_Md_lay_17 : decode b_Md_lay 17 = .ok (.iconst (-1), 1) := by decide +kernel
theorem d_Md_lay_18 : decode b_Md_lay 18 = .ok (.iastore, 1) := by decide +kernel
theorem d_Md_lay_19 : decode b_Md_lay 19 = .ok (.aload_n 0, 1) := by decide +kernel
theorem d_Md_lay_20 : decode b_Md_lay 20 = .ok (.iload_n 1, 1) := by decide +kernel
theorem d_Md_lay_21 : decode b_Md_lay 21 = .ok (.iconst 0, 1) := by decide +kernel
theorem d_Md_lay_22 : decode b_Md_lay 22 = .ok (.iload_n 3, 1) := by decide +kernel
theorem d_Md_lay_23 : decode b_Md_lay 23 = .ok (.invokevirtual 173, 3) := by decide +kernel
theorem d_Md_lay_26 : decode b_Md_lay 26 = .ok (.istore 4, 2) := by decide +kernel
theorem d_Md_lay_28 : decode b_Md_lay 28 = .ok (.aload_n 0, 1) := by decide +kernel
theorem d_Md_lay_29 : decode b_Md_lay 29 = .ok (.getfield 165, 3) := by decide +kernel
theorem d_Md_lay_32 : decode b_Md_lay 32 = .ok (.ifCond .lt 87, 3) := by decide +kernel
theorem d_Md_lay_35 : decode b_Md_lay 35 = .ok (.aload_n 0, 1) := by decide +kernel
theorem d_Md_lay_36 : decode b_Md_lay 36 = .ok (.aload_n 0, 1) := by decide +kernel
theorem d_Md_lay_37 : decode b_Md_lay 37 = .ok (.getfield 165, 3) := by decide +kernel
theorem d_Md_lay_40 : decode b_Md_lay 40 = .ok (.invokevirtual 177, 3) := by decide +kernel
theorem d_Md_lay_43 : decode b_Md_lay 43 = .ok (.ifCond .eq 63, 3) := by decide +kernel
theorem d_Md_lay_46 : decode b_Md_lay 46 = .ok (.aload_n 0, 1) := by decide +kernel
theorem d_Md_lay_47 : decode b_Md_lay 47 = .ok (.getfield 82, 3) := by decide +kernel
theorem d_Md_lay_50 : decode b_Md_lay 50 = .ok (.aload_n 0, 1) := by decide +kernel
theorem d_Md_lay_51 : decode b_Md_lay 51 = .ok (.getfield 165, 3) := by decide +kernel
theorem d_Md_lay_54 : decode b_Md_lay 54 = .ok (.iconst 1, 1) := by decide +kernel
theorem d_Md_lay_55 : decode b_Md_lay 55 = .ok (.iadd, 1) := by decide +kernel
theorem d_Md_lay_56 : decode b_Md_lay 56 = .ok (.aload_n 0, 1) := by decide +kernel
theorem d_Md_lay_57 : decode b_Md_lay 57 = .ok (.getfield 39, 3) := by decide +kernel
theorem d_Md_lay_60 : decode b_Md_lay 60 = .ok (.aload_n 0, 1) := by decide +kernel
theorem d_Md_lay_61 : decode b_Md_lay 61 = .ok (.getfield 85, 3) := by decide +kernel
theorem d_Md_lay_64 : decode b_Md_lay 64 = .ok (.aload_n 0, 1) := by decide +kernel
theorem d_Md_lay_65 : decode b_Md_lay 65 = .ok (.getfield 165, 3) := by decide +kernel
theorem d_Md_lay_68 : decode b_Md_lay 68 = .ok (.iaload, 1) := by decide +kernel
theorem d_Md_lay_69 : decode b_Md_lay 69 = .ok (.iaload, 1) := by decide +kernel
theorem d_Md_lay_70 : decode b_Md_lay 70 = .ok (.iastore, 1) := by decide +kernel
theorem d_Md_lay_71 : decode b_Md_lay 71 = .ok (.aload_n 0, 1) := by decide +kernel
theorem d_Md_lay_72 : decode b_Md_lay 72 = .ok (.getfield 85, 3) := by decide +kernel
theorem d_Md_lay_75 : decode b_Md_lay 75 = .ok (.aload_n 0, 1) := by decide +kernel
theorem d_Md_lay_76 : decode b_Md_lay 76 = .ok (.getfield 165, 3) := by decide +kernel
theorem d_Md_lay_79 : decode b_Md_lay 79 = .ok (.iconst 1, 1) := by decide +kernel
theorem d_Md_lay_80 : decode b_Md_lay 80 = .ok (.iadd, 1) := by decide +kernel
theorem d_Md_lay_81 : decode b_Md_lay 81 = .ok (.iconst (-1), 1) := by decide +kernel
theorem d_Md_lay_82 : decode b_Md_lay 82 = .ok (.iastore, 1) := by decide +kernel
theorem d_Md_lay_83 : decode b_Md_lay 83 = .ok (.aload_n 0, 1) := by decide +kernel
theorem d_Md_lay_84 : decode b_Md_lay 84 = .ok (.dup, 1) := by decide +kernel
theorem d_Md_lay_85 : decode b_Md_lay 85 = .ok (.getfield 165, 3) := by decide +kernel
theorem d_Md_lay_88 : decode b_Md_lay 88 = .ok (.iconst 1, 1) := by decide +kernel
theorem d_Md_lay_89 : decode b_Md_lay 89 = .ok (.iadd, 1) := by decide +kernel
theorem d_Md_lay_90 : decode b_Md_lay 90 = .ok (.putfield 165, 3) := by decide +kernel
theorem d_Md_lay_93 : decode b_Md_lay 93 = .ok (.aload_n 0, 1) := by decide +kernel
theorem d_Md_lay_94 : decode b_Md_lay 94 = .ok (.iload_n 1, 1) := by decide +kernel
theorem d_Md_lay_95 : decode b_Md_lay 95 = .ok (.iload 4, 2) := by decide +kernel
theorem d_Md_lay_97 : decode b_Md_lay 97 = .ok (.iload_n 3, 1) := by decide +kernel
theorem d_Md_lay_98 : decode b_Md_lay 98 = .ok (.invokevirtual 173, 3) := by decide +kernel
theorem d_Md_lay_101 : decode b_Md_lay 101 = .ok (.istore 4, 2) := by decide +kernel
theorem d_Md_lay_103 : decode b_Md_lay 103 = .ok (.goto (-75), 3) := by decide +kernel
theorem d_Md_lay_106 : decode b_Md_lay 106 = .ok (.aload_n 0, 1) := by decide +kernel
theorem d_Md_lay_107 : decode b_Md_lay 107 = .ok (.dup, 1) := by decide +kernel
theorem d_Md_lay_108 : decode b_Md_lay 108 = .ok (.getfield 165, 3) := by decide +kernel
theorem d_Md_lay_111 : decode b_Md_lay 111 = .ok (.iconst 1, 1) := by decide +kernel
theorem d_Md_lay_112 : decode b_Md_lay 112 = .ok (.isub, 1) := by decide +kernel
theorem d_Md_lay_113 : decode b_Md_lay 113 = .ok (.putfield 165, 3) := by decide +kernel
theorem d_Md_lay_116 : decode b_Md_lay 116 = .ok (.goto (-88), 3) := by decide +kernel
theorem d_Md_lay_119 : decode b_Md_lay 119 = .ok (.iload 4, 2) := by decide +kernel
theorem d_Md_lay_121 : decode b_Md_lay 121 = .ok (.ireturn, 1) := by decide +kernel
theorem d_Md_own_0 : decode b_Md_own 0 = .ok (.iload_n 2, 1) := by decide +kernel
theorem d_Md_own_1 : decode b_Md_own 1 = .ok (.istore 4, 2) := by decide +kernel
theorem d_Md_own_3 : decode b_Md_own 3 = .ok (.iconst 0, 1) := by decide +kernel
theorem d_Md_own_4 : decode b_Md_own 4 = .ok (.istore 5, 2) := by decide +kernel
theorem d_Md_own_6 : decode b_Md_own 6 = .ok (.iload 5, 2) := by decide +kernel
theorem d_Md_own_8 : decode b_Md_own 8 = .ok (.aload_n 0, 1) := by decide +kernel
theorem d_Md_own_9 : decode b_Md_own 9 = .ok (.getfield 118, 3) := by decide +kernel
theorem d_Md_own_12 : decode b_Md_own 12 = .ok (.if_icmp .ge 189, 3) := by decide +kernel
theorem d_Md_own_15 : decode b_Md_own 15 = .ok (.aload_n 0, 1) := by decide +kernel
theorem d_Md_own_16 : decode b_Md_own 16 = .ok (.getfield 7, 3) := by decide +kernel
theorem d_Md_own_19 : decode b_Md_own 19 = .ok (.iload 5, 2) := by decide +kernel
theorem d_Md_own_21 : decode b_Md_own 21 = .ok (.iaload, 1) := by decide +kernel
theorem d_Md_own_22 : decode b_Md_own 22 = .ok (.aload_n 0, 1) := by decide +kernel
theorem d_Md_own_23 : decode b_Md_own 23 = .ok (.getfield 82, 3) := by decide +kernel
theorem d_Md_own_26 : decode b_Md_own 26 = .ok (.aload_n 0, 1) := by decide +kernel
theorem d_Md_own_27 : decode b_Md_own 27 = .ok (.getfield 165, 3) := by decide +kernel
theorem d_Md_own_30 : decode b_Md_own 30 = .ok (.iaload, 1) := by decide +kernel
theorem d_Md_own_31 : decode b_Md_own 31 = .ok (.if_icmp .ne 164, 3) := by decide +kernel
theorem d_Md_own_34 : decode b_Md_own 34 = .ok (.aload_n 0, 1) := by decide +kernel
theorem d_Md_own_35 : decode b_Md_own 35 = .ok (.iload 5, 2) := by decide +kernel
theorem d_Md_own_37 : decode b_Md_own 37 = .ok (.invokevirtual 155, 3) := by decide +kernel
theorem d_Md_own_40 : decode b_Md_own 40 = .ok (.ifCond .ne 155, 3) := by decide +kernel
theorem d_Md_own_43 : decode b_Md_own 43 = .ok (.iload_n 3, 1) := by decide +kernel
theorem d_Md_own_44 : decode b_Md_own 44 = .ok (.iconst (-1), 1) := by decide +kernel
theorem d_Md_own_45 : decode b_Md_own 45 = .ok (.if_icmp .eq 17, 3) := by decide +kernel
theorem d_Md_own_48 : decode b_Md_own 48 = .ok (.aload_n 0, 1) := by decide +kernel
theorem d_Md_own_49 : decode b_Md_own 49 = .ok (.getfield 13, 3) := by decide +kernel
theorem d_Md_own_52 : decode b_Md_own 52 = .ok (.iload 5, 2) := by decide +kernel
theorem d_Md_own_54 : decode b_Md_own 54 = .ok (.iaload, 1) := by decide +kernel
theorem d_Md_own_55 : decode b_Md_own 55 = .ok (.iload_n 3, 1) := by decide +kernel
theorem d_Md_own_56 : decode b_Md_own 56 = .ok (.if_icmp .eq 6, 3) := by decide +kernel
theorem d_Md_own_59 : decode b_Md_own 59 = .ok (.goto 136, 3) := by decide +kernel
theorem d_Md_own_62 : decode b_Md_own 62 = .ok (.aload_n 0, 1) := by decide +kernel
theorem d_Md_own_63 : decode b_Md_own 63 = .ok (.getfield 70, 3) := by decide +kernel
theorem d_Md_own_66 : decode b_Md_own 66 = .ok (.sipush 3000, 3) := by decide +kernel
theorem d_Md_own_69 : decode b_Md_own 69 = .ok (.iload_n 1, 1) := by decide +kernel
theorem d_Md_own_70 : decode b_Md_own 70 = .ok (.imul, 1) := by decide +kernel
theorem d_Md_own_71 : decode b_Md_own 71 = .ok (.iload 4, 2) := by decide +kernel
theorem d_Md_own_73 : decode b_Md_own 73 = .ok (.iadd, 1) := by decide +kernel
theorem d_Md_own_74 : decode b_Md_own 74 = .ok (.iload 5, 2) := by decide +kernel
theorem d_Md_own_76 : decode b_Md_own 76 = .ok (.iastore, 1) := by decide +kernel
theorem d_Md_own_77 : decode b_Md_own 77 = .ok (.aload_n 0, 1) := by decide +kernel
theorem d_Md_own_78 : decode b_Md_own 78 = .ok (.getfield 73, 3) := by decide +kernel
theorem d_Md_own_81 : decode b_Md_own 81 = .ok (.sipush 3000, 3) := by decide +kernel
theorem d_Md_own_84 : decode b_Md_own 84 = .ok (.iload_n 1, 1) := by decide +kernel
theorem d_Md_own_85 : decode b_Md_own 85 = .ok (.imul, 1) := by decide +kernel
theorem d_Md_own_86 : decode b_Md_own 86 = .ok (.iload 4, 2) := by decide +kernel
theorem d_Md_own_88 : decode b_Md_own 88 = .ok (.iadd, 1) := by decide +kernel
theorem d_Md_own_89 : decode b_Md_own 89 = .ok (.aload_n 0, 1) := by decide +kernel
theorem d_Md_own_90 : decode b_Md_own 90 = .ok (.getfield 23, 3) := by decide +kernel
theorem d_Md_own_93 : decode b_Md_own 93 = .ok (.iload 5, 2) := by decide +kernel
theorem d_Md_own_95 : decode b_Md_own 95 = .ok (.iaload, 1) := by decide +kernel
theorem d_Md_own_96 : decode b_Md_own 96 = .ok (.iastore, 1) := by decide +kernel
theorem d_Md_own_97 : decode b_Md_own 97 = .ok (.iconst 0, 1) := by decide +kernel
theorem d_Md_own_98 : decode b_Md_own 98 = .ok (.istore 6, 2) := by decide +kernel
theorem d_Md_own_100 : decode b_Md_own 100 = .ok (.iload 6, 2) := by decide +kernel
theorem d_Md_own_102 : decode b_Md_own 102 = .ok (.aload_n 0, 1) := by decide +kernel
theorem d_Md_own_103 : decode b_Md_own 103 = .ok (.getfield 23, 3) := by decide +kernel
theorem d_Md_own_106 : decode b_Md_own 106 = .ok (.iload 5, 2) := by decide +kernel
theorem d_Md_own_108 : decode b_Md_own 108 = .ok (.iaload, 1) := by decide +kernel
theorem d_Md_own_109 : decode b_Md_own 109 = .ok (.if_icmp .ge 83, 3) := by decide +kernel
theorem d_Md_own_112 : decode b_Md_own 112 = .ok (.aload_n 0, 1) := by decide +kernel
theorem d_Md_own_113 : decode b_Md_own 113 = .ok (.aload_n 0, 1) := by decide +kernel
theorem d_Md_own_114 : decode b_Md_own 114 = .ok (.getfield 30, 3) := by decide +kernel
theorem d_Md_own_117 : decode b_Md_own 117 = .ok (.bipush 24, 2) := by decide +kernel
theorem d_Md_own_119 : decode b_Md_own 119 = .ok (.iload 5, 2) := by decide +kernel
theorem d_Md_own_121 : decode b_Md_own 121 = .ok (.imul, 1) := by decide +kernel
theorem d_Md_own_122 : decode b_Md_own 122 = .ok (.iload 6, 2) := by decide +kernel
theorem d_Md_own_124 : decode b_Md_own 124 = .ok (.iadd, 1) := by decide +kernel
theorem d_Md_own_125 : decode b_Md_own 125 = .ok (.laload, 1) := by decide +kernel
theorem d_Md_own_126 : decode b_Md_own 126 = .ok (.aload_n 0, 1) := by decide +kernel
theorem d_Md_own_127 : decode b_Md_own 127 = .ok (.getfield 33, 3) := by decide +kernel
theorem d_Md_own_130 : decode b_Md_own 130 = .ok (.bipush 24, 2) := by decide +kernel
theorem d_Md_own_132 : decode b_Md_own 132 = .ok (.iload 5, 2) := by decide +kernel
theorem d_Md_own_134 : decode b_Md_own 134 = .ok (.imul, 1) := by decide +kernel
theorem d_Md_own_135 : decode b_Md_own 135 = .ok (.iload 6, 2) := by decide +kernel
theorem d_Md_own_137 : decode b_Md_own 137 = .ok (.iadd, 1) := by decide +kernel
theorem d_Md_own_138 : decode b_Md_own 138 = .ok (.laload, 1) := by decide +kernel
theorem d_Md_own_139 : decode b_Md_own 139 = .ok (.invokevirtual 168, 3) := by decide +kernel
theorem d_Md_own_142 : decode b_Md_own 142 = .ok (.aload_n 0, 1) := by decide +kernel
theorem d_Md_own_143 : decode b_Md_own 143 = .ok (.getfield 64, 3) := by decide +kernel
theorem d_Md_own_146 : decode b_Md_own 146 = .ok (.ldc 172, 2) := by decide +kernel
theorem d_Md_own_148 : decode b_Md_own 148 = .ok (.iload_n 1, 1) := by decide +kernel
theorem d_Md_own_149 : decode b_Md_own 149 = .ok (.imul, 1) := by decide +kernel
theorem d_Md_own_150 : decode b_Md_own 150 = .ok (.bipush 24, 2) := by decide +kernel
theorem d_Md_own_152 : decode b_Md_own 152 = .ok (.iload 4, 2) := by decide +kernel
theorem d_Md_own_154 : decode b_Md_own 154 = .ok (.imul, 1) := by decide +kernel
theorem d_Md_own_155 : decode b_Md_own 155 = .ok (.iadd, 1) := by decide +kernel
theorem d_Md_own_156 : decode b_Md_own 156 = .ok (.iload 6, 2) := by decide +kernel
theorem d_Md_own_158 : decode b_Md_own 158 = .ok (.iadd, 1) := by decide +kernel
theorem d_Md_own_159 : decode b_Md_own 159 = .ok (.aload_n 0, 1) := by decide +kernel
theorem d_Md_own_160 : decode b_Md_own 160 = .ok (.getfield 158, 3) := by decide +kernel
theorem d_Md_own_163 : decode b_Md_own 163 = .ok (.lastore, 1) := by decide +kernel
theorem d_Md_own_164 : decode b_Md_own 164 = .ok (.aload_n 0, 1) := by decide +kernel
theorem d_Md_own_165 : decode b_Md_own 165 = .ok (.getfield 67, 3) := by decide +kernel
theorem d_Md_own_168 : decode b_Md_own 168 = .ok (.ldc 172, 2) := by decide +kernel
theorem d_Md_own_170 : decode b_Md_own 170 = .ok (.iload_n 1, 1) := by decide +kernel
theorem d_Md_own_171 : decode b_Md_own 171 = .ok (.imul, 1) := by decide +kernel
theorem d_Md_own_172 : decode b_Md_own 172 = .ok (.bipush 24, 2) := by decide +kernel
theorem d_Md_own_174 : decode b_Md_own 174 = .ok (.iload 4, 2) := by decide +kernel
theorem d_Md_own_176 : decode b_Md_own 176 = .ok (.imul, 1) := by decide +kernel
theorem d_Md_own_177 : decode b_Md_own 177 = .ok (.iadd, 1) := by decide +kernel
theorem d_Md_own_178 : decode b_Md_own 178 = .ok (.iload 6, 2) := by decide +kernel
theorem d_Md_own_180 : decode b_Md_own 180 = .ok (.iadd, 1) := by decide +kernel
theorem d_Md_own_181 : decode b_Md_own 181 = .ok (.aload_n 0, 1) := by decide +kernel
theorem d_Md_own_182 : decode b_Md_own 182 = .ok (.getfield 162, 3) := by decide +kernel
theorem d_Md_own_185 : decode b_Md_own 185 = .ok (.lastore, 1) := by decide +kernel
theorem d_Md_own_186 : decode b_Md_own 186 = .ok (.iinc 6 1, 3) := by decide +kernel
theorem d_Md_own_189 : decode b_Md_own 189 = .ok (.goto (-89), 3) := by decide +kernel
theorem d_Md_own_192 : decode b_Md_own 192 = .ok (.iinc 4 1, 3) := by decide +kernel
theorem d_Md_own_195 : decode b_Md_own 195 = .ok (.iinc 5 1, 3) := by decide +kernel
theorem d_Md_own_198 : decode b_Md_own 198 = .ok (.goto (-192), 3) := by decide +kernel
theorem d_Md_own_201 : decode b_Md_own 201 = .ok (.iload 4, 2) := by decide +kernel
theorem d_Md_own_203 : decode b_Md_own 203 = .ok (.ireturn, 1) := by decide +kernel
theorem d_Md_carry_0 : decode b_Md_carry 0 = .ok (.aload_n 0, 1) := by decide +kernel
theorem d_Md_carry_1 : decode b_Md_carry 1 = .ok (.lload_n 1, 1) := by decide +kernel
theorem d_Md_carry_2 : decode b_Md_carry 2 = .ok (.putfield 158, 3) := by decide +kernel
theorem d_Md_carry_5 : decode b_Md_carry 5 = .ok (.aload_n 0, 1) := by decide +kernel
theorem d_Md_carry_6 : decode b_Md_carry 6 = .ok (.lload_n 3, 1) := by decide +kernel
theorem d_Md_carry_7 : decode b_Md_carry 7 = .ok (.putfield 162, 3) := by decide +kernel
theorem d_Md_carry_10 : decode b_Md_carry 10 = .ok (.aload_n 0, 1) := by decide +kernel
theorem d_Md_carry_11 : decode b_Md_carry 11 = .ok (.getfield 165, 3) := by decide +kernel
theorem d_Md_carry_14 : decode b_Md_carry 14 = .ok (.iconst 1, 1) := by decide +kernel
theorem d_Md_carry_15 : decode b_Md_carry 15 = .ok (.isub, 1) := by decide +kernel
theorem d_Md_carry_16 : decode b_Md_carry 16 = .ok (.istore 5, 2) := by decide +kernel
theorem d_Md_carry_18 : decode b_Md_carry 18 = .ok (.iload 5, 2) := by decide +kernel
theorem d_Md_carry_20 : decode b_Md_carry 20 = .ok (.ifCond .lt 155, 3) := by decide +kernel
theorem d_Md_carry_23 : decode b_Md_carry 23 = .ok (.aload_n 0, 1) := by decide +kernel
theorem d_Md_carry_24 : decode b_Md_carry 24 = .ok (.getfield 85, 3) := by decide +kernel
theorem d_Md_carry_27 : decode b_Md_carry 27 = .ok (.iload 5, 2) := by decide +kernel
theorem d_Md_carry_29 : decode b_Md_carry 29 = .ok (.iaload, 1) := by decide +kernel
theorem d_Md_carry_30 : decode b_Md_carry 30 = .ok (.istore 6, 2) := by decide +kernel
theorem d_Md_carry_32 : decode b_Md_carry 32 = .ok (.aload_n 0, 1) := by decide +kernel
theorem d_Md_carry_33 : decode b_Md_carry 33 = .ok (.aload_n 0, 1) := by decide +kernel
theorem d_Md_carry_34 : decode b_Md_carry 34 = .ok (.getfield 48, 3) := by decide +kernel
theorem d_Md_carry_37 : decode b_Md_carry 37 = .ok (.iload 6, 2) := by decide +kernel
theorem d_Md_carry_39 : decode b_Md_carry 39 = .ok (.iaload, 1) := by decide +kernel
theorem d_Md_carry_40 : decode b_Md_carry 40 = .ok (.iconst 3, 1) := by decide +kernel
theorem d_Md_carry_41 : decode b_Md_carry 41 = .ok (.if_icmp .le 11, 3) := by decide +kernel
theorem d_Md_carry_44 : decode b_Md_carry 44 = .ok (.aload_n 0, 1) := by decide +kernel
theorem d_Md_carry_45 : decode b_Md_carry 45 = .ok (.getfield 162, 3) := by decide +kernel
theorem d_Md_carry_48 : decode b_Md_carry 48 = .ok (.lneg, 1) := by decide +kernel
theorem d_Md_carry_49 : decode b_Md_carry 49 = .ok (.goto 7, 3) := by decide +kernel
theorem d_Md_carry_52 : decode b_Md_carry 52 = .ok (.aload_n 0, 1) := by decide +kernel
theorem d_Md_carry_53 : decode b_Md_carry 53 = .ok (.getfield 162, 3) := by decide +kernel
theorem d_Md_carry_56 : decode b_Md_carry 56 = .ok (.putfield 162, 3) := by decide +kernel
theorem d_Md_carry_59 : decode b_Md_carry 59 = .ok (.iconst 0, 1) := by decide +kernel
theorem d_Md_carry_60 : decode b_Md_carry 60 = .ok (.istore 7, 2) := by decide +kernel
theorem d_Md_carry_62 : decode b_Md_carry 62 = .ok (.iload 7, 2) := by decide +kernel
theorem d_Md_carry_64 : decode b_Md_carry 64 = .ok (.aload_n 0, 1) := by decide +kernel
theorem d_Md_carry_65 : decode b_Md_carry 65 = .ok (.getfield 48, 3) := by decide +kernel
theorem d_Md_carry_68 : decode b_Md_carry 68 = .ok (.iload 6, 2) := by decide +kernel
theorem d_Md_carry_70 : decode b_Md_carry 70 = .ok (.iaload, 1) := by decide +kernel
theorem d_Md_carry_71 : decode b_Md_carry 71 = .ok (.iconst 4, 1) := by decide +kernel
theorem d_Md_carry_72 : decode b_Md_carry 72 = .ok (.irem, 1) := by decide +kernel
theorem d_Md_carry_73 : decode b_Md_carry 73 = .ok (.if_icmp .ge 30, 3) := by decide +kernel
theorem d_Md_carry_76 : decode b_Md_carry 76 = .ok (.aload_n 0, 1) := by decide +kernel
theorem d_Md_carry_77 : decode b_Md_carry 77 = .ok (.getfield 158, 3) := by decide +kernel
theorem d_Md_carry_80 : decode b_Md_carry 80 = .ok (.lstore 8, 2) := by decide +kernel
theorem d_Md_carry_82 : decode b_Md_carry 82 = .ok (.aload_n 0, 1) := by decide +kernel
theorem d_Md_carry_83 : decode b_Md_carry 83 = .ok (.aload_n 0, 1) := by decide +kernel
theorem d_Md_carry_84 : decode b_Md_carry 84 = .ok (.getfield 162, 3) := by decide +kernel
theorem d_Md_carry_87 : decode b_Md_carry 87 = .ok (.lneg, 1) := by decide +kernel
theorem d_Md_carry_88 : decode b_Md_carry 88 = .ok (.putfield 158, 3) := by decide +kernel
theorem d_Md_carry_91 : decode b_Md_carry 91 = .ok (.aload_n 0, 1) := by decide +kernel
theorem d_Md_carry_92 : decode b_Md_carry 92 = .ok (.lload 8, 2) := by decide +kernel
theorem d_Md_carry_94 : decode b_Md_carry 94 = .ok (.putfield 162, 3) := by decide +kernel
theorem d_Md_carry_97 : decode b_Md_carry 97 = .ok (.iinc 7 1, 3) := by decide +kernel
theorem d_Md_carry_100 : decode b_Md_carry 100 = .ok (.goto (-38), 3) := by decide +kernel
theorem d_Md_carry_103 : decode b_Md_carry 103 = .ok (.aload_n 0, 1) := by decide +kernel
theorem d_Md_carry_104 : decode b_Md_carry 104 = .ok (.dup, 1) := by decide +kernel
theorem d_Md_carry_105 : decode b_Md_carry 105 = .ok (.getfield 158, 3) := by decide +kernel
theorem d_Md_carry_108 : decode b_Md_carry 108 = .ok (.aload_n 0, 1) := by decide +kernel
theorem d_Md_carry_109 : decode b_Md_carry 109 = .ok (.getfield 42, 3) := by decide +kernel
theorem d_Md_carry_112 : decode b_Md_carry 112 = .ok (.iload 6, 2) := by decide +kernel
theorem d_Md_carry_114 : decode b_Md_carry 114 = .ok (.laload, 1) := by decide +kernel
theorem d_Md_carry_115 : decode b_Md_carry 115 = .ok (.aload_n 0, 1) := by decide +kernel
theorem d_Md_carry_116 : decode b_Md_carry 116 = .ok (.getfield 88, 3) := by decide +kernel
theorem d_Md_carry_119 : decode b_Md_carry 119 = .ok (.iload 5, 2) := by decide +kernel
theorem d_Md_carry_121 : decode b_Md_carry 121 = .ok (.iaload, 1) := by decide +kernel
theorem d_Md_carry_122 : decode b_Md_carry 122 = .ok (.i2l, 1) := by decide +kernel
theorem d_Md_carry_123 : decode b_Md_carry 123 = .ok (.aload_n 0, 1) := by decide +kernel
theorem d_Md_carry_124 : decode b_Md_carry 124 = .ok (.getfield 57, 3) := by decide +kernel
theorem d_Md_carry_127 : decode b_Md_carry 127 = .ok (.iload 6, 2) := by decide +kernel
theorem d_Md_carry_129 : decode b_Md_carry 129 = .ok (.laload, 1) := by decide +kernel
theorem d_Md_carry_130 : decode b_Md_carry 130 = .ok (.lmul, 1) := by decide +kernel
theorem d_Md_carry_131 : decode b_Md_carry 131 = .ok (.ladd, 1) := by decide +kernel
theorem d_Md_carry_132 : decode b_Md_carry 132 = .ok (.ladd, 1) := by decide +kernel
theorem d_Md_carry_133 : decode b_Md_carry 133 = .ok (.putfield 158, 3) := by decide +kernel
theorem d_Md_carry_136 : decode b_Md_carry 136 = .ok (.aload_n 0, 1) := by decide +kernel
theorem d_Md_carry_137 : decode b_Md_carry 137 = .ok (.dup, 1) := by decide +kernel
theorem d_Md_carry_138 : decode b_Md_carry 138 = .ok (.getfield 162, 3) := by decide +kernel
theorem d_Md_carry_141 : decode b_Md_carry 141 = .ok (.aload_n 0, 1) := by decide +kernel
theorem d_Md_carry_142 : decode b_Md_carry 142 = .ok (.getfield 45, 3) := by decide +kernel
theorem d_Md_carry_145 : decode b_Md_carry 145 = .ok (.iload 6, 2) := by decide +kernel
theorem d_Md_carry_147 : decode b_Md_carry 147 = .ok (.laload, 1) := by decide +kernel
theorem d_Md_carry_148 : decode b_Md_carry 148 = .ok (.aload_n 0, 1) := by decide +kernel
theorem d_Md_carry_149 : decode b_Md_carry 149 = .ok (.getfield 91, 3) := by decide +kernel
theorem d_Md_carry_152 : decode b_Md_carry 152 = .ok (.iload 5, 2) := by decide +kernel
theorem d_Md_carry_154 : decode b_Md_carry 154 = .ok (.iaload, 1) := by decide +kernel
theorem d_Md_carry_155 : decode b_Md_carry 155 = .ok (.i2l, 1) := by decide +kernel
theorem d_Md_carry_156 : decode b_Md_carry 156 = .ok (.aload_n 0, 1) := by decide +kernel
theorem d_Md_carry_157 : decode b_Md_carry 157 = .ok (.getfield 60, 3) := by decide +kernel
theorem d_Md_carry_160 : decode b_Md_carry 160 = .ok (.iload 6, 2) := by decide +kernel
theorem d_Md_carry_162 : decode b_Md_carry 162 = .ok (.laload, 1) := by decide +kernel
theorem d_Md_carry_163 : decode b_Md_carry 163 = .ok (.lmul, 1) := by decide +kernel
theorem d_Md_carry_164 : decode b_Md_carry 164 = .ok (.ladd, 1) := by decide +kernel
theorem d_Md_carry_165 : decode b_Md_carry 165 = .ok (.ladd, 1) := by decide +kernel
theorem d_Md_carry_166 : decode b_Md_carry 166 = .ok (.putfield 162, 3) := by decide +kernel
theorem d_Md_carry_169 : decode b_Md_carry 169 = .ok (.iinc 5 (-1), 3) := by decide +kernel
theorem d_Md_carry_172 : decode b_Md_carry 172 = .ok (.goto (-154), 3) := by decide +kernel
theorem d_Md_carry_175 : decode b_Md_carry 175 = .ok (.return_, 1) := by decide +kernel
theorem d_Md_isNext_0 : decode b_Md_isNext 0 = .ok (.aload_n 0, 1) := by decide +kernel
theorem d_Md_isNext_1 : decode b_Md_isNext 1 = .ok (.getfield 85, 3) := by decide +kernel
theorem d_Md_isNext_4 : decode b_Md_isNext 4 = .ok (.iload_n 1, 1) := by decide +kernel
theorem d_Md_isNext_5 : decode b_Md_isNext 5 = .ok (.iaload, 1) := by decide +kernel
theorem d_Md_isNext_6 : decode b_Md_isNext 6 = .ok (.istore_n 2, 1) := by decide +kernel
theorem d_Md_isNext_7 : decode b_Md_isNext 7 = .ok (.iload_n 2, 1) := by decide +kernel
theorem d_Md_isNext_8 : decode b_Md_isNext 8 = .ok (.iconst (-1), 1) := by decide +kernel
theorem d_Md_isNext_9 : decode b_Md_isNext 9 = .ok (.if_icmp .eq 64, 3) := by decide +kernel
theorem d_Md_isNext_12 : decode b_Md_isNext 12 = .ok (.aload_n 0, 1) := by decide +kernel
theorem d_Md_isNext_13 : decode b_Md_isNext 13 = .ok (.getfield 88, 3) := by decide +kernel
theorem d_Md_isNext_16 : decode b_Md_isNext 16 = .ok (.iload_n 1, 1) := by decide +kernel
theorem d_Md_isNext_17 : decode b_Md_isNext 17 = .ok (.dup2, 1) := by decide +kernel
theorem d_Md_isNext_18 : decode b_Md_isNext 18 = .ok (.iaload, 1) := by decide +kernel
theorem d_Md_isNext_19 : decode b_Md_isNext 19 = .ok (.iconst 1, 1) := by decide +kernel
theorem d_Md_isNext_20 : decode b_Md_isNext 20 = .ok (.iadd, 1) := by decide +kernel
theorem d_Md_isNext_21 : decode b_Md_isNext 21 = .ok (.iastore, 1) := by decide +kernel
theorem d_Md_isNext_22 : decode b_Md_isNext 22 = .ok (.aload_n 0, 1) := by decide +kernel
theorem d_Md_isNext_23 : decode b_Md_isNext 23 = .ok (.getfield 88, 3) := by decide +kernel
theorem d_Md_isNext_26 : decode b_Md_isNext 26 = .ok (.iload_n 1, 1) := by decide +kernel
theorem d_Md_isNext_27 : decode b_Md_isNext 27 = .ok (.iaload, 1) := by decide +kernel
theorem d_Md_isNext_28 : decode b_Md_isNext 28 = .ok (.aload_n 0, 1) := by decide +kernel
theorem d_Md_isNext_29 : decode b_Md_isNext 29 = .ok (.getfield 51, 3) := by decide +kernel
theorem d_Md_isNext_32 : decode b_Md_isNext 32 = .ok (.iload_n 2, 1) := by decide +kernel
theorem d_Md_isNext_33 : decode b_Md_isNext 33 = .ok (.iaload, 1) := by decide +kernel
theorem d_Md_isNext_34 : decode b_Md_isNext 34 = .ok (.if_icmp .ge 5, 3) := by decide +kernel
theorem d_Md_isNext_37 : decode b_Md_isNext 37 = .ok (.iconst 1, 1) := by decide +kernel
theorem d_Md_isNext_38 : decode b_Md_isNext 38 = .ok (.ireturn, 1) := by decide +kernel
theorem d_Md_isNext_39 : decode b_Md_isNext 39 = .ok (.aload_n 0, 1) := by decide +kernel
theorem d_Md_isNext_40 : decode b_Md_isNext 40 = .ok (.getfield 88, 3) := by decide +kernel
theorem d_Md_isNext_43 : decode b_Md_isNext 43 = .ok (.iload_n 1, 1) := by decide +kernel
theorem d_Md_isNext_44 : decode b_Md_isNext 44 = .ok (.iconst 0, 1) := by decide +kernel
theorem d_Md_isNext_45 : decode b_Md_isNext 45 = .ok (.iastore, 1) := by decide +kernel
theorem d_Md_isNext_46 : decode b_Md_isNext 46 = .ok (.aload_n 0, 1) := by decide +kernel
theorem d_Md_isNext_47 : decode b_Md_isNext 47 = .ok (.getfield 91, 3) := by decide +kernel
theorem d_Md_isNext_50 : decode b_Md_isNext 50 = .ok (.iload_n 1, 1) := by decide +kernel
theorem d_Md_isNext_51 : decode b_Md_isNext 51 = .ok (.dup2, 1) := by decide +kernel
theorem d_Md_isNext_52 : decode b_Md_isNext 52 = .ok (.iaload, 1) := by decide +kernel
theorem d_Md_isNext_53 : decode b_Md_isNext 53 = .ok (.iconst 1, 1) := by decide +kernel
theorem d_Md_isNext_54 : decode b_Md_isNext 54 = .ok (.iadd, 1) := by decide +kernel
theorem d_Md_isNext_55 : decode b_Md_isNext 55 = .ok (.iastore, 1) := by decide +kernel
theorem d_Md_isNext_56 : decode b_Md_isNext 56 = .ok (.aload_n 0, 1) := by decide +kernel
theorem d_Md_isNext_57 : decode b_Md_isNext 57 = .ok (.getfield 91, 3) := by decide +kernel
theorem d_Md_isNext_60 : decode b_Md_isNext 60 = .ok (.iload_n 1, 1) := by decide +kernel
theorem d_Md_isNext_61 : decode b_Md_isNext 61 = .ok (.iaload, 1) := by decide +kernel
theorem d_Md_isNext_62 : decode b_Md_isNext 62 = .ok (.aload_n 0, 1) := by decide +kernel
theorem d_Md_isNext_63 : decode b_Md_isNext 63 = .ok (.getfield 54, 3) := by decide +kernel
theorem d_Md_isNext_66 : decode b_Md_isNext 66 = .ok (.iload_n 2, 1) := by decide +kernel
theorem d_Md_isNext_67 : decode b_Md_isNext 67 = .ok (.iaload, 1) := by decide +kernel
theorem d_Md_isNext_68 : decode b_Md_isNext 68 = .ok (.if_icmp .ge 5, 3) := by decide +kernel
theorem d_Md_isNext_71 : decode b_Md_isNext 71 = .ok (.iconst 1, 1) := by decide +kernel
theorem d_Md_isNext_72 : decode b_Md_isNext 72 = .ok (.ireturn, 1) := by decide +kernel
theorem d_Md_isNext_73 : decode b_Md_isNext 73 = .ok (.iinc 2 1, 3) := by decide +kernel
theorem d_Md_isNext_76 : decode b_Md_isNext 76 = .ok (.iload_n 2, 1) := by decide +kernel
theorem d_Md_isNext_77 : decode b_Md_isNext 77 = .ok (.aload_n 0, 1) := by decide +kernel
theorem d_Md_isNext_78 : decode b_Md_isNext 78 = .ok (.getfield 148, 3) := by decide +kernel
theorem d_Md_isNext_81 : decode b_Md_isNext 81 = .ok (.if_icmp .ge 40, 3) := by decide +kernel
theorem d_Md_isNext_84 : decode b_Md_isNext 84 = .ok (.aload_n 0, 1) := by decide +kernel
theorem d_Md_isNext_85 : decode b_Md_isNext 85 = .ok (.getfield 36, 3) := by decide +kernel
theorem d_Md_isNext_88 : decode b_Md_isNext 88 = .ok (.iload_n 2, 1) := by decide +kernel
theorem d_Md_isNext_89 : decode b_Md_isNext 89 = .ok (.iaload, 1) := by decide +kernel
theorem d_Md_isNext_90 : decode b_Md_isNext 90 = .ok (.aload_n 0, 1) := by decide +kernel
theorem d_Md_isNext_91 : decode b_Md_isNext 91 = .ok (.getfield 82, 3) := by decide +kernel
theorem d_Md_isNext_94 : decode b_Md_isNext 94 = .ok (.iload_n 1, 1) := by decide +kernel
theorem d_Md_isNext_95 : decode b_Md_isNext 95 = .ok (.iaload, 1) := by decide +kernel
theorem d_Md_isNext_96 : decode b_Md_isNext 96 = .ok (.if_icmp .ne 19, 3) := by decide +kernel
theorem d_Md_isNext_99 : decode b_Md_isNext 99 = .ok (.aload_n 0, 1) := by decide +kernel
theorem d_Md_isNext_100 : decode b_Md_isNext 100 = .ok (.getfield 79, 3) := by decide +kernel
theorem d_Md_isNext_103 : decode b_Md_isNext 103 = .ok (.aload_n 0, 1) := by decide +kernel
theorem d_Md_isNext_104 : decode b_Md_isNext 104 = .ok (.getfield 39, 3) := by decide +kernel
theorem d_Md_isNext_107 : decode b_Md_isNext 107 = .ok (.iload_n 2, 1) := by decide +kernel
theorem d_Md_isNext_108 : decode b_Md_isNext 108 = .ok (.iaload, 1) := by decide +kernel
theorem d_Md_isNext_109 : decode b_Md_isNext 109 = .ok (.laload, 1) := by decide +kernel
theorem d_Md_isNext_110 : decode b_Md_isNext 110 = .ok (.lconst 0, 1) := by decide +kernel
theorem d_Md_isNext_111 : decode b_Md_isNext 111 = .ok (.lcmp, 1) := by decide +kernel
theorem d_Md_isNext_112 : decode b_Md_isNext 112 = .ok (.ifCond .ne 9, 3) := by decide +kernel
theorem d_Md_isNext_115 : decode b_Md_isNext 115 = .ok (.iinc 2 1, 3) := by decide +kernel
theorem d_Md_isNext_118 : decode b_Md_isNext 118 = .ok (.goto (-42), 3) := by decide +kernel
theorem d_Md_isNext_121 : decode b_Md_isNext 121 = .ok (.aload_n 0, 1) := by decide +kernel
theorem d_Md_isNext_122 : decode b_Md_isNext 122 = .ok (.getfield 85, 3) := by decide +kernel
theorem d_Md_isNext_125 : decode b_Md_isNext 125 = .ok (.iload_n 1, 1) := by decide +kernel
theorem d_Md_isNext_126 : decode b_Md_isNext 126 = .ok (.iload_n 2, 1) := by decide +kernel
theorem d_Md_isNext_127 : decode b_Md_isNext 127 = .ok (.iastore, 1) := by decide +kernel
theorem d_Md_isNext_128 : decode b_Md_isNext 128 = .ok (.aload_n 0, 1) := by decide +kernel
theorem d_Md_isNext_129 : decode b_Md_isNext 129 = .ok (.getfield 88, 3) := by decide +kernel
theorem d_Md_isNext_132 : decode b_Md_isNext 132 = .ok (.iload_n 1, 1) := by decide +kernel
theorem d_Md_isNext_133 : decode b_Md_isNext 133 = .ok (.iconst 0, 1) := by decide +kernel
theorem d_Md_isNext_134 : decode b_Md_isNext 134 = .ok (.iastore, 1) := by decide +kernel
theorem d_Md_isNext_135 : decode b_Md_isNext 135 = .ok (.aload_n 0, 1) := by decide +kernel
theorem d_Md_isNext_136 : decode b_Md_isNext 136 = .ok (.getfield 91, 3) := by decide +kernel
theorem d_Md_isNext_139 : decode b_Md_isNext 139 = .ok (.iload_n 1, 1) := by decide +kernel
theorem d_Md_isNext_140 : decode b_Md_isNext 140 = .ok (.iconst 0, 1) := by decide +kernel
theorem d_Md_isNext_141 : decode b_Md_isNext 141 = .ok (.iastore, 1) := by decide +kernel
theorem d_Md_isNext_142 : decode b_Md_isNext 142 = .ok (.iload_n 2, 1) := by decide +kernel
theorem d_Md_isNext_143 : decode b_Md_isNext 143 = .ok (.aload_n 0, 1) := by decide +kernel
theorem d_Md_isNext_144 : decode b_Md_isNext 144 = .ok (.getfield 148, 3) := by decide +kernel
theorem d_Md_isNext_147 : decode b_Md_isNext 147 = .ok (.if_icmp .ge 7, 3) := by decide +kernel
theorem d_Md_isNext_150 : decode b_Md_isNext 150 = .ok (.iconst 1, 1) := by decide +kernel
theorem d_Md_isNext_151 : decode b_Md_isNext 151 = .ok (.goto 4, 3) := by decide +kernel
theorem d_Md_isNext_154 : decode b_Md_isNext 154 = .ok (.iconst 0, 1) := by decide +kernel
theorem d_Md_isNext_155 : decode b_Md_isNext 155 = .ok (.ireturn, 1) := by decide +kernel
theorem d_Md_at_0 : decode b_Md_at 0 = .ok (.aload_n 0, 1) := by decide +kernel
theorem d_Md_at_1 : decode b_Md_at 1 = .ok (.iload_n 1, 1) := by decide +kernel
theorem d_Md_at_2 : decode b_Md_at 2 = .ok (.ifCond .lt 20, 3) := by decide +kernel
theorem d_Md_at_5 : decode b_Md_at 5 = .ok (.iload_n 1, 1) := by decide +kernel
theorem d_Md_at_6 : decode b_Md_at 6 = .ok (.aload_n 0, 1) := by decide +kernel
theorem d_Md_at_7 : decode b_Md_at 7 = .ok (.getfield 188, 3) := by decide +kernel
theorem d_Md_at_10 : decode b_Md_at 10 = .ok (.if_icmp .ge 12, 3) := by decide +kernel
theorem d_Md_at_13 : decode b_Md_at 13 = .ok (.iload_n 3, 1) := by decide +kernel
theorem d_Md_at_14 : decode b_Md_at 14 = .ok (.ifCond .lt 8, 3) := by decide +kernel
theorem d_Md_at_17 : decode b_Md_at 17 = .ok (.iload_n 3, 1) := by decide +kernel
theorem d_Md_at_18 : decode b_Md_at 18 = .ok (.iconst 1, 1) := by decide +kernel
theorem d_Md_at_19 : decode b_Md_at 19 = .ok (.if_icmp .le 7, 3) := by decide +kernel
theorem d_Md_at_22 : decode b_Md_at 22 = .ok (.iconst 1, 1) := by decide +kernel
theorem d_Md_at_23 : decode b_Md_at 23 = .ok (.goto 26, 3) := by decide +kernel
theorem d_Md_at_26 : decode b_Md_at 26 = .ok (.iload_n 2, 1) := by decide +kernel
theorem d_Md_at_27 : decode b_Md_at 27 = .ok (.ifCond .lt 17, 3) := by decide +kernel
theorem d_Md_at_30 : decode b_Md_at 30 = .ok (.iload_n 2, 1) := by decide +kernel
theorem d_Md_at_31 : decode b_Md_at 31 = .ok (.aload_n 0, 1) := by decide +kernel
theorem d_Md_at_32 : decode b_Md_at 32 = .ok (.getfield 73, 3) := by decide +kernel
theorem d_Md_at_35 : decode b_Md_at 35 = .ok (.sipush 6000, 3) := by decide +kernel
theorem d_Md_at_38 : decode b_Md_at 38 = .ok (.iload_n 1, 1) := by decide +kernel
theorem d_Md_at_39 : decode b_Md_at 39 = .ok (.iadd, 1) := by decide +kernel
theorem d_Md_at_40 : decode b_Md_at 40 = .ok (.iaload, 1) := by decide +kernel
theorem d_Md_at_41 : decode b_Md_at 41 = .ok (.if_icmp .lt 7, 3) := by decide +kernel
theorem d_Md_at_44 : decode b_Md_at 44 = .ok (.iconst 1, 1) := by decide +kernel
theorem d_Md_at_45 : decode b_Md_at 45 = .ok (.goto 4, 3) := by decide +kernel
theorem d_Md_at_48 : decode b_Md_at 48 = .ok (.iconst 0, 1) := by decide +kernel
theorem d_Md_at_49 : decode b_Md_at 49 = .ok (.putfield 108, 3) := by decide +kernel
theorem d_Md_at_52 : decode b_Md_at 52 = .ok (.ldc 191, 2) := by decide +kernel
theorem d_Md_at_54 : decode b_Md_at 54 = .ok (.bipush 24, 2) := by decide +kernel
theorem d_Md_at_56 : decode b_Md_at 56 = .ok (.iload_n 1, 1) := by decide +kernel
theorem d_Md_at_57 : decode b_Md_at 57 = .ok (.imul, 1) := by decide +kernel
theorem d_Md_at_58 : decode b_Md_at 58 = .ok (.iadd, 1) := by decide +kernel
theorem d_Md_at_59 : decode b_Md_at 59 = .ok (.iload_n 2, 1) := by decide +kernel
theorem d_Md_at_60 : decode b_Md_at 60 = .ok (.iadd, 1) := by decide +kernel
theorem d_Md_at_61 : decode b_Md_at 61 = .ok (.istore 4, 2) := by decide +kernel
theorem d_Md_at_63 : decode b_Md_at 63 = .ok (.aload_n 0, 1) := by decide +kernel
theorem d_Md_at_64 : decode b_Md_at 64 = .ok (.getfield 108, 3) := by decide +kernel
theorem d_Md_at_67 : decode b_Md_at 67 = .ok (.ifCond .le 7, 3) := by decide +kernel
theorem d_Md_at_70 : decode b_Md_at 70 = .ok (.lconst 0, 1) := by decide +kernel
theorem d_Md_at_71 : decode b_Md_at 71 = .ok (.goto 24, 3) := by decide +kernel
theorem d_Md_at_74 : decode b_Md_at 74 = .ok (.iload_n 3, 1) := by decide +kernel
theorem d_Md_at_75 : decode b_Md_at 75 = .ok (.ifCond .ne 13, 3) := by decide +kernel
theorem d_Md_at_78 : decode b_Md_at 78 = .ok (.aload_n 0, 1) := by decide +kernel
theorem d_Md_at_79 : decode b_Md_at 79 = .ok (.getfield 64, 3) := by decide +kernel
theorem d_Md_at_82 : decode b_Md_at 82 = .ok (.iload 4, 2) := by decide +kernel
theorem d_Md_at_84 : decode b_Md_at 84 = .ok (.laload, 1) := by decide +kernel
theorem d_Md_at_85 : decode b_Md_at 85 = .ok (.goto 10, 3) := by decide +kernel
theorem d_Md_at_88 : decode b_Md_at 88 = .ok (.aload_n 0, 1) := by decide +kernel
theorem d_Md_at_89 : decode b_Md_at 89 = .ok (.getfield 67, 3) := by decide +kernel
theorem d_Md_at_92 : decode b_Md_at 92 = .ok (.iload 4, 2) := by decide +kernel
theorem d_Md_at_94 : decode b_Md_at 94 = .ok (.laload, 1) := by decide +kernel
theorem d_Md_at_95 : decode b_Md_at 95 = .ok (.lreturn, 1) := by decide +kernel
theorem d_Md_box_0 : decode b_Md_box 0 = .ok (.aload_n 0, 1) := by decide +kernel
theorem d_Md_box_1 : decode b_Md_box 1 = .ok (.aload_n 0, 1) := by decide +kernel
theorem d_Md_box_2 : decode b_Md_box 2 = .ok (.iload_n 1, 1) := by decide +kernel
theorem d_Md_box_3 : decode b_Md_box 3 = .ok (.invokevirtual 121, 3) := by decide +kernel
theorem d_Md_box_6 : decode b_Md_box 6 = .ok (.ifCond .eq 20, 3) := by decide +kernel
theorem d_Md_box_9 : decode b_Md_box 9 = .ok (.aload_n 0, 1) := by decide +kernel
theorem d_Md_box_10 : decode b_Md_box 10 = .ok (.iload_n 2, 1) := by decide +kernel
theorem d_Md_box_11 : decode b_Md_box 11 = .ok (.invokevirtual 125, 3) := by decide +kernel
theorem d_Md_box_14 : decode b_Md_box 14 = .ok (.ifCond .eq 12, 3) := by decide +kernel
theorem d_Md_box_17 : decode b_Md_box 17 = .ok (.iload_n 3, 1) := by decide +kernel
theorem d_Md_box_18 : decode b_Md_box 18 = .ok (.ifCond .lt 8, 3) := by decide +kernel
theorem d_Md_box_21 : decode b_Md_box 21 = .ok (.iload_n 3, 1) := by decide +kernel
theorem d_Md_box_22 : decode b_Md_box 22 = .ok (.iconst 3, 1) := by decide +kernel
theorem d_Md_box_23 : decode b_Md_box 23 = .ok (.if_icmp .le 7, 3) := by decide +kernel
theorem d_Md_box_26 : decode b_Md_box 26 = .ok (.iconst 1, 1) := by decide +kernel
theorem d_Md_box_27 : decode b_Md_box 27 = .ok (.goto 4, 3) := by decide +kernel
theorem d_Md_box_30 : decode b_Md_box 30 = .ok (.iconst 0, 1) := by decide +kernel
theorem d_Md_box_31 : decode b_Md_box 31 = .ok (.putfield 108, 3) := by decide +kernel
theorem d_Md_box_34 : decode b_Md_box 34 = .ok (.aload_n 0, 1) := by decide +kernel
theorem d_Md_box_35 : decode b_Md_box 35 = .ok (.getfield 108, 3) := by decide +kernel
theorem d_Md_box_38 : decode b_Md_box 38 = .ok (.ifCond .le 5, 3) := by decide +kernel
theorem d_Md_box_41 : decode b_Md_box 41 = .ok (.lconst 0, 1) := by decide +kernel
theorem d_Md_box_42 : decode b_Md_box 42 = .ok (.lreturn, 1) := by decide +kernel
theorem d_Md_box_43 : decode b_Md_box 43 = .ok (.iconst 0, 1) := by decide +kernel
theorem d_Md_box_44 : decode b_Md_box 44 = .ok (.istore 4, 2) := by decide +kernel
theorem d_Md_box_46 : decode b_Md_box 46 = .ok (.iload 4, 2) := by decide +kernel
theorem d_Md_box_48 : decode b_Md_box 48 = .ok (.bipush 20, 2) := by decide +kernel
theorem d_Md_box_50 : decode b_Md_box 50 = .ok (.if_icmp .ge 17, 3) := by decide +kernel
theorem d_Md_box_53 : decode b_Md_box 53 = .ok (.aload_n 0, 1) := by decide +kernel
theorem d_Md_box_54 : decode b_Md_box 54 = .ok (.getfield 97, 3) := by decide +kernel
theorem d_Md_box_57 : decode b_Md_box 57 = .ok (.iload 4, 2) := by decide +kernel
theorem d_Md_box_59 : decode b_Md_box 59 = .ok (.iconst 0, 1) := by decide +kernel
theorem d_Md_box_60 : decode b_Md_box 60 = .ok (.bastore, 1) := by decide +kernel
theorem d_Md_box_61 : decode b_Md_box 61 = .ok (.iinc 4 1, 3) := by decide +kernel
theorem d_Md_box_64 : decode b_Md_box 64 = .ok (.goto (-18), 3) := by decide +kernel
theorem d_Md_box_67 : decode b_Md_box 67 = .ok (.iconst 0, 1) := by decide +kernel
theorem d_Md_box_68 : decode b_Md_box 68 = .ok (.istore 4, 2) := by decide +kernel
theorem d_Md_box_70 : decode b_Md_box 70 = .ok (.iload 4, 2) := by decide +kernel
theorem d_Md_box_72 : decode b_Md_box 72 = .ok (.bipush 20, 2) := by decide +kernel
theorem d_Md_box_74 : decode b_Md_box 74 = .ok (.if_icmp .ge 34, 3) := by decide +kernel
theorem d_Md_box_77 : decode b_Md_box 77 = .ok (.iconst 0, 1) := by decide +kernel
theorem d_Md_box_78 : decode b_Md_box 78 = .ok (.istore 5, 2) := by decide +kernel
theorem d_Md_box_80 : decode b_Md_box 80 = .ok (.iload 5, 2) := by decide +kernel
theorem d_Md_box_82 : decode b_Md_box 82 = .ok (.aload_n 0, 1) := by decide +kernel
theorem d_Md_box_83 : decode b_Md_box 83 = .ok (.getfield 111, 3) := by decide +kernel
theorem d_Md_box_86 : decode b_Md_box 86 = .ok (.if_icmp .ge 16, 3) := by decide +kernel
theorem d_Md_box_89 : decode b_Md_box 89 = .ok (.aload_n 0, 1) := by decide +kernel
theorem d_Md_box_90 : decode b_Md_box 90 = .ok (.iload 5, 2) := by decide +kernel
theorem d_Md_box_92 : decode b_Md_box 92 = .ok (.iload_n 2, 1) := by decide +kernel
theorem d_Md_box_93 : decode b_Md_box 93 = .ok (.invokevirtual 221, 3) := by decide +kernel
theorem d_Md_box_96 : decode b_Md_box 96 = .ok (.iinc 5 1, 3) := by decide +kernel
theorem d_Md_box_99 : decode b_Md_box 99 = .ok (.goto (-19), 3) := by decide +kernel
theorem d_Md_box_102 : decode b_Md_box 102 = .ok (.iinc 4 1, 3) := by decide +kernel
theorem d_Md_box_105 : decode b_Md_box 105 = .ok (.goto (-35), 3) := by decide +kernel
theorem d_Md_box_108 : decode b_Md_box 108 = .ok (.aload_n 0, 1) := by decide +kernel
theorem d_Md_box_109 : decode b_Md_box 109 = .ok (.aload_n 0, 1) := by decide +kernel
theorem d_Md_box_110 : decode b_Md_box 110 = .ok (.getfield 97, 3) := by decide +kernel
theorem d_Md_box_113 : decode b_Md_box 113 = .ok (.iload_n 1, 1) := by decide +kernel
theorem d_Md_box_114 : decode b_Md_box 114 = .ok (.baload, 1) := by decide +kernel
theorem d_Md_box_115 : decode b_Md_box 115 = .ok (.ifCond .eq 7, 3) := by decide +kernel
theorem d_Md_box_118 : decode b_Md_box 118 = .ok (.iconst 0, 1) := by decide +kernel
theorem d_Md_box_119 : decode b_Md_box 119 = .ok (.goto 4, 3) := by decide +kernel
theorem d_Md_box_122 : decode b_Md_box 122 = .ok (.iconst 2, 1) := by decide +kernel
theorem d_Md_box_123 : decode b_Md_box 123 = .ok (.putfield 108, 3) := by decide +kernel
theorem d_Md_box_126 : decode b_Md_box 126 = .ok (.aload_n 0, 1) := by decide +kernel
theorem d_Md_box_127 : decode b_Md_box 127 = .ok (.getfield 108, 3) := by decide +kernel
theorem d_Md_box_130 : decode b_Md_box 130 = .ok (.ifCond .le 7, 3) := by decide +kernel
theorem d_Md_box_133 : decode b_Md_box 133 = .ok (.lconst 0, 1) := by decide +kernel
theorem d_Md_box_134 : decode b_Md_box 134 = .ok (.goto 13, 3) := by decide +kernel
theorem d_Md_box_137 : decode b_Md_box 137 = .ok (.aload_n 0, 1) := by decide +kernel
theorem d_Md_box_138 : decode b_Md_box 138 = .ok (.getfield 94, 3) := by decide +kernel
theorem d_Md_box_141 : decode b_Md_box 141 = .ok (.iconst 4, 1) := by decide +kernel
theorem d_Md_box_142 : decode b_Md_box 142 = .ok (.iload_n 1, 1) := by decide +kernel
theorem d_Md_box_143 : decode b_Md_box 143 = .ok (.imul, 1) := by decide +kernel
theorem d_Md_box_144 : decode b_Md_box 144 = .ok (.iload_n 3, 1) := by decide +kernel
theorem d_Md_box_145 : decode b_Md_box 145 = .ok (.iadd, 1) := by decide +kernel
theorem d_Md_box_146 : decode b_Md_box 146 = .ok (.laload, 1) := by decide +kernel
theorem d_Md_box_147 : decode b_Md_box 147 = .ok (.lreturn, 1) := by decide +kernel
theorem d_Md_cellBox_0 : decode b_Md_cellBox 0 = .ok (.aload_n 0, 1) := by decide +kernel
theorem d_Md_cellBox_1 : decode b_Md_cellBox 1 = .ok (.iconst 0, 1) := by decide +kernel
theorem d_Md_cellBox_2 : decode b_Md_cellBox 2 = .ok (.putfield 192, 3) := by decide +kernel
theorem d_Md_cellBox_5 : decode b_Md_cellBox 5 = .ok (.aload_n 0, 1) := by decide +kernel
theorem d_Md_cellBox_6 : decode b_Md_cellBox 6 = .ok (.iconst 0, 1) := by decide +kernel
theorem d_Md_cellBox_7 : decode b_Md_cellBox 7 = .ok (.putfield 165, 3) := by decide +kernel
theorem d_Md_cellBox_10 : decode b_Md_cellBox 10 = .ok (.aload_n 0, 1) := by decide +kernel
theorem d_Md_cellBox_11 : decode b_Md_cellBox 11 = .ok (.getfield 82, 3) := by decide +kernel
theorem d_Md_cellBox_14 : decode b_Md_cellBox 14 = .ok (.iconst 0, 1) := by decide +kernel
theorem d_Md_cellBox_15 : decode b_Md_cellBox 15 = .ok (.iload_n 1, 1) := by decide +kernel
theorem d_Md_cellBox_16 : decode b_Md_cellBox 16 = .ok (.iastore, 1) := by decide +kernel
theorem d_Md_cellBox_17 : decode b_Md_cellBox 17 = .ok (.aload_n 0, 1) := by decide +kernel
theorem d_Md_cellBox_18 : decode b_Md_cellBox 18 = .ok (.iconst 0, 1) := by decide +kernel
theorem d_Md_cellBox_19 : decode b_Md_cellBox 19 = .ok (.iconst 0, 1) := by decide +kernel
theorem d_Md_cellBox_20 : decode b_Md_cellBox 20 = .ok (.iload_n 2, 1) := by decide +kernel
theorem d_Md_cellBox_21 : decode b_Md_cellBox 21 = .ok (.invokevirtual 173, 3) := by decide +kernel
theorem d_Md_cellBox_24 : decode b_Md_cellBox 24 = .ok (.istore_n 3, 1) := by decide +kernel
theorem d_Md_cellBox_25 : decode b_Md_cellBox 25 = .ok (.iconst 0, 1) := by decide +kernel
theorem d_Md_cellBox_26 : decode b_Md_cellBox 26 = .ok (.istore 4, 2) := by decide +kernel
theorem d_Md_cellBox_28 : decode b_Md_cellBox 28 = .ok (.iload 4, 2) := by decide +kernel
theorem d_Md_cellBox_30 : decode b_Md_cellBox 30 = .ok (.iload_n 3, 1) := by decide +kernel
theorem d_Md_cellBox_31 : decode b_Md_cellBox 31 = .ok (.if_icmp .ge 16, 3) := by decide +kernel
theorem d_Md_cellBox_34 : decode b_Md_cellBox 34 = .ok (.aload_n 0, 1) := by decide +kernel
theorem d_Md_cellBox_35 : decode b_Md_cellBox 35 = .ok (.iconst 0, 1) := by decide +kernel
theorem d_Md_cellBox_36 : decode b_Md_cellBox 36 = .ok (.iload 4, 2) := by decide +kernel
theorem d_Md_cellBox_38 : decode b_Md_cellBox 38 = .ok (.invokevirtual 217, 3) := by decide +kernel
theorem d_Md_cellBox_41 : decode b_Md_cellBox 41 = .ok (.iinc 4 1, 3) := by decide +kernel
theorem d_Md_cellBox_44 : decode b_Md_cellBox 44 = .ok (.goto (-16), 3) := by decide +kernel
theorem d_Md_cellBox_47 : decode b_Md_cellBox 47 = .ok (.iconst 0, 1) := by decide +kernel
theorem d_Md_cellBox_48 : decode b_Md_cellBox 48 = .ok (.istore 4, 2) := by decide +kernel
theorem d_Md_cellBox_50 : decode b_Md_cellBox 50 = .ok (.iload 4, 2) := by decide +kernel
theorem d_Md_cellBox_52 : decode b_Md_cellBox 52 = .ok (.aload_n 0, 1) := by decide +kernel
theorem d_Md_cellBox_53 : decode b_Md_cellBox 53 = .ok (.getfield 148, 3) := by decide +kernel
theorem d_Md_cellBox_56 : decode b_Md_cellBox 56 = .ok (.if_icmp .ge 174, 3) := by decide +kernel
theorem d_Md_cellBox_59 : decode b_Md_cellBox 59 = .ok (.aload_n 0, 1) := by decide +kernel
theorem d_Md_cellBox_60 : decode b_Md_cellBox 60 = .ok (.getfield 39, 3) := by decide +kernel
theorem d_Md_cellBox_63 : decode b_Md_cellBox 63 = .ok (.iload 4, 2) := by decide +kernel
theorem d_Md_cellBox_65 : decode b_Md_cellBox 65 = .ok (.iaload, 1) := by decide +kernel
theorem d_Md_cellBox_66 : decode b_Md_cellBox 66 = .ok (.istore 5, 2) := by decide +kernel
theorem d_Md_cellBox_68 : decode b_Md_cellBox 68 = .ok (.aload_n 0, 1) := by decide +kernel
theorem d_Md_cellBox_69 : decode b_Md_cellBox 69 = .ok (.getfield 36, 3) := by decide +kernel
theorem d_Md_cellBox_72 : decode b_Md_cellBox 72 = .ok (.iload 4, 2) := by decide +kernel
theorem d_Md_cellBox_74 : decode b_Md_cellBox 74 = .ok (.iaload, 1) := by decide +kernel
theorem d_Md_cellBox_75 : decode b_Md_cellBox 75 = .ok (.iload_n 1, 1) := by decide +kernel
theorem d_Md_cellBox_76 : decode b_Md_cellBox 76 = .ok (.if_icmp .ne 148, 3) := by decide +kernel
theorem d_Md_cellBox_79 : decode b_Md_cellBox 79 = .ok (.aload_n 0, 1) := by decide +kernel
theorem d_Md_cellBox_80 : decode b_Md_cellBox 80 = .ok (.getfield 97, 3) := by decide +kernel
theorem d_Md_cellBox_83 : decode b_Md_cellBox 83 = .ok (.iload 5, 2) := by decide +kernel
theorem d_Md_cellBox_85 : decode b_Md_cellBox 85 = .ok (.baload, 1) := by decide +kernel
theorem d_Md_cellBox_86 : decode b_Md_cellBox 86 = .ok (.ifCond .ne 6, 3) := by decide +kernel
theorem d_Md_cellBox_89 : decode b_Md_cellBox 89 = .ok (.goto 135, 3) := by decide +kernel
theorem d_Md_cellBox_92 : decode b_Md_cellBox 92 = .ok (.aload_n 0, 1) := by decide +kernel
theorem d_Md_cellBox_93 : decode b_Md_cellBox 93 = .ok (.iconst 1, 1) := by decide +kernel
theorem d_Md_cellBox_94 : decode b_Md_cellBox 94 = .ok (.putfield 165, 3) := by decide +kernel
theorem d_Md_cellBox_97 : decode b_Md_cellBox 97 = .ok (.aload_n 0, 1) := by decide +kernel
theorem d_Md_cellBox_98 : decode b_Md_cellBox 98 = .ok (.getfield 85, 3) := by decide +kernel
theorem d_Md_cellBox_101 : decode b_Md_cellBox 101 = .ok (.iconst 0, 1) := by decide +kernel
theorem d_Md_cellBox_102 : decode b_Md_cellBox 102 = .ok (.iload 4, 2) := by decide +kernel
theorem d_Md_cellBox_104 : decode b_Md_cellBox 104 = .ok (.iastore, 1) := by decide +kernel
theorem d_Md_cellBox_105 : decode b_Md_cellBox 105 = .ok (.iconst 0, 1) := by decide +kernel
theorem d_Md_cellBox_106 : decode b_Md_cellBox 106 = .ok (.istore 6, 2) := by decide +kernel
theorem d_Md_cellBox_108 : decode b_Md_cellBox 108 = .ok (.iload 6, 2) := by decide +kernel
theorem d_Md_cellBox_110 : decode b_Md_cellBox 110 = .ok (.bipush 16, 2) := by decide +kernel
theorem d_Md_cellBox_112 : decode b_Md_cellBox 112 = .ok (.if_icmp .ge 112, 3) := by decide +kernel
theorem d_Md_cellBox_115 : decode b_Md_cellBox 115 = .ok (.aload_n 0, 1) := by decide +kernel
theorem d_Md_cellBox_116 : decode b_Md_cellBox 116 = .ok (.getfield 88, 3) := by decide +kernel
theorem d_Md_cellBox_119 : decode b_Md_cellBox 119 = .ok (.iconst 0, 1) := by decide +kernel
theorem d_Md_cellBox_120 : decode b_Md_cellBox 120 = .ok (.iload 6, 2) := by decide +kernel
theorem d_Md_cellBox_122 : decode b_Md_cellBox 122 = .ok (.iconst 1, 1) := by decide +kernel
theorem d_Md_cellBox_123 : decode b_Md_cellBox 123 = .ok (.iand, 1) := by decide +kernel
theorem d_Md_cellBox_124 : decode b_Md_cellBox 124 = .ok (.ifCond .ne 7, 3) := by decide +kernel
theorem d_Md_cellBox_127 : decode b_Md_cellBox 127 = .ok (.iconst 0, 1) := by decide +kernel
theorem d_Md_cellBox_128 : decode b_Md_cellBox 128 = .ok (.goto 12, 3) := by decide +kernel
theorem d_Md_cellBox_131 : decode b_Md_cellBox 131 = .ok (.aload_n 0, 1) := by decide +kernel
theorem d_Md_cellBox_132 : decode b_Md_cellBox 132 = .ok (.getfield 51, 3) := by decide +kernel
theorem d_Md_cellBox_135 : decode b_Md_cellBox 135 = .ok (.iload 4, 2) := by decide +kernel
theorem d_Md_cellBox_137 : decode b_Md_cellBox 137 = .ok (.iaload, 1) := by decide +kernel
theorem d_Md_cellBox_138 : decode b_Md_cellBox 138 = .ok (.iconst 1, 1) := by decide +kernel
theorem d_Md_cellBox_139 : decode b_Md_cellBox 139 = .ok (.isub, 1) := by decide +kernel
theorem d_Md_cellBox_140 : decode b_Md_cellBox 140 = .ok (.iastore, 1) := by decide +kernel
theorem d_Md_cellBox_141 : decode b_Md_cellBox 141 = .ok (.aload_n 0, 1) := by decide +kernel
theorem d_Md_cellBox_142 : decode b_Md_cellBox 142 = .ok (.getfield 91, 3) := by decide +kernel
theorem d_Md_cellBox_145 : decode b_Md_cellBox 145 = .ok (.iconst 0, 1) := by decide +kernel
theorem d_Md_cellBox_146 : decode b_Md_cellBox 146 = .ok (.iload 6, 2) := by decide +kernel
theorem d_Md_cellBox_148 : decode b_Md_cellBox 148 = .ok (.iconst 2, 1) := by decide +kernel
theorem d_Md_cellBox_149 : decode b_Md_cellBox 149 = .ok (.iand, 1) := by decide +kernel
theorem d_Md_cellBox_150 : decode b_Md_cellBox 150 = .ok (.ifCond .ne 7, 3) := by decide +kernel
theorem d_Md_cellBox_153 : decode b_Md_cellBox 153 = .ok (.iconst 0, 1) := by decide +kernel
theorem d_Md_cellBox_154 : decode b_Md_cellBox 154 = .ok (.goto 12, 3) := by decide +kernel
theorem d_Md_cellBox_157 : decode b_Md_cellBox 157 = .ok (.aload_n 0, 1) := by decide +kernel
theorem d_Md_cellBox_158 : decode b_Md_cellBox 158 = .ok (.getfield 54, 3) := by decide +kernel
theorem d_Md_cellBox_161 : decode b_Md_cellBox 161 = .ok (.iload 4, 2) := by decide +kernel
theorem d_Md_cellBox_163 : decode b_Md_cellBox 163 = .ok (.iaload, 1) := by decide +kernel
theorem d_Md_cellBox_164 : decode b_Md_cellBox 164 = .ok (.iconst 1, 1) := by decide +kernel
theorem d_Md_cellBox_165 : decode b_Md_cellBox 165 = .ok (.isub, 1) := by decide +kernel
theorem d_Md_cellBox_166 : decode b_Md_cellBox 166 = .ok (.iastore, 1) := by decide +kernel
theorem d_Md_cellBox_167 : decode b_Md_cellBox 167 = .ok (.aload_n 0, 1) := by decide +kernel
theorem d_Md_cellBox_168 : decode b_Md_cellBox 168 = .ok (.aload_n 0, 1) := by decide +kernel
theorem d_Md_cellBox_169 : decode b_Md_cellBox 169 = .ok (.getfield 94, 3) := by decide +kernel
theorem d_Md_cellBox_172 : decode b_Md_cellBox 172 = .ok (.iconst 4, 1) := by decide +kernel
theorem d_Md_cellBox_173 : decode b_Md_cellBox 173 = .ok (.iload 5, 2) := by decide +kernel
theorem d_Md_cellBox_175 : decode b_Md_cellBox 175 = .ok (.imul, 1) := by decide +kernel
theorem d_Md_cellBox_176 : decode b_Md_cellBox 176 = .ok (.iload 6, 2) := by decide +kernel
theorem d_Md_cellBox_178 : decode b_Md_cellBox 178 = .ok (.iconst 4, 1) := by decide +kernel
theorem d_Md_cellBox_179 : decode b_Md_cellBox 179 = .ok (.iand, 1) := by decide +kernel
theorem d_Md_cellBox_180 : decode b_Md_cellBox 180 = .ok (.iconst 2, 1) := by decide +kernel
theorem d_Md_cellBox_181 : decode b_Md_cellBox 181 = .ok (.idiv, 1) := by decide +kernel
theorem d_Md_cellBox_182 : decode b_Md_cellBox 182 = .ok (.iadd, 1) := by decide +kernel
theorem d_Md_cellBox_183 : decode b_Md_cellBox 183 = .ok (.laload, 1) := by decide +kernel
theorem d_Md_cellBox_184 : decode b_Md_cellBox 184 = .ok (.aload_n 0, 1) := by decide +kernel
theorem d_Md_cellBox_185 : decode b_Md_cellBox 185 = .ok (.getfield 94, 3) := by decide +kernel
theorem d_Md_cellBox_188 : decode b_Md_cellBox 188 = .ok (.iconst 4, 1) := by decide +kernel
theorem d_Md_cellBox_189 : decode b_Md_cellBox 189 = .ok (.iload 5, 2) := by decide +kernel
theorem d_Md_cellBox_191 : decode b_Md_cellBox 191 = .ok (.imul, 1) := by decide +kernel
theorem d_Md_cellBox_192 : decode b_Md_cellBox 192 = .ok (.iconst 1, 1) := by decide +kernel
theorem d_Md_cellBox_193 : decode b_Md_cellBox 193 = .ok (.iadd, 1) := by decide +kernel
theorem d_Md_cellBox_194 : decode b_Md_cellBox 194 = .ok (.iload 6, 2) := by decide +kernel
theorem d_Md_cellBox_196 : decode b_Md_cellBox 196 = .ok (.bipush 8, 2) := by decide +kernel
theorem d_Md_cellBox_198 : decode b_Md_cellBox 198 = .ok (.iand, 1) := by decide +kernel
theorem d_Md_cellBox_199 : decode b_Md_cellBox 199 = .ok (.iconst 4, 1) := by decide +kernel
theorem d_Md_cellBox_200 : decode b_Md_cellBox 200 = .ok (.idiv, 1) := by decide +kernel
theorem d_Md_cellBox_201 : decode b_Md_cellBox 201 = .ok (.iadd, 1) := by decide +kernel
theorem d_Md_cellBox_202 : decode b_Md_cellBox 202 = .ok (.laload, 1) := by decide +kernel
theorem d_Md_cellBox_203 : decode b_Md_cellBox 203 = .ok (.invokevirtual 168, 3) := by decide +kernel
theorem d_Md_cellBox_206 : decode b_Md_cellBox 206 = .ok (.aload_n 0, 1) := by decide +kernel
theorem d_Md_cellBox_207 : decode b_Md_cellBox 207 = .ok (.aload_n 0, 1) := by decide +kernel
theorem d_Md_cellBox_208 : decode b_Md_cellBox 208 = .ok (.getfield 158, 3) := by decide +kernel
theorem d_Md_cellBox_211 : decode b_Md_cellBox 211 = .ok (.aload_n 0, 1) := by decide +kernel
theorem d_Md_cellBox_212 : decode b_Md_cellBox 212 = .ok (.getfield 162, 3) := by decide +kernel
theorem d_Md_cellBox_215 : decode b_Md_cellBox 215 = .ok (.invokevirtual 210, 3) := by decide +kernel
theorem d_Md_cellBox_218 : decode b_Md_cellBox 218 = .ok (.iinc 6 1, 3) := by decide +kernel
theorem d_Md_cellBox_221 : decode b_Md_cellBox 221 = .ok (.goto (-113), 3) := by decide +kernel
theorem d_Md_cellBox_224 : decode b_Md_cellBox 224 = .ok (.iinc 4 1, 3) := by decide +kernel
theorem d_Md_cellBox_227 : decode b_Md_cellBox 227 = .ok (.goto (-177), 3) := by decide +kernel
theorem d_Md_cellBox_230 : decode b_Md_cellBox 230 = .ok (.aload_n 0, 1) := by decide +kernel
theorem d_Md_cellBox_231 : decode b_Md_cellBox 231 = .ok (.getfield 97, 3) := by decide +kernel
theorem d_Md_cellBox_234 : decode b_Md_cellBox 234 = .ok (.iload_n 1, 1) := by decide +kernel
theorem d_Md_cellBox_235 : decode b_Md_cellBox 235 = .ok (.aload_n 0, 1) := by decide +kernel
theorem d_Md_cellBox_236 : decode b_Md_cellBox 236 = .ok (.getfield 192, 3) := by decide +kernel
theorem d_Md_cellBox_239 : decode b_Md_cellBox 239 = .ok (.bastore, 1) := by decide +kernel
theorem d_Md_cellBox_240 : decode b_Md_cellBox 240 = .ok (.aload_n 0, 1) := by decide +kernel
theorem d_Md_cellBox_241 : decode b_Md_cellBox 241 = .ok (.getfield 94, 3) := by decide +kernel
theorem d_Md_cellBox_244 : decode b_Md_cellBox 244 = .ok (.iconst 4, 1) := by decide +kernel
theorem d_Md_cellBox_245 : decode b_Md_cellBox 245 = .ok (.iload_n 1, 1) := by decide +kernel
theorem d_Md_cellBox_246 : decode b_Md_cellBox 246 = .ok (.imul, 1) := by decide +kernel
theorem d_Md_cellBox_247 : decode b_Md_cellBox 247 = .ok (.aload_n 0, 1) := by decide +kernel
theorem d_Md_cellBox_248 : decode b_Md_cellBox 248 = .ok (.getfield 196, 3) := by decide +kernel
theorem d_Md_cellBox_251 : decode b_Md_cellBox 251 = .ok (.lastore, 1) := by decide +kernel
theorem d_Md_cellBox_252 : decode b_Md_cellBox 252 = .ok (.aload_n 0, 1) := by decide +kernel
theorem d_Md_cellBox_253 : decode b_Md_cellBox 253 = .ok (.getfield 94, 3) := by decide +kernel
theorem d_Md_cellBox_256 : decode b_Md_cellBox 256 = .ok (.iconst 4, 1) := by decide +kernel
theorem d_Md_cellBox_257 : decode b_Md_cellBox 257 = .ok (.iload_n 1, 1) := by decide +kernel
theorem d_Md_cellBox_258 : decode b_Md_cellBox 258 = .ok (.imul, 1) := by decide +kernel
theorem d_Md_cellBox_259 : decode b_Md_cellBox 259 = .ok (.iconst 1, 1) := by decide +kernel
theorem d_Md_cellBox_260 : decode b_Md_cellBox 260 = .ok (.iadd, 1) := by decide +kernel
theorem d_Md_cellBox_261 : decode b_Md_cellBox 261 = .ok (.aload_n 0, 1) := by decide +kernel
theorem d_Md_cellBox_262 : decode b_Md_cellBox 262 = .ok (.getfield 199, 3) := by decide +kernel
theorem d_Md_cellBox_265 : decode b_Md_cellBox 265 = .ok (.lastore, 1) := by decide +kernel
theorem d_Md_cellBox_266 : decode b_Md_cellBox 266 = .ok (.aload_n 0, 1) := by decide +kernel
theorem d_Md_cellBox_267 : decode b_Md_cellBox 267 = .ok (.getfield 94, 3) := by decide +kernel
theorem d_Md_cellBox_270 : decode b_Md_cellBox 270 = .ok (.iconst 4, 1) := by decide +kernel
theorem d_Md_cellBox_271 : decode b_Md_cellBox 271 = .ok (.iload_n 1, 1) := by decide +kernel
theorem d_Md_cellBox_272 : decode b_Md_cellBox 272 = .ok (.imul, 1) := by decide +kernel
theorem d_Md_cellBox_273 : decode b_Md_cellBox 273 = .ok (.iconst 2, 1) := by decide +kernel
theorem d_Md_cellBox_274 : decode b_Md_cellBox 274 = .ok (.iadd, 1) := by decide +kernel
theorem d_Md_cellBox_275 : decode b_Md_cellBox 275 = .ok (.aload_n 0, 1) := by decide +kernel
theorem d_Md_cellBox_276 : decode b_Md_cellBox 276 = .ok (.getfield 202, 3) := by decide +kernel
theorem d_Md_cellBox_279 : decode b_Md_cellBox 279 = .ok (.lastore, 1) := by decide +kernel
theorem d_Md_cellBox_280 : decode b_Md_cellBox 280 = .ok (.aload_n 0, 1) := by decide +kernel
theorem d_Md_cellBox_281 : decode b_Md_cellBox 281 = .ok (.getfield 94, 3) := by decide +kernel
theorem d_Md_cellBox_284 : decode b_Md_cellBox 284 = .ok (.iconst 4, 1) := by decide +kernel
theorem d_Md_cellBox_285 : decode b_Md_cellBox 285 = .ok (.iload_n 1, 1) := by decide +kernel
theorem d_Md_cellBox_286 : decode b_Md_cellBox 286 = .ok (.imul, 1) := by decide +kernel
theorem d_Md_cellBox_287 : decode b_Md_cellBox 287 = .ok (.iconst 3, 1) := by decide +kernel
theorem d_Md_cellBox_288 : decode b_Md_cellBox 288 = .ok (.iadd, 1) := by decide +kernel
theorem d_Md_cellBox_289 : decode b_Md_cellBox 289 = .ok (.aload_n 0, 1) := by decide +kernel
theorem d_Md_cellBox_290 : decode b_Md_cellBox 290 = .ok (.getfield 205, 3) := by decide +kernel
theorem d_Md_cellBox_293 : decode b_Md_cellBox 293 = .ok (.lastore, 1) := by decide +kernel
theorem d_Md_cellBox_294 : decode b_Md_cellBox 294 = .ok (.return_, 1) := by decide +kernel
theorem d_Md_boxOf_0 : decode b_Md_boxOf 0 = .ok (.aload_n 0, 1) := by decide +kernel
theorem d_Md_boxOf_1 : decode b_Md_boxOf 1 = .ok (.getfield 70, 3) := by decide +kernel
theorem d_Md_boxOf_4 : decode b_Md_boxOf 4 = .ok (.sipush 3000, 3) := by decide +kernel
theorem d_Md_boxOf_7 : decode b_Md_boxOf 7 = .ok (.iload_n 1, 1) := by decide +kernel
theorem d_Md_boxOf_8 : decode b_Md_boxOf 8 = .ok (.imul, 1) := by decide +kernel
theorem d_Md_boxOf_9 : decode b_Md_boxOf 9 = .ok (.iload_n 2, 1) := by decide +kernel
theorem d_Md_boxOf_10 : decode b_Md_boxOf 10 = .ok (.iadd, 1) := by decide +kernel
theorem d_Md_boxOf_11 : decode b_Md_boxOf 11 = .ok (.iaload, 1) := by decide +kernel
theorem d_Md_boxOf_12 : decode b_Md_boxOf 12 = .ok (.istore_n 3, 1) := by decide +kernel
theorem d_Md_boxOf_13 : decode b_Md_boxOf 13 = .ok (.ldc 172, 2) := by decide +kernel
theorem d_Md_boxOf_15 : decode b_Md_boxOf 15 = .ok (.iload_n 1, 1) := by decide +kernel
theorem d_Md_boxOf_16 : decode b_Md_boxOf 16 = .ok (.imul, 1) := by decide +kernel
theorem d_Md_boxOf_17 : decode b_Md_boxOf 17 = .ok (.bipush 24, 2) := by decide +kernel
theorem d_Md_boxOf_19 : decode b_Md_boxOf 19 = .ok (.iload_n 2, 1) := by decide +kernel
theorem d_Md_boxOf_20 : decode b_Md_boxOf 20 = .ok (.imul, 1) := by decide +kernel
theorem d_Md_boxOf_21 : decode b_Md_boxOf 21 = .ok (.iadd, 1) := by decide +kernel
theorem d_Md_boxOf_22 : decode b_Md_boxOf 22 = .ok (.istore 4, 2) := by decide +kernel
theorem d_Md_boxOf_24 : decode b_Md_boxOf 24 = .ok (.aload_n 0, 1) := by decide +kernel
theorem d_Md_boxOf_25 : decode b_Md_boxOf 25 = .ok (.getfield 73, 3) := by decide +kernel
theorem d_Md_boxOf_28 : decode b_Md_boxOf 28 = .ok (.sipush 3000, 3) := by decide +kernel
theorem d_Md_boxOf_31 : decode b_Md_boxOf 31 = .ok (.iload_n 1, 1) := by decide +kernel
theorem d_Md_boxOf_32 : decode b_Md_boxOf 32 = .ok (.imul, 1) := by decide +kernel
theorem d_Md_boxOf_33 : decode b_Md_boxOf 33 = .ok (.iload_n 2, 1) := by decide +kernel
theorem d_Md_boxOf_34 : decode b_Md_boxOf 34 = .ok (.iadd, 1) := by decide +kernel
theorem d_Md_boxOf_35 : decode b_Md_boxOf 35 = .ok (.iaload, 1) := by decide +kernel
theorem d_Md_boxOf_36 : decode b_Md_boxOf 36 = .ok (.istore 5, 2) := by decide +kernel
theorem d_Md_boxOf_38 : decode b_Md_boxOf 38 = .ok (.aload_n 0, 1) := by decide +kernel
theorem d_Md_boxOf_39 : decode b_Md_boxOf 39 = .ok (.getfield 16, 3) := by decide +kernel
theorem d_Md_boxOf_42 : decode b_Md_boxOf 42 = .ok (.iload_n 3, 1) := by decide +kernel
theorem d_Md_boxOf_43 : decode b_Md_boxOf 43 = .ok (.laload, 1) := by decide +kernel
theorem d_Md_boxOf_44 : decode b_Md_boxOf 44 = .ok (.ldc2_w 132, 3) := by decide +kernel
theorem d_Md_boxOf_47 : decode b_Md_boxOf 47 = .ok (.ldiv, 1) := by decide +kernel
theorem d_Md_boxOf_48 : decode b_Md_boxOf 48 = .ok (.lstore 6, 2) := by decide +kernel
theorem d_Md_boxOf_50 : decode b_Md_boxOf 50 = .ok (.iconst 0, 1) := by decide +kernel
theorem d_Md_boxOf_51 : decode b_Md_boxOf 51 = .ok (.istore 8, 2) := by decide +kernel
theorem d_Md_boxOf_53 : decode b_Md_boxOf 53 = .ok (.iload 8, 2) := by decide +kernel
theorem d_Md_boxOf_55 : decode b_Md_boxOf 55 = .ok (.iload 5, 2) := by decide +kernel
theorem d_Md_boxOf_57 : decode b_Md_boxOf 57 = .ok (.if_icmp .ge 153, 3) := by decide +kernel
theorem d_Md_boxOf_60 : decode b_Md_boxOf 60 = .ok (.lload 6, 2) := by decide +kernel
theorem d_Md_boxOf_62 : decode b_Md_boxOf 62 = .ok (.lconst 0, 1) := by decide +kernel
theorem d_Md_boxOf_63 : decode b_Md_boxOf 63 = .ok (.lcmp, 1) := by decide +kernel
theorem d_Md_boxOf_64 : decode b_Md_boxOf 64 = .ok (.ifCond .ne 30, 3) := by decide +kernel
theorem d_Md_boxOf_67 : decode b_Md_boxOf 67 = .ok (.aload_n 0, 1) := by decide +kernel
theorem d_Md_boxOf_68 : decode b_Md_boxOf 68 = .ok (.aload_n 0, 1) := by decide +kernel
theorem d_Md_boxOf_69 : decode b_Md_boxOf 69 = .ok (.getfield 64, 3) := by decide +kernel
theorem d_Md_boxOf_72 : decode b_Md_boxOf 72 = .ok (.iload 4, 2) := by decide +kernel
theorem d_Md_boxOf_74 : decode b_Md_boxOf 74 = .ok (.iload 8, 2) := by decide +kernel
theorem d_Md_boxOf_76 : decode b_Md_boxOf 76 = .ok (.iadd, 1) := by decide +kernel
theorem d_Md_boxOf_77 : decode b_Md_boxOf 77 = .ok (.laload, 1) := by decide +kernel
theorem d_Md_boxOf_78 : decode b_Md_boxOf 78 = .ok (.aload_n 0, 1) := by decide +kernel
theorem d_Md_boxOf_79 : decode b_Md_boxOf 79 = .ok (.getfield 67, 3) := by decide +kernel
theorem d_Md_boxOf_82 : decode b_Md_boxOf 82 = .ok (.iload 4, 2) := by decide +kernel
theorem d_Md_boxOf_84 : decode b_Md_boxOf 84 = .ok (.iload 8, 2) := by decide +kernel
theorem d_Md_boxOf_86 : decode b_Md_boxOf 86 = .ok (.iadd, 1) := by decide +kernel
theorem d_Md_boxOf_87 : decode b_Md_boxOf 87 = .ok (.laload, 1) := by decide +kernel
theorem d_Md_boxOf_88 : decode b_Md_boxOf 88 = .ok (.invokevirtual 210, 3) := by decide +kernel
theorem d_Md_boxOf_91 : decode b_Md_boxOf 91 = .ok (.goto 113, 3) := by decide +kernel
theorem d_Md_boxOf_94 : decode b_Md_boxOf 94 = .ok (.iload 8, 2) := by decide +kernel
theorem d_Md_boxOf_96 : decode b_Md_boxOf 96 = .ok (.ifCond .le 108, 3) := by decide +kernel
theorem d_Md_boxOf_99 : decode b_Md_boxOf 99 = .ok (.iload 8, 2) := by decide +kernel
theorem d_Md_boxOf_101 : decode b_Md_boxOf 101 = .ok (.iconst 1, 1) := by decide +kernel
theorem d_Md_boxOf_102 : decode b_Md_boxOf 102 = .ok (.if_icmp .ne 18, 3) := by decide +kernel
theorem d_Md_boxOf_105 : decode b_Md_boxOf 105 = .ok (.aload_n 0, 1) := by decide +kernel
theorem d_Md_boxOf_106 : decode b_Md_boxOf 106 = .ok (.getfield 20, 3) := by decide +kernel
theorem d_Md_boxOf_109 : decode b_Md_boxOf 109 = .ok (.iload_n 3, 1) := by decide +kernel
theorem d_Md_boxOf_110 : decode b_Md_boxOf 110 = .ok (.iaload, 1) := by decide +kernel
theorem d_Md_boxOf_111 : decode b_Md_boxOf 111 = .ok (.iconst 1, 1) := by decide +kernel
theorem d_Md_boxOf_112 : decode b_Md_boxOf 112 = .ok (.if_icmp .ne 8, 3) := by decide +kernel
theorem d_Md_boxOf_115 : decode b_Md_boxOf 115 = .ok (.lload 6, 2) := by decide +kernel
theorem d_Md_boxOf_117 : decode b_Md_boxOf 117 = .ok (.goto 4, 3) := by decide +kernel
theorem d_Md_boxOf_120 : decode b_Md_boxOf 120 = .ok (.lconst 0, 1) := by decide +kernel
theorem d_Md_boxOf_121 : decode b_Md_boxOf 121 = .ok (.lstore 9, 2) := by decide +kernel
theorem d_Md_boxOf_123 : decode b_Md_boxOf 123 = .ok (.iload 8, 2) := by decide +kernel
theorem d_Md_boxOf_125 : decode b_Md_boxOf 125 = .ok (.iload 5, 2) := by decide +kernel
theorem d_Md_boxOf_127 : decode b_Md_boxOf 127 = .ok (.iconst 1, 1) := by decide +kernel
theorem d_Md_boxOf_128 : decode b_Md_boxOf 128 = .ok (.isub, 1) := by decide +kernel
theorem d_Md_boxOf_129 : decode b_Md_boxOf 129 = .ok (.if_icmp .ne 18, 3) := by decide +kernel
theorem d_Md_boxOf_132 : decode b_Md_boxOf 132 = .ok (.aload_n 0, 1) := by decide +kernel
theorem d_Md_boxOf_133 : decode b_Md_boxOf 133 = .ok (.getfield 20, 3) := by decide +kernel
theorem d_Md_boxOf_136 : decode b_Md_boxOf 136 = .ok (.iload_n 3, 1) := by decide +kernel
theorem d_Md_boxOf_137 : decode b_Md_boxOf 137 = .ok (.iaload, 1) := by decide +kernel
theorem d_Md_boxOf_138 : decode b_Md_boxOf 138 = .ok (.iconst 1, 1) := by decide +kernel
theorem d_Md_boxOf_139 : decode b_Md_boxOf 139 = .ok (.if_icmp .ne 8, 3) := by decide +kernel
theorem d_Md_boxOf_142 : decode b_Md_boxOf 142 = .ok (.lload 6, 2) := by decide +kernel
theorem d_Md_boxOf_144 : decode b_Md_boxOf 144 = .ok (.goto 4, 3) := by decide +kernel
theorem d_Md_boxOf_147 : decode b_Md_boxOf 147 = .ok (.lconst 0, 1) := by decide +kernel
theorem d_Md_boxOf_148 : decode b_Md_boxOf 148 = .ok (.lstore 11, 2) := by decide +kernel
theorem d_Md_boxOf_150 : decode b_Md_boxOf 150 = .ok (.aload_n 0, 1) := by decide +kernel
theorem d_Md_boxOf_151 : decode b_Md_boxOf 151 = .ok (.aload_n 0, 1) := by decide +kernel
theorem d_Md_boxOf_152 : decode b_Md_boxOf 152 = .ok (.getfield 64, 3) := by decide +kernel
theorem d_Md_boxOf_155 : decode b_Md_boxOf 155 = .ok (.iload 4, 2) := by decide +kernel
theorem d_Md_boxOf_157 : decode b_Md_boxOf 157 = .ok (.iload 8, 2) := by decide +kernel
theorem d_Md_boxOf_159 : decode b_Md_boxOf 159 = .ok (.iadd, 1) := by decide +kernel
theorem d_Md_boxOf_160 : decode b_Md_boxOf 160 = .ok (.iconst 1, 1) := by decide +kernel
theorem d_Md_boxOf_161 : decode b_Md_boxOf 161 = .ok (.isub, 1) := by decide +kernel
theorem d_Md_boxOf_162 : decode b_Md_boxOf 162 = .ok (.laload, 1) := by decide +kernel
theorem d_Md_boxOf_163 : decode b_Md_boxOf 163 = .ok (.aload_n 0, 1) := by decide +kernel
theorem d_Md_boxOf_164 : decode b_Md_boxOf 164 = .ok (.getfield 67, 3) := by decide +kernel
theorem d_Md_boxOf_167 : decode b_Md_boxOf 167 = .ok (.iload 4, 2) := by decide +kernel
theorem d_Md_boxOf_169 : decode b_Md_boxOf 169 = .ok (.iload 8, 2) := by decide +kernel
theorem d_Md_boxOf_171 : decode b_Md_boxOf 171 = .ok (.iadd, 1) := by decide +kernel
theorem d_Md_boxOf_172 : decode b_Md_boxOf 172 = .ok (.iconst 1, 1) := by decide +kernel
theorem d_Md_boxOf_173 : decode b_Md_boxOf 173 = .ok (.isub, 1) := by decide +kernel
theorem d_Md_boxOf_174 : decode b_Md_boxOf 174 = .ok (.laload, 1) := by decide +kernel
theorem d_Md_boxOf_175 : decode b_Md_boxOf 175 = .ok (.aload_n 0, 1) := by decide +kernel
theorem d_Md_boxOf_176 : decode b_Md_boxOf 176 = .ok (.getfield 64, 3) := by decide +kernel
theorem d_Md_boxOf_179 : decode b_Md_boxOf 179 = .ok (.iload 4, 2) := by decide +kernel
theorem d_Md_boxOf_181 : decode b_Md_boxOf 181 = .ok (.iload 8, 2) := by decide +kernel
theorem d_Md_boxOf_183 : decode b_Md_boxOf 183 = .ok (.iadd, 1) := by decide +kernel
theorem d_Md_boxOf_184 : decode b_Md_boxOf 184 = .ok (.laload, 1) := by decide +kernel
theorem d_Md_boxOf_185 : decode b_Md_boxOf 185 = .ok (.aload_n 0, 1) := by decide +kernel
theorem d_Md_boxOf_186 : decode b_Md_boxOf 186 = .ok (.getfield 67, 3) := by decide +kernel
theorem d_Md_boxOf_189 : decode b_Md_boxOf 189 = .ok (.iload 4, 2) := by decide +kernel
theorem d_Md_boxOf_191 : decode b_Md_boxOf 191 = .ok (.iload 8, 2) := by decide +kernel
theorem d_Md_boxOf_193 : decode b_Md_boxOf 193 = .ok (.iadd, 1) := by decide +kernel
theorem d_Md_boxOf_194 : decode b_Md_boxOf 194 = .ok (.laload, 1) := by decide +kernel
theorem d_Md_boxOf_195 : decode b_Md_boxOf 195 = .ok (.lload 6, 2) := by decide +kernel
theorem d_Md_boxOf_197 : decode b_Md_boxOf 197 = .ok (.lload 9, 2) := by decide +kernel
theorem d_Md_boxOf_199 : decode b_Md_boxOf 199 = .ok (.lload 11, 2) := by decide +kernel
theorem d_Md_boxOf_201 : decode b_Md_boxOf 201 = .ok (.invokevirtual 213, 3) := by decide +kernel
theorem d_Md_boxOf_204 : decode b_Md_boxOf 204 = .ok (.iinc 8 1, 3) := by decide +kernel
theorem d_Md_boxOf_207 : decode b_Md_boxOf 207 = .ok (.goto (-154), 3) := by decide +kernel
theorem d_Md_boxOf_210 : decode b_Md_boxOf 210 = .ok (.return_, 1) := by decide +kernel
theorem d_Md_hold_0 : decode b_Md_hold 0 = .ok (.aload_n 0, 1) := by decide +kernel
theorem d_Md_hold_1 : decode b_Md_hold 1 = .ok (.aload_n 0, 1) := by decide +kernel
theorem d_Md_hold_2 : decode b_Md_hold 2 = .ok (.getfield 192, 3) := by decide +kernel
theorem d_Md_hold_5 : decode b_Md_hold 5 = .ok (.ifCond .eq 12, 3) := by decide +kernel
theorem d_Md_hold_8 : decode b_Md_hold 8 = .ok (.lload_n 1, 1) := by decide +kernel
theorem d_Md_hold_9 : decode b_Md_hold 9 = .ok (.aload_n 0, 1) := by decide +kernel
theorem d_Md_hold_10 : decode b_Md_hold 10 = .ok (.getfield 196, 3) := by decide +kernel
theorem d_Md_hold_13 : decode b_Md_hold 13 = .ok (.lcmp, 1) := by decide +kernel
theorem d_Md_hold_14 : decode b_Md_hold 14 = .ok (.ifCond .ge 7, 3) := by decide +kernel
theorem d_Md_hold_17 : decode b_Md_hold 17 = .ok (.lload_n 1, 1) := by decide +kernel
theorem d_Md_hold_18 : decode b_Md_hold 18 = .ok (.goto 7, 3) := by decide +kernel
theorem d_Md_hold_21 : decode b_Md_hold 21 = .ok (.aload_n 0, 1) := by decide +kernel
theorem d_Md_hold_22 : decode b_Md_hold 22 = .ok (.getfield 196, 3) := by decide +kernel
theorem d_Md_hold_25 : decode b_Md_hold 25 = .ok (.putfield 196, 3) := by decide +kernel
theorem d_Md_hold_28 : decode b_Md_hold 28 = .ok (.aload_n 0, 1) := by decide +kernel
theorem d_Md_hold_29 : decode b_Md_hold 29 = .ok (.aload_n 0, 1) := by decide +kernel
theorem d_Md_hold_30 : decode b_Md_hold 30 = .ok (.getfield 192, 3) := by decide +kernel
theorem d_Md_hold_33 : decode b_Md_hold 33 = .ok (.ifCond .eq 12, 3) := by decide +kernel
theorem d_Md_hold_36 : decode b_Md_hold 36 = .ok (.lload_n 3, 1) := by decide +kernel
theorem d_Md_hold_37 : decode b_Md_hold 37 = .ok (.aload_n 0, 1) := by decide +kernel
theorem d_Md_hold_38 : decode b_Md_hold 38 = .ok (.getfield 199, 3) := by decide +kernel
theorem d_Md_hold_41 : decode b_Md_hold 41 = .ok (.lcmp, 1) := by decide +kernel
theorem d_Md_hold_42 : decode b_Md_hold 42 = .ok (.ifCond .ge 7, 3) := by decide +kernel
theorem d_Md_hold_45 : decode b_Md_hold 45 = .ok (.lload_n 3, 1) := by decide +kernel
theorem d_Md_hold_46 : decode b_Md_hold 46 = .ok (.goto 7, 3) := by decide +kernel
theorem d_Md_hold_49 : decode b_Md_hold 49 = .ok (.aload_n 0, 1) := by decide +kernel
theorem d_Md_hold_50 : decode b_Md_hold 50 = .ok (.getfield 199, 3) := by decide +kernel
theorem d_Md_hold_53 : decode b_Md_hold 53 = .ok (.putfield 199, 3) := by decide +kernel
theorem d_Md_hold_56 : decode b_Md_hold 56 = .ok (.aload_n 0, 1) := by decide +kernel
theorem d_Md_hold_57 : decode b_Md_hold 57 = .ok (.aload_n 0, 1) := by decide +kernel
theorem d_Md_hold_58 : decode b_Md_hold 58 = .ok (.getfield 192, 3) := by decide +kernel
theorem d_Md_hold_61 : decode b_Md_hold 61 = .ok (.ifCond .eq 12, 3) := by decide +kernel
theorem d_Md_hold_64 : decode b_Md_hold 64 = .ok (.lload_n 1, 1) := by decide +kernel
theorem d_Md_hold_65 : decode b_Md_hold 65 = .ok (.aload_n 0, 1) := by decide +kernel
theorem d_Md_hold_66 : decode b_Md_hold 66 = .ok (.getfield 202, 3) := by decide +kernel
theorem d_Md_hold_69 : decode b_Md_hold 69 = .ok (.lcmp, 1) := by decide +kernel
theorem d_Md_hold_70 : decode b_Md_hold 70 = .ok (.ifCond .le 7, 3) := by decide +kernel
theorem d_Md_hold_73 : decode b_Md_hold 73 = .ok (.lload_n 1, 1) := by decide +kernel
theorem d_Md_hold_74 : decode b_Md_hold 74 = .ok (.goto 7, 3) := by decide +kernel
theorem d_Md_hold_77 : decode b_Md_hold 77 = .ok (.aload_n 0, 1) := by decide +kernel
theorem d_Md_hold_78 : decode b_Md_hold 78 = .ok (.getfield 202, 3) := by decide +kernel
theorem d_Md_hold_81 : decode b_Md_hold 81 = .ok (.putfield 202, 3) := by decide +kernel
theorem d_Md_hold_84 : decode b_Md_hold 84 = .ok (.aload_n 0, 1) := by decide +kernel
theorem d_Md_hold_85 : decode b_Md_hold 85 = .ok (.aload_n 0, 1) := by decide +kernel
theorem d_Md_hold_86 : decode b_Md_hold 86 = .ok (.getfield 192, 3) := by decide +kernel
theorem d_Md_hold_89 : decode b_Md_hold 89 = .ok (.ifCond .eq 12, 3) := by decide +kernel
theorem d_Md_hold_92 : decode b_Md_hold 92 = .ok (.lload_n 3, 1) := by decide +kernel
theorem d_Md_hold_93 : decode b_Md_hold 93 = .ok (.aload_n 0, 1) := by decide +kernel
theorem d_Md_hold_94 : decode b_Md_hold 94 = .ok (.getfield 205, 3) := by decide +kernel
theorem d_Md_hold_97 : decode b_Md_hold 97 = .ok (.lcmp, 1) := by decide +kernel
theorem d_Md_hold_98 : decode b_Md_hold 98 = .ok (.ifCond .le 7, 3) := by decide +kernel
theorem d_Md_hold_101 : decode b_Md_hold 101 = .ok (.lload_n 3, 1) := by decide +kernel
theorem d_Md_hold_102 : decode b_Md_hold 102 = .ok (.goto 7, 3) := by decide +kernel
theorem d_Md_hold_105 : decode b_Md_hold 105 = .ok (.aload_n 0, 1) := by decide +kernel
theorem d_Md_hold_106 : decode b_Md_hold 106 = .ok (.getfield 205, 3) := by decide +kernel
theorem d_Md_hold_109 : decode b_Md_hold 109 = .ok (.putfield 205, 3) := by decide +kernel
theorem d_Md_hold_112 : decode b_Md_hold 112 = .ok (.aload_n 0, 1) := by decide +kernel
theorem d_Md_hold_113 : decode b_Md_hold 113 = .ok (.iconst 1, 1) := by decide +kernel
theorem d_Md_hold_114 : decode b_Md_hold 114 = .ok (.putfield 192, 3) := by decide +kernel
theorem d_Md_hold_117 : decode b_Md_hold 117 = .ok (.return_, 1) := by decide +kernel
theorem d_Md_piece_0 : decode b_Md_piece 0 = .ok (.lload_n 3, 1) := by decide +kernel
theorem d_Md_piece_1 : decode b_Md_piece 1 = .ok (.lload 7, 2) := by decide +kernel
theorem d_Md_piece_3 : decode b_Md_piece 3 = .ok (.lcmp, 1) := by decide +kernel
theorem d_Md_piece_4 : decode b_Md_piece 4 = .ok (.ifCond .ne 53, 3) := by decide +kernel
theorem d_Md_piece_7 : decode b_Md_piece 7 = .ok (.lload 5, 2) := by decide +kernel
theorem d_Md_piece_9 : decode b_Md_piece 9 = .ok (.lload_n 1, 1) := by decide +kernel
theorem d_Md_piece_10 : decode b_Md_piece 10 = .ok (.lcmp, 1) := by decide +kernel
theorem d_Md_piece_11 : decode b_Md_piece 11 = .ok (.ifCond .le 7, 3) := by decide +kernel
theorem d_Md_piece_14 : decode b_Md_piece 14 = .ok (.lconst 1, 1) := by decide +kernel
theorem d_Md_piece_15 : decode b_Md_piece 15 = .ok (.goto 6, 3) := by decide +kernel
theorem d_Md_piece_18 : decode b_Md_piece 18 = .ok (.ldc2_w 208, 3) := by decide +kernel
theorem d_Md_piece_21 : decode b_Md_piece 21 = .ok (.lstore 15, 2) := by decide +kernel
theorem d_Md_piece_23 : decode b_Md_piece 23 = .ok (.aload_n 0, 1) := by decide +kernel
theorem d_Md_piece_24 : decode b_Md_piece 24 = .ok (.lload_n 1, 1) := by decide +kernel
theorem d_Md_piece_25 : decode b_Md_piece 25 = .ok (.lload 15, 2) := by decide +kernel
theorem d_Md_piece_27 : decode b_Md_piece 27 = .ok (.lload 11, 2) := by decide +kernel
theorem d_Md_piece_29 : decode b_Md_piece 29 = .ok (.lmul, 1) := by decide +kernel
theorem d_Md_piece_30 : decode b_Md_piece 30 = .ok (.lsub, 1) := by decide +kernel
theorem d_Md_piece_31 : decode b_Md_piece 31 = .ok (.lload_n 3, 1) := by decide +kernel
theorem d_Md_piece_32 : decode b_Md_piece 32 = .ok (.lload 9, 2) := by decide +kernel
theorem d_Md_piece_34 : decode b_Md_piece 34 = .ok (.lsub, 1) := by decide +kernel
theorem d_Md_piece_35 : decode b_Md_piece 35 = .ok (.invokevirtual 210, 3) := by decide +kernel
theorem d_Md_piece_38 : decode b_Md_piece 38 = .ok (.aload_n 0, 1) := by decide +kernel
theorem d_Md_piece_39 : decode b_Md_piece 39 = .ok (.lload 5, 2) := by decide +kernel
theorem d_Md_piece_41 : decode b_Md_piece 41 = .ok (.lload 15, 2) := by decide +kernel
theorem d_Md_piece_43 : decode b_Md_piece 43 = .ok (.lload 13, 2) := by decide +kernel
theorem d_Md_piece_45 : decode b_Md_piece 45 = .ok (.lmul, 1) := by decide +kernel
theorem d_Md_piece_46 : decode b_Md_piece 46 = .ok (.ladd, 1) := by decide +kernel
theorem d_Md_piece_47 : decode b_Md_piece 47 = .ok (.lload_n 3, 1) := by decide +kernel
theorem d_Md_piece_48 : decode b_Md_piece 48 = .ok (.lload 9, 2) := by decide +kernel
theorem d_Md_piece_50 : decode b_Md_piece 50 = .ok (.ladd, 1) := by decide +kernel
theorem d_Md_piece_51 : decode b_Md_piece 51 = .ok (.invokevirtual 210, 3) := by decide +kernel
theorem d_Md_piece_54 : decode b_Md_piece 54 = .ok (.goto 50, 3) := by decide +kernel
theorem d_Md_piece_57 : decode b_Md_piece 57 = .ok (.lload 7, 2) := by decide +kernel
theorem d_Md_piece_59 : decode b_Md_piece 59 = .ok (.lload_n 3, 1) := by decide +kernel
theorem d_Md_piece_60 : decode b_Md_piece 60 = .ok (.lcmp, 1) := by decide +kernel
theorem d_Md_piece_61 : decode b_Md_piece 61 = .ok (.ifCond .le 7, 3) := by decide +kernel
theorem d_Md_piece_64 : decode b_Md_piece 64 = .ok (.lconst 1, 1) := by decide +kernel
theorem d_Md_piece_65 : decode b_Md_piece 65 = .ok (.goto 6, 3) := by decide +kernel
theorem d_Md_piece_68 : decode b_Md_piece 68 = .ok (.ldc2_w 208, 3) := by decide +kernel
theorem d_Md_piece_71 : decode b_Md_piece 71 = .ok (.lstore 15, 2) := by decide +kernel
theorem d_Md_piece_73 : decode b_Md_piece 73 = .ok (.aload_n 0, 1) := by decide +kernel
theorem d_Md_piece_74 : decode b_Md_piece 74 = .ok (.lload_n 1, 1) := by decide +kernel
theorem d_Md_piece_75 : decode b_Md_piece 75 = .ok (.lload 9, 2) := by decide +kernel
theorem d_Md_piece_77 : decode b_Md_piece 77 = .ok (.lsub, 1) := by decide +kernel
theorem d_Md_piece_78 : decode b_Md_piece 78 = .ok (.lload_n 3, 1) := by decide +kernel
theorem d_Md_piece_79 : decode b_Md_piece 79 = .ok (.lload 15, 2) := by decide +kernel
theorem d_Md_piece_81 : decode b_Md_piece 81 = .ok (.lload 11, 2) := by decide +kernel
theorem d_Md_piece_83 : decode b_Md_piece 83 = .ok (.lmul, 1) := by decide +kernel
theorem d_Md_piece_84 : decode b_Md_piece 84 = .ok (.lsub, 1) := by decide +kernel
theorem d_Md_piece_85 : decode b_Md_piece 85 = .ok (.invokevirtual 210, 3) := by decide +kernel
theorem d_Md_piece_88 : decode b_Md_piece 88 = .ok (.aload_n 0, 1) := by decide +kernel
theorem d_Md_piece_89 : decode b_Md_piece 89 = .ok (.lload_n 1, 1) := by decide +kernel
theorem d_Md_piece_90 : decode b_Md_piece 90 = .ok (.lload 9, 2) := by decide +kernel
theorem d_Md_piece_92 : decode b_Md_piece 92 = .ok (.ladd, 1) := by decide +kernel
theorem d_Md_piece_93 : decode b_Md_piece 93 = .ok (.lload 7, 2) := by decide +kernel
theorem d_Md_piece_95 : decode b_Md_piece 95 = .ok (.lload 15, 2) := by decide +kernel
theorem d_Md_piece_97 : decode b_Md_piece 97 = .ok (.lload 13, 2) := by decide +kernel
theorem d_Md_piece_99 : decode b_Md_piece 99 = .ok (.lmul, 1) := by decide +kernel
theorem d_Md_piece_100 : decode b_Md_piece 100 = .ok (.ladd, 1) := by decide +kernel
theorem d_Md_piece_101 : decode b_Md_piece 101 = .ok (.invokevirtual 210, 3) := by decide +kernel
theorem d_Md_piece_104 : decode b_Md_piece 104 = .ok (.return_, 1) := by decide +kernel
theorem d_Md_find_0 : decode b_Md_find 0 = .ok (.aload_n 0, 1) := by decide +kernel
theorem d_Md_find_1 : decode b_Md_find 1 = .ok (.invokevirtual 180, 3) := by decide +kernel
theorem d_Md_find_4 : decode b_Md_find 4 = .ok (.aload_n 0, 1) := by decide +kernel
theorem d_Md_find_5 : decode b_Md_find 5 = .ok (.aload_n 0, 1) := by decide +kernel
theorem d_Md_find_6 : decode b_Md_find 6 = .ok (.iload_n 1, 1) := by decide +kernel
theorem d_Md_find_7 : decode b_Md_find 7 = .ok (.invokevirtual 121, 3) := by decide +kernel
theorem d_Md_find_10 : decode b_Md_find 10 = .ok (.ifCond .ne 7, 3) := by decide +kernel
theorem d_Md_find_13 : decode b_Md_find 13 = .ok (.iconst 1, 1) := by decide +kernel
theorem d_Md_find_14 : decode b_Md_find 14 = .ok (.goto 71, 3) := by decide +kernel
theorem d_Md_find_17 : decode b_Md_find 17 = .ok (.lload_n 2, 1) := by decide +kernel
theorem d_Md_find_18 : decode b_Md_find 18 = .ok (.lload 6, 2) := by decide +kernel
theorem d_Md_find_20 : decode b_Md_find 20 = .ok (.lcmp, 1) := by decide +kernel
theorem d_Md_find_21 : decode b_Md_find 21 = .ok (.ifCond .gt 42, 3) := by decide +kernel
theorem d_Md_find_24 : decode b_Md_find 24 = .ok (.lload 4, 2) := by decide +kernel
theorem d_Md_find_26 : decode b_Md_find 26 = .ok (.lload 8, 2) := by decide +kernel
theorem d_Md_find_28 : decode b_Md_find 28 = .ok (.lcmp, 1) := by decide +kernel
theorem d_Md_find_29 : decode b_Md_find 29 = .ok (.ifCond .gt 34, 3) := by decide +kernel
theorem d_Md_find_32 : decode b_Md_find 32 = .ok (.lload_n 2, 1) := by decide +kernel
theorem d_Md_find_33 : decode b_Md_find 33 = .ok (.invokestatic 136, 3) := by decide +kernel
theorem d_Md_find_36 : decode b_Md_find 36 = .ok (.ifCond .ne 27, 3) := by decide +kernel
theorem d_Md_find_39 : decode b_Md_find 39 = .ok (.lload 4, 2) := by decide +kernel
theorem d_Md_find_41 : decode b_Md_find 41 = .ok (.invokestatic 136, 3) := by decide +kernel
theorem d_Md_find_44 : decode b_Md_find 44 = .ok (.ifCond .ne 19, 3) := by decide +kernel
theorem d_Md_find_47 : decode b_Md_find 47 = .ok (.lload 6, 2) := by decide +kernel
theorem d_Md_find_49 : decode b_Md_find 49 = .ok (.invokestatic 136, 3) := by decide +kernel
theorem d_Md_find_52 : decode b_Md_find 52 = .ok (.ifCond .ne 11, 3) := by decide +kernel
theorem d_Md_find_55 : decode b_Md_find 55 = .ok (.lload 8, 2) := by decide +kernel
theorem d_Md_find_57 : decode b_Md_find 57 = .ok (.invokestatic 136, 3) := by decide +kernel
theorem d_Md_find_60 : decode b_Md_find 60 = .ok (.ifCond .eq 7, 3) := by decide +kernel
theorem d_Md_find_63 : decode b_Md_find 63 = .ok (.iconst 2, 1) := by decide +kernel
theorem d_Md_find_64 : decode b_Md_find 64 = .ok (.goto 21, 3) := by decide +kernel
theorem d_Md_find_67 : decode b_Md_find 67 = .ok (.aload_n 0, 1) := by decide +kernel
theorem d_Md_find_68 : decode b_Md_find 68 = .ok (.getfield 79, 3) := by decide +kernel
theorem d_Md_find_71 : decode b_Md_find 71 = .ok (.iload_n 1, 1) := by decide +kernel
theorem d_Md_find_72 : decode b_Md_find 72 = .ok (.laload, 1) := by decide +kernel
theorem d_Md_find_73 : decode b_Md_find 73 = .ok (.ldc2_w 183, 3) := by decide +kernel
theorem d_Md_find_76 : decode b_Md_find 76 = .ok (.lcmp, 1) := by decide +kernel
theorem d_Md_find_77 : decode b_Md_find 77 = .ok (.ifCond .le 7, 3) := by decide +kernel
theorem d_Md_find_80 : decode b_Md_find 80 = .ok (.iconst 3, 1) := by decide +kernel
theorem d_Md_find_81 : decode b_Md_find 81 = .ok (.goto 4, 3) := by decide +kernel
theorem d_Md_find_84 : decode b_Md_find 84 = .ok (.iconst 0, 1) := by decide +kernel
theorem d_Md_find_85 : decode b_Md_find 85 = .ok (.putfield 108, 3) := by decide +kernel
theorem d_Md_find_88 : decode b_Md_find 88 = .ok (.aload_n 0, 1) := by decide +kernel
theorem d_Md_find_89 : decode b_Md_find 89 = .ok (.getfield 108, 3) := by decide +kernel
theorem d_Md_find_92 : decode b_Md_find 92 = .ok (.ifCond .le 5, 3) := by decide +kernel
theorem d_Md_find_95 : decode b_Md_find 95 = .ok (.iconst 0, 1) := by decide +kernel
theorem d_Md_find_96 : decode b_Md_find 96 = .ok (.ireturn, 1) := by decide +kernel
theorem d_Md_find_97 : decode b_Md_find 97 = .ok (.aload_n 0, 1) := by decide +kernel
theorem d_Md_find_98 : decode b_Md_find 98 = .ok (.iconst 0, 1) := by decide +kernel
theorem d_Md_find_99 : decode b_Md_find 99 = .ok (.iload_n 1, 1) := by decide +kernel
theorem d_Md_find_100 : decode b_Md_find 100 = .ok (.iconst (-1), 1) := by decide +kernel
theorem d_Md_find_101 : decode b_Md_find 101 = .ok (.invokevirtual 185, 3) := by decide +kernel
theorem d_Md_find_104 : decode b_Md_find 104 = .ok (.istore 10, 2) := by decide +kernel
theorem d_Md_find_106 : decode b_Md_find 106 = .ok (.iconst 0, 1) := by decide +kernel
theorem d_Md_find_107 : decode b_Md_find 107 = .ok (.istore 11, 2) := by decide +kernel
theorem d_Md_find_109 : decode b_Md_find 109 = .ok (.iconst 0, 1) := by decide +kernel
theorem d_Md_find_110 : decode b_Md_find 110 = .ok (.istore 12, 2) := by decide +kernel
theorem d_Md_find_112 : decode b_Md_find 112 = .ok (.iload 12, 2) := by decide +kernel
theorem d_Md_find_114 : decode b_Md_find 114 = .ok (.iload 10, 2) := by decide +kernel
theorem d_Md_find_116 : decode b_Md_find 116 = .ok (.if_icmp .ge 70, 3) := by decide +kernel
theorem d_Md_find_119 : decode b_Md_find 119 = .ok (.aload_n 0, 1) := by decide +kernel
theorem d_Md_find_120 : decode b_Md_find 120 = .ok (.iconst 0, 1) := by decide +kernel
theorem d_Md_find_121 : decode b_Md_find 121 = .ok (.putfield 192, 3) := by decide +kernel
theorem d_Md_find_124 : decode b_Md_find 124 = .ok (.aload_n 0, 1) := by decide +kernel
theorem d_Md_find_125 : decode b_Md_find 125 = .ok (.iconst 0, 1) := by decide +kernel
theorem d_Md_find_126 : decode b_Md_find 126 = .ok (.iload 12, 2) := by decide +kernel
theorem d_Md_find_128 : decode b_Md_find 128 = .ok (.invokevirtual 217, 3) := by decide +kernel
theorem d_Md_find_131 : decode b_Md_find 131 = .ok (.iload 11, 2) := by decide +kernel
theorem d_Md_find_133 : decode b_Md_find 133 = .ok (.aload_n 0, 1) := by decide +kernel
theorem d_Md_find_134 : decode b_Md_find 134 = .ok (.getfield 196, 3) := by decide +kernel
theorem d_Md_find_137 : decode b_Md_find 137 = .ok (.lload 6, 2) := by decide +kernel
theorem d_Md_find_139 : decode b_Md_find 139 = .ok (.lcmp, 1) := by decide +kernel
theorem d_Md_find_140 : decode b_Md_find 140 = .ok (.ifCond .gt 36, 3) := by decide +kernel
theorem d_Md_find_143 : decode b_Md_find 143 = .ok (.aload_n 0, 1) := by decide +kernel
theorem d_Md_find_144 : decode b_Md_find 144 = .ok (.getfield 202, 3) := by decide +kernel
theorem d_Md_find_147 : decode b_Md_find 147 = .ok (.lload_n 2, 1) := by decide +kernel
theorem d_Md_find_148 : decode b_Md_find 148 = .ok (.lcmp, 1) := by decide +kernel
theorem d_Md_find_149 : decode b_Md_find 149 = .ok (.ifCond .lt 27, 3) := by decide +kernel
theorem d_Md_find_152 : decode b_Md_find 152 = .ok (.aload_n 0, 1) := by decide +kernel
theorem d_Md_find_153 : decode b_Md_find 153 = .ok (.getfield 199, 3) := by decide +kernel
theorem d_Md_find_156 : decode b_Md_find 156 = .ok (.lload 8, 2) := by decide +kernel
theorem d_Md_find_158 : decode b_Md_find 158 = .ok (.lcmp, 1) := by decide +kernel
theorem d_Md_find_159 : decode b_Md_find 159 = .ok (.ifCond .gt 17, 3) := by decide +kernel
theorem d_Md_find_162 : decode b_Md_find 162 = .ok (.aload_n 0, 1) := by decide +kernel
theorem d_Md_find_163 : decode b_Md_find 163 = .ok (.getfield 205, 3) := by decide +kernel
theorem d_Md_find_166 : decode b_Md_find 166 = .ok (.lload 4, 2) := by decide +kernel
theorem d_Md_find_168 : decode b_Md_find 168 = .ok (.lcmp, 1) := by decide +kernel
theorem d_Md_find_169 : decode b_Md_find 169 = .ok (.ifCond .lt 7, 3) := by decide +kernel
theorem d_Md_find_172 : decode b_Md_find 172 = .ok (.iconst 1, 1) := by decide +kernel
theorem d_Md_find_173 : decode b_Md_find 173 = .ok (.goto 4, 3) := by decide +kernel
theorem d_Md_find_176 : decode b_Md_find 176 = .ok (.iconst 0, 1) := by decide +kernel
theorem d_Md_find_177 : decode b_Md_find 177 = .ok (.iadd, 1) := by decide +kernel
theorem d_Md_find_178 : decode b_Md_find 178 = .ok (.istore 11, 2) := by decide +kernel
theorem d_Md_find_180 : decode b_Md_find 180 = .ok (.iinc 12 1, 3) := by decide +kernel
theorem d_Md_find_183 : decode b_Md_find 183 = .ok (.goto (-71), 3) := by decide +kernel
theorem d_Md_find_186 : decode b_Md_find 186 = .ok (.iload 11, 2) := by decide +kernel
theorem d_Md_find_188 : decode b_Md_find 188 = .ok (.ireturn, 1) := by decide +kernel
theorem d_Md_equalTo_0 : decode b_Md_equalTo 0 = .ok (.aload_n 0, 1) := by decide +kernel
theorem d_Md_equalTo_1 : decode b_Md_equalTo 1 = .ok (.invokevirtual 180, 3) := by decide +kernel
theorem d_Md_equalTo_4 : decode b_Md_equalTo 4 = .ok (.aload_n 0, 1) := by decide +kernel
theorem d_Md_equalTo_5 : decode b_Md_equalTo 5 = .ok (.aload_n 0, 1) := by decide +kernel
theorem d_Md_equalTo_6 : decode b_Md_equalTo 6 = .ok (.iload_n 1, 1) := by decide +kernel
theorem d_Md_equalTo_7 : decode b_Md_equalTo 7 = .ok (.invokevirtual 121, 3) := by decide +kernel
theorem d_Md_equalTo_10 : decode b_Md_equalTo 10 = .ok (.ifCond .eq 7, 3) := by decide +kernel
theorem d_Md_equalTo_13 : decode b_Md_equalTo 13 = .ok (.iconst 0, 1) := by decide +kernel
theorem d_Md_equalTo_14 : decode b_Md_equalTo 14 = .ok (.goto 4, 3) := by decide +kernel
theorem d_Md_equalTo_17 : decode b_Md_equalTo 17 = .ok (.iconst 1, 1) := by decide +kernel
theorem d_Md_equalTo_18 : decode b_Md_equalTo 18 = .ok (.putfield 108, 3) := by decide +kernel
theorem d_Md_equalTo_21 : decode b_Md_equalTo 21 = .ok (.iconst 0, 1) := by decide +kernel
theorem d_Md_equalTo_22 : decode b_Md_equalTo 22 = .ok (.istore_n 2, 1) := by decide +kernel
theorem d_Md_equalTo_23 : decode b_Md_equalTo 23 = .ok (.aload_n 0, 1) := by decide +kernel
theorem d_Md_equalTo_24 : decode b_Md_equalTo 24 = .ok (.getfield 108, 3) := by decide +kernel
theorem d_Md_equalTo_27 : decode b_Md_equalTo 27 = .ok (.ifCond .ne 39, 3) := by decide +kernel
theorem d_Md_equalTo_30 : decode b_Md_equalTo 30 = .ok (.iload_n 2, 1) := by decide +kernel
theorem d_Md_equalTo_31 : decode b_Md_equalTo 31 = .ok (.iload_n 1, 1) := by decide +kernel
theorem d_Md_equalTo_32 : decode b_Md_equalTo 32 = .ok (.if_icmp .gt 34, 3) := by decide +kernel
theorem d_Md_equalTo_35 : decode b_Md_equalTo 35 = .ok (.aload_n 0, 1) := by decide +kernel
theorem d_Md_equalTo_36 : decode b_Md_equalTo 36 = .ok (.aload_n 0, 1) := by decide +kernel
theorem d_Md_equalTo_37 : decode b_Md_equalTo 37 = .ok (.getfield 79, 3) := by decide +kernel
theorem d_Md_equalTo_40 : decode b_Md_equalTo 40 = .ok (.iload_n 2, 1) := by decide +kernel
theorem d_Md_equalTo_41 : decode b_Md_equalTo 41 = .ok (.laload, 1) := by decide +kernel
theorem d_Md_equalTo_42 : decode b_Md_equalTo 42 = .ok (.ldc2_w 183, 3) := by decide +kernel
theorem d_Md_equalTo_45 : decode b_Md_equalTo 45 = .ok (.lcmp, 1) := by decide +kernel
theorem d_Md_equalTo_46 : decode b_Md_equalTo 46 = .ok (.ifCond .le 7, 3) := by decide +kernel
theorem d_Md_equalTo_49 : decode b_Md_equalTo 49 = .ok (.iconst 2, 1) := by decide +kernel
theorem d_Md_equalTo_50 : decode b_Md_equalTo 50 = .ok (.goto 7, 3) := by decide +kernel
theorem d_Md_equalTo_53 : decode b_Md_equalTo 53 = .ok (.aload_n 0, 1) := by decide +kernel
theorem d_Md_equalTo_54 : decode b_Md_equalTo 54 = .ok (.getfield 108, 3) := by decide +kernel
theorem d_Md_equalTo_57 : decode b_Md_equalTo 57 = .ok (.putfield 108, 3) := by decide +kernel
theorem d_Md_equalTo_60 : decode b_Md_equalTo 60 = .ok (.iinc 2 1, 3) := by decide +kernel
theorem d_Md_equalTo_63 : decode b_Md_equalTo 63 = .ok (.goto (-40), 3) := by decide +kernel
theorem d_Md_equalTo_66 : decode b_Md_equalTo 66 = .ok (.aload_n 0, 1) := by decide +kernel
theorem d_Md_equalTo_67 : decode b_Md_equalTo 67 = .ok (.getfield 108, 3) := by decide +kernel
theorem d_Md_equalTo_70 : decode b_Md_equalTo 70 = .ok (.ifCond .le 5, 3) := by decide +kernel
theorem d_Md_equalTo_73 : decode b_Md_equalTo 73 = .ok (.iconst 0, 1) := by decide +kernel
theorem d_Md_equalTo_74 : decode b_Md_equalTo 74 = .ok (.ireturn, 1) := by decide +kernel
theorem d_Md_equalTo_75 : decode b_Md_equalTo 75 = .ok (.aload_n 0, 1) := by decide +kernel
theorem d_Md_equalTo_76 : decode b_Md_equalTo 76 = .ok (.iconst 0, 1) := by decide +kernel
theorem d_Md_equalTo_77 : decode b_Md_equalTo 77 = .ok (.iload_n 1, 1) := by decide +kernel
theorem d_Md_equalTo_78 : decode b_Md_equalTo 78 = .ok (.iconst (-1), 1) := by decide +kernel
theorem d_Md_equalTo_79 : decode b_Md_equalTo 79 = .ok (.invokevirtual 185, 3) := by decide +kernel
theorem d_Md_equalTo_82 : decode b_Md_equalTo 82 = .ok (.istore_n 2, 1) := by decide +kernel
theorem d_Md_equalTo_83 : decode b_Md_equalTo 83 = .ok (.aload_n 0, 1) := by decide +kernel
theorem d_Md_equalTo_84 : decode b_Md_equalTo 84 = .ok (.iconst 0, 1) := by decide +kernel
theorem d_Md_equalTo_85 : decode b_Md_equalTo 85 = .ok (.iload_n 2, 1) := by decide +kernel
theorem d_Md_equalTo_86 : decode b_Md_equalTo 86 = .ok (.invokevirtual 228, 3) := by decide +kernel
theorem d_Md_equalTo_89 : decode b_Md_equalTo 89 = .ok (.iconst 0, 1) := by decide +kernel
theorem d_Md_equalTo_90 : decode b_Md_equalTo 90 = .ok (.istore_n 3, 1) := by decide +kernel
theorem d_Md_equalTo_91 : decode b_Md_equalTo 91 = .ok (.iload_n 3, 1) := by decide +kernel
theorem d_Md_equalTo_92 : decode b_Md_equalTo 92 = .ok (.iload_n 1, 1) := by decide +kernel
theorem d_Md_equalTo_93 : decode b_Md_equalTo 93 = .ok (.if_icmp .ge 20, 3) := by decide +kernel
theorem d_Md_equalTo_96 : decode b_Md_equalTo 96 = .ok (.aload_n 0, 1) := by decide +kernel
theorem d_Md_equalTo_97 : decode b_Md_equalTo 97 = .ok (.iload_n 2, 1) := by decide +kernel
theorem d_Md_equalTo_98 : decode b_Md_equalTo 98 = .ok (.iload_n 3, 1) := by decide +kernel
theorem d_Md_equalTo_99 : decode b_Md_equalTo 99 = .ok (.invokevirtual 234, 3) := by decide +kernel
theorem d_Md_equalTo_102 : decode b_Md_equalTo 102 = .ok (.ifCond .eq 5, 3) := by decide +kernel
theorem d_Md_equalTo_105 : decode b_Md_equalTo 105 = .ok (.iload_n 3, 1) := by decide +kernel
theorem d_Md_equalTo_106 : decode b_Md_equalTo 106 = .ok (.ireturn, 1) := by decide +kernel
theorem d_Md_equalTo_107 : decode b_Md_equalTo 107 = .ok (.iinc 3 1, 3) := by decide +kernel
theorem d_Md_equalTo_110 : decode b_Md_equalTo 110 = .ok (.goto (-19), 3) := by decide +kernel
theorem d_Md_equalTo_113 : decode b_Md_equalTo 113 = .ok (.iconst (-1), 1) := by decide +kernel
theorem d_Md_equalTo_114 : decode b_Md_equalTo 114 = .ok (.ireturn, 1) := by decide +kernel
theorem d_Md_toZero_0 : decode b_Md_toZero 0 = .ok (.aload_n 0, 1) := by decide +kernel
theorem d_Md_toZero_1 : decode b_Md_toZero 1 = .ok (.iconst 0, 1) := by decide +kernel
theorem d_Md_toZero_2 : decode b_Md_toZero 2 = .ok (.putfield 192, 3) := by decide +kernel
theorem d_Md_toZero_5 : decode b_Md_toZero 5 = .ok (.iconst 0, 1) := by decide +kernel
theorem d_Md_toZero_6 : decode b_Md_toZero 6 = .ok (.istore_n 3, 1) := by decide +kernel
theorem d_Md_toZero_7 : decode b_Md_toZero 7 = .ok (.iload_n 3, 1) := by decide +kernel
theorem d_Md_toZero_8 : decode b_Md_toZero 8 = .ok (.iload_n 2, 1) := by decide +kernel
theorem d_Md_toZero_9 : decode b_Md_toZero 9 = .ok (.if_icmp .ge 15, 3) := by decide +kernel
theorem d_Md_toZero_12 : decode b_Md_toZero 12 = .ok (.aload_n 0, 1) := by decide +kernel
theorem d_Md_toZero_13 : decode b_Md_toZero 13 = .ok (.iload_n 1, 1) := by decide +kernel
theorem d_Md_toZero_14 : decode b_Md_toZero 14 = .ok (.iload_n 3, 1) := by decide +kernel
theorem d_Md_toZero_15 : decode b_Md_toZero 15 = .ok (.invokevirtual 217, 3) := by decide +kernel
theorem d_Md_toZero_18 : decode b_Md_toZero 18 = .ok (.iinc 3 1, 3) := by decide +kernel
theorem d_Md_toZero_21 : decode b_Md_toZero 21 = .ok (.goto (-14), 3) := by decide +kernel
theorem d_Md_toZero_24 : decode b_Md_toZero 24 = .ok (.iconst 0, 1) := by decide +kernel
theorem d_Md_toZero_25 : decode b_Md_toZero 25 = .ok (.istore_n 3, 1) := by decide +kernel
theorem d_Md_toZero_26 : decode b_Md_toZero 26 = .ok (.iload_n 3, 1) := by decide +kernel
theorem d_Md_toZero_27 : decode b_Md_toZero 27 = .ok (.iload_n 2, 1) := by decide +kernel
theorem d_Md_toZero_28 : decode b_Md_toZero 28 = .ok (.if_icmp .ge 83, 3) := by decide +kernel
theorem d_Md_toZero_31 : decode b_Md_toZero 31 = .ok (.iconst 0, 1) := by decide +kernel
theorem d_Md_toZero_32 : decode b_Md_toZero 32 = .ok (.istore 4, 2) := by decide +kernel
theorem d_Md_toZero_34 : decode b_Md_toZero 34 = .ok (.iload 4, 2) := by decide +kernel
theorem d_Md_toZero_36 : decode b_Md_toZero 36 = .ok (.aload_n 0, 1) := by decide +kernel
theorem d_Md_toZero_37 : decode b_Md_toZero 37 = .ok (.getfield 73, 3) := by decide +kernel
theorem d_Md_toZero_40 : decode b_Md_toZero 40 = .ok (.sipush 3000, 3) := by decide +kernel
theorem d_Md_toZero_43 : decode b_Md_toZero 43 = .ok (.iload_n 1, 1) := by decide +kernel
theorem d_Md_toZero_44 : decode b_Md_toZero 44 = .ok (.imul, 1) := by decide +kernel
theorem d_Md_toZero_45 : decode b_Md_toZero 45 = .ok (.iload_n 3, 1) := by decide +kernel
theorem d_Md_toZero_46 : decode b_Md_toZero 46 = .ok (.iadd, 1) := by decide +kernel
theorem d_Md_toZero_47 : decode b_Md_toZero 47 = .ok (.iaload, 1) := by decide +kernel
theorem d_Md_toZero_48 : decode b_Md_toZero 48 = .ok (.if_icmp .ge 57, 3) := by decide +kernel
theorem d_Md_toZero_51 : decode b_Md_toZero 51 = .ok (.aload_n 0, 1) := by decide +kernel
theorem d_Md_toZero_52 : decode b_Md_toZero 52 = .ok (.getfield 64, 3) := by decide +kernel
theorem d_Md_toZero_55 : decode b_Md_toZero 55 = .ok (.ldc 172, 2) := by decide +kernel
theorem d_Md_toZero_57 : decode b_Md_toZero 57 = .ok (.iload_n 1, 1) := by decide +kernel
theorem d_Md_toZero_58 : decode b_Md_toZero 58 = .ok (.imul, 1) := by decide +kernel
theorem d_Md_toZero_59 : decode b_Md_toZero 59 = .ok (.bipush 24, 2) := by decide +kernel
theorem d_Md_toZero_61 : decode b_Md_toZero 61 = .ok (.iload_n 3, 1) := by decide +kernel
theorem d_Md_toZero_62 : decode b_Md_toZero 62 = .ok (.imul, 1) := by decide +kernel
theorem d_Md_toZero_63 : decode b_Md_toZero 63 = .ok (.iadd, 1) := by decide +kernel
theorem d_Md_toZero_64 : decode b_Md_toZero 64 = .ok (.iload 4, 2) := by decide +kernel
theorem d_Md_toZero_66 : decode b_Md_toZero 66 = .ok (.iadd, 1) := by decide +kernel
theorem d_Md_toZero_67 : decode b_Md_toZero 67 = .ok (.dup2, 1) := by decide +kernel
theorem d_Md_toZero_68 : decode b_Md_toZero 68 = .ok (.laload, 1) := by decide +kernel
theorem d_Md_toZero_69 : decode b_Md_toZero 69 = .ok (.aload_n 0, 1) := by decide +kernel
theorem d_Md_toZero_70 : decode b_Md_toZero 70 = .ok (.getfield 196, 3) := by decide +kernel
theorem d_Md_toZero_73 : decode b_Md_toZero 73 = .ok (.lsub, 1) := by decide +kernel
theorem d_Md_toZero_74 : decode b_Md_toZero 74 = .ok (.lastore, 1) := by decide +kernel
theorem d_Md_toZero_75 : decode b_Md_toZero 75 = .ok (.aload_n 0, 1) := by decide +kernel
theorem d_Md_toZero_76 : decode b_Md_toZero 76 = .ok (.getfield 67, 3) := by decide +kernel
theorem d_Md_toZero_79 : decode b_Md_toZero 79 = .ok (.ldc 172, 2) := by decide +kernel
theorem d_Md_toZero_81 : decode b_Md_toZero 81 = .ok (.iload_n 1, 1) := by decide +kernel
theorem d_Md_toZero_82 : decode b_Md_toZero 82 = .ok (.imul, 1) := by decide +kernel
theorem d_Md_toZero_83 : decode b_Md_toZero 83 = .ok (.bipush 24, 2) := by decide +kernel
theorem d_Md_toZero_85 : decode b_Md_toZero 85 = .ok (.iload_n 3, 1) := by decide +kernel
theorem d_Md_toZero_86 : decode b_Md_toZero 86 = .ok (.imul, 1) := by decide +kernel
theorem d_Md_toZero_87 : decode b_Md_toZero 87 = .ok (.iadd, 1) := by decide +kernel
theorem d_Md_toZero_88 : decode b_Md_toZero 88 = .ok (.iload 4, 2) := by decide +kernel
theorem d_Md_toZero_90 : decode b_Md_toZero 90 = .ok (.iadd, 1) := by decide +kernel
theorem d_Md_toZero_91 : decode b_Md_toZero 91 = .ok (.dup2, 1) := by decide +kernel
theorem d_Md_toZero_92 : decode b_Md_toZero 92 = .ok (.laload, 1) := by decide +kernel
theorem d_Md_toZero_93 : decode b_Md_toZero 93 = .ok (.aload_n 0, 1) := by decide +kernel
theorem d_Md_toZero_94 : decode b_Md_toZero 94 = .ok (.getfield 199, 3) := by decide +kernel
theorem d_Md_toZero_97 : decode b_Md_toZero 97 = .ok (.lsub, 1) := by decide +kernel
theorem d_Md_toZero_98 : decode b_Md_toZero 98 = .ok (.lastore, 1) := by decide +kernel
theorem d_Md_toZero_99 : decode b_Md_toZero 99 = .ok (.iinc 4 1, 3) := by decide +kernel
theorem d_Md_toZero_102 : decode b_Md_toZero 102 = .ok (.goto (-68), 3) := by decide +kernel
theorem d_Md_toZero_105 : decode b_Md_toZero 105 = .ok (.iinc 3 1, 3) := by decide +kernel
theorem d_Md_toZero_108 : decode b_Md_toZero 108 = .ok (.goto (-82), 3) := by decide +kernel
theorem d_Md_toZero_111 : decode b_Md_toZero 111 = .ok (.return_, 1) := by decide +kernel
theorem d_Md_isEqual_0 : decode b_Md_isEqual 0 = .ok (.aload_n 0, 1) := by decide +kernel
theorem d_Md_isEqual_1 : decode b_Md_isEqual 1 = .ok (.iconst 1, 1) := by decide +kernel
theorem d_Md_isEqual_2 : decode b_Md_isEqual 2 = .ok (.iload_n 2, 1) := by decide +kernel
theorem d_Md_isEqual_3 : decode b_Md_isEqual 3 = .ok (.iconst (-1), 1) := by decide +kernel
theorem d_Md_isEqual_4 : decode b_Md_isEqual 4 = .ok (.invokevirtual 185, 3) := by decide +kernel
theorem d_Md_isEqual_7 : decode b_Md_isEqual 7 = .ok (.istore_n 3, 1) := by decide +kernel
theorem d_Md_isEqual_8 : decode b_Md_isEqual 8 = .ok (.iload_n 1, 1) := by decide +kernel
theorem d_Md_isEqual_9 : decode b_Md_isEqual 9 = .ok (.iload_n 3, 1) := by decide +kernel
theorem d_Md_isEqual_10 : decode b_Md_isEqual 10 = .ok (.if_icmp .eq 5, 3) := by decide +kernel
theorem d_Md_isEqual_13 : decode b_Md_isEqual 13 = .ok (.iconst 0, 1) := by decide +kernel
theorem d_Md_isEqual_14 : decode b_Md_isEqual 14 = .ok (.ireturn, 1) := by decide +kernel
theorem d_Md_isEqual_15 : decode b_Md_isEqual 15 = .ok (.aload_n 0, 1) := by decide +kernel
theorem d_Md_isEqual_16 : decode b_Md_isEqual 16 = .ok (.iconst 1, 1) := by decide +kernel
theorem d_Md_isEqual_17 : decode b_Md_isEqual 17 = .ok (.iload_n 3, 1) := by decide +kernel
theorem d_Md_isEqual_18 : decode b_Md_isEqual 18 = .ok (.invokevirtual 228, 3) := by decide +kernel
theorem d_Md_isEqual_21 : decode b_Md_isEqual 21 = .ok (.iconst 0, 1) := by decide +kernel
theorem d_Md_isEqual_22 : decode b_Md_isEqual 22 = .ok (.istore 4, 2) := by decide +kernel
theorem d_Md_isEqual_24 : decode b_Md_isEqual 24 = .ok (.iload 4, 2) := by decide +kernel
theorem d_Md_isEqual_26 : decode b_Md_isEqual 26 = .ok (.iload_n 3, 1) := by decide +kernel
theorem d_Md_isEqual_27 : decode b_Md_isEqual 27 = .ok (.if_icmp .ge 17, 3) := by decide +kernel
theorem d_Md_isEqual_30 : decode b_Md_isEqual 30 = .ok (.aload_n 0, 1) := by decide +kernel
theorem d_Md_isEqual_31 : decode b_Md_isEqual 31 = .ok (.getfield 100, 3) := by decide +kernel
theorem d_Md_isEqual_34 : decode b_Md_isEqual 34 = .ok (.iload 4, 2) := by decide +kernel
theorem d_Md_isEqual_36 : decode b_Md_isEqual 36 = .ok (.iconst 0, 1) := by decide +kernel
theorem d_Md_isEqual_37 : decode b_Md_isEqual 37 = .ok (.bastore, 1) := by decide +kernel
theorem d_Md_isEqual_38 : decode b_Md_isEqual 38 = .ok (.iinc 4 1, 3) := by decide +kernel
theorem d_Md_isEqual_41 : decode b_Md_isEqual 41 = .ok (.goto (-17), 3) := by decide +kernel
theorem d_Md_isEqual_44 : decode b_Md_isEqual 44 = .ok (.iconst 0, 1) := by decide +kernel
theorem d_Md_isEqual_45 : decode b_Md_isEqual 45 = .ok (.istore 4, 2) := by decide +kernel
theorem d_Md_isEqual_47 : decode b_Md_isEqual 47 = .ok (.iload 4, 2) := by decide +kernel
theorem d_Md_isEqual_49 : decode b_Md_isEqual 49 = .ok (.iload_n 1, 1) := by decide +kernel
theorem d_Md_isEqual_50 : decode b_Md_isEqual 50 = .ok (.if_icmp .ge 61, 3) := by decide +kernel
theorem d_Md_isEqual_53 : decode b_Md_isEqual 53 = .ok (.iconst 0, 1) := by decide +kernel
theorem d_Md_isEqual_54 : decode b_Md_isEqual 54 = .ok (.istore 5, 2) := by decide +kernel
theorem d_Md_isEqual_56 : decode b_Md_isEqual 56 = .ok (.iload 5, 2) := by decide +kernel
theorem d_Md_isEqual_58 : decode b_Md_isEqual 58 = .ok (.iload_n 3, 1) := by decide +kernel
theorem d_Md_isEqual_59 : decode b_Md_isEqual 59 = .ok (.if_icmp .ge 30, 3) := by decide +kernel
theorem d_Md_isEqual_62 : decode b_Md_isEqual 62 = .ok (.aload_n 0, 1) := by decide +kernel
theorem d_Md_isEqual_63 : decode b_Md_isEqual 63 = .ok (.getfield 100, 3) := by decide +kernel
theorem d_Md_isEqual_66 : decode b_Md_isEqual 66 = .ok (.iload 5, 2) := by decide +kernel
theorem d_Md_isEqual_68 : decode b_Md_isEqual 68 = .ok (.baload, 1) := by decide +kernel
theorem d_Md_isEqual_69 : decode b_Md_isEqual 69 = .ok (.ifCond .ne 14, 3) := by decide +kernel
theorem d_Md_isEqual_72 : decode b_Md_isEqual 72 = .ok (.aload_n 0, 1) := by decide +kernel
theorem d_Md_isEqual_73 : decode b_Md_isEqual 73 = .ok (.iload 4, 2) := by decide +kernel
theorem d_Md_isEqual_75 : decode b_Md_isEqual 75 = .ok (.iload 5, 2) := by decide +kernel
theorem d_Md_isEqual_77 : decode b_Md_isEqual 77 = .ok (.invokevirtual 231, 3) := by decide +kernel
theorem d_Md_isEqual_80 : decode b_Md_isEqual 80 = .ok (.ifCond .ne 9, 3) := by decide +kernel
theorem d_Md_isEqual_83 : decode b_Md_isEqual 83 = .ok (.iinc 5 1, 3) := by decide +kernel
theorem d_Md_isEqual_86 : decode b_Md_isEqual 86 = .ok (.goto (-30), 3) := by decide +kernel
theorem d_Md_isEqual_89 : decode b_Md_isEqual 89 = .ok (.iload 5, 2) := by decide +kernel
theorem d_Md_isEqual_91 : decode b_Md_isEqual 91 = .ok (.iload_n 3, 1) := by decide +kernel
theorem d_Md_isEqual_92 : decode b_Md_isEqual 92 = .ok (.if_icmp .ne 5, 3) := by decide +kernel
theorem d_Md_isEqual_95 : decode b_Md_isEqual 95 = .ok (.iconst 0, 1) := by decide +kernel
theorem d_Md_isEqual_96 : decode b_Md_isEqual 96 = .ok (.ireturn, 1) := by decide +kernel
theorem d_Md_isEqual_97 : decode b_Md_isEqual 97 = .ok (.aload_n 0, 1) := by decide +kernel
theorem d_Md_isEqual_98 : decode b_Md_isEqual 98 = .ok (.getfield 100, 3) := by decide +kernel
theorem d_Md_isEqual_101 : decode b_Md_isEqual 101 = .ok (.iload 5, 2) := by decide +kernel
theorem d_Md_isEqual_103 : decode b_Md_isEqual 103 = .ok (.iconst 1, 1) := by decide +kernel
theorem d_Md_isEqual_104 : decode b_Md_isEqual 104 = .ok (.bastore, 1) := by decide +kernel
theorem d_Md_isEqual_105 : decode b_Md_isEqual 105 = .ok (.iinc 4 1, 3) := by decide +kernel
theorem d_Md_isEqual_108 : decode b_Md_isEqual 108 = .ok (.goto (-61), 3) := by decide +kernel
theorem d_Md_isEqual_111 : decode b_Md_isEqual 111 = .ok (.iconst 1, 1) := by decide +kernel
theorem d_Md_isEqual_112 : decode b_Md_isEqual 112 = .ok (.ireturn, 1) := by decide +kernel
theorem d_Md_isSame_0 : decode b_Md_isSame 0 = .ok (.aload_n 0, 1) := by decide +kernel
theorem d_Md_isSame_1 : decode b_Md_isSame 1 = .ok (.getfield 70, 3) := by decide +kernel
theorem d_Md_isSame_4 : decode b_Md_isSame 4 = .ok (.iload_n 1, 1) := by decide +kernel
theorem d_Md_isSame_5 : decode b_Md_isSame 5 = .ok (.iaload, 1) := by decide +kernel
theorem d_Md_isSame_6 : decode b_Md_isSame 6 = .ok (.istore_n 3, 1) := by decide +kernel
theorem d_Md_isSame_7 : decode b_Md_isSame 7 = .ok (.aload_n 0, 1) := by decide +kernel
theorem d_Md_isSame_8 : decode b_Md_isSame 8 = .ok (.getfield 70, 3) := by decide +kernel
theorem d_Md_isSame_11 : decode b_Md_isSame 11 = .ok (.sipush 3000, 3) := by decide +kernel
theorem d_Md_isSame_14 : decode b_Md_isSame 14 = .ok (.iload_n 2, 1) := by decide +kernel
theorem d_Md_isSame_15 : decode b_Md_isSame 15 = .ok (.iadd, 1) := by decide +kernel
theorem d_Md_isSame_16 : decode b_Md_isSame 16 = .ok (.iaload, 1) := by decide +kernel
theorem d_Md_isSame_17 : decode b_Md_isSame 17 = .ok (.istore 4, 2) := by decide +kernel
theorem d_Md_isSame_19 : decode b_Md_isSame 19 = .ok (.aload_n 0, 1) := by decide +kernel
theorem d_Md_isSame_20 : decode b_Md_isSame 20 = .ok (.getfield 73, 3) := by decide +kernel
theorem d_Md_isSame_23 : decode b_Md_isSame 23 = .ok (.iload_n 1, 1) := by decide +kernel
theorem d_Md_isSame_24 : decode b_Md_isSame 24 = .ok (.iaload, 1) := by decide +kernel
theorem d_Md_isSame_25 : decode b_Md_isSame 25 = .ok (.istore 5, 2) := by decide +kernel
theorem d_Md_isSame_27 : decode b_Md_isSame 27 = .ok (.aload_n 0, 1) := by decide +kernel
theorem d_Md_isSame_28 : decode b_Md_isSame 28 = .ok (.getfield 13, 3) := by decide +kernel
theorem d_Md_isSame_31 : decode b_Md_isSame 31 = .ok (.iload_n 3, 1) := by decide +kernel
theorem d_Md_isSame_32 : decode b_Md_isSame 32 = .ok (.iaload, 1) := by decide +kernel
theorem d_Md_isSame_33 : decode b_Md_isSame 33 = .ok (.aload_n 0, 1) := by decide +kernel
theorem d_Md_isSame_34 : decode b_Md_isSame 34 = .ok (.getfield 13, 3) := by decide +kernel
theorem d_Md_isSame_37 : decode b_Md_isSame 37 = .ok (.iload 4, 2) := by decide +kernel
theorem d_Md_isSame_39 : decode b_Md_isSame 39 = .ok (.iaload, 1) := by decide +kernel
theorem d_Md_isSame_40 : decode b_Md_isSame 40 = .ok (.if_icmp .ne 51, 3) := by decide +kernel
theorem d_Md_isSame_43 : decode b_Md_isSame 43 = .ok (.aload_n 0, 1) := by decide +kernel
theorem d_Md_isSame_44 : decode b_Md_isSame 44 = .ok (.getfield 16, 3) := by decide +kernel
theorem d_Md_isSame_47 : decode b_Md_isSame 47 = .ok (.iload_n 3, 1) := by decide +kernel
theorem d_Md_isSame_48 : decode b_Md_isSame 48 = .ok (.laload, 1) := by decide +kernel
theorem d_Md_isSame_49 : decode b_Md_isSame 49 = .ok (.aload_n 0, 1) := by decide +kernel
theorem d_Md_isSame_50 : decode b_Md_isSame 50 = .ok (.getfield 16, 3) := by decide +kernel
theorem d_Md_isSame_53 : decode b_Md_isSame 53 = .ok (.iload 4, 2) := by decide +kernel
theorem d_Md_isSame_55 : decode b_Md_isSame 55 = .ok (.laload, 1) := by decide +kernel
theorem d_Md_isSame_56 : decode b_Md_isSame 56 = .ok (.lcmp, 1) := by decide +kernel
theorem d_Md_isSame_57 : decode b_Md_isSame 57 = .ok (.ifCond .ne 34, 3) := by decide +kernel
theorem d_Md_isSame_60 : decode b_Md_isSame 60 = .ok (.aload_n 0, 1) := by decide +kernel
theorem d_Md_isSame_61 : decode b_Md_isSame 61 = .ok (.getfield 20, 3) := by decide +kernel
theorem d_Md_isSame_64 : decode b_Md_isSame 64 = .ok (.iload_n 3, 1) := by decide +kernel
theorem d_Md_isSame_65 : decode b_Md_isSame 65 = .ok (.iaload, 1) := by decide +kernel
theorem d_Md_isSame_66 : decode b_Md_isSame 66 = .ok (.aload_n 0, 1) := by decide +kernel
theorem d_Md_isSame_67 : decode b_Md_isSame 67 = .ok (.getfield 20, 3) := by decide +kernel
theorem d_Md_isSame_70 : decode b_Md_isSame 70 = .ok (.iload 4, 2) := by decide +kernel
theorem d_Md_isSame_72 : decode b_Md_isSame 72 = .ok (.iaload, 1) := by decide +kernel
theorem d_Md_isSame_73 : decode b_Md_isSame 73 = .ok (.if_icmp .ne 18, 3) := by decide +kernel
theorem d_Md_isSame_76 : decode b_Md_isSame 76 = .ok (.iload 5, 2) := by decide +kernel
theorem d_Md_isSame_78 : decode b_Md_isSame 78 = .ok (.aload_n 0, 1) := by decide +kernel
theorem d_Md_isSame_79 : decode b_Md_isSame 79 = .ok (.getfield 73, 3) := by decide +kernel
theorem d_Md_isSame_82 : decode b_Md_isSame 82 = .ok (.sipush 3000, 3) := by decide +kernel
theorem d_Md_isSame_85 : decode b_Md_isSame 85 = .ok (.iload_n 2, 1) := by decide +kernel
theorem d_Md_isSame_86 : decode b_Md_isSame 86 = .ok (.iadd, 1) := by decide +kernel
theorem d_Md_isSame_87 : decode b_Md_isSame 87 = .ok (.iaload, 1) := by decide +kernel
theorem d_Md_isSame_88 : decode b_Md_isSame 88 = .ok (.if_icmp .eq 5, 3) := by decide +kernel
theorem d_Md_isSame_91 : decode b_Md_isSame 91 = .ok (.iconst 0, 1) := by decide +kernel
theorem d_Md_isSame_92 : decode b_Md_isSame 92 = .ok (.ireturn, 1) := by decide +kernel
theorem d_Md_isSame_93 : decode b_Md_isSame 93 = .ok (.aload_n 0, 1) := by decide +kernel
theorem d_Md_isSame_94 : decode b_Md_isSame 94 = .ok (.getfield 16, 3) := by decide +kernel
theorem d_Md_isSame_97 : decode b_Md_isSame 97 = .ok (.iload_n 3, 1) := by decide +kernel
theorem d_Md_isSame_98 : decode b_Md_isSame 98 = .ok (.laload, 1) := by decide +kernel
theorem d_Md_isSame_99 : decode b_Md_isSame 99 = .ok (.lconst 0, 1) := by decide +kernel
theorem d_Md_isSame_100 : decode b_Md_isSame 100 = .ok (.lcmp, 1) := by decide +kernel
theorem d_Md_isSame_101 : decode b_Md_isSame 101 = .ok (.ifCond .le 38, 3) := by decide +kernel
theorem d_Md_isSame_104 : decode b_Md_isSame 104 = .ok (.aload_n 0, 1) := by decide +kernel
theorem d_Md_isSame_105 : decode b_Md_isSame 105 = .ok (.iload_n 1, 1) := by decide +kernel
theorem d_Md_isSame_106 : decode b_Md_isSame 106 = .ok (.iload_n 2, 1) := by decide +kernel
theorem d_Md_isSame_107 : decode b_Md_isSame 107 = .ok (.iload 5, 2) := by decide +kernel
theorem d_Md_isSame_109 : decode b_Md_isSame 109 = .ok (.iconst 0, 1) := by decide +kernel
theorem d_Md_isSame_110 : decode b_Md_isSame 110 = .ok (.iconst 1, 1) := by decide +kernel
theorem d_Md_isSame_111 : decode b_Md_isSame 111 = .ok (.invokevirtual 224, 3) := by decide +kernel
theorem d_Md_isSame_114 : decode b_Md_isSame 114 = .ok (.ifCond .ne 19, 3) := by decide +kernel
theorem d_Md_isSame_117 : decode b_Md_isSame 117 = .ok (.aload_n 0, 1) := by decide +kernel
theorem d_Md_isSame_118 : decode b_Md_isSame 118 = .ok (.iload_n 1, 1) := by decide +kernel
theorem d_Md_isSame_119 : decode b_Md_isSame 119 = .ok (.iload_n 2, 1) := by decide +kernel
theorem d_Md_isSame_120 : decode b_Md_isSame 120 = .ok (.iload 5, 2) := by decide +kernel
theorem d_Md_isSame_122 : decode b_Md_isSame 122 = .ok (.iload 5, 2) := by decide +kernel
theorem d_Md_isSame_124 : decode b_Md_isSame 124 = .ok (.iconst 1, 1) := by decide +kernel
theorem d_Md_isSame_125 : decode b_Md_isSame 125 = .ok (.isub, 1) := by decide +kernel
theorem d_Md_isSame_126 : decode b_Md_isSame 126 = .ok (.iconst (-1), 1) := by decide +kernel
theorem d_Md_isSame_127 : decode b_Md_isSame 127 = .ok (.invokevirtual 224, 3) := by decide +kernel
theorem d_Md_isSame_130 : decode b_Md_isSame 130 = .ok (.ifCond .eq 7, 3) := by decide +kernel
theorem d_Md_isSame_133 : decode b_Md_isSame 133 = .ok (.iconst 1, 1) := by decide +kernel
theorem d_Md_isSame_134 : decode b_Md_isSame 134 = .ok (.goto 4, 3) := by decide +kernel
theorem d_Md_isSame_137 : decode b_Md_isSame 137 = .ok (.iconst 0, 1) := by decide +kernel
theorem d_Md_isSame_138 : decode b_Md_isSame 138 = .ok (.ireturn, 1) := by decide +kernel
theorem d_Md_isSame_139 : decode b_Md_isSame 139 = .ok (.iconst 0, 1) := by decide +kernel
theorem d_Md_isSame_140 : decode b_Md_isSame 140 = .ok (.istore 6, 2) := by decide +kernel
theorem d_Md_isSame_142 : decode b_Md_isSame 142 = .ok (.iload 6, 2) := by decide +kernel
theorem d_Md_isSame_144 : decode b_Md_isSame 144 = .ok (.iload 5, 2) := by decide +kernel
theorem d_Md_isSame_146 : decode b_Md_isSame 146 = .ok (.if_icmp .ge 39, 3) := by decide +kernel
theorem d_Md_isSame_149 : decode b_Md_isSame 149 = .ok (.aload_n 0, 1) := by decide +kernel
theorem d_Md_isSame_150 : decode b_Md_isSame 150 = .ok (.iload_n 1, 1) := by decide +kernel
theorem d_Md_isSame_151 : decode b_Md_isSame 151 = .ok (.iload_n 2, 1) := by decide +kernel
theorem d_Md_isSame_152 : decode b_Md_isSame 152 = .ok (.iload 5, 2) := by decide +kernel
theorem d_Md_isSame_154 : decode b_Md_isSame 154 = .ok (.iload 6, 2) := by decide +kernel
theorem d_Md_isSame_156 : decode b_Md_isSame 156 = .ok (.iconst 1, 1) := by decide +kernel
theorem d_Md_isSame_157 : decode b_Md_isSame 157 = .ok (.invokevirtual 224, 3) := by decide +kernel
theorem d_Md_isSame_160 : decode b_Md_isSame 160 = .ok (.ifCond .ne 17, 3) := by decide +kernel
theorem d_Md_isSame_163 : decode b_Md_isSame 163 = .ok (.aload_n 0, 1) := by decide +kernel
theorem d_Md_isSame_164 : decode b_Md_isSame 164 = .ok (.iload_n 1, 1) := by decide +kernel
theorem d_Md_isSame_165 : decode b_Md_isSame 165 = .ok (.iload_n 2, 1) := by decide +kernel
theorem d_Md_isSame_166 : decode b_Md_isSame 166 = .ok (.iload 5, 2) := by decide +kernel
theorem d_Md_isSame_168 : decode b_Md_isSame 168 = .ok (.iload 6, 2) := by decide +kernel
theorem d_Md_isSame_170 : decode b_Md_isSame 170 = .ok (.iconst (-1), 1) := by decide +kernel
theorem d_Md_isSame_171 : decode b_Md_isSame 171 = .ok (.invokevirtual 224, 3) := by decide +kernel
theorem d_Md_isSame_174 : decode b_Md_isSame 174 = .ok (.ifCond .eq 5, 3) := by decide +kernel
theorem d_Md_isSame_177 : decode b_Md_isSame 177 = .ok (.iconst 1, 1) := by decide +kernel
theorem d_Md_isSame_178 : decode b_Md_isSame 178 = .ok (.ireturn, 1) := by decide +kernel
theorem d_Md_isSame_179 : decode b_Md_isSame 179 = .ok (.iinc 6 1, 3) := by decide +kernel
theorem d_Md_isSame_182 : decode b_Md_isSame 182 = .ok (.goto (-40), 3) := by decide +kernel
theorem d_Md_isSame_185 : decode b_Md_isSame 185 = .ok (.iconst 0, 1) := by decide +kernel
theorem d_Md_isSame_186 : decode b_Md_isSame 186 = .ok (.ireturn, 1) := by decide +kernel
theorem d_Md_isSameFrom_0 : decode b_Md_isSameFrom 0 = .ok (.iconst 0, 1) := by decide +kernel
theorem d_Md_isSameFrom_1 : decode b_Md_isSameFrom 1 = .ok (.istore 6, 2) := by decide +kernel
theorem d_Md_isSameFrom_3 : decode b_Md_isSameFrom 3 = .ok (.iload 6, 2) := by decide +kernel
theorem d_Md_isSameFrom_5 : decode b_Md_isSameFrom 5 = .ok (.iload_n 3, 1) := by decide +kernel
theorem d_Md_isSameFrom_6 : decode b_Md_isSameFrom 6 = .ok (.if_icmp .ge 78, 3) := by decide +kernel
theorem d_Md_isSameFrom_9 : decode b_Md_isSameFrom 9 = .ok (.ldc 172, 2) := by decide +kernel
theorem d_Md_isSameFrom_11 : decode b_Md_isSameFrom 11 = .ok (.bipush 24, 2) := by decide +kernel
theorem d_Md_isSameFrom_13 : decode b_Md_isSameFrom 13 = .ok (.iload_n 2, 1) := by decide +kernel
theorem d_Md_isSameFrom_14 : decode b_Md_isSameFrom 14 = .ok (.imul, 1) := by decide +kernel
theorem d_Md_isSameFrom_15 : decode b_Md_isSameFrom 15 = .ok (.iadd, 1) := by decide +kernel
theorem d_Md_isSameFrom_16 : decode b_Md_isSameFrom 16 = .ok (.iload 4, 2) := by decide +kernel
theorem d_Md_isSameFrom_18 : decode b_Md_isSameFrom 18 = .ok (.iload 5, 2) := by decide +kernel
theorem d_Md_isSameFrom_20 : decode b_Md_isSameFrom 20 = .ok (.iload 6, 2) := by decide +kernel
theorem d_Md_isSameFrom_22 : decode b_Md_isSameFrom 22 = .ok (.imul, 1) := by decide +kernel
theorem d_Md_isSameFrom_23 : decode b_Md_isSameFrom 23 = .ok (.iadd, 1) := by decide +kernel
theorem d_Md_isSameFrom_24 : decode b_Md_isSameFrom 24 = .ok (.iload_n 3, 1) := by decide +kernel
theorem d_Md_isSameFrom_25 : decode b_Md_isSameFrom 25 = .ok (.iadd, 1) := by decide +kernel
theorem d_Md_isSameFrom_26 : decode b_Md_isSameFrom 26 = .ok (.iload_n 3, 1) := by decide +kernel
theorem d_Md_isSameFrom_27 : decode b_Md_isSameFrom 27 = .ok (.irem, 1) := by decide +kernel
theorem d_Md_isSameFrom_28 : decode b_Md_isSameFrom 28 = .ok (.iadd, 1) := by decide +kernel
theorem d_Md_isSameFrom_29 : decode b_Md_isSameFrom 29 = .ok (.istore 7, 2) := by decide +kernel
theorem d_Md_isSameFrom_31 : decode b_Md_isSameFrom 31 = .ok (.bipush 24, 2) := by decide +kernel
theorem d_Md_isSameFrom_33 : decode b_Md_isSameFrom 33 = .ok (.iload_n 1, 1) := by decide +kernel
theorem d_Md_isSameFrom_34 : decode b_Md_isSameFrom 34 = .ok (.imul, 1) := by decide +kernel
theorem d_Md_isSameFrom_35 : decode b_Md_isSameFrom 35 = .ok (.iload 6, 2) := by decide +kernel
theorem d_Md_isSameFrom_37 : decode b_Md_isSameFrom 37 = .ok (.iadd, 1) := by decide +kernel
theorem d_Md_isSameFrom_38 : decode b_Md_isSameFrom 38 = .ok (.istore 8, 2) := by decide +kernel
theorem d_Md_isSameFrom_40 : decode b_Md_isSameFrom 40 = .ok (.aload_n 0, 1) := by decide +kernel
theorem d_Md_isSameFrom_41 : decode b_Md_isSameFrom 41 = .ok (.getfield 64, 3) := by decide +kernel
theorem d_Md_isSameFrom_44 : decode b_Md_isSameFrom 44 = .ok (.iload 8, 2) := by decide +kernel
theorem d_Md_isSameFrom_46 : decode b_Md_isSameFrom 46 = .ok (.laload, 1) := by decide +kernel
theorem d_Md_isSameFrom_47 : decode b_Md_isSameFrom 47 = .ok (.aload_n 0, 1) := by decide +kernel
theorem d_Md_isSameFrom_48 : decode b_Md_isSameFrom 48 = .ok (.getfield 64, 3) := by decide +kernel
theorem d_Md_isSameFrom_51 : decode b_Md_isSameFrom 51 = .ok (.iload 7, 2) := by decide +kernel
theorem d_Md_isSameFrom_53 : decode b_Md_isSameFrom 53 = .ok (.laload, 1) := by decide +kernel
theorem d_Md_isSameFrom_54 : decode b_Md_isSameFrom 54 = .ok (.lcmp, 1) := by decide +kernel
theorem d_Md_isSameFrom_55 : decode b_Md_isSameFrom 55 = .ok (.ifCond .ne 21, 3) := by decide +kernel
theorem d_Md_isSameFrom_58 : decode b_Md_isSameFrom 58 = .ok (.aload_n 0, 1) := by decide +kernel
theorem d_Md_isSameFrom_59 : decode b_Md_isSameFrom 59 = .ok (.getfield 67, 3) := by decide +kernel
theorem d_Md_isSameFrom_62 : decode b_Md_isSameFrom 62 = .ok (.iload 8, 2) := by decide +kernel
theorem d_Md_isSameFrom_64 : decode b_Md_isSameFrom 64 = .ok (.laload, 1) := by decide +kernel
theorem d_Md_isSameFrom_65 : decode b_Md_isSameFrom 65 = .ok (.aload_n 0, 1) := by decide +kernel
theorem d_Md_isSameFrom_66 : decode b_Md_isSameFrom 66 = .ok (.getfield 67, 3) := by decide +kernel
theorem d_Md_isSameFrom_69 : decode b_Md_isSameFrom 69 = .ok (.iload 7, 2) := by decide +kernel
theorem d_Md_isSameFrom_71 : decode b_Md_isSameFrom 71 = .ok (.laload, 1) := by decide +kernel
theorem d_Md_isSameFrom_72 : decode b_Md_isSameFrom 72 = .ok (.lcmp, 1) := by decide +kernel
theorem d_Md_isSameFrom_73 : decode b_Md_isSameFrom 73 = .ok (.ifCond .eq 5, 3) := by decide +kernel
theorem d_Md_isSameFrom_76 : decode b_Md_isSameFrom 76 = .ok (.iconst 0, 1) := by decide +kernel
theorem d_Md_isSameFrom_77 : decode b_Md_isSameFrom 77 = .ok (.ireturn, 1) := by decide +kernel
theorem d_Md_isSameFrom_78 : decode b_Md_isSameFrom 78 = .ok (.iinc 6 1, 3) := by decide +kernel
theorem d_Md_isSameFrom_81 : decode b_Md_isSameFrom 81 = .ok (.goto (-78), 3) := by decide +kernel
theorem d_Md_isSameFrom_84 : decode b_Md_isSameFrom 84 = .ok (.iconst 1, 1) := by decide +kernel
theorem d_Md_isSameFrom_85 : decode b_Md_isSameFrom 85 = .ok (.ireturn, 1) := by decide +kernel
