theorem dJ9_floorDiv_f86c9_0 : decode cJ9_floorDiv_f86c9 0 = .ok (.lload_n 0, 1) := by decide +kernel
theorem dJ9_floorDiv_f86c9_1 : decode cJ9_floorDiv_f86c9 1 = .ok (.lload_n 2, 1) := by decide +kernel
theorem dJ9_floorDiv_f86c9_2 : decode cJ9_floorDiv_f86c9 2 = .ok (.ldiv, 1) := by decide +kernel
theorem dJ9_floorDiv_f86c9_3 : decode cJ9_floorDiv_f86c9 3 = .ok (.lstore 4, 2) := by decide +kernel
theorem dJ9_floorDiv_f86c9_5 : decode cJ9_floorDiv_f86c9 5 = .ok (.lload_n 0, 1) := by decide +kernel
theorem dJ9_floorDiv_f86c9_6 : decode cJ9_floorDiv_f86c9 6 = .ok (.lload_n 2, 1) := by decide +kernel
theorem dJ9_floorDiv_f86c9_7 : decode cJ9_floorDiv_f86c9 7 = .ok (.lxor, 1) := by decide +kernel
theorem dJ9_floorDiv_f86c9_8 : decode cJ9_floorDiv_f86c9 8 = .ok (.lconst 0, 1) := by decide +kernel
theorem dJ9_floorDiv_f86c9_9 : decode cJ9_floorDiv_f86c9 9 = .ok (.lcmp, 1) := by decide +kernel
theorem dJ9_floorDiv_f86c9_10 : decode cJ9_floorDiv_f86c9 10 = .ok (.ifCond .ge 17, 3) := by decide +kernel
theorem dJ9_floorDiv_f86c9_13 : decode cJ9_floorDiv_f86c9 13 = .ok (.lload 4, 2) := by decide +kernel
theorem dJ9_floorDiv_f86c9_15 : decode cJ9_floorDiv_f86c9 15 = .ok (.lload_n 2, 1) := by decide +kernel
theorem dJ9_floorDiv_f86c9_16 : decode cJ9_floorDiv_f86c9 16 = .ok (.lmul, 1) := by decide +kernel
theorem dJ9_floorDiv_f86c9_17 : decode cJ9_floorDiv_f86c9 17 = .ok (.lload_n 0, 1) := by decide +kernel
theorem dJ9_floorDiv_f86c9_18 : decode cJ9_floorDiv_f86c9 18 = .ok (.lcmp, 1) := by decide +kernel
theorem dJ9_floorDiv_f86c9_19 : decode cJ9_floorDiv_f86c9 19 = .ok (.ifCond .eq 8, 3) := by decide +kernel
theorem dJ9_floorDiv_f86c9_22 : decode cJ9_floorDiv_f86c9 22 = .ok (.lload 4, 2) := by decide +kernel
theorem dJ9_floorDiv_f86c9_24 : decode cJ9_floorDiv_f86c9 24 = .ok (.lconst 1, 1) := by decide +kernel
theorem dJ9_floorDiv_f86c9_25 : decode cJ9_floorDiv_f86c9 25 = .ok (.lsub, 1) := by decide +kernel
theorem dJ9_floorDiv_f86c9_26 : decode cJ9_floorDiv_f86c9 26 = .ok (.lreturn, 1) := by decide +kernel
theorem dJ9_floorDiv_f86c9_27 : decode cJ9_floorDiv_f86c9 27 = .ok (.lload 4, 2) := by decide +kernel
theorem dJ9_floorDiv_f86c9_29 : decode cJ9_floorDiv_f86c9 29 = .ok (.lreturn, 1) := by decide +kernel
theorem dJ9_floorMod_7cf53_0 : decode cJ9_floorMod_7cf53 0 = .ok (.iload_n 0, 1) := by decide +kernel
theorem dJ9_floorMod_7cf53_1 : decode cJ9_floorMod_7cf53 1 = .ok (.iload_n 1, 1) := by decide +kernel
theorem dJ9_floorMod_7cf53_2 : decode cJ9_floorMod_7cf53 2 = .ok (.irem, 1) := by decide +kernel
theorem dJ9_floorMod_7cf53_3 : decode cJ9_floorMod_7cf53 3 = .ok (.istore_n 2, 1) := by decide +kernel
theorem dJ9_floorMod_7cf53_4 : decode cJ9_floorMod_7cf53 4 = .ok (.iload_n 0, 1) := by decide +kernel
theorem dJ9_floorMod_7cf53_5 : decode cJ9_floorMod_7cf53 5 = .ok (.iload_n 1, 1) := by decide +kernel
theorem dJ9_floorMod_7cf53_6 : decode cJ9_floorMod_7cf53 6 = .ok (.ixor, 1) := by decide +kernel
theorem dJ9_floorMod_7cf53_7 : decode cJ9_floorMod_7cf53 7 = .ok (.ifCond .ge 11, 3) := by decide +kernel
theorem dJ9_floorMod_7cf53_10 : decode cJ9_floorMod_7cf53 10 = .ok (.iload_n 2, 1) := by decide +kernel
theorem dJ9_floorMod_7cf53_11 : decode cJ9_floorMod_7cf53 11 = .ok (.ifCond .eq 7, 3) := by decide +kernel
theorem dJ9_floorMod_7cf53_14 : decode cJ9_floorMod_7cf53 14 = .ok (.iload_n 2, 1) := by decide +kernel
theorem dJ9_floorMod_7cf53_15 : decode cJ9_floorMod_7cf53 15 = .ok (.iload_n 1, 1) := by decide +kernel
theorem dJ9_floorMod_7cf53_16 : decode cJ9_floorMod_7cf53 16 = .ok (.iadd, 1) := by decide +kernel
theorem dJ9_floorMod_7cf53_17 : decode cJ9_floorMod_7cf53 17 = .ok (.ireturn, 1) := by decide +kernel
theorem dJ9_floorMod_7cf53_18 : decode cJ9_floorMod_7cf53 18 = .ok (.iload_n 2, 1) := by decide +kernel
theorem dJ9_floorMod_7cf53_19 : decode cJ9_floorMod_7cf53 19 = .ok (.ireturn, 1) := by decide +kernel
theorem dJ9_max_7cf53_0 : decode cJ9_max_7cf53 0 = .ok (.iload_n 0, 1) := by decide +kernel
theorem dJ9_max_7cf53_1 : decode cJ9_max_7cf53 1 = .ok (.iload_n 1, 1) := by decide +kernel
theorem dJ9_max_7cf53_2 : decode cJ9_max_7cf53 2 = .ok (.if_icmp .lt 7, 3) := by decide +kernel
theorem dJ9_max_7cf53_5 : decode cJ9_max_7cf53 5 = .ok (.iload_n 0, 1) := by decide +kernel
theorem dJ9_max_7cf53_6 : decode cJ9_max_7cf53 6 = .ok (.goto 4, 3) := by decide +kernel
theorem dJ9_max_7cf53_9 : decode cJ9_max_7cf53 9 = .ok (.iload_n 1, 1) := by decide +kernel
theorem dJ9_max_7cf53_10 : decode cJ9_max_7cf53 10 = .ok (.ireturn, 1) := by decide +kernel
theorem dJ9_min_7cf53_0 : decode cJ9_min_7cf53 0 = .ok (.iload_n 0, 1) := by decide +kernel
theorem dJ9_min_7cf53_1 : decode cJ9_min_7cf53 1 = .ok (.iload_n 1, 1) := by decide +kernel
theorem dJ9_min_7cf53_2 : decode cJ9_min_7cf53 2 = .ok (.if_icmp .gt 7, 3) := by decide +kernel
theorem dJ9_min_7cf53_5 : decode cJ9_min_7cf53 5 = .ok (.iload_n 0, 1) := by decide +kernel
theorem dJ9_min_7cf53_6 : decode cJ9_min_7cf53 6 = .ok (.goto 4, 3) := by decide +kernel
theorem dJ9_min_7cf53_9 : decode cJ9_min_7cf53 9 = .ok (.iload_n 1, 1) := by decide +kernel
theorem dJ9_min_7cf53_10 : decode cJ9_min_7cf53 10 = .ok (.ireturn, 1) := by decide +kernel
theorem dJxa1e45_init_da8c8_0 : decode cJxa1e45_init_da8c8 0 = .ok (.aload_n 0, 1) := by decide +kernel
theorem dJxa1e45_init_da8c8_1 : decode cJxa1e45_init_da8c8 1 = .ok (.invokespecial 1, 3) := by decide +kernel
theorem dJxa1e45_init_da8c8_4 : decode cJxa1e45_init_da8c8 4 = .ok (.return_, 1) := by decide +kernel
theorem dJxc12de_init_da8c8_0 : decode cJxc12de_init_da8c8 0 = .ok (.aload_n 0, 1) := by decide +kernel
theorem dJxc12de_init_da8c8_1 : decode cJxc12de_init_da8c8 1 = .ok (.invokespecial 1, 3) := by decide +kernel
theorem dJxc12de_init_da8c8_4 : decode cJxc12de_init_da8c8 4 = .ok (.aload_n 0, 1) := by decide +kernel
theorem dJxc12de_init_da8c8_5 : decode cJxc12de_init_da8c8 5 = .ok (.iconst 0, 1) := by decide +kernel
theorem dJxc12de_init_da8c8_6 : decode cJxc12de_init_da8c8 6 = .ok (.putfield 7, 3) := by decide +kernel
theorem dJxc12de_init_da8c8_9 : decode cJxc12de_init_da8c8 9 = .ok (.return_, 1) := by decide +kernel
theorem dJx4a65c_init_da8c8_0 : decode cJx4a65c_init_da8c8 0 = .ok (.aload_n 0, 1) := by decide +kernel
theorem dJx4a65c_init_da8c8_1 : decode cJx4a65c_init_da8c8 1 = .ok (.invokespecial 1, 3) := by decide +kernel
theorem dJx4a65c_init_da8c8_4 : decode cJx4a65c_init_da8c8 4 = .ok (.aload_n 0, 1) := by decide +kernel
theorem dJx4a65c_init_da8c8_5 : decode cJx4a65c_init_da8c8 5 = .ok (.getstatic 39, 3) := by decide +kernel
theorem dJx4a65c_init_da8c8_8 : decode cJx4a65c_init_da8c8 8 = .ok (.putfield 9, 3) := by decide +kernel
theorem dJx4a65c_init_da8c8_11 : decode cJx4a65c_init_da8c8 11 = .ok (.return_, 1) := by decide +kernel
theorem dJx4a65c_grow_92f84_0 : decode cJx4a65c_grow_92f84 0 = .ok (.aload_n 0, 1) := by decide +kernel
theorem dJx4a65c_grow_92f84_1 : decode cJx4a65c_grow_92f84 1 = .ok (.getfield 9, 3) := by decide +kernel
theorem dJx4a65c_grow_92f84_4 : decode cJx4a65c_grow_92f84 4 = .ok (.arraylength, 1) := by decide +kernel
theorem dJx4a65c_grow_92f84_5 : decode cJx4a65c_grow_92f84 5 = .ok (.istore_n 2, 1) := by decide +kernel
theorem dJx4a65c_grow_92f84_6 : decode cJx4a65c_grow_92f84 6 = .ok (.iload_n 2, 1) := by decide +kernel
theorem dJx4a65c_grow_92f84_7 : decode cJx4a65c_grow_92f84 7 = .ok (.ifCond .gt 13, 3) := by decide +kernel
theorem dJx4a65c_grow_92f84_10 : decode cJx4a65c_grow_92f84 10 = .ok (.aload_n 0, 1) := by decide +kernel
theorem dJx4a65c_grow_92f84_11 : decode cJx4a65c_grow_92f84 11 = .ok (.getfield 9, 3) := by decide +kernel
theorem dJx4a65c_grow_92f84_14 : decode cJx4a65c_grow_92f84 14 = .ok (.getstatic 39, 3) := by decide +kernel
theorem dJx4a65c_grow_92f84_17 : decode cJx4a65c_grow_92f84 17 = .ok (.if_acmp .eq 28, 3) := by decide +kernel
theorem dJx4a65c_grow_92f84_20 : decode cJx4a65c_grow_92f84 20 = .ok (.iload_n 2, 1) := by decide +kernel
theorem dJx4a65c_grow_92f84_21 : decode cJx4a65c_grow_92f84 21 = .ok (.iload_n 1, 1) := by decide +kernel
theorem dJx4a65c_grow_92f84_22 : decode cJx4a65c_grow_92f84 22 = .ok (.iload_n 2, 1) := by decide +kernel
theorem dJx4a65c_grow_92f84_23 : decode cJx4a65c_grow_92f84 23 = .ok (.isub, 1) := by decide +kernel
theorem dJx4a65c_grow_92f84_24 : decode cJx4a65c_grow_92f84 24 = .ok (.iload_n 2, 1) := by decide +kernel
theorem dJx4a65c_grow_92f84_25 : decode cJx4a65c_grow_92f84 25 = .ok (.iconst 1, 1) := by decide +kernel
theorem dJx4a65c_grow_92f84_26 : decode cJx4a65c_grow_92f84 26 = .ok (.ishr, 1) := by decide +kernel
theorem dJx4a65c_grow_92f84_27 : decode cJx4a65c_grow_92f84 27 = .ok (.invokestatic 73, 3) := by decide +kernel
theorem dJx4a65c_grow_92f84_30 : decode cJx4a65c_grow_92f84 30 = .ok (.istore_n 3, 1) := by decide +kernel
theorem dJx4a65c_grow_92f84_31 : decode cJx4a65c_grow_92f84 31 = .ok (.aload_n 0, 1) := by decide +kernel
theorem dJx4a65c_grow_92f84_32 : decode cJx4a65c_grow_92f84 32 = .ok (.aload_n 0, 1) := by decide +kernel
theorem dJx4a65c_grow_92f84_33 : decode cJx4a65c_grow_92f84 33 = .ok (.getfield 9, 3) := by decide +kernel
theorem dJx4a65c_grow_92f84_36 : decode cJx4a65c_grow_92f84 36 = .ok (.iload_n 3, 1) := by decide +kernel
theorem dJx4a65c_grow_92f84_37 : decode cJx4a65c_grow_92f84 37 = .ok (.invokestatic 66, 3) := by decide +kernel
theorem dJx4a65c_grow_92f84_40 : decode cJx4a65c_grow_92f84 40 = .ok (.dup_x1, 1) := by decide +kernel
theorem dJx4a65c_grow_92f84_41 : decode cJx4a65c_grow_92f84 41 = .ok (.putfield 9, 3) := by decide +kernel
theorem dJx4a65c_grow_92f84_44 : decode cJx4a65c_grow_92f84 44 = .ok (.areturn, 1) := by decide +kernel
theorem dJx4a65c_grow_92f84_45 : decode cJx4a65c_grow_92f84 45 = .ok (.aload_n 0, 1) := by decide +kernel
theorem dJx4a65c_grow_92f84_46 : decode cJx4a65c_grow_92f84 46 = .ok (.bipush 10, 2) := by decide +kernel
theorem dJx4a65c_grow_92f84_48 : decode cJx4a65c_grow_92f84 48 = .ok (.iload_n 1, 1) := by decide +kernel
theorem dJx4a65c_grow_92f84_49 : decode cJx4a65c_grow_92f84 49 = .ok (.invokestatic 79, 3) := by decide +kernel
theorem dJx4a65c_grow_92f84_52 : decode cJx4a65c_grow_92f84 52 = .ok (.anewarray 7, 3) := by decide +kernel
theorem dJx4a65c_grow_92f84_55 : decode cJx4a65c_grow_92f84 55 = .ok (.dup_x1, 1) := by decide +kernel
theorem dJx4a65c_grow_92f84_56 : decode cJx4a65c_grow_92f84 56 = .ok (.putfield 9, 3) := by decide +kernel
theorem dJx4a65c_grow_92f84_59 : decode cJx4a65c_grow_92f84 59 = .ok (.areturn, 1) := by decide +kernel
theorem dJx4a65c_grow_d5877_0 : decode cJx4a65c_grow_d5877 0 = .ok (.aload_n 0, 1) := by decide +kernel
theorem dJx4a65c_grow_d5877_1 : decode cJx4a65c_grow_d5877 1 = .ok (.aload_n 0, 1) := by decide +kernel
theorem dJx4a65c_grow_d5877_2 : decode cJx4a65c_grow_d5877 2 = .ok (.getfield 48, 3) := by decide +kernel
theorem dJx4a65c_grow_d5877_5 : decode cJx4a65c_grow_d5877 5 = .ok (.iconst 1, 1) := by decide +kernel
theorem dJx4a65c_grow_d5877_6 : decode cJx4a65c_grow_d5877 6 = .ok (.iadd, 1) := by decide +kernel
theorem dJx4a65c_grow_d5877_7 : decode cJx4a65c_grow_d5877 7 = .ok (.invokevirtual 69, 3) := by decide +kernel
theorem dJx4a65c_grow_d5877_10 : decode cJx4a65c_grow_d5877 10 = .ok (.areturn, 1) := by decide +kernel
theorem dJx4a65c_size_8abf5_0 : decode cJx4a65c_size_8abf5 0 = .ok (.aload_n 0, 1) := by decide +kernel
theorem dJx4a65c_size_8abf5_1 : decode cJx4a65c_size_8abf5 1 = .ok (.getfield 48, 3) := by decide +kernel
theorem dJx4a65c_size_8abf5_4 : decode cJx4a65c_size_8abf5 4 = .ok (.ireturn, 1) := by decide +kernel
theorem dJx4a65c_elementData_915e3_0 : decode cJx4a65c_elementData_915e3 0 = .ok (.aload_n 0, 1) := by decide +kernel
theorem dJx4a65c_elementData_915e3_1 : decode cJx4a65c_elementData_915e3 1 = .ok (.getfield 9, 3) := by decide +kernel
theorem dJx4a65c_elementData_915e3_4 : decode cJx4a65c_elementData_915e3 4 = .ok (.iload_n 1, 1) := by decide +kernel
theorem dJx4a65c_elementData_915e3_5 : decode cJx4a65c_elementData_915e3 5 = .ok (.aaload, 1) := by decide +kernel
theorem dJx4a65c_elementData_915e3_6 : decode cJx4a65c_elementData_915e3 6 = .ok (.areturn, 1) := by decide +kernel
theorem dJx4a65c_get_915e3_0 : decode cJx4a65c_get_915e3 0 = .ok (.iload_n 1, 1) := by decide +kernel
theorem dJx4a65c_get_915e3_1 : decode cJx4a65c_get_915e3 1 = .ok (.aload_n 0, 1) := by decide +kernel
theorem dJx4a65c_get_915e3_2 : decode cJx4a65c_get_915e3 2 = .ok (.getfield 48, 3) := by decide +kernel
theorem dJx4a65c_get_915e3_5 : decode cJx4a65c_get_915e3 5 = .ok (.invokestatic 118, 3) := by decide +kernel
theorem dJx4a65c_get_915e3_8 : decode cJx4a65c_get_915e3 8 = .ok (.pop, 1) := by decide +kernel
theorem dJx4a65c_get_915e3_9 : decode cJx4a65c_get_915e3 9 = .ok (.aload_n 0, 1) := by decide +kernel
theorem dJx4a65c_get_915e3_10 : decode cJx4a65c_get_915e3 10 = .ok (.iload_n 1, 1) := by decide +kernel
theorem dJx4a65c_get_915e3_11 : decode cJx4a65c_get_915e3 11 = .ok (.invokevirtual 123, 3) := by decide +kernel
theorem dJx4a65c_get_915e3_14 : decode cJx4a65c_get_915e3 14 = .ok (.areturn, 1) := by decide +kernel
theorem dJx4a65c_add_72be8_0 : decode cJx4a65c_add_72be8 0 = .ok (.iload_n 3, 1) := by decide +kernel
theorem dJx4a65c_add_72be8_1 : decode cJx4a65c_add_72be8 1 = .ok (.aload_n 2, 1) := by decide +kernel
theorem dJx4a65c_add_72be8_2 : decode cJx4a65c_add_72be8 2 = .ok (.arraylength, 1) := by decide +kernel
theorem dJx4a65c_add_72be8_3 : decode cJx4a65c_add_72be8 3 = .ok (.if_icmp .ne 8, 3) := by decide +kernel
theorem dJx4a65c_add_72be8_6 : decode cJx4a65c_add_72be8 6 = .ok (.aload_n 0, 1) := by decide +kernel
theorem dJx4a65c_add_72be8_7 : decode cJx4a65c_add_72be8 7 = .ok (.invokevirtual 129, 3) := by decide +kernel
theorem dJx4a65c_add_72be8_10 : decode cJx4a65c_add_72be8 10 = .ok (.astore_n 2, 1) := by decide +kernel
theorem dJx4a65c_add_72be8_11 : decode cJx4a65c_add_72be8 11 = .ok (.aload_n 2, 1) := by decide +kernel
theorem dJx4a65c_add_72be8_12 : decode cJx4a65c_add_72be8 12 = .ok (.iload_n 3, 1) := by decide +kernel
theorem dJx4a65c_add_72be8_13 : decode cJx4a65c_add_72be8 13 = .ok (.aload_n 1, 1) := by decide +kernel
theorem dJx4a65c_add_72be8_14 : decode cJx4a65c_add_72be8 14 = .ok (.aastore, 1) := by decide +kernel
theorem dJx4a65c_add_72be8_15 : decode cJx4a65c_add_72be8 15 = .ok (.aload_n 0, 1) := by decide +kernel
theorem dJx4a65c_add_72be8_16 : decode cJx4a65c_add_72be8 16 = .ok (.iload_n 3, 1) := by decide +kernel
theorem dJx4a65c_add_72be8_17 : decode cJx4a65c_add_72be8 17 = .ok (.iconst 1, 1) := by decide +kernel
theorem dJx4a65c_add_72be8_18 : decode cJx4a65c_add_72be8 18 = .ok (.iadd, 1) := by decide +kernel
theorem dJx4a65c_add_72be8_19 : decode cJx4a65c_add_72be8 19 = .ok (.putfield 48, 3) := by decide +kernel
theorem dJx4a65c_add_72be8_22 : decode cJx4a65c_add_72be8 22 = .ok (.return_, 1) := by decide +kernel
theorem dJx4a65c_add_9ea2d_0 : decode cJx4a65c_add_9ea2d 0 = .ok (.aload_n 0, 1) := by decide +kernel
theorem dJx4a65c_add_9ea2d_1 : decode cJx4a65c_add_9ea2d 1 = .ok (.dup, 1) := by decide +kernel
theorem dJx4a65c_add_9ea2d_2 : decode cJx4a65c_add_9ea2d 2 = .ok (.getfield 63, 3) := by decide +kernel
theorem dJx4a65c_add_9ea2d_5 : decode cJx4a65c_add_9ea2d 5 = .ok (.iconst 1, 1) := by decide +kernel
theorem dJx4a65c_add_9ea2d_6 : decode cJx4a65c_add_9ea2d 6 = .ok (.iadd, 1) := by decide +kernel
theorem dJx4a65c_add_9ea2d_7 : decode cJx4a65c_add_9ea2d 7 = .ok (.putfield 63, 3) := by decide +kernel
theorem dJx4a65c_add_9ea2d_10 : decode cJx4a65c_add_9ea2d 10 = .ok (.aload_n 0, 1) := by decide +kernel
theorem dJx4a65c_add_9ea2d_11 : decode cJx4a65c_add_9ea2d 11 = .ok (.aload_n 1, 1) := by decide +kernel
theorem dJx4a65c_add_9ea2d_12 : decode cJx4a65c_add_9ea2d 12 = .ok (.aload_n 0, 1) := by decide +kernel
theorem dJx4a65c_add_9ea2d_13 : decode cJx4a65c_add_9ea2d 13 = .ok (.getfield 9, 3) := by decide +kernel
theorem dJx4a65c_add_9ea2d_16 : decode cJx4a65c_add_9ea2d 16 = .ok (.aload_n 0, 1) := by decide +kernel
theorem dJx4a65c_add_9ea2d_17 : decode cJx4a65c_add_9ea2d 17 = .ok (.getfield 48, 3) := by decide +kernel
theorem dJx4a65c_add_9ea2d_20 : decode cJx4a65c_add_9ea2d 20 = .ok (.invokevirtual 131, 3) := by decide +kernel
theorem dJx4a65c_add_9ea2d_23 : decode cJx4a65c_add_9ea2d 23 = .ok (.iconst 1, 1) := by decide +kernel
theorem dJx4a65c_add_9ea2d_24 : decode cJx4a65c_add_9ea2d 24 = .ok (.ireturn, 1) := by decide +kernel
theorem dJ7_copyOf_1904c_0 : decode cJ7_copyOf_1904c 0 = .ok (.aload_n 0, 1) := by decide +kernel
theorem dJ7_copyOf_1904c_1 : decode cJ7_copyOf_1904c 1 = .ok (.iload_n 1, 1) := by decide +kernel
theorem dJ7_copyOf_1904c_2 : decode cJ7_copyOf_1904c 2 = .ok (.aload_n 0, 1) := by decide +kernel
theorem dJ7_copyOf_1904c_3 : decode cJ7_copyOf_1904c 3 = .ok (.invokevirtual 86, 3) := by decide +kernel
theorem dJ7_copyOf_1904c_6 : decode cJ7_copyOf_1904c 6 = .ok (.invokestatic 300, 3) := by decide +kernel
theorem dJ7_copyOf_1904c_9 : decode cJ7_copyOf_1904c 9 = .ok (.areturn, 1) := by decide +kernel
theorem dJ7_copyOf_6403c_0 : decode cJ7_copyOf_6403c 0 = .ok (.aload_n 2, 1) := by decide +kernel
theorem dJ7_copyOf_6403c_1 : decode cJ7_copyOf_6403c 1 = .ok (.ldc 110, 2) := by decide +kernel
theorem dJ7_copyOf_6403c_3 : decode cJ7_copyOf_6403c 3 = .ok (.if_acmp .ne 10, 3) := by decide +kernel
theorem dJ7_copyOf_6403c_6 : decode cJ7_copyOf_6403c 6 = .ok (.iload_n 1, 1) := by decide +kernel
theorem dJ7_copyOf_6403c_7 : decode cJ7_copyOf_6403c 7 = .ok (.anewarray 2, 3) := by decide +kernel
theorem dJ7_copyOf_6403c_10 : decode cJ7_copyOf_6403c 10 = .ok (.goto 14, 3) := by decide +kernel
theorem dJ7_copyOf_6403c_13 : decode cJ7_copyOf_6403c 13 = .ok (.aload_n 2, 1) := by decide +kernel
theorem dJ7_copyOf_6403c_14 : decode cJ7_copyOf_6403c 14 = .ok (.invokevirtual 90, 3) := by decide +kernel
theorem dJ7_copyOf_6403c_17 : decode cJ7_copyOf_6403c 17 = .ok (.iload_n 1, 1) := by decide +kernel
theorem dJ7_copyOf_6403c_18 : decode cJ7_copyOf_6403c 18 = .ok (.invokestatic 95, 3) := by decide +kernel
theorem dJ7_copyOf_6403c_21 : decode cJ7_copyOf_6403c 21 = .ok (.checkcast 110, 3) := by decide +kernel
theorem dJ7_copyOf_6403c_24 : decode cJ7_copyOf_6403c 24 = .ok (.astore_n 3, 1) := by decide +kernel
theorem dJ7_copyOf_6403c_25 : decode cJ7_copyOf_6403c 25 = .ok (.aload_n 0, 1) := by decide +kernel
theorem dJ7_copyOf_6403c_26 : decode cJ7_copyOf_6403c 26 = .ok (.iconst 0, 1) := by decide +kernel
theorem dJ7_copyOf_6403c_27 : decode cJ7_copyOf_6403c 27 = .ok (.aload_n 3, 1) := by decide +kernel
theorem dJ7_copyOf_6403c_28 : decode cJ7_copyOf_6403c 28 = .ok (.iconst 0, 1) := by decide +kernel
theorem dJ7_copyOf_6403c_29 : decode cJ7_copyOf_6403c 29 = .ok (.aload_n 0, 1) := by decide +kernel
theorem dJ7_copyOf_6403c_30 : decode cJ7_copyOf_6403c 30 = .ok (.arraylength, 1) := by decide +kernel
theorem dJ7_copyOf_6403c_31 : decode cJ7_copyOf_6403c 31 = .ok (.iload_n 1, 1) := by decide +kernel
theorem dJ7_copyOf_6403c_32 : decode cJ7_copyOf_6403c 32 = .ok (.invokestatic 304, 3) := by decide +kernel
theorem dJ7_copyOf_6403c_35 : decode cJ7_copyOf_6403c 35 = .ok (.invokestatic 150, 3) := by decide +kernel
theorem dJ7_copyOf_6403c_38 : decode cJ7_copyOf_6403c 38 = .ok (.aload_n 3, 1) := by decide +kernel
theorem dJ7_copyOf_6403c_39 : decode cJ7_copyOf_6403c 39 = .ok (.areturn, 1) := by decide +kernel
theorem dJ15_checkIndex_7cf53_0 : decode cJ15_checkIndex_7cf53 0 = .ok (.iload_n 0, 1) := by decide +kernel
theorem dJ15_checkIndex_7cf53_1 : decode cJ15_checkIndex_7cf53 1 = .ok (.iload_n 1, 1) := by decide +kernel
theorem dJ15_checkIndex_7cf53_2 : decode cJ15_checkIndex_7cf53 2 = .ok (.aconst_null, 1) := by decide +kernel
theorem dJ15_checkIndex_7cf53_3 : decode cJ15_checkIndex_7cf53 3 = .ok (.invokestatic 105, 3) := by decide +kernel
theorem dJ15_checkIndex_7cf53_6 : decode cJ15_checkIndex_7cf53 6 = .ok (.ireturn, 1) := by decide +kernel
theorem dJ8_newLength_cabcc_0 : decode cJ8_newLength_cabcc 0 = .ok (.iload_n 0, 1) := by decide +kernel
theorem dJ8_newLength_cabcc_1 : decode cJ8_newLength_cabcc 1 = .ok (.iload_n 1, 1) := by decide +kernel
theorem dJ8_newLength_cabcc_2 : decode cJ8_newLength_cabcc 2 = .ok (.iload_n 2, 1) := by decide +kernel
theorem dJ8_newLength_cabcc_3 : decode cJ8_newLength_cabcc 3 = .ok (.invokestatic 194, 3) := by decide +kernel
theorem dJ8_newLength_cabcc_6 : decode cJ8_newLength_cabcc 6 = .ok (.iadd, 1) := by decide +kernel
theorem dJ8_newLength_cabcc_7 : decode cJ8_newLength_cabcc 7 = .ok (.istore_n 3, 1) := by decide +kernel
theorem dJ8_newLength_cabcc_8 : decode cJ8_newLength_cabcc 8 = .ok (.iconst 0, 1) := by decide +kernel
theorem dJ8_newLength_cabcc_9 : decode cJ8_newLength_cabcc 9 = .ok (.iload_n 3, 1) := by decide +kernel
theorem dJ8_newLength_cabcc_10 : decode cJ8_newLength_cabcc 10 = .ok (.if_icmp .ge 11, 3) := by decide +kernel
theorem dJ8_newLength_cabcc_13 : decode cJ8_newLength_cabcc 13 = .ok (.iload_n 3, 1) := by decide +kernel
theorem dJ8_newLength_cabcc_14 : decode cJ8_newLength_cabcc 14 = .ok (.ldc 200, 2) := by decide +kernel
theorem dJ8_newLength_cabcc_16 : decode cJ8_newLength_cabcc 16 = .ok (.if_icmp .gt 5, 3) := by decide +kernel
theorem dJ8_newLength_cabcc_19 : decode cJ8_newLength_cabcc 19 = .ok (.iload_n 3, 1) := by decide +kernel
theorem dJ8_newLength_cabcc_20 : decode cJ8_newLength_cabcc 20 = .ok (.ireturn, 1) := by decide +kernel
theorem dJ8_newLength_cabcc_21 : decode cJ8_newLength_cabcc 21 = .ok (.iload_n 0, 1) := by decide +kernel
theorem dJ8_newLength_cabcc_22 : decode cJ8_newLength_cabcc 22 = .ok (.iload_n 1, 1) := by decide +kernel
theorem dJ8_newLength_cabcc_23 : decode cJ8_newLength_cabcc 23 = .ok (.invokestatic 201, 3) := by decide +kernel
theorem dJ8_newLength_cabcc_26 : decode cJ8_newLength_cabcc 26 = .ok (.ireturn, 1) := by decide +kernel
theorem dJ8_hugeLength_7cf53_0 : decode cJ8_hugeLength_7cf53 0 = .ok (.iload_n 0, 1) := by decide +kernel
theorem dJ8_hugeLength_7cf53_1 : decode cJ8_hugeLength_7cf53 1 = .ok (.iload_n 1, 1) := by decide +kernel
theorem dJ8_hugeLength_7cf53_2 : decode cJ8_hugeLength_7cf53 2 = .ok (.iadd, 1) := by decide +kernel
theorem dJ8_hugeLength_7cf53_3 : decode cJ8_hugeLength_7cf53 3 = .ok (.istore_n 2, 1) := by decide +kernel
theorem dJ8_hugeLength_7cf53_4 : decode cJ8_hugeLength_7cf53 4 = .ok (.iload_n 2, 1) := by decide +kernel
theorem dJ8_hugeLength_7cf53_5 : decode cJ8_hugeLength_7cf53 5 = .ok (.ifCond .ge 44, 3) := by decide +kernel
theorem dJ8_hugeLength_7cf53_8 : decode cJ8_hugeLength_7cf53 8 = .ok (.new 204, 3) := by decide +kernel
theorem dJ8_hugeLength_7cf53_11 : decode cJ8_hugeLength_7cf53 11 = .ok (.dup, 1) := by decide +kernel
theorem dJ8_hugeLength_7cf53_12 : decode cJ8_hugeLength_7cf53 12 = .ok (.new 89, 3) := by decide +kernel
theorem dJ8_hugeLength_7cf53_15 : decode cJ8_hugeLength_7cf53 15 = .ok (.dup, 1) := by decide +kernel
theorem dJ8_hugeLength_7cf53_16 : decode cJ8_hugeLength_7cf53 16 = .ok (.invokespecial 91, 3) := by decide +kernel
theorem dJ8_hugeLength_7cf53_19 : decode cJ8_hugeLength_7cf53 19 = .ok (.ldc 206, 2) := by decide +kernel
theorem dJ8_hugeLength_7cf53_21 : decode cJ8_hugeLength_7cf53 21 = .ok (.invokevirtual 94, 3) := by decide +kernel
theorem dJ8_hugeLength_7cf53_24 : decode cJ8_hugeLength_7cf53 24 = .ok (.iload_n 0, 1) := by decide +kernel
theorem dJ8_hugeLength_7cf53_25 : decode cJ8_hugeLength_7cf53 25 = .ok (.invokevirtual 98, 3) := by decide +kernel
theorem dJ8_hugeLength_7cf53_28 : decode cJ8_hugeLength_7cf53 28 = .ok (.ldc 208, 2) := by decide +kernel
theorem dJ8_hugeLength_7cf53_30 : decode cJ8_hugeLength_7cf53 30 = .ok (.invokevirtual 94, 3) := by decide +kernel
theorem dJ8_hugeLength_7cf53_33 : decode cJ8_hugeLength_7cf53 33 = .ok (.iload_n 1, 1) := by decide +kernel
theorem dJ8_hugeLength_7cf53_34 : decode cJ8_hugeLength_7cf53 34 = .ok (.invokevirtual 98, 3) := by decide +kernel
theorem dJ8_hugeLength_7cf53_37 : decode cJ8_hugeLength_7cf53 37 = .ok (.ldc 210, 2) := by decide +kernel
theorem dJ8_hugeLength_7cf53_39 : decode cJ8_hugeLength_7cf53 39 = .ok (.invokevirtual 94, 3) := by decide +kernel
theorem dJ8_hugeLength_7cf53_42 : decode cJ8_hugeLength_7cf53 42 = .ok (.invokevirtual 101, 3) := by decide +kernel
theorem dJ8_hugeLength_7cf53_45 : decode cJ8_hugeLength_7cf53 45 = .ok (.invokespecial 212, 3) := by decide +kernel
theorem dJ8_hugeLength_7cf53_48 : decode cJ8_hugeLength_7cf53 48 = .ok (.athrow, 1) := by decide +kernel
theorem dJ8_hugeLength_7cf53_49 : decode cJ8_hugeLength_7cf53 49 = .ok (.iload_n 2, 1) := by decide +kernel
theorem dJ8_hugeLength_7cf53_50 : decode cJ8_hugeLength_7cf53 50 = .ok (.ldc 200, 2) := by decide +kernel
theorem dJ8_hugeLength_7cf53_52 : decode cJ8_hugeLength_7cf53 52 = .ok (.if_icmp .gt 6, 3) := by decide +kernel
theorem dJ8_hugeLength_7cf53_55 : decode cJ8_hugeLength_7cf53 55 = .ok (.ldc 200, 2) := by decide +kernel
theorem dJ8_hugeLength_7cf53_57 : decode cJ8_hugeLength_7cf53 57 = .ok (.ireturn, 1) := by decide +kernel
theorem dJ8_hugeLength_7cf53_58 : decode cJ8_hugeLength_7cf53 58 = .ok (.iload_n 2, 1) := by decide +kernel
theorem dJ8_hugeLength_7cf53_59 : decode cJ8_hugeLength_7cf53 59 = .ok (.ireturn, 1) := by decide +kernel
theorem dJ3_checkIndex_8e157_0 : decode cJ3_checkIndex_8e157 0 = .ok (.iload_n 0, 1) := by decide +kernel
theorem dJ3_checkIndex_8e157_1 : decode cJ3_checkIndex_8e157 1 = .ok (.ifCond .lt 8, 3) := by decide +kernel
theorem dJ3_checkIndex_8e157_4 : decode cJ3_checkIndex_8e157 4 = .ok (.iload_n 0, 1) := by decide +kernel
theorem dJ3_checkIndex_8e157_5 : decode cJ3_checkIndex_8e157 5 = .ok (.iload_n 1, 1) := by decide +kernel
theorem dJ3_checkIndex_8e157_6 : decode cJ3_checkIndex_8e157 6 = .ok (.if_icmp .lt 10, 3) := by decide +kernel
theorem dJ3_checkIndex_8e157_9 : decode cJ3_checkIndex_8e157 9 = .ok (.aload_n 2, 1) := by decide +kernel
theorem dJ3_checkIndex_8e157_10 : decode cJ3_checkIndex_8e157 10 = .ok (.iload_n 0, 1) := by decide +kernel
theorem dJ3_checkIndex_8e157_11 : decode cJ3_checkIndex_8e157 11 = .ok (.iload_n 1, 1) := by decide +kernel
theorem dJ3_checkIndex_8e157_12 : decode cJ3_checkIndex_8e157 12 = .ok (.invokestatic 95, 3) := by decide +kernel
theorem dJ3_checkIndex_8e157_15 : decode cJ3_checkIndex_8e157 15 = .ok (.athrow, 1) := by decide +kernel
theorem dJ3_checkIndex_8e157_16 : decode cJ3_checkIndex_8e157 16 = .ok (.iload_n 0, 1) := by decide +kernel
theorem dJ3_checkIndex_8e157_17 : decode cJ3_checkIndex_8e157 17 = .ok (.ireturn, 1) := by decide +kernel
theorem dX0_init_0 : decode cX0_init 0 = .ok (.aload_n 0, 1) := by decide +kernel
theorem dX0_init_1 : decode cX0_init 1 = .ok (.invokespecial 3, 3) := by decide +kernel
theorem dX0_init_4 : decode cX0_init 4 = .ok (.aload_n 0, 1) := by decide +kernel
theorem dX0_init_5 : decode cX0_init 5 = .ok (.new 9, 3) := by decide +kernel
theorem dX0_init_8 : decode cX0_init 8 = .ok (.dup, 1) := by decide +kernel
theorem dX0_init_9 : decode cX0_init 9 = .ok (.invokespecial 11, 3) := by decide +kernel
theorem dX0_init_12 : decode cX0_init 12 = .ok (.putfield 12, 3) := by decide +kernel
theorem dX0_init_15 : decode cX0_init 15 = .ok (.aload_n 0, 1) := by decide +kernel
theorem dX0_init_16 : decode cX0_init 16 = .ok (.new 9, 3) := by decide +kernel
theorem dX0_init_19 : decode cX0_init 19 = .ok (.dup, 1) := by decide +kernel
theorem dX0_init_20 : decode cX0_init 20 = .ok (.invokespecial 11, 3) := by decide +kernel
theorem dX0_init_23 : decode cX0_init 23 = .ok (.putfield 18, 3) := by decide +kernel
theorem dX0_init_26 : decode cX0_init 26 = .ok (.return_, 1) := by decide +kernel
theorem dX0_holidaysOf_0 : decode cX0_holidaysOf 0 = .ok (.iload_n 1, 1) := by decide +kernel
theorem dX0_holidaysOf_1 : decode cX0_holidaysOf 1 = .ok (.ifCond .ne 10, 3) := by decide +kernel
theorem dX0_holidaysOf_4 : decode cX0_holidaysOf 4 = .ok (.aload_n 0, 1) := by decide +kernel
theorem dX0_holidaysOf_5 : decode cX0_holidaysOf 5 = .ok (.getfield 12, 3) := by decide +kernel
theorem dX0_holidaysOf_8 : decode cX0_holidaysOf 8 = .ok (.goto 7, 3) := by decide +kernel
theorem dX0_holidaysOf_11 : decode cX0_holidaysOf 11 = .ok (.aload_n 0, 1) := by decide +kernel
theorem dX0_holidaysOf_12 : decode cX0_holidaysOf 12 = .ok (.getfield 18, 3) := by decide +kernel
theorem dX0_holidaysOf_15 : decode cX0_holidaysOf 15 = .ok (.areturn, 1) := by decide +kernel
theorem dX0_opensOn_0 : decode cX0_opensOn 0 = .ok (.iload_n 1, 1) := by decide +kernel
theorem dX0_opensOn_1 : decode cX0_opensOn 1 = .ok (.bipush 7, 2) := by decide +kernel
theorem dX0_opensOn_3 : decode cX0_opensOn 3 = .ok (.invokestatic 21, 3) := by decide +kernel
theorem dX0_opensOn_6 : decode cX0_opensOn 6 = .ok (.iconst 5, 1) := by decide +kernel
theorem dX0_opensOn_7 : decode cX0_opensOn 7 = .ok (.if_icmp .ge 29, 3) := by decide +kernel
theorem dX0_opensOn_10 : decode cX0_opensOn 10 = .ok (.aload_n 0, 1) := by decide +kernel
theorem dX0_opensOn_11 : decode cX0_opensOn 11 = .ok (.getfield 12, 3) := by decide +kernel
theorem dX0_opensOn_14 : decode cX0_opensOn 14 = .ok (.iload_n 1, 1) := by decide +kernel
theorem dX0_opensOn_15 : decode cX0_opensOn 15 = .ok (.invokevirtual 27, 3) := by decide +kernel
theorem dX0_opensOn_18 : decode cX0_opensOn 18 = .ok (.ifCond .ne 18, 3) := by decide +kernel
theorem dX0_opensOn_21 : decode cX0_opensOn 21 = .ok (.aload_n 0, 1) := by decide +kernel
theorem dX0_opensOn_22 : decode cX0_opensOn 22 = .ok (.getfield 18, 3) := by decide +kernel
theorem dX0_opensOn_25 : decode cX0_opensOn 25 = .ok (.iload_n 1, 1) := by decide +kernel
theorem dX0_opensOn_26 : decode cX0_opensOn 26 = .ok (.invokevirtual 27, 3) := by decide +kernel
theorem dX0_opensOn_29 : decode cX0_opensOn 29 = .ok (.ifCond .ne 7, 3) := by decide +kernel
theorem dX0_opensOn_32 : decode cX0_opensOn 32 = .ok (.iconst 1, 1) := by decide +kernel
theorem dX0_opensOn_33 : decode cX0_opensOn 33 = .ok (.goto 4, 3) := by decide +kernel
theorem dX0_opensOn_36 : decode cX0_opensOn 36 = .ok (.iconst 0, 1) := by decide +kernel
theorem dX0_opensOn_37 : decode cX0_opensOn 37 = .ok (.ireturn, 1) := by decide +kernel
theorem dX0_rolledDayOf_0 : decode cX0_rolledDayOf 0 = .ok (.iload_n 1, 1) := by decide +kernel
theorem dX0_rolledDayOf_1 : decode cX0_rolledDayOf 1 = .ok (.istore_n 2, 1) := by decide +kernel
theorem dX0_rolledDayOf_2 : decode cX0_rolledDayOf 2 = .ok (.iconst 0, 1) := by decide +kernel
theorem dX0_rolledDayOf_3 : decode cX0_rolledDayOf 3 = .ok (.istore_n 3, 1) := by decide +kernel
theorem dX0_rolledDayOf_4 : decode cX0_rolledDayOf 4 = .ok (.iload_n 3, 1) := by decide +kernel
theorem dX0_rolledDayOf_5 : decode cX0_rolledDayOf 5 = .ok (.sipush 1000, 3) := by decide +kernel
theorem dX0_rolledDayOf_8 : decode cX0_rolledDayOf 8 = .ok (.if_icmp .ge 20, 3) := by decide +kernel
theorem dX0_rolledDayOf_11 : decode cX0_rolledDayOf 11 = .ok (.aload_n 0, 1) := by decide +kernel
theorem dX0_rolledDayOf_12 : decode cX0_rolledDayOf 12 = .ok (.iload_n 2, 1) := by decide +kernel
theorem dX0_rolledDayOf_13 : decode cX0_rolledDayOf 13 = .ok (.invokevirtual 31, 3) := by decide +kernel
theorem dX0_rolledDayOf_16 : decode cX0_rolledDayOf 16 = .ok (.ifCond .ne 12, 3) := by decide +kernel
theorem dX0_rolledDayOf_19 : decode cX0_rolledDayOf 19 = .ok (.iinc 2 1, 3) := by decide +kernel
theorem dX0_rolledDayOf_22 : decode cX0_rolledDayOf 22 = .ok (.iinc 3 1, 3) := by decide +kernel
theorem dX0_rolledDayOf_25 : decode cX0_rolledDayOf 25 = .ok (.goto (-21), 3) := by decide +kernel
theorem dX0_rolledDayOf_28 : decode cX0_rolledDayOf 28 = .ok (.iload_n 2, 1) := by decide +kernel
theorem dX0_rolledDayOf_29 : decode cX0_rolledDayOf 29 = .ok (.ireturn, 1) := by decide +kernel
theorem dX1_init_0 : decode cX1_init 0 = .ok (.aload_n 0, 1) := by decide +kernel
theorem dX1_init_1 : decode cX1_init 1 = .ok (.invokespecial 3, 3) := by decide +kernel
theorem dX1_init_4 : decode cX1_init 4 = .ok (.aload_n 0, 1) := by decide +kernel
theorem dX1_init_5 : decode cX1_init 5 = .ok (.new 9, 3) := by decide +kernel
theorem dX1_init_8 : decode cX1_init 8 = .ok (.dup, 1) := by decide +kernel
theorem dX1_init_9 : decode cX1_init 9 = .ok (.invokespecial 11, 3) := by decide +kernel
theorem dX1_init_12 : decode cX1_init 12 = .ok (.putfield 12, 3) := by decide +kernel
theorem dX1_init_15 : decode cX1_init 15 = .ok (.return_, 1) := by decide +kernel
theorem dX1_count_0 : decode cX1_count 0 = .ok (.aload_n 0, 1) := by decide +kernel
theorem dX1_count_1 : decode cX1_count 1 = .ok (.getfield 12, 3) := by decide +kernel
theorem dX1_count_4 : decode cX1_count 4 = .ok (.invokevirtual 18, 3) := by decide +kernel
theorem dX1_count_7 : decode cX1_count 7 = .ok (.ireturn, 1) := by decide +kernel
theorem dX1_has_0 : decode cX1_has 0 = .ok (.aload_n 0, 1) := by decide +kernel
theorem dX1_has_1 : decode cX1_has 1 = .ok (.iload_n 1, 1) := by decide +kernel
theorem dX1_has_2 : decode cX1_has 2 = .ok (.invokevirtual 22, 3) := by decide +kernel
theorem dX1_has_5 : decode cX1_has 5 = .ok (.ifnull 7, 3) := by decide +kernel
theorem dX1_has_8 : decode cX1_has 8 = .ok (.iconst 1, 1) := by decide +kernel
theorem dX1_has_9 : decode cX1_has 9 = .ok (.goto 4, 3) := by decide +kernel
theorem dX1_has_12 : decode cX1_has 12 = .ok (.iconst 0, 1) := by decide +kernel
theorem dX1_has_13 : decode cX1_has 13 = .ok (.ireturn, 1) := by decide +kernel
theorem dX1_add_0 : decode cX1_add 0 = .ok (.aload_n 0, 1) := by decide +kernel
theorem dX1_add_1 : decode cX1_add 1 = .ok (.getfield 12, 3) := by decide +kernel
theorem dX1_add_4 : decode cX1_add 4 = .ok (.new 26, 3) := by decide +kernel
theorem dX1_add_7 : decode cX1_add 7 = .ok (.dup, 1) := by decide +kernel
theorem dX1_add_8 : decode cX1_add 8 = .ok (.iload_n 1, 1) := by decide +kernel
theorem dX1_add_9 : decode cX1_add 9 = .ok (.iload_n 2, 1) := by decide +kernel
theorem dX1_add_10 : decode cX1_add 10 = .ok (.invokespecial 28, 3) := by decide +kernel
theorem dX1_add_13 : decode cX1_add 13 = .ok (.invokevirtual 31, 3) := by decide +kernel
theorem dX1_add_16 : decode cX1_add 16 = .ok (.pop, 1) := by decide +kernel
theorem dX1_add_17 : decode cX1_add 17 = .ok (.return_, 1) := by decide +kernel
theorem dX1_put_0 : decode cX1_put 0 = .ok (.aload_n 0, 1) := by decide +kernel
theorem dX1_put_1 : decode cX1_put 1 = .ok (.iload_n 1, 1) := by decide +kernel
theorem dX1_put_2 : decode cX1_put 2 = .ok (.invokevirtual 22, 3) := by decide +kernel
theorem dX1_put_5 : decode cX1_put 5 = .ok (.astore_n 3, 1) := by decide +kernel
theorem dX1_put_6 : decode cX1_put 6 = .ok (.aload_n 3, 1) := by decide +kernel
theorem dX1_put_7 : decode cX1_put 7 = .ok (.ifnonnull 12, 3) := by decide +kernel
theorem dX1_put_10 : decode cX1_put 10 = .ok (.aload_n 0, 1) := by decide +kernel
theorem dX1_put_11 : decode cX1_put 11 = .ok (.iload_n 1, 1) := by decide +kernel
theorem dX1_put_12 : decode cX1_put 12 = .ok (.iload_n 2, 1) := by decide +kernel
theorem dX1_put_13 : decode cX1_put 13 = .ok (.invokevirtual 35, 3) := by decide +kernel
theorem dX1_put_16 : decode cX1_put 16 = .ok (.goto 8, 3) := by decide +kernel
theorem dX1_put_19 : decode cX1_put 19 = .ok (.aload_n 3, 1) := by decide +kernel
theorem dX1_put_20 : decode cX1_put 20 = .ok (.iload_n 2, 1) := by decide +kernel
theorem dX1_put_21 : decode cX1_put 21 = .ok (.putfield 37, 3) := by decide +kernel
theorem dX1_put_24 : decode cX1_put 24 = .ok (.return_, 1) := by decide +kernel
theorem dX1_latestValue_0 : decode cX1_latestValue 0 = .ok (.iconst (-1), 1) := by decide +kernel
theorem dX1_latestValue_1 : decode cX1_latestValue 1 = .ok (.istore_n 3, 1) := by decide +kernel
theorem dX1_latestValue_2 : decode cX1_latestValue 2 = .ok (.iload_n 2, 1) := by decide +kernel
theorem dX1_latestValue_3 : decode cX1_latestValue 3 = .ok (.istore 4, 2) := by decide +kernel
theorem dX1_latestValue_5 : decode cX1_latestValue 5 = .ok (.iconst 0, 1) := by decide +kernel
theorem dX1_latestValue_6 : decode cX1_latestValue 6 = .ok (.istore 5, 2) := by decide +kernel
theorem dX1_latestValue_8 : decode cX1_latestValue 8 = .ok (.iload 5, 2) := by decide +kernel
theorem dX1_latestValue_10 : decode cX1_latestValue 10 = .ok (.aload_n 0, 1) := by decide +kernel
theorem dX1_latestValue_11 : decode cX1_latestValue 11 = .ok (.getfield 12, 3) := by decide +kernel
theorem dX1_latestValue_14 : decode cX1_latestValue 14 = .ok (.invokevirtual 18, 3) := by decide +kernel
theorem dX1_latestValue_17 : decode cX1_latestValue 17 = .ok (.if_icmp .ge 54, 3) := by decide +kernel
theorem dX1_latestValue_20 : decode cX1_latestValue 20 = .ok (.aload_n 0, 1) := by decide +kernel
theorem dX1_latestValue_21 : decode cX1_latestValue 21 = .ok (.getfield 12, 3) := by decide +kernel
theorem dX1_latestValue_24 : decode cX1_latestValue 24 = .ok (.iload 5, 2) := by decide +kernel
theorem dX1_latestValue_26 : decode cX1_latestValue 26 = .ok (.invokevirtual 41, 3) := by decide +kernel
theorem dX1_latestValue_29 : decode cX1_latestValue 29 = .ok (.checkcast 26, 3) := by decide +kernel
theorem dX1_latestValue_32 : decode cX1_latestValue 32 = .ok (.astore 6, 2) := by decide +kernel
theorem dX1_latestValue_34 : decode cX1_latestValue 34 = .ok (.aload 6, 2) := by decide +kernel
theorem dX1_latestValue_36 : decode cX1_latestValue 36 = .ok (.getfield 45, 3) := by decide +kernel
theorem dX1_latestValue_39 : decode cX1_latestValue 39 = .ok (.iload_n 1, 1) := by decide +kernel
theorem dX1_latestValue_40 : decode cX1_latestValue 40 = .ok (.if_icmp .gt 25, 3) := by decide +kernel
theorem dX1_latestValue_43 : decode cX1_latestValue 43 = .ok (.aload 6, 2) := by decide +kernel
theorem dX1_latestValue_45 : decode cX1_latestValue 45 = .ok (.getfield 45, 3) := by decide +kernel
theorem dX1_latestValue_48 : decode cX1_latestValue 48 = .ok (.iload_n 3, 1) := by decide +kernel
theorem dX1_latestValue_49 : decode cX1_latestValue 49 = .ok (.if_icmp .lt 16, 3) := by decide +kernel
theorem dX1_latestValue_52 : decode cX1_latestValue 52 = .ok (.aload 6, 2) := by decide +kernel
theorem dX1_latestValue_54 : decode cX1_latestValue 54 = .ok (.getfield 45, 3) := by decide +kernel
theorem dX1_latestValue_57 : decode cX1_latestValue 57 = .ok (.istore_n 3, 1) := by decide +kernel
theorem dX1_latestValue_58 : decode cX1_latestValue 58 = .ok (.aload 6, 2) := by decide +kernel
theorem dX1_latestValue_60 : decode cX1_latestValue 60 = .ok (.getfield 37, 3) := by decide +kernel
theorem dX1_latestValue_63 : decode cX1_latestValue 63 = .ok (.istore 4, 2) := by decide +kernel
theorem dX1_latestValue_65 : decode cX1_latestValue 65 = .ok (.iinc 5 1, 3) := by decide +kernel
theorem dX1_latestValue_68 : decode cX1_latestValue 68 = .ok (.goto (-60), 3) := by decide +kernel
theorem dX1_latestValue_71 : decode cX1_latestValue 71 = .ok (.iload 4, 2) := by decide +kernel
theorem dX1_latestValue_73 : decode cX1_latestValue 73 = .ok (.ireturn, 1) := by decide +kernel
theorem dX1_sumUntil_0 : decode cX1_sumUntil 0 = .ok (.iconst 0, 1) := by decide +kernel
theorem dX1_sumUntil_1 : decode cX1_sumUntil 1 = .ok (.istore_n 2, 1) := by decide +kernel
theorem dX1_sumUntil_2 : decode cX1_sumUntil 2 = .ok (.iconst 0, 1) := by decide +kernel
theorem dX1_sumUntil_3 : decode cX1_sumUntil 3 = .ok (.istore_n 3, 1) := by decide +kernel
theorem dX1_sumUntil_4 : decode cX1_sumUntil 4 = .ok (.iload_n 3, 1) := by decide +kernel
theorem dX1_sumUntil_5 : decode cX1_sumUntil 5 = .ok (.aload_n 0, 1) := by decide +kernel
theorem dX1_sumUntil_6 : decode cX1_sumUntil 6 = .ok (.getfield 12, 3) := by decide +kernel
theorem dX1_sumUntil_9 : decode cX1_sumUntil 9 = .ok (.invokevirtual 18, 3) := by decide +kernel
theorem dX1_sumUntil_12 : decode cX1_sumUntil 12 = .ok (.if_icmp .ge 39, 3) := by decide +kernel
theorem dX1_sumUntil_15 : decode cX1_sumUntil 15 = .ok (.aload_n 0, 1) := by decide +kernel
theorem dX1_sumUntil_16 : decode cX1_sumUntil 16 = .ok (.getfield 12, 3) := by decide +kernel
theorem dX1_sumUntil_19 : decode cX1_sumUntil 19 = .ok (.iload_n 3, 1) := by decide +kernel
theorem dX1_sumUntil_20 : decode cX1_sumUntil 20 = .ok (.invokevirtual 41, 3) := by decide +kernel
theorem dX1_sumUntil_23 : decode cX1_sumUntil 23 = .ok (.checkcast 26, 3) := by decide +kernel
theorem dX1_sumUntil_26 : decode cX1_sumUntil 26 = .ok (.astore 4, 2) := by decide +kernel
theorem dX1_sumUntil_28 : decode cX1_sumUntil 28 = .ok (.aload 4, 2) := by decide +kernel
theorem dX1_sumUntil_30 : decode cX1_sumUntil 30 = .ok (.getfield 45, 3) := by decide +kernel
theorem dX1_sumUntil_33 : decode cX1_sumUntil 33 = .ok (.iload_n 1, 1) := by decide +kernel
theorem dX1_sumUntil_34 : decode cX1_sumUntil 34 = .ok (.if_icmp .gt 11, 3) := by decide +kernel
theorem dX1_sumUntil_37 : decode cX1_sumUntil 37 = .ok (.iload_n 2, 1) := by decide +kernel
theorem dX1_sumUntil_38 : decode cX1_sumUntil 38 = .ok (.aload 4, 2) := by decide +kernel
theorem dX1_sumUntil_40 : decode cX1_sumUntil 40 = .ok (.getfield 37, 3) := by decide +kernel
theorem dX1_sumUntil_43 : decode cX1_sumUntil 43 = .ok (.iadd, 1) := by decide +kernel
theorem dX1_sumUntil_44 : decode cX1_sumUntil 44 = .ok (.istore_n 2, 1) := by decide +kernel
theorem dX1_sumUntil_45 : decode cX1_sumUntil 45 = .ok (.iinc 3 1, 3) := by decide +kernel
theorem dX1_sumUntil_48 : decode cX1_sumUntil 48 = .ok (.goto (-44), 3) := by decide +kernel
theorem dX1_sumUntil_51 : decode cX1_sumUntil 51 = .ok (.iload_n 2, 1) := by decide +kernel
theorem dX1_sumUntil_52 : decode cX1_sumUntil 52 = .ok (.ireturn, 1) := by decide +kernel
theorem dX1_entryOf_0 : decode cX1_entryOf 0 = .ok (.iconst 0, 1) := by decide +kernel
theorem dX1_entryOf_1 : decode cX1_entryOf 1 = .ok (.istore_n 2, 1) := by decide +kernel
theorem dX1_entryOf_2 : decode cX1_entryOf 2 = .ok (.iload_n 2, 1) := by decide +kernel
theorem dX1_entryOf_3 : decode cX1_entryOf 3 = .ok (.aload_n 0, 1) := by decide +kernel
theorem dX1_entryOf_4 : decode cX1_entryOf 4 = .ok (.getfield 12, 3) := by decide +kernel
theorem dX1_entryOf_7 : decode cX1_entryOf 7 = .ok (.invokevirtual 18, 3) := by decide +kernel
theorem dX1_entryOf_10 : decode cX1_entryOf 10 = .ok (.if_icmp .ge 31, 3) := by decide +kernel
theorem dX1_entryOf_13 : decode cX1_entryOf 13 = .ok (.aload_n 0, 1) := by decide +kernel
theorem dX1_entryOf_14 : decode cX1_entryOf 14 = .ok (.getfield 12, 3) := by decide +kernel
theorem dX1_entryOf_17 : decode cX1_entryOf 17 = .ok (.iload_n 2, 1) := by decide +kernel
theorem dX1_entryOf_18 : decode cX1_entryOf 18 = .ok (.invokevirtual 41, 3) := by decide +kernel
theorem dX1_entryOf_21 : decode cX1_entryOf 21 = .ok (.checkcast 26, 3) := by decide +kernel
theorem dX1_entryOf_24 : decode cX1_entryOf 24 = .ok (.astore_n 3, 1) := by decide +kernel
theorem dX1_entryOf_25 : decode cX1_entryOf 25 = .ok (.aload_n 3, 1) := by decide +kernel
theorem dX1_entryOf_26 : decode cX1_entryOf 26 = .ok (.getfield 45, 3) := by decide +kernel
theorem dX1_entryOf_29 : decode cX1_entryOf 29 = .ok (.iload_n 1, 1) := by decide +kernel
theorem dX1_entryOf_30 : decode cX1_entryOf 30 = .ok (.if_icmp .ne 5, 3) := by decide +kernel
theorem dX1_entryOf_33 : decode cX1_entryOf 33 = .ok (.aload_n 3, 1) := by decide +kernel
theorem dX1_entryOf_34 : decode cX1_entryOf 34 = .ok (.areturn, 1) := by decide +kernel
theorem dX1_entryOf_35 : decode cX1_entryOf 35 = .ok (.iinc 2 1, 3) := by decide +kernel
theorem dX1_entryOf_38 : decode cX1_entryOf 38 = .ok (.goto (-36), 3) := by decide +kernel
theorem dX1_entryOf_41 : decode cX1_entryOf 41 = .ok (.aconst_null, 1) := by decide +kernel
theorem dX1_entryOf_42 : decode cX1_entryOf 42 = .ok (.areturn, 1) := by decide +kernel
theorem dX2_init_0 : decode cX2_init 0 = .ok (.aload_n 0, 1) := by decide +kernel
theorem dX2_init_1 : decode cX2_init 1 = .ok (.invokespecial 1, 3) := by decide +kernel
theorem dX2_init_4 : decode cX2_init 4 = .ok (.aload_n 0, 1) := by decide +kernel
theorem dX2_init_5 : decode cX2_init 5 = .ok (.iload_n 1, 1) := by decide +kernel
theorem dX2_init_6 : decode cX2_init 6 = .ok (.putfield 7, 3) := by decide +kernel
theorem dX2_init_9 : decode cX2_init 9 = .ok (.aload_n 0, 1) := by decide +kernel
theorem dX2_init_10 : decode cX2_init 10 = .ok (.iload_n 2, 1) := by decide +kernel
theorem dX2_init_11 : decode cX2_init 11 = .ok (.putfield 13, 3) := by decide +kernel
theorem dX2_init_14 : decode cX2_init 14 = .ok (.return_, 1) := by decide +kernel
theorem dX3_init_0 : decode cX3_init 0 = .ok (.aload_n 0, 1) := by decide +kernel
theorem dX3_init_1 : decode cX3_init 1 = .ok (.invokespecial 3, 3) := by decide +kernel
theorem dX3_init_4 : decode cX3_init 4 = .ok (.aload_n 0, 1) := by decide +kernel
theorem dX3_init_5 : decode cX3_init 5 = .ok (.iload_n 1, 1) := by decide +kernel
theorem dX3_init_6 : decode cX3_init 6 = .ok (.putfield 9, 3) := by decide +kernel
theorem dX3_init_9 : decode cX3_init 9 = .ok (.aload_n 0, 1) := by decide +kernel
theorem dX3_init_10 : decode cX3_init 10 = .ok (.iload_n 2, 1) := by decide +kernel
theorem dX3_init_11 : decode cX3_init 11 = .ok (.putfield 15, 3) := by decide +kernel
theorem dX3_init_14 : decode cX3_init 14 = .ok (.aload_n 0, 1) := by decide +kernel
theorem dX3_init_15 : decode cX3_init 15 = .ok (.iload_n 3, 1) := by decide +kernel
theorem dX3_init_16 : decode cX3_init 16 = .ok (.putfield 18, 3) := by decide +kernel
theorem dX3_init_19 : decode cX3_init 19 = .ok (.aload_n 0, 1) := by decide +kernel
theorem dX3_init_20 : decode cX3_init 20 = .ok (.iload 4, 2) := by decide +kernel
theorem dX3_init_22 : decode cX3_init 22 = .ok (.putfield 22, 3) := by decide +kernel
theorem dX3_init_25 : decode cX3_init 25 = .ok (.aload_n 0, 1) := by decide +kernel
theorem dX3_init_26 : decode cX3_init 26 = .ok (.iload 5, 2) := by decide +kernel
theorem dX3_init_28 : decode cX3_init 28 = .ok (.putfield 25, 3) := by decide +kernel
theorem dX3_init_31 : decode cX3_init 31 = .ok (.aload_n 0, 1) := by decide +kernel
theorem dX3_init_32 : decode cX3_init 32 = .ok (.iload 6, 2) := by decide +kernel
theorem dX3_init_34 : decode cX3_init 34 = .ok (.putfield 28, 3) := by decide +kernel
theorem dX3_init_37 : decode cX3_init 37 = .ok (.aload_n 0, 1) := by decide +kernel
theorem dX3_init_38 : decode cX3_init 38 = .ok (.iload 7, 2) := by decide +kernel
theorem dX3_init_40 : decode cX3_init 40 = .ok (.putfield 31, 3) := by decide +kernel
theorem dX3_init_43 : decode cX3_init 43 = .ok (.aload_n 0, 1) := by decide +kernel
theorem dX3_init_44 : decode cX3_init 44 = .ok (.iconst 0, 1) := by decide +kernel
theorem dX3_init_45 : decode cX3_init 45 = .ok (.putfield 34, 3) := by decide +kernel
theorem dX3_init_48 : decode cX3_init 48 = .ok (.aload_n 0, 1) := by decide +kernel
theorem dX3_init_49 : decode cX3_init 49 = .ok (.iconst 0, 1) := by decide +kernel
theorem dX3_init_50 : decode cX3_init 50 = .ok (.putfield 37, 3) := by decide +kernel
theorem dX3_init_53 : decode cX3_init 53 = .ok (.aload_n 0, 1) := by decide +kernel
theorem dX3_init_54 : decode cX3_init 54 = .ok (.iconst 0, 1) := by decide +kernel
theorem dX3_init_55 : decode cX3_init 55 = .ok (.putfield 40, 3) := by decide +kernel
theorem dX3_init_58 : decode cX3_init 58 = .ok (.aload_n 0, 1) := by decide +kernel
theorem dX3_init_59 : decode cX3_init 59 = .ok (.new 43, 3) := by decide +kernel
theorem dX3_init_62 : decode cX3_init 62 = .ok (.dup, 1) := by decide +kernel
theorem dX3_init_63 : decode cX3_init 63 = .ok (.invokespecial 45, 3) := by decide +kernel
theorem dX3_init_66 : decode cX3_init 66 = .ok (.putfield 46, 3) := by decide +kernel
theorem dX3_init_69 : decode cX3_init 69 = .ok (.aload_n 0, 1) := by decide +kernel
theorem dX3_init_70 : decode cX3_init 70 = .ok (.new 43, 3) := by decide +kernel
theorem dX3_init_73 : decode cX3_init 73 = .ok (.dup, 1) := by decide +kernel
theorem dX3_init_74 : decode cX3_init 74 = .ok (.invokespecial 45, 3) := by decide +kernel
theorem dX3_init_77 : decode cX3_init 77 = .ok (.putfield 50, 3) := by decide +kernel
theorem dX3_init_80 : decode cX3_init 80 = .ok (.aload_n 0, 1) := by decide +kernel
theorem dX3_init_81 : decode cX3_init 81 = .ok (.bipush 11, 2) := by decide +kernel
theorem dX3_init_83 : decode cX3_init 83 = .ok (.newarray .int, 2) := by decide +kernel
theorem dX3_init_85 : decode cX3_init 85 = .ok (.putfield 53, 3) := by decide +kernel
theorem dX3_init_88 : decode cX3_init 88 = .ok (.return_, 1) := by decide +kernel
theorem dX3_rollDays_0 : decode cX3_rollDays 0 = .ok (.iconst 0, 1) := by decide +kernel
theorem dX3_rollDays_1 : decode cX3_rollDays 1 = .ok (.istore_n 2, 1) := by decide +kernel
theorem dX3_rollDays_2 : decode cX3_rollDays 2 = .ok (.iload_n 2, 1) := by decide +kernel
theorem dX3_rollDays_3 : decode cX3_rollDays 3 = .ok (.aload_n 0, 1) := by decide +kernel
theorem dX3_rollDays_4 : decode cX3_rollDays 4 = .ok (.getfield 31, 3) := by decide +kernel
theorem dX3_rollDays_7 : decode cX3_rollDays 7 = .ok (.if_icmp .gt 39, 3) := by decide +kernel
theorem dX3_rollDays_10 : decode cX3_rollDays 10 = .ok (.iload_n 2, 1) := by decide +kernel
theorem dX3_rollDays_11 : decode cX3_rollDays 11 = .ok (.aload_n 0, 1) := by decide +kernel
theorem dX3_rollDays_12 : decode cX3_rollDays 12 = .ok (.getfield 53, 3) := by decide +kernel
theorem dX3_rollDays_15 : decode cX3_rollDays 15 = .ok (.arraylength, 1) := by decide +kernel
theorem dX3_rollDays_16 : decode cX3_rollDays 16 = .ok (.if_icmp .ge 30, 3) := by decide +kernel
theorem dX3_rollDays_19 : decode cX3_rollDays 19 = .ok (.aload_n 0, 1) := by decide +kernel
theorem dX3_rollDays_20 : decode cX3_rollDays 20 = .ok (.getfield 53, 3) := by decide +kernel
theorem dX3_rollDays_23 : decode cX3_rollDays 23 = .ok (.iload_n 2, 1) := by decide +kernel
theorem dX3_rollDays_24 : decode cX3_rollDays 24 = .ok (.aload_n 1, 1) := by decide +kernel
theorem dX3_rollDays_25 : decode cX3_rollDays 25 = .ok (.aload_n 0, 1) := by decide +kernel
theorem dX3_rollDays_26 : decode cX3_rollDays 26 = .ok (.getfield 25, 3) := by decide +kernel
theorem dX3_rollDays_29 : decode cX3_rollDays 29 = .ok (.iload_n 2, 1) := by decide +kernel
theorem dX3_rollDays_30 : decode cX3_rollDays 30 = .ok (.aload_n 0, 1) := by decide +kernel
theorem dX3_rollDays_31 : decode cX3_rollDays 31 = .ok (.getfield 28, 3) := by decide +kernel
theorem dX3_rollDays_34 : decode cX3_rollDays 34 = .ok (.imul, 1) := by decide +kernel
theorem dX3_rollDays_35 : decode cX3_rollDays 35 = .ok (.iadd, 1) := by decide +kernel
theorem dX3_rollDays_36 : decode cX3_rollDays 36 = .ok (.invokevirtual 57, 3) := by decide +kernel
theorem dX3_rollDays_39 : decode cX3_rollDays 39 = .ok (.iastore, 1) := by decide +kernel
theorem dX3_rollDays_40 : decode cX3_rollDays 40 = .ok (.iinc 2 1, 3) := by decide +kernel
theorem dX3_rollDays_43 : decode cX3_rollDays 43 = .ok (.goto (-41), 3) := by decide +kernel
theorem dX3_rollDays_46 : decode cX3_rollDays 46 = .ok (.return_, 1) := by decide +kernel
theorem dX3_startOf_0 : decode cX3_startOf 0 = .ok (.iload_n 1, 1) := by decide +kernel
theorem dX3_startOf_1 : decode cX3_startOf 1 = .ok (.ifCond .lt 21, 3) := by decide +kernel
theorem dX3_startOf_4 : decode cX3_startOf 4 = .ok (.iload_n 1, 1) := by decide +kernel
theorem dX3_startOf_5 : decode cX3_startOf 5 = .ok (.aload_n 0, 1) := by decide +kernel
theorem dX3_startOf_6 : decode cX3_startOf 6 = .ok (.getfield 53, 3) := by decide +kernel
theorem dX3_startOf_9 : decode cX3_startOf 9 = .ok (.arraylength, 1) := by decide +kernel
theorem dX3_startOf_10 : decode cX3_startOf 10 = .ok (.if_icmp .ge 12, 3) := by decide +kernel
theorem dX3_startOf_13 : decode cX3_startOf 13 = .ok (.aload_n 0, 1) := by decide +kernel
theorem dX3_startOf_14 : decode cX3_startOf 14 = .ok (.getfield 53, 3) := by decide +kernel
theorem dX3_startOf_17 : decode cX3_startOf 17 = .ok (.iload_n 1, 1) := by decide +kernel
theorem dX3_startOf_18 : decode cX3_startOf 18 = .ok (.iaload, 1) := by decide +kernel
theorem dX3_startOf_19 : decode cX3_startOf 19 = .ok (.goto 4, 3) := by decide +kernel
theorem dX3_startOf_22 : decode cX3_startOf 22 = .ok (.iconst (-1), 1) := by decide +kernel
theorem dX3_startOf_23 : decode cX3_startOf 23 = .ok (.ireturn, 1) := by decide +kernel
theorem dX3_endOf_0 : decode cX3_endOf 0 = .ok (.aload_n 0, 1) := by decide +kernel
theorem dX3_endOf_1 : decode cX3_endOf 1 = .ok (.iload_n 1, 1) := by decide +kernel
theorem dX3_endOf_2 : decode cX3_endOf 2 = .ok (.iconst 1, 1) := by decide +kernel
theorem dX3_endOf_3 : decode cX3_endOf 3 = .ok (.iadd, 1) := by decide +kernel
theorem dX3_endOf_4 : decode cX3_endOf 4 = .ok (.invokevirtual 63, 3) := by decide +kernel
theorem dX3_endOf_7 : decode cX3_endOf 7 = .ok (.ireturn, 1) := by decide +kernel
theorem dX3_lotsOf_0 : decode cX3_lotsOf 0 = .ok (.aload_n 0, 1) := by decide +kernel
theorem dX3_lotsOf_1 : decode cX3_lotsOf 1 = .ok (.getfield 15, 3) := by decide +kernel
theorem dX3_lotsOf_4 : decode cX3_lotsOf 4 = .ok (.aload_n 0, 1) := by decide +kernel
theorem dX3_lotsOf_5 : decode cX3_lotsOf 5 = .ok (.getfield 46, 3) := by decide +kernel
theorem dX3_lotsOf_8 : decode cX3_lotsOf 8 = .ok (.aload_n 0, 1) := by decide +kernel
theorem dX3_lotsOf_9 : decode cX3_lotsOf 9 = .ok (.iload_n 1, 1) := by decide +kernel
theorem dX3_lotsOf_10 : decode cX3_lotsOf 10 = .ok (.invokevirtual 63, 3) := by decide +kernel
theorem dX3_lotsOf_13 : decode cX3_lotsOf 13 = .ok (.invokevirtual 66, 3) := by decide +kernel
theorem dX3_lotsOf_16 : decode cX3_lotsOf 16 = .ok (.isub, 1) := by decide +kernel
theorem dX3_lotsOf_17 : decode cX3_lotsOf 17 = .ok (.ireturn, 1) := by decide +kernel
theorem dX3_restOfLots_0 : decode cX3_restOfLots 0 = .ok (.aload_n 0, 1) := by decide +kernel
theorem dX3_restOfLots_1 : decode cX3_restOfLots 1 = .ok (.getfield 15, 3) := by decide +kernel
theorem dX3_restOfLots_4 : decode cX3_restOfLots 4 = .ok (.aload_n 0, 1) := by decide +kernel
theorem dX3_restOfLots_5 : decode cX3_restOfLots 5 = .ok (.getfield 46, 3) := by decide +kernel
theorem dX3_restOfLots_8 : decode cX3_restOfLots 8 = .ok (.sipush 3000, 3) := by decide +kernel
theorem dX3_restOfLots_11 : decode cX3_restOfLots 11 = .ok (.invokevirtual 66, 3) := by decide +kernel
theorem dX3_restOfLots_14 : decode cX3_restOfLots 14 = .ok (.isub, 1) := by decide +kernel
theorem dX3_restOfLots_15 : decode cX3_restOfLots 15 = .ok (.ireturn, 1) := by decide +kernel
theorem dX3_holderOn_0 : decode cX3_holderOn 0 = .ok (.aload_n 0, 1) := by decide +kernel
theorem dX3_holderOn_1 : decode cX3_holderOn 1 = .ok (.getfield 50, 3) := by decide +kernel
theorem dX3_holderOn_4 : decode cX3_holderOn 4 = .ok (.iload_n 1, 1) := by decide +kernel
theorem dX3_holderOn_5 : decode cX3_holderOn 5 = .ok (.aload_n 0, 1) := by decide +kernel
theorem dX3_holderOn_6 : decode cX3_holderOn 6 = .ok (.getfield 9, 3) := by decide +kernel
theorem dX3_holderOn_9 : decode cX3_holderOn 9 = .ok (.invokevirtual 69, 3) := by decide +kernel
theorem dX3_holderOn_12 : decode cX3_holderOn 12 = .ok (.ireturn, 1) := by decide +kernel
theorem dX3_floatingOf_0 : decode cX3_floatingOf 0 = .ok (.aload_n 0, 1) := by decide +kernel
theorem dX3_floatingOf_1 : decode cX3_floatingOf 1 = .ok (.getfield 40, 3) := by decide +kernel
theorem dX3_floatingOf_4 : decode cX3_floatingOf 4 = .ok (.ifCond .ne 22, 3) := by decide +kernel
theorem dX3_floatingOf_7 : decode cX3_floatingOf 7 = .ok (.aload_n 0, 1) := by decide +kernel
theorem dX3_floatingOf_8 : decode cX3_floatingOf 8 = .ok (.iload_n 1, 1) := by decide +kernel
theorem dX3_floatingOf_9 : decode cX3_floatingOf 9 = .ok (.aload_n 2, 1) := by decide +kernel
theorem dX3_floatingOf_10 : decode cX3_floatingOf 10 = .ok (.invokevirtual 73, 3) := by decide +kernel
theorem dX3_floatingOf_13 : decode cX3_floatingOf 13 = .ok (.aload_n 0, 1) := by decide +kernel
theorem dX3_floatingOf_14 : decode cX3_floatingOf 14 = .ok (.getfield 34, 3) := by decide +kernel
theorem dX3_floatingOf_17 : decode cX3_floatingOf 17 = .ok (.i2l, 1) := by decide +kernel
theorem dX3_floatingOf_18 : decode cX3_floatingOf 18 = .ok (.ladd, 1) := by decide +kernel
theorem dX3_floatingOf_19 : decode cX3_floatingOf 19 = .ok (.aload_n 0, 1) := by decide +kernel
theorem dX3_floatingOf_20 : decode cX3_floatingOf 20 = .ok (.iload_n 1, 1) := by decide +kernel
theorem dX3_floatingOf_21 : decode cX3_floatingOf 21 = .ok (.invokevirtual 77, 3) := by decide +kernel
theorem dX3_floatingOf_24 : decode cX3_floatingOf 24 = .ok (.lmul, 1) := by decide +kernel
theorem dX3_floatingOf_25 : decode cX3_floatingOf 25 = .ok (.lreturn, 1) := by decide +kernel
theorem dX3_floatingOf_26 : decode cX3_floatingOf 26 = .ok (.aload_n 0, 1) := by decide +kernel
theorem dX3_floatingOf_27 : decode cX3_floatingOf 27 = .ok (.getfield 40, 3) := by decide +kernel
theorem dX3_floatingOf_30 : decode cX3_floatingOf 30 = .ok (.iconst 1, 1) := by decide +kernel
theorem dX3_floatingOf_31 : decode cX3_floatingOf 31 = .ok (.if_icmp .ne 10, 3) := by decide +kernel
theorem dX3_floatingOf_34 : decode cX3_floatingOf 34 = .ok (.aload_n 0, 1) := by decide +kernel
theorem dX3_floatingOf_35 : decode cX3_floatingOf 35 = .ok (.getfield 34, 3) := by decide +kernel
theorem dX3_floatingOf_38 : decode cX3_floatingOf 38 = .ok (.goto 4, 3) := by decide +kernel
theorem dX3_floatingOf_41 : decode cX3_floatingOf 41 = .ok (.iconst 0, 1) := by decide +kernel
theorem dX3_floatingOf_42 : decode cX3_floatingOf 42 = .ok (.istore_n 3, 1) := by decide +kernel
theorem dX3_floatingOf_43 : decode cX3_floatingOf 43 = .ok (.aload_n 0, 1) := by decide +kernel
theorem dX3_floatingOf_44 : decode cX3_floatingOf 44 = .ok (.getfield 34, 3) := by decide +kernel
theorem dX3_floatingOf_47 : decode cX3_floatingOf 47 = .ok (.iload_n 3, 1) := by decide +kernel
theorem dX3_floatingOf_48 : decode cX3_floatingOf 48 = .ok (.isub, 1) := by decide +kernel
theorem dX3_floatingOf_49 : decode cX3_floatingOf 49 = .ok (.istore 4, 2) := by decide +kernel
theorem dX3_floatingOf_51 : decode cX3_floatingOf 51 = .ok (.lconst 0, 1) := by decide +kernel
theorem dX3_floatingOf_52 : decode cX3_floatingOf 52 = .ok (.lstore 5, 2) := by decide +kernel
theorem dX3_floatingOf_54 : decode cX3_floatingOf 54 = .ok (.lconst 0, 1) := by decide +kernel
theorem dX3_floatingOf_55 : decode cX3_floatingOf 55 = .ok (.lstore 7, 2) := by decide +kernel
theorem dX3_floatingOf_57 : decode cX3_floatingOf 57 = .ok (.iconst 0, 1) := by decide +kernel
theorem dX3_floatingOf_58 : decode cX3_floatingOf 58 = .ok (.istore 9, 2) := by decide +kernel
theorem dX3_floatingOf_60 : decode cX3_floatingOf 60 = .ok (.iload 9, 2) := by decide +kernel
theorem dX3_floatingOf_62 : decode cX3_floatingOf 62 = .ok (.iload_n 1, 1) := by decide +kernel
theorem dX3_floatingOf_63 : decode cX3_floatingOf 63 = .ok (.if_icmp .gt 61, 3) := by decide +kernel
theorem dX3_floatingOf_66 : decode cX3_floatingOf 66 = .ok (.iload 9, 2) := by decide +kernel
theorem dX3_floatingOf_68 : decode cX3_floatingOf 68 = .ok (.aload_n 0, 1) := by decide +kernel
theorem dX3_floatingOf_69 : decode cX3_floatingOf 69 = .ok (.getfield 31, 3) := by decide +kernel
theorem dX3_floatingOf_72 : decode cX3_floatingOf 72 = .ok (.if_icmp .ge 52, 3) := by decide +kernel
theorem dX3_floatingOf_75 : decode cX3_floatingOf 75 = .ok (.aload_n 0, 1) := by decide +kernel
theorem dX3_floatingOf_76 : decode cX3_floatingOf 76 = .ok (.iload 9, 2) := by decide +kernel
theorem dX3_floatingOf_78 : decode cX3_floatingOf 78 = .ok (.aload_n 2, 1) := by decide +kernel
theorem dX3_floatingOf_79 : decode cX3_floatingOf 79 = .ok (.invokevirtual 73, 3) := by decide +kernel
theorem dX3_floatingOf_82 : decode cX3_floatingOf 82 = .ok (.iload_n 3, 1) := by decide +kernel
theorem dX3_floatingOf_83 : decode cX3_floatingOf 83 = .ok (.i2l, 1) := by decide +kernel
theorem dX3_floatingOf_84 : decode cX3_floatingOf 84 = .ok (.ladd, 1) := by decide +kernel
theorem dX3_floatingOf_85 : decode cX3_floatingOf 85 = .ok (.lstore 10, 2) := by decide +kernel
theorem dX3_floatingOf_87 : decode cX3_floatingOf 87 = .ok (.ldc2_w 81, 3) := by decide +kernel
theorem dX3_floatingOf_90 : decode cX3_floatingOf 90 = .ok (.lload 5, 2) := by decide +kernel
theorem dX3_floatingOf_92 : decode cX3_floatingOf 92 = .ok (.ladd, 1) := by decide +kernel
theorem dX3_floatingOf_93 : decode cX3_floatingOf 93 = .ok (.lload 10, 2) := by decide +kernel
theorem dX3_floatingOf_95 : decode cX3_floatingOf 95 = .ok (.lmul, 1) := by decide +kernel
theorem dX3_floatingOf_96 : decode cX3_floatingOf 96 = .ok (.aload_n 0, 1) := by decide +kernel
theorem dX3_floatingOf_97 : decode cX3_floatingOf 97 = .ok (.iload 9, 2) := by decide +kernel
theorem dX3_floatingOf_99 : decode cX3_floatingOf 99 = .ok (.invokevirtual 77, 3) := by decide +kernel
theorem dX3_floatingOf_102 : decode cX3_floatingOf 102 = .ok (.lmul, 1) := by decide +kernel
theorem dX3_floatingOf_103 : decode cX3_floatingOf 103 = .ok (.ldc2_w 81, 3) := by decide +kernel
theorem dX3_floatingOf_106 : decode cX3_floatingOf 106 = .ok (.invokestatic 83, 3) := by decide +kernel
theorem dX3_floatingOf_109 : decode cX3_floatingOf 109 = .ok (.lstore 7, 2) := by decide +kernel
theorem dX3_floatingOf_111 : decode cX3_floatingOf 111 = .ok (.lload 5, 2) := by decide +kernel
theorem dX3_floatingOf_113 : decode cX3_floatingOf 113 = .ok (.lload 7, 2) := by decide +kernel
theorem dX3_floatingOf_115 : decode cX3_floatingOf 115 = .ok (.ladd, 1) := by decide +kernel
theorem dX3_floatingOf_116 : decode cX3_floatingOf 116 = .ok (.lstore 5, 2) := by decide +kernel
theorem dX3_floatingOf_118 : decode cX3_floatingOf 118 = .ok (.iinc 9 1, 3) := by decide +kernel
theorem dX3_floatingOf_121 : decode cX3_floatingOf 121 = .ok (.goto (-61), 3) := by decide +kernel
theorem dX3_floatingOf_124 : decode cX3_floatingOf 124 = .ok (.lload 7, 2) := by decide +kernel
theorem dX3_floatingOf_126 : decode cX3_floatingOf 126 = .ok (.iload 4, 2) := by decide +kernel
theorem dX3_floatingOf_128 : decode cX3_floatingOf 128 = .ok (.i2l, 1) := by decide +kernel
theorem dX3_floatingOf_129 : decode cX3_floatingOf 129 = .ok (.aload_n 0, 1) := by decide +kernel
theorem dX3_floatingOf_130 : decode cX3_floatingOf 130 = .ok (.iload_n 1, 1) := by decide +kernel
theorem dX3_floatingOf_131 : decode cX3_floatingOf 131 = .ok (.invokevirtual 77, 3) := by decide +kernel
theorem dX3_floatingOf_134 : decode cX3_floatingOf 134 = .ok (.lmul, 1) := by decide +kernel
theorem dX3_floatingOf_135 : decode cX3_floatingOf 135 = .ok (.ladd, 1) := by decide +kernel
theorem dX3_floatingOf_136 : decode cX3_floatingOf 136 = .ok (.lreturn, 1) := by decide +kernel
theorem dX3_flowOf_0 : decode cX3_flowOf 0 = .ok (.aload_n 0, 1) := by decide +kernel
theorem dX3_flowOf_1 : decode cX3_flowOf 1 = .ok (.iload_n 1, 1) := by decide +kernel
theorem dX3_flowOf_2 : decode cX3_flowOf 2 = .ok (.aload_n 2, 1) := by decide +kernel
theorem dX3_flowOf_3 : decode cX3_flowOf 3 = .ok (.invokevirtual 89, 3) := by decide +kernel
theorem dX3_flowOf_6 : decode cX3_flowOf 6 = .ok (.aload_n 0, 1) := by decide +kernel
theorem dX3_flowOf_7 : decode cX3_flowOf 7 = .ok (.getfield 22, 3) := by decide +kernel
theorem dX3_flowOf_10 : decode cX3_flowOf 10 = .ok (.i2l, 1) := by decide +kernel
theorem dX3_flowOf_11 : decode cX3_flowOf 11 = .ok (.aload_n 0, 1) := by decide +kernel
theorem dX3_flowOf_12 : decode cX3_flowOf 12 = .ok (.iload_n 1, 1) := by decide +kernel
theorem dX3_flowOf_13 : decode cX3_flowOf 13 = .ok (.invokevirtual 77, 3) := by decide +kernel
theorem dX3_flowOf_16 : decode cX3_flowOf 16 = .ok (.lmul, 1) := by decide +kernel
theorem dX3_flowOf_17 : decode cX3_flowOf 17 = .ok (.lsub, 1) := by decide +kernel
theorem dX3_flowOf_18 : decode cX3_flowOf 18 = .ok (.lstore_n 3, 1) := by decide +kernel
theorem dX3_flowOf_19 : decode cX3_flowOf 19 = .ok (.aload_n 0, 1) := by decide +kernel
theorem dX3_flowOf_20 : decode cX3_flowOf 20 = .ok (.iload_n 1, 1) := by decide +kernel
theorem dX3_flowOf_21 : decode cX3_flowOf 21 = .ok (.invokevirtual 92, 3) := by decide +kernel
theorem dX3_flowOf_24 : decode cX3_flowOf 24 = .ok (.i2l, 1) := by decide +kernel
theorem dX3_flowOf_25 : decode cX3_flowOf 25 = .ok (.aload_n 0, 1) := by decide +kernel
theorem dX3_flowOf_26 : decode cX3_flowOf 26 = .ok (.getfield 18, 3) := by decide +kernel
theorem dX3_flowOf_29 : decode cX3_flowOf 29 = .ok (.ifCond .eq 7, 3) := by decide +kernel
theorem dX3_flowOf_32 : decode cX3_flowOf 32 = .ok (.lload_n 3, 1) := by decide +kernel
theorem dX3_flowOf_33 : decode cX3_flowOf 33 = .ok (.goto 5, 3) := by decide +kernel
theorem dX3_flowOf_36 : decode cX3_flowOf 36 = .ok (.lload_n 3, 1) := by decide +kernel
theorem dX3_flowOf_37 : decode cX3_flowOf 37 = .ok (.lneg, 1) := by decide +kernel
theorem dX3_flowOf_38 : decode cX3_flowOf 38 = .ok (.lmul, 1) := by decide +kernel
theorem dX3_flowOf_39 : decode cX3_flowOf 39 = .ok (.lreturn, 1) := by decide +kernel
theorem dX3_cashOf_0 : decode cX3_cashOf 0 = .ok (.lconst 0, 1) := by decide +kernel
theorem dX3_cashOf_1 : decode cX3_cashOf 1 = .ok (.lstore 5, 2) := by decide +kernel
theorem dX3_cashOf_3 : decode cX3_cashOf 3 = .ok (.iconst 0, 1) := by decide +kernel
theorem dX3_cashOf_4 : decode cX3_cashOf 4 = .ok (.istore 7, 2) := by decide +kernel
theorem dX3_cashOf_6 : decode cX3_cashOf 6 = .ok (.iload 7, 2) := by decide +kernel
theorem dX3_cashOf_8 : decode cX3_cashOf 8 = .ok (.aload_n 0, 1) := by decide +kernel
theorem dX3_cashOf_9 : decode cX3_cashOf 9 = .ok (.getfield 31, 3) := by decide +kernel
theorem dX3_cashOf_12 : decode cX3_cashOf 12 = .ok (.if_icmp .ge 52, 3) := by decide +kernel
theorem dX3_cashOf_15 : decode cX3_cashOf 15 = .ok (.aload_n 0, 1) := by decide +kernel
theorem dX3_cashOf_16 : decode cX3_cashOf 16 = .ok (.iload 7, 2) := by decide +kernel
theorem dX3_cashOf_18 : decode cX3_cashOf 18 = .ok (.invokevirtual 95, 3) := by decide +kernel
theorem dX3_cashOf_21 : decode cX3_cashOf 21 = .ok (.istore 8, 2) := by decide +kernel
theorem dX3_cashOf_23 : decode cX3_cashOf 23 = .ok (.iload 8, 2) := by decide +kernel
theorem dX3_cashOf_25 : decode cX3_cashOf 25 = .ok (.iload_n 2, 1) := by decide +kernel
theorem dX3_cashOf_26 : decode cX3_cashOf 26 = .ok (.if_icmp .lt 32, 3) := by decide +kernel
theorem dX3_cashOf_29 : decode cX3_cashOf 29 = .ok (.iload 8, 2) := by decide +kernel
theorem dX3_cashOf_31 : decode cX3_cashOf 31 = .ok (.iload_n 3, 1) := by decide +kernel
theorem dX3_cashOf_32 : decode cX3_cashOf 32 = .ok (.if_icmp .gt 26, 3) := by decide +kernel
theorem dX3_cashOf_35 : decode cX3_cashOf 35 = .ok (.aload_n 0, 1) := by decide +kernel
theorem dX3_cashOf_36 : decode cX3_cashOf 36 = .ok (.iload 8, 2) := by decide +kernel
theorem dX3_cashOf_38 : decode cX3_cashOf 38 = .ok (.invokevirtual 98, 3) := by decide +kernel
theorem dX3_cashOf_41 : decode cX3_cashOf 41 = .ok (.iload_n 1, 1) := by decide +kernel
theorem dX3_cashOf_42 : decode cX3_cashOf 42 = .ok (.if_icmp .ne 16, 3) := by decide +kernel
theorem dX3_cashOf_45 : decode cX3_cashOf 45 = .ok (.lload 5, 2) := by decide +kernel
theorem dX3_cashOf_47 : decode cX3_cashOf 47 = .ok (.aload_n 0, 1) := by decide +kernel
theorem dX3_cashOf_48 : decode cX3_cashOf 48 = .ok (.iload 7, 2) := by decide +kernel
theorem dX3_cashOf_50 : decode cX3_cashOf 50 = .ok (.aload 4, 2) := by decide +kernel
theorem dX3_cashOf_52 : decode cX3_cashOf 52 = .ok (.invokevirtual 101, 3) := by decide +kernel
theorem dX3_cashOf_55 : decode cX3_cashOf 55 = .ok (.ladd, 1) := by decide +kernel
theorem dX3_cashOf_56 : decode cX3_cashOf 56 = .ok (.lstore 5, 2) := by decide +kernel
theorem dX3_cashOf_58 : decode cX3_cashOf 58 = .ok (.iinc 7 1, 3) := by decide +kernel
theorem dX3_cashOf_61 : decode cX3_cashOf 61 = .ok (.goto (-55), 3) := by decide +kernel
theorem dX3_cashOf_64 : decode cX3_cashOf 64 = .ok (.lload 5, 2) := by decide +kernel
theorem dX3_cashOf_66 : decode cX3_cashOf 66 = .ok (.lreturn, 1) := by decide +kernel
theorem dX3_nextPayDay_0 : decode cX3_nextPayDay 0 = .ok (.iconst 0, 1) := by decide +kernel
theorem dX3_nextPayDay_1 : decode cX3_nextPayDay 1 = .ok (.istore_n 3, 1) := by decide +kernel
theorem dX3_nextPayDay_2 : decode cX3_nextPayDay 2 = .ok (.iload_n 3, 1) := by decide +kernel
theorem dX3_nextPayDay_3 : decode cX3_nextPayDay 3 = .ok (.aload_n 0, 1) := by decide +kernel
theorem dX3_nextPayDay_4 : decode cX3_nextPayDay 4 = .ok (.getfield 31, 3) := by decide +kernel
theorem dX3_nextPayDay_7 : decode cX3_nextPayDay 7 = .ok (.if_icmp .ge 35, 3) := by decide +kernel
theorem dX3_nextPayDay_10 : decode cX3_nextPayDay 10 = .ok (.aload_n 0, 1) := by decide +kernel
theorem dX3_nextPayDay_11 : decode cX3_nextPayDay 11 = .ok (.iload_n 3, 1) := by decide +kernel
theorem dX3_nextPayDay_12 : decode cX3_nextPayDay 12 = .ok (.invokevirtual 95, 3) := by decide +kernel
theorem dX3_nextPayDay_15 : decode cX3_nextPayDay 15 = .ok (.istore 4, 2) := by decide +kernel
theorem dX3_nextPayDay_17 : decode cX3_nextPayDay 17 = .ok (.iload 4, 2) := by decide +kernel
theorem dX3_nextPayDay_19 : decode cX3_nextPayDay 19 = .ok (.iload_n 2, 1) := by decide +kernel
theorem dX3_nextPayDay_20 : decode cX3_nextPayDay 20 = .ok (.if_icmp .lt 16, 3) := by decide +kernel
theorem dX3_nextPayDay_23 : decode cX3_nextPayDay 23 = .ok (.aload_n 0, 1) := by decide +kernel
theorem dX3_nextPayDay_24 : decode cX3_nextPayDay 24 = .ok (.iload 4, 2) := by decide +kernel
theorem dX3_nextPayDay_26 : decode cX3_nextPayDay 26 = .ok (.invokevirtual 98, 3) := by decide +kernel
theorem dX3_nextPayDay_29 : decode cX3_nextPayDay 29 = .ok (.iload_n 1, 1) := by decide +kernel
theorem dX3_nextPayDay_30 : decode cX3_nextPayDay 30 = .ok (.if_icmp .ne 6, 3) := by decide +kernel
theorem dX3_nextPayDay_33 : decode cX3_nextPayDay 33 = .ok (.iload 4, 2) := by decide +kernel
theorem dX3_nextPayDay_35 : decode cX3_nextPayDay 35 = .ok (.ireturn, 1) := by decide +kernel
theorem dX3_nextPayDay_36 : decode cX3_nextPayDay 36 = .ok (.iinc 3 1, 3) := by decide +kernel
theorem dX3_nextPayDay_39 : decode cX3_nextPayDay 39 = .ok (.goto (-37), 3) := by decide +kernel
theorem dX3_nextPayDay_42 : decode cX3_nextPayDay 42 = .ok (.iconst (-1), 1) := by decide +kernel
theorem dX3_nextPayDay_43 : decode cX3_nextPayDay 43 = .ok (.ireturn, 1) := by decide +kernel
theorem dX3_fits_0 : decode cX3_fits 0 = .ok (.aload_n 0, 1) := by decide +kernel
theorem dX3_fits_1 : decode cX3_fits 1 = .ok (.getfield 18, 3) := by decide +kernel
theorem dX3_fits_4 : decode cX3_fits 4 = .ok (.aload_n 1, 1) := by decide +kernel
theorem dX3_fits_5 : decode cX3_fits 5 = .ok (.getfield 18, 3) := by decide +kernel
theorem dX3_fits_8 : decode cX3_fits 8 = .ok (.if_icmp .eq 84, 3) := by decide +kernel
theorem dX3_fits_11 : decode cX3_fits 11 = .ok (.aload_n 0, 1) := by decide +kernel
theorem dX3_fits_12 : decode cX3_fits 12 = .ok (.getfield 22, 3) := by decide +kernel
theorem dX3_fits_15 : decode cX3_fits 15 = .ok (.aload_n 1, 1) := by decide +kernel
theorem dX3_fits_16 : decode cX3_fits 16 = .ok (.getfield 22, 3) := by decide +kernel
theorem dX3_fits_19 : decode cX3_fits 19 = .ok (.if_icmp .ne 73, 3) := by decide +kernel
theorem dX3_fits_22 : decode cX3_fits 22 = .ok (.aload_n 0, 1) := by decide +kernel
theorem dX3_fits_23 : decode cX3_fits 23 = .ok (.getfield 34, 3) := by decide +kernel
theorem dX3_fits_26 : decode cX3_fits 26 = .ok (.aload_n 1, 1) := by decide +kernel
theorem dX3_fits_27 : decode cX3_fits 27 = .ok (.getfield 34, 3) := by decide +kernel
theorem dX3_fits_30 : decode cX3_fits 30 = .ok (.if_icmp .ne 62, 3) := by decide +kernel
theorem dX3_fits_33 : decode cX3_fits 33 = .ok (.aload_n 0, 1) := by decide +kernel
theorem dX3_fits_34 : decode cX3_fits 34 = .ok (.getfield 25, 3) := by decide +kernel
theorem dX3_fits_37 : decode cX3_fits 37 = .ok (.aload_n 1, 1) := by decide +kernel
theorem dX3_fits_38 : decode cX3_fits 38 = .ok (.getfield 25, 3) := by decide +kernel
theorem dX3_fits_41 : decode cX3_fits 41 = .ok (.if_icmp .ne 51, 3) := by decide +kernel
theorem dX3_fits_44 : decode cX3_fits 44 = .ok (.aload_n 0, 1) := by decide +kernel
theorem dX3_fits_45 : decode cX3_fits 45 = .ok (.getfield 28, 3) := by decide +kernel
theorem dX3_fits_48 : decode cX3_fits 48 = .ok (.aload_n 1, 1) := by decide +kernel
theorem dX3_fits_49 : decode cX3_fits 49 = .ok (.getfield 28, 3) := by decide +kernel
theorem dX3_fits_52 : decode cX3_fits 52 = .ok (.if_icmp .ne 40, 3) := by decide +kernel
theorem dX3_fits_55 : decode cX3_fits 55 = .ok (.aload_n 0, 1) := by decide +kernel
theorem dX3_fits_56 : decode cX3_fits 56 = .ok (.getfield 31, 3) := by decide +kernel
theorem dX3_fits_59 : decode cX3_fits 59 = .ok (.aload_n 1, 1) := by decide +kernel
theorem dX3_fits_60 : decode cX3_fits 60 = .ok (.getfield 31, 3) := by decide +kernel
theorem dX3_fits_63 : decode cX3_fits 63 = .ok (.if_icmp .ne 29, 3) := by decide +kernel
theorem dX3_fits_66 : decode cX3_fits 66 = .ok (.aload_n 0, 1) := by decide +kernel
theorem dX3_fits_67 : decode cX3_fits 67 = .ok (.getfield 37, 3) := by decide +kernel
theorem dX3_fits_70 : decode cX3_fits 70 = .ok (.aload_n 1, 1) := by decide +kernel
theorem dX3_fits_71 : decode cX3_fits 71 = .ok (.getfield 37, 3) := by decide +kernel
theorem dX3_fits_74 : decode cX3_fits 74 = .ok (.if_icmp .ne 18, 3) := by decide +kernel
theorem dX3_fits_77 : decode cX3_fits 77 = .ok (.aload_n 0, 1) := by decide +kernel
theorem dX3_fits_78 : decode cX3_fits 78 = .ok (.getfield 40, 3) := by decide +kernel
theorem dX3_fits_81 : decode cX3_fits 81 = .ok (.aload_n 1, 1) := by decide +kernel
theorem dX3_fits_82 : decode cX3_fits 82 = .ok (.getfield 40, 3) := by decide +kernel
theorem dX3_fits_85 : decode cX3_fits 85 = .ok (.if_icmp .ne 7, 3) := by decide +kernel
theorem dX3_fits_88 : decode cX3_fits 88 = .ok (.iconst 1, 1) := by decide +kernel
theorem dX3_fits_89 : decode cX3_fits 89 = .ok (.goto 4, 3) := by decide +kernel
theorem dX3_fits_92 : decode cX3_fits 92 = .ok (.iconst 0, 1) := by decide +kernel
theorem dX3_fits_93 : decode cX3_fits 93 = .ok (.ireturn, 1) := by decide +kernel
theorem dX3_isOfSamePartyFrom_0 : decode cX3_isOfSamePartyFrom 0 = .ok (.iconst 0, 1) := by decide +kernel
theorem dX3_isOfSamePartyFrom_1 : decode cX3_isOfSamePartyFrom 1 = .ok (.istore_n 3, 1) := by decide +kernel
theorem dX3_isOfSamePartyFrom_2 : decode cX3_isOfSamePartyFrom 2 = .ok (.iconst 0, 1) := by decide +kernel
theorem dX3_isOfSamePartyFrom_3 : decode cX3_isOfSamePartyFrom 3 = .ok (.istore 4, 2) := by decide +kernel
theorem dX3_isOfSamePartyFrom_5 : decode cX3_isOfSamePartyFrom 5 = .ok (.iload 4, 2) := by decide +kernel
theorem dX3_isOfSamePartyFrom_7 : decode cX3_isOfSamePartyFrom 7 = .ok (.aload_n 0, 1) := by decide +kernel
theorem dX3_isOfSamePartyFrom_8 : decode cX3_isOfSamePartyFrom 8 = .ok (.getfield 31, 3) := by decide +kernel
theorem dX3_isOfSamePartyFrom_11 : decode cX3_isOfSamePartyFrom 11 = .ok (.if_icmp .ge 46, 3) := by decide +kernel
theorem dX3_isOfSamePartyFrom_14 : decode cX3_isOfSamePartyFrom 14 = .ok (.aload_n 0, 1) := by decide +kernel
theorem dX3_isOfSamePartyFrom_15 : decode cX3_isOfSamePartyFrom 15 = .ok (.iload 4, 2) := by decide +kernel
theorem dX3_isOfSamePartyFrom_17 : decode cX3_isOfSamePartyFrom 17 = .ok (.invokevirtual 63, 3) := by decide +kernel
theorem dX3_isOfSamePartyFrom_20 : decode cX3_isOfSamePartyFrom 20 = .ok (.iload_n 1, 1) := by decide +kernel
theorem dX3_isOfSamePartyFrom_21 : decode cX3_isOfSamePartyFrom 21 = .ok (.if_icmp .lt 30, 3) := by decide +kernel
theorem dX3_isOfSamePartyFrom_24 : decode cX3_isOfSamePartyFrom 24 = .ok (.iconst 1, 1) := by decide +kernel
theorem dX3_isOfSamePartyFrom_25 : decode cX3_isOfSamePartyFrom 25 = .ok (.istore_n 3, 1) := by decide +kernel
theorem dX3_isOfSamePartyFrom_26 : decode cX3_isOfSamePartyFrom 26 = .ok (.aload_n 0, 1) := by decide +kernel
theorem dX3_isOfSamePartyFrom_27 : decode cX3_isOfSamePartyFrom 27 = .ok (.iload 4, 2) := by decide +kernel
theorem dX3_isOfSamePartyFrom_29 : decode cX3_isOfSamePartyFrom 29 = .ok (.invokevirtual 95, 3) := by decide +kernel
theorem dX3_isOfSamePartyFrom_32 : decode cX3_isOfSamePartyFrom 32 = .ok (.istore 5, 2) := by decide +kernel
theorem dX3_isOfSamePartyFrom_34 : decode cX3_isOfSamePartyFrom 34 = .ok (.aload_n 0, 1) := by decide +kernel
theorem dX3_isOfSamePartyFrom_35 : decode cX3_isOfSamePartyFrom 35 = .ok (.iload 5, 2) := by decide +kernel
theorem dX3_isOfSamePartyFrom_37 : decode cX3_isOfSamePartyFrom 37 = .ok (.invokevirtual 98, 3) := by decide +kernel
theorem dX3_isOfSamePartyFrom_40 : decode cX3_isOfSamePartyFrom 40 = .ok (.aload_n 2, 1) := by decide +kernel
theorem dX3_isOfSamePartyFrom_41 : decode cX3_isOfSamePartyFrom 41 = .ok (.iload 5, 2) := by decide +kernel
theorem dX3_isOfSamePartyFrom_43 : decode cX3_isOfSamePartyFrom 43 = .ok (.invokevirtual 98, 3) := by decide +kernel
theorem dX3_isOfSamePartyFrom_46 : decode cX3_isOfSamePartyFrom 46 = .ok (.if_icmp .eq 5, 3) := by decide +kernel
theorem dX3_isOfSamePartyFrom_49 : decode cX3_isOfSamePartyFrom 49 = .ok (.iconst 0, 1) := by decide +kernel
theorem dX3_isOfSamePartyFrom_50 : decode cX3_isOfSamePartyFrom 50 = .ok (.ireturn, 1) := by decide +kernel
theorem dX3_isOfSamePartyFrom_51 : decode cX3_isOfSamePartyFrom 51 = .ok (.iinc 4 1, 3) := by decide +kernel
theorem dX3_isOfSamePartyFrom_54 : decode cX3_isOfSamePartyFrom 54 = .ok (.goto (-49), 3) := by decide +kernel
theorem dX3_isOfSamePartyFrom_57 : decode cX3_isOfSamePartyFrom 57 = .ok (.iload_n 3, 1) := by decide +kernel
theorem dX3_isOfSamePartyFrom_58 : decode cX3_isOfSamePartyFrom 58 = .ok (.ireturn, 1) := by decide +kernel
theorem dX3_daysOf_0 : decode cX3_daysOf 0 = .ok (.aload_n 0, 1) := by decide +kernel
theorem dX3_daysOf_1 : decode cX3_daysOf 1 = .ok (.getfield 37, 3) := by decide +kernel
theorem dX3_daysOf_4 : decode cX3_daysOf 4 = .ok (.ifCond .ne 20, 3) := by decide +kernel
theorem dX3_daysOf_7 : decode cX3_daysOf 7 = .ok (.aload_n 0, 1) := by decide +kernel
theorem dX3_daysOf_8 : decode cX3_daysOf 8 = .ok (.iload_n 1, 1) := by decide +kernel
theorem dX3_daysOf_9 : decode cX3_daysOf 9 = .ok (.iconst 1, 1) := by decide +kernel
theorem dX3_daysOf_10 : decode cX3_daysOf 10 = .ok (.iadd, 1) := by decide +kernel
theorem dX3_daysOf_11 : decode cX3_daysOf 11 = .ok (.invokevirtual 63, 3) := by decide +kernel
theorem dX3_daysOf_14 : decode cX3_daysOf 14 = .ok (.aload_n 0, 1) := by decide +kernel
theorem dX3_daysOf_15 : decode cX3_daysOf 15 = .ok (.iload_n 1, 1) := by decide +kernel
theorem dX3_daysOf_16 : decode cX3_daysOf 16 = .ok (.invokevirtual 63, 3) := by decide +kernel
theorem dX3_daysOf_19 : decode cX3_daysOf 19 = .ok (.isub, 1) := by decide +kernel
theorem dX3_daysOf_20 : decode cX3_daysOf 20 = .ok (.i2l, 1) := by decide +kernel
theorem dX3_daysOf_21 : decode cX3_daysOf 21 = .ok (.goto 8, 3) := by decide +kernel
theorem dX3_daysOf_24 : decode cX3_daysOf 24 = .ok (.aload_n 0, 1) := by decide +kernel
theorem dX3_daysOf_25 : decode cX3_daysOf 25 = .ok (.getfield 28, 3) := by decide +kernel
theorem dX3_daysOf_28 : decode cX3_daysOf 28 = .ok (.i2l, 1) := by decide +kernel
theorem dX3_daysOf_29 : decode cX3_daysOf 29 = .ok (.lreturn, 1) := by decide +kernel
theorem dX3_rateOf_0 : decode cX3_rateOf 0 = .ok (.aload_n 2, 1) := by decide +kernel
theorem dX3_rateOf_1 : decode cX3_rateOf 1 = .ok (.aload_n 0, 1) := by decide +kernel
theorem dX3_rateOf_2 : decode cX3_rateOf 2 = .ok (.iload_n 1, 1) := by decide +kernel
theorem dX3_rateOf_3 : decode cX3_rateOf 3 = .ok (.invokevirtual 63, 3) := by decide +kernel
theorem dX3_rateOf_6 : decode cX3_rateOf 6 = .ok (.iconst 0, 1) := by decide +kernel
theorem dX3_rateOf_7 : decode cX3_rateOf 7 = .ok (.invokevirtual 69, 3) := by decide +kernel
theorem dX3_rateOf_10 : decode cX3_rateOf 10 = .ok (.i2l, 1) := by decide +kernel
theorem dX3_rateOf_11 : decode cX3_rateOf 11 = .ok (.lreturn, 1) := by decide +kernel
theorem dX4_init_0 : decode cX4_init 0 = .ok (.aload_n 0, 1) := by decide +kernel
theorem dX4_init_1 : decode cX4_init 1 = .ok (.invokespecial 1, 3) := by decide +kernel
theorem dX4_init_4 : decode cX4_init 4 = .ok (.aload_n 0, 1) := by decide +kernel
theorem dX4_init_5 : decode cX4_init 5 = .ok (.new 7, 3) := by decide +kernel
theorem dX4_init_8 : decode cX4_init 8 = .ok (.dup, 1) := by decide +kernel
theorem dX4_init_9 : decode cX4_init 9 = .ok (.invokespecial 9, 3) := by decide +kernel
theorem dX4_init_12 : decode cX4_init 12 = .ok (.putfield 10, 3) := by decide +kernel
theorem dX4_init_15 : decode cX4_init 15 = .ok (.aload_n 0, 1) := by decide +kernel
theorem dX4_init_16 : decode cX4_init 16 = .ok (.new 16, 3) := by decide +kernel
theorem dX4_init_19 : decode cX4_init 19 = .ok (.dup, 1) := by decide +kernel
theorem dX4_init_20 : decode cX4_init 20 = .ok (.invokespecial 18, 3) := by decide +kernel
theorem dX4_init_23 : decode cX4_init 23 = .ok (.putfield 19, 3) := by decide +kernel
theorem dX4_init_26 : decode cX4_init 26 = .ok (.aload_n 0, 1) := by decide +kernel
theorem dX4_init_27 : decode cX4_init 27 = .ok (.new 23, 3) := by decide +kernel
theorem dX4_init_30 : decode cX4_init 30 = .ok (.dup, 1) := by decide +kernel
theorem dX4_init_31 : decode cX4_init 31 = .ok (.invokespecial 25, 3) := by decide +kernel
theorem dX4_init_34 : decode cX4_init 34 = .ok (.putfield 26, 3) := by decide +kernel
theorem dX4_init_37 : decode cX4_init 37 = .ok (.return_, 1) := by decide +kernel
theorem dX4_holiday_0 : decode cX4_holiday 0 = .ok (.iload_n 1, 1) := by decide +kernel
theorem dX4_holiday_1 : decode cX4_holiday 1 = .ok (.ifCond .lt 8, 3) := by decide +kernel
theorem dX4_holiday_4 : decode cX4_holiday 4 = .ok (.iload_n 1, 1) := by decide +kernel
theorem dX4_holiday_5 : decode cX4_holiday 5 = .ok (.iconst 2, 1) := by decide +kernel
theorem dX4_holiday_6 : decode cX4_holiday 6 = .ok (.if_icmp .lt 13, 3) := by decide +kernel
theorem dX4_holiday_9 : decode cX4_holiday 9 = .ok (.new 30, 3) := by decide +kernel
theorem dX4_holiday_12 : decode cX4_holiday 12 = .ok (.dup, 1) := by decide +kernel
theorem dX4_holiday_13 : decode cX4_holiday 13 = .ok (.ldc 32, 2) := by decide +kernel
theorem dX4_holiday_15 : decode cX4_holiday 15 = .ok (.invokespecial 34, 3) := by decide +kernel
theorem dX4_holiday_18 : decode cX4_holiday 18 = .ok (.athrow, 1) := by decide +kernel
theorem dX4_holiday_19 : decode cX4_holiday 19 = .ok (.iload_n 2, 1) := by decide +kernel
theorem dX4_holiday_20 : decode cX4_holiday 20 = .ok (.iconst 0, 1) := by decide +kernel
theorem dX4_holiday_21 : decode cX4_holiday 21 = .ok (.sipush 3000, 3) := by decide +kernel
theorem dX4_holiday_24 : decode cX4_holiday 24 = .ok (.invokestatic 37, 3) := by decide +kernel
theorem dX4_holiday_27 : decode cX4_holiday 27 = .ok (.aload_n 0, 1) := by decide +kernel
theorem dX4_holiday_28 : decode cX4_holiday 28 = .ok (.getfield 10, 3) := by decide +kernel
theorem dX4_holiday_31 : decode cX4_holiday 31 = .ok (.iload_n 1, 1) := by decide +kernel
theorem dX4_holiday_32 : decode cX4_holiday 32 = .ok (.invokevirtual 41, 3) := by decide +kernel
theorem dX4_holiday_35 : decode cX4_holiday 35 = .ok (.astore_n 3, 1) := by decide +kernel
theorem dX4_holiday_36 : decode cX4_holiday 36 = .ok (.aload_n 3, 1) := by decide +kernel
theorem dX4_holiday_37 : decode cX4_holiday 37 = .ok (.invokevirtual 45, 3) := by decide +kernel
theorem dX4_holiday_40 : decode cX4_holiday 40 = .ok (.bipush 20, 2) := by decide +kernel
theorem dX4_holiday_42 : decode cX4_holiday 42 = .ok (.if_icmp .ge 11, 3) := by decide +kernel
theorem dX4_holiday_45 : decode cX4_holiday 45 = .ok (.aload_n 3, 1) := by decide +kernel
theorem dX4_holiday_46 : decode cX4_holiday 46 = .ok (.iload_n 2, 1) := by decide +kernel
theorem dX4_holiday_47 : decode cX4_holiday 47 = .ok (.invokevirtual 49, 3) := by decide +kernel
theorem dX4_holiday_50 : decode cX4_holiday 50 = .ok (.ifCond .eq 13, 3) := by decide +kernel
theorem dX4_holiday_53 : decode cX4_holiday 53 = .ok (.new 53, 3) := by decide +kernel
theorem dX4_holiday_56 : decode cX4_holiday 56 = .ok (.dup, 1) := by decide +kernel
theorem dX4_holiday_57 : decode cX4_holiday 57 = .ok (.ldc 55, 2) := by decide +kernel
theorem dX4_holiday_59 : decode cX4_holiday 59 = .ok (.invokespecial 57, 3) := by decide +kernel
theorem dX4_holiday_62 : decode cX4_holiday 62 = .ok (.athrow, 1) := by decide +kernel
theorem dX4_holiday_63 : decode cX4_holiday 63 = .ok (.aload_n 3, 1) := by decide +kernel
theorem dX4_holiday_64 : decode cX4_holiday 64 = .ok (.iload_n 2, 1) := by decide +kernel
theorem dX4_holiday_65 : decode cX4_holiday 65 = .ok (.iload_n 1, 1) := by decide +kernel
theorem dX4_holiday_66 : decode cX4_holiday 66 = .ok (.invokevirtual 58, 3) := by decide +kernel
theorem dX4_holiday_69 : decode cX4_holiday 69 = .ok (.aload_n 0, 1) := by decide +kernel
theorem dX4_holiday_70 : decode cX4_holiday 70 = .ok (.invokevirtual 62, 3) := by decide +kernel
theorem dX4_holiday_73 : decode cX4_holiday 73 = .ok (.aload_n 3, 1) := by decide +kernel
theorem dX4_holiday_74 : decode cX4_holiday 74 = .ok (.invokevirtual 45, 3) := by decide +kernel
theorem dX4_holiday_77 : decode cX4_holiday 77 = .ok (.ireturn, 1) := by decide +kernel
theorem dX4_isOpen_0 : decode cX4_isOpen 0 = .ok (.iload_n 1, 1) := by decide +kernel
theorem dX4_isOpen_1 : decode cX4_isOpen 1 = .ok (.iconst 0, 1) := by decide +kernel
theorem dX4_isOpen_2 : decode cX4_isOpen 2 = .ok (.sipush 3000, 3) := by decide +kernel
theorem dX4_isOpen_5 : decode cX4_isOpen 5 = .ok (.invokestatic 37, 3) := by decide +kernel
theorem dX4_isOpen_8 : decode cX4_isOpen 8 = .ok (.aload_n 0, 1) := by decide +kernel
theorem dX4_isOpen_9 : decode cX4_isOpen 9 = .ok (.getfield 10, 3) := by decide +kernel
theorem dX4_isOpen_12 : decode cX4_isOpen 12 = .ok (.iload_n 1, 1) := by decide +kernel
theorem dX4_isOpen_13 : decode cX4_isOpen 13 = .ok (.invokevirtual 65, 3) := by decide +kernel
theorem dX4_isOpen_16 : decode cX4_isOpen 16 = .ok (.ireturn, 1) := by decide +kernel
theorem dX4_roll_0 : decode cX4_roll 0 = .ok (.iload_n 1, 1) := by decide +kernel
theorem dX4_roll_1 : decode cX4_roll 1 = .ok (.iconst 0, 1) := by decide +kernel
theorem dX4_roll_2 : decode cX4_roll 2 = .ok (.sipush 3000, 3) := by decide +kernel
theorem dX4_roll_5 : decode cX4_roll 5 = .ok (.invokestatic 37, 3) := by decide +kernel
theorem dX4_roll_8 : decode cX4_roll 8 = .ok (.aload_n 0, 1) := by decide +kernel
theorem dX4_roll_9 : decode cX4_roll 9 = .ok (.getfield 10, 3) := by decide +kernel
theorem dX4_roll_12 : decode cX4_roll 12 = .ok (.iload_n 1, 1) := by decide +kernel
theorem dX4_roll_13 : decode cX4_roll 13 = .ok (.invokevirtual 68, 3) := by decide +kernel
theorem dX4_roll_16 : decode cX4_roll 16 = .ok (.ireturn, 1) := by decide +kernel
theorem dX4_fix_0 : decode cX4_fix 0 = .ok (.iload_n 1, 1) := by decide +kernel
theorem dX4_fix_1 : decode cX4_fix 1 = .ok (.iconst 0, 1) := by decide +kernel
theorem dX4_fix_2 : decode cX4_fix 2 = .ok (.sipush 3000, 3) := by decide +kernel
theorem dX4_fix_5 : decode cX4_fix 5 = .ok (.invokestatic 37, 3) := by decide +kernel
theorem dX4_fix_8 : decode cX4_fix 8 = .ok (.iload_n 2, 1) := by decide +kernel
theorem dX4_fix_9 : decode cX4_fix 9 = .ok (.sipush (-500), 3) := by decide +kernel
theorem dX4_fix_12 : decode cX4_fix 12 = .ok (.sipush 2000, 3) := by decide +kernel
theorem dX4_fix_15 : decode cX4_fix 15 = .ok (.invokestatic 37, 3) := by decide +kernel
theorem dX4_fix_18 : decode cX4_fix 18 = .ok (.aload_n 0, 1) := by decide +kernel
theorem dX4_fix_19 : decode cX4_fix 19 = .ok (.getfield 19, 3) := by decide +kernel
theorem dX4_fix_22 : decode cX4_fix 22 = .ok (.invokevirtual 45, 3) := by decide +kernel
theorem dX4_fix_25 : decode cX4_fix 25 = .ok (.bipush 60, 2) := by decide +kernel
theorem dX4_fix_27 : decode cX4_fix 27 = .ok (.if_icmp .lt 24, 3) := by decide +kernel
theorem dX4_fix_30 : decode cX4_fix 30 = .ok (.aload_n 0, 1) := by decide +kernel
theorem dX4_fix_31 : decode cX4_fix 31 = .ok (.getfield 19, 3) := by decide +kernel
theorem dX4_fix_34 : decode cX4_fix 34 = .ok (.iload_n 1, 1) := by decide +kernel
theorem dX4_fix_35 : decode cX4_fix 35 = .ok (.invokevirtual 49, 3) := by decide +kernel
theorem dX4_fix_38 : decode cX4_fix 38 = .ok (.ifCond .ne 13, 3) := by decide +kernel
theorem dX4_fix_41 : decode cX4_fix 41 = .ok (.new 53, 3) := by decide +kernel
theorem dX4_fix_44 : decode cX4_fix 44 = .ok (.dup, 1) := by decide +kernel
theorem dX4_fix_45 : decode cX4_fix 45 = .ok (.ldc 72, 2) := by decide +kernel
theorem dX4_fix_47 : decode cX4_fix 47 = .ok (.invokespecial 57, 3) := by decide +kernel
theorem dX4_fix_50 : decode cX4_fix 50 = .ok (.athrow, 1) := by decide +kernel
theorem dX4_fix_51 : decode cX4_fix 51 = .ok (.aload_n 0, 1) := by decide +kernel
theorem dX4_fix_52 : decode cX4_fix 52 = .ok (.getfield 19, 3) := by decide +kernel
theorem dX4_fix_55 : decode cX4_fix 55 = .ok (.iload_n 1, 1) := by decide +kernel
theorem dX4_fix_56 : decode cX4_fix 56 = .ok (.iload_n 2, 1) := by decide +kernel
theorem dX4_fix_57 : decode cX4_fix 57 = .ok (.invokevirtual 74, 3) := by decide +kernel
theorem dX4_fix_60 : decode cX4_fix 60 = .ok (.aload_n 0, 1) := by decide +kernel
theorem dX4_fix_61 : decode cX4_fix 61 = .ok (.getfield 19, 3) := by decide +kernel
theorem dX4_fix_64 : decode cX4_fix 64 = .ok (.invokevirtual 45, 3) := by decide +kernel
theorem dX4_fix_67 : decode cX4_fix 67 = .ok (.ireturn, 1) := by decide +kernel
theorem dX4_trade_0 : decode cX4_trade 0 = .ok (.iload_n 1, 1) := by decide +kernel
theorem dX4_trade_1 : decode cX4_trade 1 = .ok (.invokestatic 81, 3) := by decide +kernel
theorem dX4_trade_4 : decode cX4_trade 4 = .ok (.iload_n 2, 1) := by decide +kernel
theorem dX4_trade_5 : decode cX4_trade 5 = .ok (.iconst 1, 1) := by decide +kernel
theorem dX4_trade_6 : decode cX4_trade 6 = .ok (.sipush 1000, 3) := by decide +kernel
theorem dX4_trade_9 : decode cX4_trade 9 = .ok (.invokestatic 37, 3) := by decide +kernel
theorem dX4_trade_12 : decode cX4_trade 12 = .ok (.iload 4, 2) := by decide +kernel
theorem dX4_trade_14 : decode cX4_trade 14 = .ok (.sipush (-500), 3) := by decide +kernel
theorem dX4_trade_17 : decode cX4_trade 17 = .ok (.sipush 2000, 3) := by decide +kernel
theorem dX4_trade_20 : decode cX4_trade 20 = .ok (.invokestatic 37, 3) := by decide +kernel
theorem dX4_trade_23 : decode cX4_trade 23 = .ok (.iload 5, 2) := by decide +kernel
theorem dX4_trade_25 : decode cX4_trade 25 = .ok (.iconst 0, 1) := by decide +kernel
theorem dX4_trade_26 : decode cX4_trade 26 = .ok (.sipush 1000, 3) := by decide +kernel
theorem dX4_trade_29 : decode cX4_trade 29 = .ok (.invokestatic 37, 3) := by decide +kernel
theorem dX4_trade_32 : decode cX4_trade 32 = .ok (.iload 6, 2) := by decide +kernel
theorem dX4_trade_34 : decode cX4_trade 34 = .ok (.iconst 5, 1) := by decide +kernel
theorem dX4_trade_35 : decode cX4_trade 35 = .ok (.sipush 180, 3) := by decide +kernel
theorem dX4_trade_38 : decode cX4_trade 38 = .ok (.invokestatic 37, 3) := by decide +kernel
theorem dX4_trade_41 : decode cX4_trade 41 = .ok (.iload 7, 2) := by decide +kernel
theorem dX4_trade_43 : decode cX4_trade 43 = .ok (.iconst 1, 1) := by decide +kernel
theorem dX4_trade_44 : decode cX4_trade 44 = .ok (.bipush 10, 2) := by decide +kernel
theorem dX4_trade_46 : decode cX4_trade 46 = .ok (.invokestatic 37, 3) := by decide +kernel
theorem dX4_trade_49 : decode cX4_trade 49 = .ok (.aload_n 0, 1) := by decide +kernel
theorem dX4_trade_50 : decode cX4_trade 50 = .ok (.getfield 26, 3) := by decide +kernel
theorem dX4_trade_53 : decode cX4_trade 53 = .ok (.invokevirtual 85, 3) := by decide +kernel
theorem dX4_trade_56 : decode cX4_trade 56 = .ok (.bipush 10, 2) := by decide +kernel
theorem dX4_trade_58 : decode cX4_trade 58 = .ok (.if_icmp .lt 13, 3) := by decide +kernel
theorem dX4_trade_61 : decode cX4_trade 61 = .ok (.new 53, 3) := by decide +kernel
theorem dX4_trade_64 : decode cX4_trade 64 = .ok (.dup, 1) := by decide +kernel
theorem dX4_trade_65 : decode cX4_trade 65 = .ok (.ldc 88, 2) := by decide +kernel
theorem dX4_trade_67 : decode cX4_trade 67 = .ok (.invokespecial 57, 3) := by decide +kernel
theorem dX4_trade_70 : decode cX4_trade 70 = .ok (.athrow, 1) := by decide +kernel
theorem dX4_trade_71 : decode cX4_trade 71 = .ok (.new 90, 3) := by decide +kernel
theorem dX4_trade_74 : decode cX4_trade 74 = .ok (.dup, 1) := by decide +kernel
theorem dX4_trade_75 : decode cX4_trade 75 = .ok (.iload_n 1, 1) := by decide +kernel
theorem dX4_trade_76 : decode cX4_trade 76 = .ok (.iload_n 2, 1) := by decide +kernel
theorem dX4_trade_77 : decode cX4_trade 77 = .ok (.iload_n 3, 1) := by decide +kernel
theorem dX4_trade_78 : decode cX4_trade 78 = .ok (.iload 4, 2) := by decide +kernel
theorem dX4_trade_80 : decode cX4_trade 80 = .ok (.iload 5, 2) := by decide +kernel
theorem dX4_trade_82 : decode cX4_trade 82 = .ok (.iload 6, 2) := by decide +kernel
theorem dX4_trade_84 : decode cX4_trade 84 = .ok (.iload 7, 2) := by decide +kernel
theorem dX4_trade_86 : decode cX4_trade 86 = .ok (.invokespecial 92, 3) := by decide +kernel
theorem dX4_trade_89 : decode cX4_trade 89 = .ok (.astore 8, 2) := by decide +kernel
theorem dX4_trade_91 : decode cX4_trade 91 = .ok (.aload 8, 2) := by decide +kernel
theorem dX4_trade_93 : decode cX4_trade 93 = .ok (.aload_n 0, 1) := by decide +kernel
theorem dX4_trade_94 : decode cX4_trade 94 = .ok (.getfield 10, 3) := by decide +kernel
theorem dX4_trade_97 : decode cX4_trade 97 = .ok (.invokevirtual 95, 3) := by decide +kernel
theorem dX4_trade_100 : decode cX4_trade 100 = .ok (.aload_n 0, 1) := by decide +kernel
theorem dX4_trade_101 : decode cX4_trade 101 = .ok (.getfield 26, 3) := by decide +kernel
theorem dX4_trade_104 : decode cX4_trade 104 = .ok (.aload 8, 2) := by decide +kernel
theorem dX4_trade_106 : decode cX4_trade 106 = .ok (.invokevirtual 99, 3) := by decide +kernel
theorem dX4_trade_109 : decode cX4_trade 109 = .ok (.pop, 1) := by decide +kernel
theorem dX4_trade_110 : decode cX4_trade 110 = .ok (.aload_n 0, 1) := by decide +kernel
theorem dX4_trade_111 : decode cX4_trade 111 = .ok (.getfield 26, 3) := by decide +kernel
theorem dX4_trade_114 : decode cX4_trade 114 = .ok (.invokevirtual 85, 3) := by decide +kernel
theorem dX4_trade_117 : decode cX4_trade 117 = .ok (.iconst 1, 1) := by decide +kernel
theorem dX4_trade_118 : decode cX4_trade 118 = .ok (.isub, 1) := by decide +kernel
theorem dX4_trade_119 : decode cX4_trade 119 = .ok (.ireturn, 1) := by decide +kernel
theorem dX4_breakPart_0 : decode cX4_breakPart 0 = .ok (.aload_n 0, 1) := by decide +kernel
theorem dX4_breakPart_1 : decode cX4_breakPart 1 = .ok (.iload_n 1, 1) := by decide +kernel
theorem dX4_breakPart_2 : decode cX4_breakPart 2 = .ok (.invokevirtual 102, 3) := by decide +kernel
theorem dX4_breakPart_5 : decode cX4_breakPart 5 = .ok (.astore 4, 2) := by decide +kernel
theorem dX4_breakPart_7 : decode cX4_breakPart 7 = .ok (.iload_n 2, 1) := by decide +kernel
theorem dX4_breakPart_8 : decode cX4_breakPart 8 = .ok (.iconst 0, 1) := by decide +kernel
theorem dX4_breakPart_9 : decode cX4_breakPart 9 = .ok (.sipush 3000, 3) := by decide +kernel
theorem dX4_breakPart_12 : decode cX4_breakPart 12 = .ok (.invokestatic 37, 3) := by decide +kernel
theorem dX4_breakPart_15 : decode cX4_breakPart 15 = .ok (.iload_n 3, 1) := by decide +kernel
theorem dX4_breakPart_16 : decode cX4_breakPart 16 = .ok (.iconst 1, 1) := by decide +kernel
theorem dX4_breakPart_17 : decode cX4_breakPart 17 = .ok (.sipush 1000, 3) := by decide +kernel
theorem dX4_breakPart_20 : decode cX4_breakPart 20 = .ok (.invokestatic 37, 3) := by decide +kernel
theorem dX4_breakPart_23 : decode cX4_breakPart 23 = .ok (.aload 4, 2) := by decide +kernel
theorem dX4_breakPart_25 : decode cX4_breakPart 25 = .ok (.invokevirtual 121, 3) := by decide +kernel
theorem dX4_breakPart_28 : decode cX4_breakPart 28 = .ok (.iload_n 3, 1) := by decide +kernel
theorem dX4_breakPart_29 : decode cX4_breakPart 29 = .ok (.if_icmp .ge 13, 3) := by decide +kernel
theorem dX4_breakPart_32 : decode cX4_breakPart 32 = .ok (.new 53, 3) := by decide +kernel
theorem dX4_breakPart_35 : decode cX4_breakPart 35 = .ok (.dup, 1) := by decide +kernel
theorem dX4_breakPart_36 : decode cX4_breakPart 36 = .ok (.ldc 124, 2) := by decide +kernel
theorem dX4_breakPart_38 : decode cX4_breakPart 38 = .ok (.invokespecial 57, 3) := by decide +kernel
theorem dX4_breakPart_41 : decode cX4_breakPart 41 = .ok (.athrow, 1) := by decide +kernel
theorem dX4_breakPart_42 : decode cX4_breakPart 42 = .ok (.aload 4, 2) := by decide +kernel
theorem dX4_breakPart_44 : decode cX4_breakPart 44 = .ok (.getfield 106, 3) := by decide +kernel
theorem dX4_breakPart_47 : decode cX4_breakPart 47 = .ok (.iload_n 2, 1) := by decide +kernel
theorem dX4_breakPart_48 : decode cX4_breakPart 48 = .ok (.iload_n 3, 1) := by decide +kernel
theorem dX4_breakPart_49 : decode cX4_breakPart 49 = .ok (.invokevirtual 58, 3) := by decide +kernel
theorem dX4_breakPart_52 : decode cX4_breakPart 52 = .ok (.aload 4, 2) := by decide +kernel
theorem dX4_breakPart_54 : decode cX4_breakPart 54 = .ok (.getfield 106, 3) := by decide +kernel
theorem dX4_breakPart_57 : decode cX4_breakPart 57 = .ok (.invokevirtual 45, 3) := by decide +kernel
theorem dX4_breakPart_60 : decode cX4_breakPart 60 = .ok (.ireturn, 1) := by decide +kernel
theorem dX4_handOver_0 : decode cX4_handOver 0 = .ok (.aload_n 0, 1) := by decide +kernel
theorem dX4_handOver_1 : decode cX4_handOver 1 = .ok (.iload_n 1, 1) := by decide +kernel
theorem dX4_handOver_2 : decode cX4_handOver 2 = .ok (.invokevirtual 102, 3) := by decide +kernel
theorem dX4_handOver_5 : decode cX4_handOver 5 = .ok (.astore 4, 2) := by decide +kernel
theorem dX4_handOver_7 : decode cX4_handOver 7 = .ok (.iload_n 3, 1) := by decide +kernel
theorem dX4_handOver_8 : decode cX4_handOver 8 = .ok (.invokestatic 81, 3) := by decide +kernel
theorem dX4_handOver_11 : decode cX4_handOver 11 = .ok (.iload_n 2, 1) := by decide +kernel
theorem dX4_handOver_12 : decode cX4_handOver 12 = .ok (.iconst 0, 1) := by decide +kernel
theorem dX4_handOver_13 : decode cX4_handOver 13 = .ok (.sipush 3000, 3) := by decide +kernel
theorem dX4_handOver_16 : decode cX4_handOver 16 = .ok (.invokestatic 37, 3) := by decide +kernel
theorem dX4_handOver_19 : decode cX4_handOver 19 = .ok (.aload 4, 2) := by decide +kernel
theorem dX4_handOver_21 : decode cX4_handOver 21 = .ok (.getfield 126, 3) := by decide +kernel
theorem dX4_handOver_24 : decode cX4_handOver 24 = .ok (.invokevirtual 45, 3) := by decide +kernel
theorem dX4_handOver_27 : decode cX4_handOver 27 = .ok (.bipush 10, 2) := by decide +kernel
theorem dX4_handOver_29 : decode cX4_handOver 29 = .ok (.if_icmp .lt 13, 3) := by decide +kernel
theorem dX4_handOver_32 : decode cX4_handOver 32 = .ok (.new 53, 3) := by decide +kernel
theorem dX4_handOver_35 : decode cX4_handOver 35 = .ok (.dup, 1) := by decide +kernel
theorem dX4_handOver_36 : decode cX4_handOver 36 = .ok (.ldc 129, 2) := by decide +kernel
theorem dX4_handOver_38 : decode cX4_handOver 38 = .ok (.invokespecial 57, 3) := by decide +kernel
theorem dX4_handOver_41 : decode cX4_handOver 41 = .ok (.athrow, 1) := by decide +kernel
theorem dX4_handOver_42 : decode cX4_handOver 42 = .ok (.aload 4, 2) := by decide +kernel
theorem dX4_handOver_44 : decode cX4_handOver 44 = .ok (.iload_n 2, 1) := by decide +kernel
theorem dX4_handOver_45 : decode cX4_handOver 45 = .ok (.invokevirtual 131, 3) := by decide +kernel
theorem dX4_handOver_48 : decode cX4_handOver 48 = .ok (.istore 5, 2) := by decide +kernel
theorem dX4_handOver_50 : decode cX4_handOver 50 = .ok (.aload 4, 2) := by decide +kernel
theorem dX4_handOver_52 : decode cX4_handOver 52 = .ok (.getfield 126, 3) := by decide +kernel
theorem dX4_handOver_55 : decode cX4_handOver 55 = .ok (.iload_n 2, 1) := by decide +kernel
theorem dX4_handOver_56 : decode cX4_handOver 56 = .ok (.iload_n 3, 1) := by decide +kernel
theorem dX4_handOver_57 : decode cX4_handOver 57 = .ok (.invokevirtual 58, 3) := by decide +kernel
theorem dX4_handOver_60 : decode cX4_handOver 60 = .ok (.iload 5, 2) := by decide +kernel
theorem dX4_handOver_62 : decode cX4_handOver 62 = .ok (.ireturn, 1) := by decide +kernel
theorem dX4_press_0 : decode cX4_press 0 = .ok (.iload_n 1, 1) := by decide +kernel
theorem dX4_press_1 : decode cX4_press 1 = .ok (.iconst 0, 1) := by decide +kernel
theorem dX4_press_2 : decode cX4_press 2 = .ok (.sipush 3000, 3) := by decide +kernel
theorem dX4_press_5 : decode cX4_press 5 = .ok (.invokestatic 37, 3) := by decide +kernel
theorem dX4_press_8 : decode cX4_press 8 = .ok (.iconst 0, 1) := by decide +kernel
theorem dX4_press_9 : decode cX4_press 9 = .ok (.istore_n 2, 1) := by decide +kernel
theorem dX4_press_10 : decode cX4_press 10 = .ok (.iconst 0, 1) := by decide +kernel
theorem dX4_press_11 : decode cX4_press 11 = .ok (.istore_n 3, 1) := by decide +kernel
theorem dX4_press_12 : decode cX4_press 12 = .ok (.iload_n 3, 1) := by decide +kernel
theorem dX4_press_13 : decode cX4_press 13 = .ok (.aload_n 0, 1) := by decide +kernel
theorem dX4_press_14 : decode cX4_press 14 = .ok (.getfield 26, 3) := by decide +kernel
theorem dX4_press_17 : decode cX4_press 17 = .ok (.invokevirtual 85, 3) := by decide +kernel
theorem dX4_press_20 : decode cX4_press 20 = .ok (.if_icmp .ge 62, 3) := by decide +kernel
theorem dX4_press_23 : decode cX4_press 23 = .ok (.iload_n 3, 1) := by decide +kernel
theorem dX4_press_24 : decode cX4_press 24 = .ok (.iconst 1, 1) := by decide +kernel
theorem dX4_press_25 : decode cX4_press 25 = .ok (.iadd, 1) := by decide +kernel
theorem dX4_press_26 : decode cX4_press 26 = .ok (.istore 4, 2) := by decide +kernel
theorem dX4_press_28 : decode cX4_press 28 = .ok (.iload 4, 2) := by decide +kernel
theorem dX4_press_30 : decode cX4_press 30 = .ok (.aload_n 0, 1) := by decide +kernel
theorem dX4_press_31 : decode cX4_press 31 = .ok (.getfield 26, 3) := by decide +kernel
theorem dX4_press_34 : decode cX4_press 34 = .ok (.invokevirtual 85, 3) := by decide +kernel
theorem dX4_press_37 : decode cX4_press 37 = .ok (.if_icmp .ge 39, 3) := by decide +kernel
theorem dX4_press_40 : decode cX4_press 40 = .ok (.iload_n 2, 1) := by decide +kernel
theorem dX4_press_41 : decode cX4_press 41 = .ok (.aload_n 0, 1) := by decide +kernel
theorem dX4_press_42 : decode cX4_press 42 = .ok (.getfield 26, 3) := by decide +kernel
theorem dX4_press_45 : decode cX4_press 45 = .ok (.iload_n 3, 1) := by decide +kernel
theorem dX4_press_46 : decode cX4_press 46 = .ok (.invokevirtual 134, 3) := by decide +kernel
theorem dX4_press_49 : decode cX4_press 49 = .ok (.checkcast 90, 3) := by decide +kernel
theorem dX4_press_52 : decode cX4_press 52 = .ok (.aload_n 0, 1) := by decide +kernel
theorem dX4_press_53 : decode cX4_press 53 = .ok (.getfield 26, 3) := by decide +kernel
theorem dX4_press_56 : decode cX4_press 56 = .ok (.iload 4, 2) := by decide +kernel
theorem dX4_press_58 : decode cX4_press 58 = .ok (.invokevirtual 134, 3) := by decide +kernel
theorem dX4_press_61 : decode cX4_press 61 = .ok (.checkcast 90, 3) := by decide +kernel
theorem dX4_press_64 : decode cX4_press 64 = .ok (.iload_n 1, 1) := by decide +kernel
theorem dX4_press_65 : decode cX4_press 65 = .ok (.invokestatic 138, 3) := by decide +kernel
theorem dX4_press_68 : decode cX4_press 68 = .ok (.iadd, 1) := by decide +kernel
theorem dX4_press_69 : decode cX4_press 69 = .ok (.istore_n 2, 1) := by decide +kernel
theorem dX4_press_70 : decode cX4_press 70 = .ok (.iinc 4 1, 3) := by decide +kernel
theorem dX4_press_73 : decode cX4_press 73 = .ok (.goto (-45), 3) := by decide +kernel
theorem dX4_press_76 : decode cX4_press 76 = .ok (.iinc 3 1, 3) := by decide +kernel
theorem dX4_press_79 : decode cX4_press 79 = .ok (.goto (-67), 3) := by decide +kernel
theorem dX4_press_82 : decode cX4_press 82 = .ok (.iload_n 2, 1) := by decide +kernel
theorem dX4_press_83 : decode cX4_press 83 = .ok (.ireturn, 1) := by decide +kernel
theorem dX4_trades_0 : decode cX4_trades 0 = .ok (.aload_n 0, 1) := by decide +kernel
theorem dX4_trades_1 : decode cX4_trades 1 = .ok (.getfield 26, 3) := by decide +kernel
theorem dX4_trades_4 : decode cX4_trades 4 = .ok (.invokevirtual 85, 3) := by decide +kernel
theorem dX4_trades_7 : decode cX4_trades 7 = .ok (.ireturn, 1) := by decide +kernel
theorem dX4_start_0 : decode cX4_start 0 = .ok (.aload_n 0, 1) := by decide +kernel
theorem dX4_start_1 : decode cX4_start 1 = .ok (.iload_n 1, 1) := by decide +kernel
theorem dX4_start_2 : decode cX4_start 2 = .ok (.iload_n 2, 1) := by decide +kernel
theorem dX4_start_3 : decode cX4_start 3 = .ok (.invokevirtual 142, 3) := by decide +kernel
theorem dX4_start_6 : decode cX4_start 6 = .ok (.iload_n 2, 1) := by decide +kernel
theorem dX4_start_7 : decode cX4_start 7 = .ok (.invokevirtual 146, 3) := by decide +kernel
theorem dX4_start_10 : decode cX4_start 10 = .ok (.ireturn, 1) := by decide +kernel
theorem dX4_end_0 : decode cX4_end 0 = .ok (.aload_n 0, 1) := by decide +kernel
theorem dX4_end_1 : decode cX4_end 1 = .ok (.iload_n 1, 1) := by decide +kernel
theorem dX4_end_2 : decode cX4_end 2 = .ok (.iload_n 2, 1) := by decide +kernel
theorem dX4_end_3 : decode cX4_end 3 = .ok (.invokevirtual 142, 3) := by decide +kernel
theorem dX4_end_6 : decode cX4_end 6 = .ok (.iload_n 2, 1) := by decide +kernel
theorem dX4_end_7 : decode cX4_end 7 = .ok (.invokevirtual 149, 3) := by decide +kernel
theorem dX4_end_10 : decode cX4_end 10 = .ok (.ireturn, 1) := by decide +kernel
theorem dX4_lots_0 : decode cX4_lots 0 = .ok (.aload_n 0, 1) := by decide +kernel
theorem dX4_lots_1 : decode cX4_lots 1 = .ok (.iload_n 1, 1) := by decide +kernel
theorem dX4_lots_2 : decode cX4_lots 2 = .ok (.iload_n 2, 1) := by decide +kernel
theorem dX4_lots_3 : decode cX4_lots 3 = .ok (.invokevirtual 142, 3) := by decide +kernel
theorem dX4_lots_6 : decode cX4_lots 6 = .ok (.iload_n 2, 1) := by decide +kernel
theorem dX4_lots_7 : decode cX4_lots 7 = .ok (.invokevirtual 152, 3) := by decide +kernel
theorem dX4_lots_10 : decode cX4_lots 10 = .ok (.ireturn, 1) := by decide +kernel
theorem dX4_flow_0 : decode cX4_flow 0 = .ok (.aload_n 0, 1) := by decide +kernel
theorem dX4_flow_1 : decode cX4_flow 1 = .ok (.iload_n 1, 1) := by decide +kernel
theorem dX4_flow_2 : decode cX4_flow 2 = .ok (.iload_n 2, 1) := by decide +kernel
theorem dX4_flow_3 : decode cX4_flow 3 = .ok (.invokevirtual 142, 3) := by decide +kernel
theorem dX4_flow_6 : decode cX4_flow 6 = .ok (.iload_n 2, 1) := by decide +kernel
theorem dX4_flow_7 : decode cX4_flow 7 = .ok (.aload_n 0, 1) := by decide +kernel
theorem dX4_flow_8 : decode cX4_flow 8 = .ok (.getfield 19, 3) := by decide +kernel
theorem dX4_flow_11 : decode cX4_flow 11 = .ok (.invokevirtual 159, 3) := by decide +kernel
theorem dX4_flow_14 : decode cX4_flow 14 = .ok (.lreturn, 1) := by decide +kernel
theorem dX4_partyOn_0 : decode cX4_partyOn 0 = .ok (.aload_n 0, 1) := by decide +kernel
theorem dX4_partyOn_1 : decode cX4_partyOn 1 = .ok (.iload_n 1, 1) := by decide +kernel
theorem dX4_partyOn_2 : decode cX4_partyOn 2 = .ok (.invokevirtual 102, 3) := by decide +kernel
theorem dX4_partyOn_5 : decode cX4_partyOn 5 = .ok (.astore_n 3, 1) := by decide +kernel
theorem dX4_partyOn_6 : decode cX4_partyOn 6 = .ok (.iload_n 2, 1) := by decide +kernel
theorem dX4_partyOn_7 : decode cX4_partyOn 7 = .ok (.iconst 0, 1) := by decide +kernel
theorem dX4_partyOn_8 : decode cX4_partyOn 8 = .ok (.sipush 3000, 3) := by decide +kernel
theorem dX4_partyOn_11 : decode cX4_partyOn 11 = .ok (.invokestatic 37, 3) := by decide +kernel
theorem dX4_partyOn_14 : decode cX4_partyOn 14 = .ok (.aload_n 3, 1) := by decide +kernel
theorem dX4_partyOn_15 : decode cX4_partyOn 15 = .ok (.iload_n 2, 1) := by decide +kernel
theorem dX4_partyOn_16 : decode cX4_partyOn 16 = .ok (.invokevirtual 131, 3) := by decide +kernel
theorem dX4_partyOn_19 : decode cX4_partyOn 19 = .ok (.ireturn, 1) := by decide +kernel
theorem dX4_cashOfDays_0 : decode cX4_cashOfDays 0 = .ok (.iload_n 1, 1) := by decide +kernel
theorem dX4_cashOfDays_1 : decode cX4_cashOfDays 1 = .ok (.invokestatic 81, 3) := by decide +kernel
theorem dX4_cashOfDays_4 : decode cX4_cashOfDays 4 = .ok (.iload_n 2, 1) := by decide +kernel
theorem dX4_cashOfDays_5 : decode cX4_cashOfDays 5 = .ok (.iload_n 3, 1) := by decide +kernel
theorem dX4_cashOfDays_6 : decode cX4_cashOfDays 6 = .ok (.invokestatic 166, 3) := by decide +kernel
theorem dX4_cashOfDays_9 : decode cX4_cashOfDays 9 = .ok (.lconst 0, 1) := by decide +kernel
theorem dX4_cashOfDays_10 : decode cX4_cashOfDays 10 = .ok (.lstore 4, 2) := by decide +kernel
theorem dX4_cashOfDays_12 : decode cX4_cashOfDays 12 = .ok (.iload_n 2, 1) := by decide +kernel
theorem dX4_cashOfDays_13 : decode cX4_cashOfDays 13 = .ok (.istore 6, 2) := by decide +kernel
theorem dX4_cashOfDays_15 : decode cX4_cashOfDays 15 = .ok (.iload 6, 2) := by decide +kernel
theorem dX4_cashOfDays_17 : decode cX4_cashOfDays 17 = .ok (.iload_n 3, 1) := by decide +kernel
theorem dX4_cashOfDays_18 : decode cX4_cashOfDays 18 = .ok (.if_icmp .gt 21, 3) := by decide +kernel
theorem dX4_cashOfDays_21 : decode cX4_cashOfDays 21 = .ok (.lload 4, 2) := by decide +kernel
theorem dX4_cashOfDays_23 : decode cX4_cashOfDays 23 = .ok (.aload_n 0, 1) := by decide +kernel
theorem dX4_cashOfDays_24 : decode cX4_cashOfDays 24 = .ok (.iload_n 1, 1) := by decide +kernel
theorem dX4_cashOfDays_25 : decode cX4_cashOfDays 25 = .ok (.iload 6, 2) := by decide +kernel
theorem dX4_cashOfDays_27 : decode cX4_cashOfDays 27 = .ok (.invokevirtual 162, 3) := by decide +kernel
theorem dX4_cashOfDays_30 : decode cX4_cashOfDays 30 = .ok (.ladd, 1) := by decide +kernel
theorem dX4_cashOfDays_31 : decode cX4_cashOfDays 31 = .ok (.lstore 4, 2) := by decide +kernel
theorem dX4_cashOfDays_33 : decode cX4_cashOfDays 33 = .ok (.iinc 6 1, 3) := by decide +kernel
theorem dX4_cashOfDays_36 : decode cX4_cashOfDays 36 = .ok (.goto (-21), 3) := by decide +kernel
theorem dX4_cashOfDays_39 : decode cX4_cashOfDays 39 = .ok (.lload 4, 2) := by decide +kernel
theorem dX4_cashOfDays_41 : decode cX4_cashOfDays 41 = .ok (.lreturn, 1) := by decide +kernel
theorem dX4_cashByTrades_0 : decode cX4_cashByTrades 0 = .ok (.iload_n 1, 1) := by decide +kernel
theorem dX4_cashByTrades_1 : decode cX4_cashByTrades 1 = .ok (.invokestatic 81, 3) := by decide +kernel
theorem dX4_cashByTrades_4 : decode cX4_cashByTrades 4 = .ok (.iload_n 2, 1) := by decide +kernel
theorem dX4_cashByTrades_5 : decode cX4_cashByTrades 5 = .ok (.iload_n 3, 1) := by decide +kernel
theorem dX4_cashByTrades_6 : decode cX4_cashByTrades 6 = .ok (.invokestatic 166, 3) := by decide +kernel
theorem dX4_cashByTrades_9 : decode cX4_cashByTrades 9 = .ok (.lconst 0, 1) := by decide +kernel
theorem dX4_cashByTrades_10 : decode cX4_cashByTrades 10 = .ok (.lstore 4, 2) := by decide +kernel
theorem dX4_cashByTrades_12 : decode cX4_cashByTrades 12 = .ok (.iconst 0, 1) := by decide +kernel
theorem dX4_cashByTrades_13 : decode cX4_cashByTrades 13 = .ok (.istore 6, 2) := by decide +kernel
theorem dX4_cashByTrades_15 : decode cX4_cashByTrades 15 = .ok (.iload 6, 2) := by decide +kernel
theorem dX4_cashByTrades_17 : decode cX4_cashByTrades 17 = .ok (.aload_n 0, 1) := by decide +kernel
theorem dX4_cashByTrades_18 : decode cX4_cashByTrades 18 = .ok (.getfield 26, 3) := by decide +kernel
theorem dX4_cashByTrades_21 : decode cX4_cashByTrades 21 = .ok (.invokevirtual 85, 3) := by decide +kernel
theorem dX4_cashByTrades_24 : decode cX4_cashByTrades 24 = .ok (.if_icmp .ge 36, 3) := by decide +kernel
theorem dX4_cashByTrades_27 : decode cX4_cashByTrades 27 = .ok (.lload 4, 2) := by decide +kernel
theorem dX4_cashByTrades_29 : decode cX4_cashByTrades 29 = .ok (.aload_n 0, 1) := by decide +kernel
theorem dX4_cashByTrades_30 : decode cX4_cashByTrades 30 = .ok (.getfield 26, 3) := by decide +kernel
theorem dX4_cashByTrades_33 : decode cX4_cashByTrades 33 = .ok (.iload 6, 2) := by decide +kernel
theorem dX4_cashByTrades_35 : decode cX4_cashByTrades 35 = .ok (.invokevirtual 134, 3) := by decide +kernel
theorem dX4_cashByTrades_38 : decode cX4_cashByTrades 38 = .ok (.checkcast 90, 3) := by decide +kernel
theorem dX4_cashByTrades_41 : decode cX4_cashByTrades 41 = .ok (.iload_n 1, 1) := by decide +kernel
theorem dX4_cashByTrades_42 : decode cX4_cashByTrades 42 = .ok (.iload_n 2, 1) := by decide +kernel
theorem dX4_cashByTrades_43 : decode cX4_cashByTrades 43 = .ok (.iload_n 3, 1) := by decide +kernel
theorem dX4_cashByTrades_44 : decode cX4_cashByTrades 44 = .ok (.aload_n 0, 1) := by decide +kernel
theorem dX4_cashByTrades_45 : decode cX4_cashByTrades 45 = .ok (.getfield 19, 3) := by decide +kernel
theorem dX4_cashByTrades_48 : decode cX4_cashByTrades 48 = .ok (.invokevirtual 169, 3) := by decide +kernel
theorem dX4_cashByTrades_51 : decode cX4_cashByTrades 51 = .ok (.ladd, 1) := by decide +kernel
theorem dX4_cashByTrades_52 : decode cX4_cashByTrades 52 = .ok (.lstore 4, 2) := by decide +kernel
theorem dX4_cashByTrades_54 : decode cX4_cashByTrades 54 = .ok (.iinc 6 1, 3) := by decide +kernel
theorem dX4_cashByTrades_57 : decode cX4_cashByTrades 57 = .ok (.goto (-42), 3) := by decide +kernel
theorem dX4_cashByTrades_60 : decode cX4_cashByTrades 60 = .ok (.lload 4, 2) := by decide +kernel
theorem dX4_cashByTrades_62 : decode cX4_cashByTrades 62 = .ok (.lreturn, 1) := by decide +kernel
theorem dX4_nextFlow_0 : decode cX4_nextFlow 0 = .ok (.iload_n 1, 1) := by decide +kernel
theorem dX4_nextFlow_1 : decode cX4_nextFlow 1 = .ok (.invokestatic 81, 3) := by decide +kernel
theorem dX4_nextFlow_4 : decode cX4_nextFlow 4 = .ok (.iload_n 2, 1) := by decide +kernel
theorem dX4_nextFlow_5 : decode cX4_nextFlow 5 = .ok (.iconst 0, 1) := by decide +kernel
theorem dX4_nextFlow_6 : decode cX4_nextFlow 6 = .ok (.sipush 3100, 3) := by decide +kernel
theorem dX4_nextFlow_9 : decode cX4_nextFlow 9 = .ok (.invokestatic 37, 3) := by decide +kernel
theorem dX4_nextFlow_12 : decode cX4_nextFlow 12 = .ok (.iconst (-1), 1) := by decide +kernel
theorem dX4_nextFlow_13 : decode cX4_nextFlow 13 = .ok (.istore_n 3, 1) := by decide +kernel
theorem dX4_nextFlow_14 : decode cX4_nextFlow 14 = .ok (.iconst 0, 1) := by decide +kernel
theorem dX4_nextFlow_15 : decode cX4_nextFlow 15 = .ok (.istore 4, 2) := by decide +kernel
theorem dX4_nextFlow_17 : decode cX4_nextFlow 17 = .ok (.iload 4, 2) := by decide +kernel
theorem dX4_nextFlow_19 : decode cX4_nextFlow 19 = .ok (.aload_n 0, 1) := by decide +kernel
theorem dX4_nextFlow_20 : decode cX4_nextFlow 20 = .ok (.getfield 26, 3) := by decide +kernel
theorem dX4_nextFlow_23 : decode cX4_nextFlow 23 = .ok (.invokevirtual 85, 3) := by decide +kernel
theorem dX4_nextFlow_26 : decode cX4_nextFlow 26 = .ok (.if_icmp .ge 48, 3) := by decide +kernel
theorem dX4_nextFlow_29 : decode cX4_nextFlow 29 = .ok (.aload_n 0, 1) := by decide +kernel
theorem dX4_nextFlow_30 : decode cX4_nextFlow 30 = .ok (.getfield 26, 3) := by decide +kernel
theorem dX4_nextFlow_33 : decode cX4_nextFlow 33 = .ok (.iload 4, 2) := by decide +kernel
theorem dX4_nextFlow_35 : decode cX4_nextFlow 35 = .ok (.invokevirtual 134, 3) := by decide +kernel
theorem dX4_nextFlow_38 : decode cX4_nextFlow 38 = .ok (.checkcast 90, 3) := by decide +kernel
theorem dX4_nextFlow_41 : decode cX4_nextFlow 41 = .ok (.iload_n 1, 1) := by decide +kernel
theorem dX4_nextFlow_42 : decode cX4_nextFlow 42 = .ok (.iload_n 2, 1) := by decide +kernel
theorem dX4_nextFlow_43 : decode cX4_nextFlow 43 = .ok (.invokevirtual 173, 3) := by decide +kernel
theorem dX4_nextFlow_46 : decode cX4_nextFlow 46 = .ok (.istore 5, 2) := by decide +kernel
theorem dX4_nextFlow_48 : decode cX4_nextFlow 48 = .ok (.iload 5, 2) := by decide +kernel
theorem dX4_nextFlow_50 : decode cX4_nextFlow 50 = .ok (.iconst (-1), 1) := by decide +kernel
theorem dX4_nextFlow_51 : decode cX4_nextFlow 51 = .ok (.if_icmp .eq 17, 3) := by decide +kernel
theorem dX4_nextFlow_54 : decode cX4_nextFlow 54 = .ok (.iload_n 3, 1) := by decide +kernel
theorem dX4_nextFlow_55 : decode cX4_nextFlow 55 = .ok (.iconst (-1), 1) := by decide +kernel
theorem dX4_nextFlow_56 : decode cX4_nextFlow 56 = .ok (.if_icmp .eq 9, 3) := by decide +kernel
theorem dX4_nextFlow_59 : decode cX4_nextFlow 59 = .ok (.iload 5, 2) := by decide +kernel
theorem dX4_nextFlow_61 : decode cX4_nextFlow 61 = .ok (.iload_n 3, 1) := by decide +kernel
theorem dX4_nextFlow_62 : decode cX4_nextFlow 62 = .ok (.if_icmp .ge 6, 3) := by decide +kernel
theorem dX4_nextFlow_65 : decode cX4_nextFlow 65 = .ok (.iload 5, 2) := by decide +kernel
theorem dX4_nextFlow_67 : decode cX4_nextFlow 67 = .ok (.istore_n 3, 1) := by decide +kernel
theorem dX4_nextFlow_68 : decode cX4_nextFlow 68 = .ok (.iinc 4 1, 3) := by decide +kernel
theorem dX4_nextFlow_71 : decode cX4_nextFlow 71 = .ok (.goto (-54), 3) := by decide +kernel
theorem dX4_nextFlow_74 : decode cX4_nextFlow 74 = .ok (.iload_n 3, 1) := by decide +kernel
theorem dX4_nextFlow_75 : decode cX4_nextFlow 75 = .ok (.ireturn, 1) := by decide +kernel
theorem dX4_checkRange_0 : decode cX4_checkRange 0 = .ok (.iload_n 0, 1) := by decide +kernel
theorem dX4_checkRange_1 : decode cX4_checkRange 1 = .ok (.iload_n 1, 1) := by decide +kernel
theorem dX4_checkRange_2 : decode cX4_checkRange 2 = .ok (.if_icmp .lt 8, 3) := by decide +kernel
theorem dX4_checkRange_5 : decode cX4_checkRange 5 = .ok (.iload_n 0, 1) := by decide +kernel
theorem dX4_checkRange_6 : decode cX4_checkRange 6 = .ok (.iload_n 2, 1) := by decide +kernel
theorem dX4_checkRange_7 : decode cX4_checkRange 7 = .ok (.if_icmp .le 13, 3) := by decide +kernel
theorem dX4_checkRange_10 : decode cX4_checkRange 10 = .ok (.new 176, 3) := by decide +kernel
theorem dX4_checkRange_13 : decode cX4_checkRange 13 = .ok (.dup, 1) := by decide +kernel
theorem dX4_checkRange_14 : decode cX4_checkRange 14 = .ok (.ldc 178, 2) := by decide +kernel
theorem dX4_checkRange_16 : decode cX4_checkRange 16 = .ok (.invokespecial 180, 3) := by decide +kernel
theorem dX4_checkRange_19 : decode cX4_checkRange 19 = .ok (.athrow, 1) := by decide +kernel
theorem dX4_checkRange_20 : decode cX4_checkRange 20 = .ok (.return_, 1) := by decide +kernel
theorem dX4_checkSpan_0 : decode cX4_checkSpan 0 = .ok (.iload_n 0, 1) := by decide +kernel
theorem dX4_checkSpan_1 : decode cX4_checkSpan 1 = .ok (.iconst 0, 1) := by decide +kernel
theorem dX4_checkSpan_2 : decode cX4_checkSpan 2 = .ok (.sipush 3100, 3) := by decide +kernel
theorem dX4_checkSpan_5 : decode cX4_checkSpan 5 = .ok (.invokestatic 37, 3) := by decide +kernel
theorem dX4_checkSpan_8 : decode cX4_checkSpan 8 = .ok (.iload_n 1, 1) := by decide +kernel
theorem dX4_checkSpan_9 : decode cX4_checkSpan 9 = .ok (.iload_n 0, 1) := by decide +kernel
theorem dX4_checkSpan_10 : decode cX4_checkSpan 10 = .ok (.iload_n 0, 1) := by decide +kernel
theorem dX4_checkSpan_11 : decode cX4_checkSpan 11 = .ok (.sipush 400, 3) := by decide +kernel
theorem dX4_checkSpan_14 : decode cX4_checkSpan 14 = .ok (.iadd, 1) := by decide +kernel
theorem dX4_checkSpan_15 : decode cX4_checkSpan 15 = .ok (.sipush 3100, 3) := by decide +kernel
theorem dX4_checkSpan_18 : decode cX4_checkSpan 18 = .ok (.invokestatic 181, 3) := by decide +kernel
theorem dX4_checkSpan_21 : decode cX4_checkSpan 21 = .ok (.invokestatic 37, 3) := by decide +kernel
theorem dX4_checkSpan_24 : decode cX4_checkSpan 24 = .ok (.return_, 1) := by decide +kernel
theorem dX4_checkParty_0 : decode cX4_checkParty 0 = .ok (.iload_n 0, 1) := by decide +kernel
theorem dX4_checkParty_1 : decode cX4_checkParty 1 = .ok (.ifCond .lt 8, 3) := by decide +kernel
theorem dX4_checkParty_4 : decode cX4_checkParty 4 = .ok (.iload_n 0, 1) := by decide +kernel
theorem dX4_checkParty_5 : decode cX4_checkParty 5 = .ok (.iconst 4, 1) := by decide +kernel
theorem dX4_checkParty_6 : decode cX4_checkParty 6 = .ok (.if_icmp .lt 13, 3) := by decide +kernel
theorem dX4_checkParty_9 : decode cX4_checkParty 9 = .ok (.new 30, 3) := by decide +kernel
theorem dX4_checkParty_12 : decode cX4_checkParty 12 = .ok (.dup, 1) := by decide +kernel
theorem dX4_checkParty_13 : decode cX4_checkParty 13 = .ok (.ldc 186, 2) := by decide +kernel
theorem dX4_checkParty_15 : decode cX4_checkParty 15 = .ok (.invokespecial 34, 3) := by decide +kernel
theorem dX4_checkParty_18 : decode cX4_checkParty 18 = .ok (.athrow, 1) := by decide +kernel
theorem dX4_checkParty_19 : decode cX4_checkParty 19 = .ok (.return_, 1) := by decide +kernel
theorem dX4_swapAt_0 : decode cX4_swapAt 0 = .ok (.iload_n 1, 1) := by decide +kernel
theorem dX4_swapAt_1 : decode cX4_swapAt 1 = .ok (.ifCond .lt 14, 3) := by decide +kernel
theorem dX4_swapAt_4 : decode cX4_swapAt 4 = .ok (.iload_n 1, 1) := by decide +kernel
theorem dX4_swapAt_5 : decode cX4_swapAt 5 = .ok (.aload_n 0, 1) := by decide +kernel
theorem dX4_swapAt_6 : decode cX4_swapAt 6 = .ok (.getfield 26, 3) := by decide +kernel
theorem dX4_swapAt_9 : decode cX4_swapAt 9 = .ok (.invokevirtual 85, 3) := by decide +kernel
theorem dX4_swapAt_12 : decode cX4_swapAt 12 = .ok (.if_icmp .lt 13, 3) := by decide +kernel
theorem dX4_swapAt_15 : decode cX4_swapAt 15 = .ok (.new 30, 3) := by decide +kernel
theorem dX4_swapAt_18 : decode cX4_swapAt 18 = .ok (.dup, 1) := by decide +kernel
theorem dX4_swapAt_19 : decode cX4_swapAt 19 = .ok (.ldc 188, 2) := by decide +kernel
theorem dX4_swapAt_21 : decode cX4_swapAt 21 = .ok (.invokespecial 34, 3) := by decide +kernel
theorem dX4_swapAt_24 : decode cX4_swapAt 24 = .ok (.athrow, 1) := by decide +kernel
theorem dX4_swapAt_25 : decode cX4_swapAt 25 = .ok (.aload_n 0, 1) := by decide +kernel
theorem dX4_swapAt_26 : decode cX4_swapAt 26 = .ok (.getfield 26, 3) := by decide +kernel
theorem dX4_swapAt_29 : decode cX4_swapAt 29 = .ok (.iload_n 1, 1) := by decide +kernel
theorem dX4_swapAt_30 : decode cX4_swapAt 30 = .ok (.invokevirtual 134, 3) := by decide +kernel
theorem dX4_swapAt_33 : decode cX4_swapAt 33 = .ok (.checkcast 90, 3) := by decide +kernel
theorem dX4_swapAt_36 : decode cX4_swapAt 36 = .ok (.areturn, 1) := by decide +kernel
theorem dX4_swapWithPeriod_0 : decode cX4_swapWithPeriod 0 = .ok (.aload_n 0, 1) := by decide +kernel
theorem dX4_swapWithPeriod_1 : decode cX4_swapWithPeriod 1 = .ok (.iload_n 1, 1) := by decide +kernel
theorem dX4_swapWithPeriod_2 : decode cX4_swapWithPeriod 2 = .ok (.invokevirtual 102, 3) := by decide +kernel
theorem dX4_swapWithPeriod_5 : decode cX4_swapWithPeriod 5 = .ok (.astore_n 3, 1) := by decide +kernel
theorem dX4_swapWithPeriod_6 : decode cX4_swapWithPeriod 6 = .ok (.iload_n 2, 1) := by decide +kernel
theorem dX4_swapWithPeriod_7 : decode cX4_swapWithPeriod 7 = .ok (.ifCond .lt 11, 3) := by decide +kernel
theorem dX4_swapWithPeriod_10 : decode cX4_swapWithPeriod 10 = .ok (.iload_n 2, 1) := by decide +kernel
theorem dX4_swapWithPeriod_11 : decode cX4_swapWithPeriod 11 = .ok (.aload_n 3, 1) := by decide +kernel
theorem dX4_swapWithPeriod_12 : decode cX4_swapWithPeriod 12 = .ok (.getfield 190, 3) := by decide +kernel
theorem dX4_swapWithPeriod_15 : decode cX4_swapWithPeriod 15 = .ok (.if_icmp .lt 13, 3) := by decide +kernel
theorem dX4_swapWithPeriod_18 : decode cX4_swapWithPeriod 18 = .ok (.new 30, 3) := by decide +kernel
theorem dX4_swapWithPeriod_21 : decode cX4_swapWithPeriod 21 = .ok (.dup, 1) := by decide +kernel
theorem dX4_swapWithPeriod_22 : decode cX4_swapWithPeriod 22 = .ok (.ldc 193, 2) := by decide +kernel
theorem dX4_swapWithPeriod_24 : decode cX4_swapWithPeriod 24 = .ok (.invokespecial 34, 3) := by decide +kernel
theorem dX4_swapWithPeriod_27 : decode cX4_swapWithPeriod 27 = .ok (.athrow, 1) := by decide +kernel
theorem dX4_swapWithPeriod_28 : decode cX4_swapWithPeriod 28 = .ok (.aload_n 3, 1) := by decide +kernel
theorem dX4_swapWithPeriod_29 : decode cX4_swapWithPeriod 29 = .ok (.areturn, 1) := by decide +kernel
theorem dX4_rollAllTrades_0 : decode cX4_rollAllTrades 0 = .ok (.iconst 0, 1) := by decide +kernel
theorem dX4_rollAllTrades_1 : decode cX4_rollAllTrades 1 = .ok (.istore_n 1, 1) := by decide +kernel
theorem dX4_rollAllTrades_2 : decode cX4_rollAllTrades 2 = .ok (.iload_n 1, 1) := by decide +kernel
theorem dX4_rollAllTrades_3 : decode cX4_rollAllTrades 3 = .ok (.aload_n 0, 1) := by decide +kernel
theorem dX4_rollAllTrades_4 : decode cX4_rollAllTrades 4 = .ok (.getfield 26, 3) := by decide +kernel
theorem dX4_rollAllTrades_7 : decode cX4_rollAllTrades 7 = .ok (.invokevirtual 85, 3) := by decide +kernel
theorem dX4_rollAllTrades_10 : decode cX4_rollAllTrades 10 = .ok (.if_icmp .ge 27, 3) := by decide +kernel
theorem dX4_rollAllTrades_13 : decode cX4_rollAllTrades 13 = .ok (.aload_n 0, 1) := by decide +kernel
theorem dX4_rollAllTrades_14 : decode cX4_rollAllTrades 14 = .ok (.getfield 26, 3) := by decide +kernel
theorem dX4_rollAllTrades_17 : decode cX4_rollAllTrades 17 = .ok (.iload_n 1, 1) := by decide +kernel
theorem dX4_rollAllTrades_18 : decode cX4_rollAllTrades 18 = .ok (.invokevirtual 134, 3) := by decide +kernel
theorem dX4_rollAllTrades_21 : decode cX4_rollAllTrades 21 = .ok (.checkcast 90, 3) := by decide +kernel
theorem dX4_rollAllTrades_24 : decode cX4_rollAllTrades 24 = .ok (.aload_n 0, 1) := by decide +kernel
theorem dX4_rollAllTrades_25 : decode cX4_rollAllTrades 25 = .ok (.getfield 10, 3) := by decide +kernel
theorem dX4_rollAllTrades_28 : decode cX4_rollAllTrades 28 = .ok (.invokevirtual 95, 3) := by decide +kernel
theorem dX4_rollAllTrades_31 : decode cX4_rollAllTrades 31 = .ok (.iinc 1 1, 3) := by decide +kernel
theorem dX4_rollAllTrades_34 : decode cX4_rollAllTrades 34 = .ok (.goto (-32), 3) := by decide +kernel
theorem dX4_rollAllTrades_37 : decode cX4_rollAllTrades 37 = .ok (.return_, 1) := by decide +kernel
theorem dX4_cashOnDay_0 : decode cX4_cashOnDay 0 = .ok (.lconst 0, 1) := by decide +kernel
theorem dX4_cashOnDay_1 : decode cX4_cashOnDay 1 = .ok (.lstore_n 3, 1) := by decide +kernel
theorem dX4_cashOnDay_2 : decode cX4_cashOnDay 2 = .ok (.iconst 0, 1) := by decide +kernel
theorem dX4_cashOnDay_3 : decode cX4_cashOnDay 3 = .ok (.istore 5, 2) := by decide +kernel
theorem dX4_cashOnDay_5 : decode cX4_cashOnDay 5 = .ok (.iload 5, 2) := by decide +kernel
theorem dX4_cashOnDay_7 : decode cX4_cashOnDay 7 = .ok (.aload_n 0, 1) := by decide +kernel
theorem dX4_cashOnDay_8 : decode cX4_cashOnDay 8 = .ok (.getfield 26, 3) := by decide +kernel
theorem dX4_cashOnDay_11 : decode cX4_cashOnDay 11 = .ok (.invokevirtual 85, 3) := by decide +kernel
theorem dX4_cashOnDay_14 : decode cX4_cashOnDay 14 = .ok (.if_icmp .ge 34, 3) := by decide +kernel
theorem dX4_cashOnDay_17 : decode cX4_cashOnDay 17 = .ok (.lload_n 3, 1) := by decide +kernel
theorem dX4_cashOnDay_18 : decode cX4_cashOnDay 18 = .ok (.aload_n 0, 1) := by decide +kernel
theorem dX4_cashOnDay_19 : decode cX4_cashOnDay 19 = .ok (.getfield 26, 3) := by decide +kernel
theorem dX4_cashOnDay_22 : decode cX4_cashOnDay 22 = .ok (.iload 5, 2) := by decide +kernel
theorem dX4_cashOnDay_24 : decode cX4_cashOnDay 24 = .ok (.invokevirtual 134, 3) := by decide +kernel
theorem dX4_cashOnDay_27 : decode cX4_cashOnDay 27 = .ok (.checkcast 90, 3) := by decide +kernel
theorem dX4_cashOnDay_30 : decode cX4_cashOnDay 30 = .ok (.iload_n 1, 1) := by decide +kernel
theorem dX4_cashOnDay_31 : decode cX4_cashOnDay 31 = .ok (.iload_n 2, 1) := by decide +kernel
theorem dX4_cashOnDay_32 : decode cX4_cashOnDay 32 = .ok (.iload_n 2, 1) := by decide +kernel
theorem dX4_cashOnDay_33 : decode cX4_cashOnDay 33 = .ok (.aload_n 0, 1) := by decide +kernel
theorem dX4_cashOnDay_34 : decode cX4_cashOnDay 34 = .ok (.getfield 19, 3) := by decide +kernel
theorem dX4_cashOnDay_37 : decode cX4_cashOnDay 37 = .ok (.invokevirtual 169, 3) := by decide +kernel
theorem dX4_cashOnDay_40 : decode cX4_cashOnDay 40 = .ok (.ladd, 1) := by decide +kernel
theorem dX4_cashOnDay_41 : decode cX4_cashOnDay 41 = .ok (.lstore_n 3, 1) := by decide +kernel
theorem dX4_cashOnDay_42 : decode cX4_cashOnDay 42 = .ok (.iinc 5 1, 3) := by decide +kernel
theorem dX4_cashOnDay_45 : decode cX4_cashOnDay 45 = .ok (.goto (-40), 3) := by decide +kernel
theorem dX4_cashOnDay_48 : decode cX4_cashOnDay 48 = .ok (.lload_n 3, 1) := by decide +kernel
theorem dX4_cashOnDay_49 : decode cX4_cashOnDay 49 = .ok (.lreturn, 1) := by decide +kernel
theorem dX4_pressPair_0 : decode cX4_pressPair 0 = .ok (.aload_n 0, 1) := by decide +kernel
theorem dX4_pressPair_1 : decode cX4_pressPair 1 = .ok (.aload_n 1, 1) := by decide +kernel
theorem dX4_pressPair_2 : decode cX4_pressPair 2 = .ok (.invokevirtual 195, 3) := by decide +kernel
theorem dX4_pressPair_5 : decode cX4_pressPair 5 = .ok (.ifCond .eq 12, 3) := by decide +kernel
theorem dX4_pressPair_8 : decode cX4_pressPair 8 = .ok (.aload_n 0, 1) := by decide +kernel
theorem dX4_pressPair_9 : decode cX4_pressPair 9 = .ok (.iload_n 2, 1) := by decide +kernel
theorem dX4_pressPair_10 : decode cX4_pressPair 10 = .ok (.aload_n 1, 1) := by decide +kernel
theorem dX4_pressPair_11 : decode cX4_pressPair 11 = .ok (.invokevirtual 199, 3) := by decide +kernel
theorem dX4_pressPair_14 : decode cX4_pressPair 14 = .ok (.ifCond .ne 5, 3) := by decide +kernel
theorem dX4_pressPair_17 : decode cX4_pressPair 17 = .ok (.iconst 0, 1) := by decide +kernel
theorem dX4_pressPair_18 : decode cX4_pressPair 18 = .ok (.ireturn, 1) := by decide +kernel
theorem dX4_pressPair_19 : decode cX4_pressPair 19 = .ok (.aload_n 0, 1) := by decide +kernel
theorem dX4_pressPair_20 : decode cX4_pressPair 20 = .ok (.invokevirtual 121, 3) := by decide +kernel
theorem dX4_pressPair_23 : decode cX4_pressPair 23 = .ok (.aload_n 1, 1) := by decide +kernel
theorem dX4_pressPair_24 : decode cX4_pressPair 24 = .ok (.invokevirtual 121, 3) := by decide +kernel
theorem dX4_pressPair_27 : decode cX4_pressPair 27 = .ok (.invokestatic 181, 3) := by decide +kernel
theorem dX4_pressPair_30 : decode cX4_pressPair 30 = .ok (.istore_n 3, 1) := by decide +kernel
theorem dX4_pressPair_31 : decode cX4_pressPair 31 = .ok (.iload_n 3, 1) := by decide +kernel
theorem dX4_pressPair_32 : decode cX4_pressPair 32 = .ok (.ifCond .gt 5, 3) := by decide +kernel
theorem dX4_pressPair_35 : decode cX4_pressPair 35 = .ok (.iconst 0, 1) := by decide +kernel
theorem dX4_pressPair_36 : decode cX4_pressPair 36 = .ok (.ireturn, 1) := by decide +kernel
theorem dX4_pressPair_37 : decode cX4_pressPair 37 = .ok (.aload_n 0, 1) := by decide +kernel
theorem dX4_pressPair_38 : decode cX4_pressPair 38 = .ok (.getfield 106, 3) := by decide +kernel
theorem dX4_pressPair_41 : decode cX4_pressPair 41 = .ok (.iload_n 2, 1) := by decide +kernel
theorem dX4_pressPair_42 : decode cX4_pressPair 42 = .ok (.iload_n 3, 1) := by decide +kernel
theorem dX4_pressPair_43 : decode cX4_pressPair 43 = .ok (.invokevirtual 58, 3) := by decide +kernel
theorem dX4_pressPair_46 : decode cX4_pressPair 46 = .ok (.aload_n 1, 1) := by decide +kernel
theorem dX4_pressPair_47 : decode cX4_pressPair 47 = .ok (.getfield 106, 3) := by decide +kernel
theorem dX4_pressPair_50 : decode cX4_pressPair 50 = .ok (.iload_n 2, 1) := by decide +kernel
theorem dX4_pressPair_51 : decode cX4_pressPair 51 = .ok (.iload_n 3, 1) := by decide +kernel
theorem dX4_pressPair_52 : decode cX4_pressPair 52 = .ok (.invokevirtual 58, 3) := by decide +kernel
theorem dX4_pressPair_55 : decode cX4_pressPair 55 = .ok (.iload_n 3, 1) := by decide +kernel
theorem dX4_pressPair_56 : decode cX4_pressPair 56 = .ok (.ireturn, 1) := by decide +kernel
