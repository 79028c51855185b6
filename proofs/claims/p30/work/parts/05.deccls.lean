theorem dJ9_abs_0f7a4_0 : decode cJ9_abs_0f7a4 0 = .ok (.iload_n 0, 1) := by decide +kernel
theorem dJ9_abs_0f7a4_1 : decode cJ9_abs_0f7a4 1 = .ok (.ifCond .ge 8, 3) := by decide +kernel
theorem dJ9_abs_0f7a4_4 : decode cJ9_abs_0f7a4 4 = .ok (.iload_n 0, 1) := by decide +kernel
theorem dJ9_abs_0f7a4_5 : decode cJ9_abs_0f7a4 5 = .ok (.ineg, 1) := by decide +kernel
theorem dJ9_abs_0f7a4_6 : decode cJ9_abs_0f7a4 6 = .ok (.goto 4, 3) := by decide +kernel
theorem dJ9_abs_0f7a4_9 : decode cJ9_abs_0f7a4 9 = .ok (.iload_n 0, 1) := by decide +kernel
theorem dJ9_abs_0f7a4_10 : decode cJ9_abs_0f7a4 10 = .ok (.ireturn, 1) := by decide +kernel
theorem dJ9_max_7cf53_0 : decode cJ9_max_7cf53 0 = .ok (.iload_n 0, 1) := by decide +kernel
theorem dJ9_max_7cf53_1 : decode cJ9_max_7cf53 1 = .ok (.iload_n 1, 1) := by decide +kernel
theorem dJ9_max_7cf53_2 : decode cJ9_max_7cf53 2 = .ok (.if_icmp .lt 7, 3) := by decide +kernel
theorem dJ9_max_7cf53_5 : decode cJ9_max_7cf53 5 = .ok (.iload_n 0, 1) := by decide +kernel
theorem dJ9_max_7cf53_6 : decode cJ9_max_7cf53 6 = .ok (.goto 4, 3) := by decide +kernel
theorem dJ9_max_7cf53_9 : decode cJ9_max_7cf53 9 = .ok (.iload_n 1, 1) := by decide +kernel
theorem dJ9_max_7cf53_10 : decode cJ9_max_7cf53 10 = .ok (.ireturn, 1) := by decide +kernel
theorem dJ9_min_7cf53_0 : decode cJ9_min_7cf53 0 = .ok (.iload_n 0, 1) := by decide +kernel
theorem dJ9_min_7cf53_1 : decode cJ9_min_7cf53 1 = .ok (.iload_n 1, 1) := by decide +kernel
theorem dJ9_min_7cf53_2 : decode cJ9_min_7cf53 2 = .ok (.if_icmp .gt 7, 3) := by decide +kernel
theorem dJ9_min_7cf53_5 : decode cJ9_min_7cf53 5 = .ok (.iload_n 0, 1) := by decide +kernel
theorem dJ9_min_7cf53_6 : decode cJ9_min_7cf53 6 = .ok (.goto 4, 3) := by decide +kernel
theorem dJ9_min_7cf53_9 : decode cJ9_min_7cf53 9 = .ok (.iload_n 1, 1) := by decide +kernel
theorem dJ9_min_7cf53_10 : decode cJ9_min_7cf53 10 = .ok (.ireturn, 1) := by decide +kernel
theorem dJxa1e45_init_da8c8_0 : decode cJxa1e45_init_da8c8 0 = .ok (.aload_n 0, 1) := by decide +kernel
theorem dJxa1e45_init_da8c8_1 : decode cJxa1e45_init_da8c8 1 = .ok (.invokespecial 1, 3) := by decide +kernel
theorem dJxa1e45_init_da8c8_4 : decode cJxa1e45_init_da8c8 4 = .ok (.return_, 1) := by decide +kernel
theorem dJxc12de_init_da8c8_0 : decode cJxc12de_init_da8c8 0 = .ok (.aload_n 0, 1) := by decide +kernel
theorem dJxc12de_init_da8c8_1 : decode cJxc12de_init_da8c8 1 = .ok (.invokespecial 1, 3) := by decide +kernel
theorem dJxc12de_init_da8c8_4 : decode cJxc12de_init_da8c8 4 = .ok (.aload_n 0, 1) := by decide +kernel
theorem dJxc12de_init_da8c8_5 : decode cJxc12de_init_da8c8 5 = .ok (.iconst 0, 1) := by decide +kernel
theorem dJxc12de_init_da8c8_6 : decode cJxc12de_init_da8c8 6 = .ok (.putfield 7, 3) := by decide +kernel
theorem dJxc12de_init_da8c8_9 : decode cJxc12de_init_da8c8 9 = .ok (.return_, 1) := by decide +kernel
theorem dJx4a65c_init_da8c8_0 : decode cJx4a65c_init_da8c8 0 = .ok (.aload_n 0, 1) := by decide +kernel
theorem dJx4a65c_init_da8c8_1 : decode cJx4a65c_init_da8c8 1 = .ok (.invokespecial 1, 3) := by decide +kernel
theorem dJx4a65c_init_da8c8_4 : decode cJx4a65c_init_da8c8 4 = .ok (.aload_n 0, 1) := by decide +kernel
theorem dJx4a65c_init_da8c8_5 : decode cJx4a65c_init_da8c8 5 = .ok (.getstatic 39, 3) := by decide +kernel
theorem dJx4a65c_init_da8c8_8 : decode cJx4a65c_init_da8c8 8 = .ok (.putfield 9, 3) := by decide +kernel
theorem dJx4a65c_init_da8c8_11 : decode cJx4a65c_init_da8c8 11 = .ok (.return_, 1) := by decide +kernel
theorem dJx4a65c_grow_92f84_0 : decode cJx4a65c_grow_92f84 0 = .ok (.aload_n 0, 1) := by decide +kernel
theorem dJx4a65c_grow_92f84_1 : decode cJx4a65c_grow_92f84 1 = .ok (.getfield 9, 3) := by decide +kernel
theorem dJx4a65c_grow_92f84_4 : decode cJx4a65c_grow_92f84 4 = .ok (.arraylength, 1) := by decide +kernel
theorem dJx4a65c_grow_92f84_5 : decode cJx4a65c_grow_92f84 5 = .ok (.istore_n 2, 1) := by decide +kernel
theorem dJx4a65c_grow_92f84_6 : decode cJx4a65c_grow_92f84 6 = .ok (.iload_n 2, 1) := by decide +kernel
theorem dJx4a65c_grow_92f84_7 : decode cJx4a65c_grow_92f84 7 = .ok (.ifCond .gt 13, 3) := by decide +kernel
theorem dJx4a65c_grow_92f84_10 : decode cJx4a65c_grow_92f84 10 = .ok (.aload_n 0, 1) := by decide +kernel
theorem dJx4a65c_grow_92f84_11 : decode cJx4a65c_grow_92f84 11 = .ok (.getfield 9, 3) := by decide +kernel
theorem dJx4a65c_grow_92f84_14 : decode cJx4a65c_grow_92f84 14 = .ok (.getstatic 39, 3) := by decide +kernel
theorem dJx4a65c_grow_92f84_17 : decode cJx4a65c_grow_92f84 17 = .ok (.if_acmp .eq 28, 3) := by decide +kernel
theorem dJx4a65c_grow_92f84_20 : decode cJx4a65c_grow_92f84 20 = .ok (.iload_n 2, 1) := by decide +kernel
theorem dJx4a65c_grow_92f84_21 : decode cJx4a65c_grow_92f84 21 = .ok (.iload_n 1, 1) := by decide +kernel
theorem dJx4a65c_grow_92f84_22 : decode cJx4a65c_grow_92f84 22 = .ok (.iload_n 2, 1) := by decide +kernel
theorem dJx4a65c_grow_92f84_23 : decode cJx4a65c_grow_92f84 23 = .ok (.isub, 1) := by decide +kernel
theorem dJx4a65c_grow_92f84_24 : decode cJx4a65c_grow_92f84 24 = .ok (.iload_n 2, 1) := by decide +kernel
theorem dJx4a65c_grow_92f84_25 : decode cJx4a65c_grow_92f84 25 = .ok (.iconst 1, 1) := by decide +kernel
theorem dJx4a65c_grow_92f84_26 : decode cJx4a65c_grow_92f84 26 = .ok (.ishr, 1) := by decide +kernel
theorem dJx4a65c_grow_92f84_27 : decode cJx4a65c_grow_92f84 27 = .ok (.invokestatic 73, 3) := by decide +kernel
theorem dJx4a65c_grow_92f84_30 : decode cJx4a65c_grow_92f84 30 = .ok (.istore_n 3, 1) := by decide +kernel
theorem dJx4a65c_grow_92f84_31 : decode cJx4a65c_grow_92f84 31 = .ok (.aload_n 0, 1) := by decide +kernel
theorem dJx4a65c_grow_92f84_32 : decode cJx4a65c_grow_92f84 32 = .ok (.aload_n 0, 1) := by decide +kernel
theorem dJx4a65c_grow_92f84_33 : decode cJx4a65c_grow_92f84 33 = .ok (.getfield 9, 3) := by decide +kernel
theorem dJx4a65c_grow_92f84_36 : decode cJx4a65c_grow_92f84 36 = .ok (.iload_n 3, 1) := by decide +kernel
theorem dJx4a65c_grow_92f84_37 : decode cJx4a65c_grow_92f84 37 = .ok (.invokestatic 66, 3) := by decide +kernel
theorem dJx4a65c_grow_92f84_40 : decode cJx4a65c_grow_92f84 40 = .ok (.dup_x1, 1) := by decide +kernel
theorem dJx4a65c_grow_92f84_41 : decode cJx4a65c_grow_92f84 41 = .ok (.putfield 9, 3) := by decide +kernel
theorem dJx4a65c_grow_92f84_44 : decode cJx4a65c_grow_92f84 44 = .ok (.areturn, 1) := by decide +kernel
theorem dJx4a65c_grow_92f84_45 : decode cJx4a65c_grow_92f84 45 = .ok (.aload_n 0, 1) := by decide +kernel
theorem dJx4a65c_grow_92f84_46 : decode cJx4a65c_grow_92f84 46 = .ok (.bipush 10, 2) := by decide +kernel
theorem dJx4a65c_grow_92f84_48 : decode cJx4a65c_grow_92f84 48 = .ok (.iload_n 1, 1) := by decide +kernel
theorem dJx4a65c_grow_92f84_49 : decode cJx4a65c_grow_92f84 49 = .ok (.invokestatic 79, 3) := by decide +kernel
theorem dJx4a65c_grow_92f84_52 : decode cJx4a65c_grow_92f84 52 = .ok (.anewarray 7, 3) := by decide +kernel
theorem dJx4a65c_grow_92f84_55 : decode cJx4a65c_grow_92f84 55 = .ok (.dup_x1, 1) := by decide +kernel
theorem dJx4a65c_grow_92f84_56 : decode cJx4a65c_grow_92f84 56 = .ok (.putfield 9, 3) := by decide +kernel
theorem dJx4a65c_grow_92f84_59 : decode cJx4a65c_grow_92f84 59 = .ok (.areturn, 1) := by decide +kernel
theorem dJx4a65c_grow_d5877_0 : decode cJx4a65c_grow_d5877 0 = .ok (.aload_n 0, 1) := by decide +kernel
theorem dJx4a65c_grow_d5877_1 : decode cJx4a65c_grow_d5877 1 = .ok (.aload_n 0, 1) := by decide +kernel
theorem dJx4a65c_grow_d5877_2 : decode cJx4a65c_grow_d5877 2 = .ok (.getfield 48, 3) := by decide +kernel
theorem dJx4a65c_grow_d5877_5 : decode cJx4a65c_grow_d5877 5 = .ok (.iconst 1, 1) := by decide +kernel
theorem dJx4a65c_grow_d5877_6 : decode cJx4a65c_grow_d5877 6 = .ok (.iadd, 1) := by decide +kernel
theorem dJx4a65c_grow_d5877_7 : decode cJx4a65c_grow_d5877 7 = .ok (.invokevirtual 69, 3) := by decide +kernel
theorem dJx4a65c_grow_d5877_10 : decode cJx4a65c_grow_d5877 10 = .ok (.areturn, 1) := by decide +kernel
theorem dJx4a65c_size_8abf5_0 : decode cJx4a65c_size_8abf5 0 = .ok (.aload_n 0, 1) := by decide +kernel
theorem dJx4a65c_size_8abf5_1 : decode cJx4a65c_size_8abf5 1 = .ok (.getfield 48, 3) := by decide +kernel
theorem dJx4a65c_size_8abf5_4 : decode cJx4a65c_size_8abf5 4 = .ok (.ireturn, 1) := by decide +kernel
theorem dJx4a65c_isEmpty_aae02_0 : decode cJx4a65c_isEmpty_aae02 0 = .ok (.aload_n 0, 1) := by decide +kernel
theorem dJx4a65c_isEmpty_aae02_1 : decode cJx4a65c_isEmpty_aae02 1 = .ok (.getfield 48, 3) := by decide +kernel
theorem dJx4a65c_isEmpty_aae02_4 : decode cJx4a65c_isEmpty_aae02 4 = .ok (.ifCond .ne 7, 3) := by decide +kernel
theorem dJx4a65c_isEmpty_aae02_7 : decode cJx4a65c_isEmpty_aae02 7 = .ok (.iconst 1, 1) := by decide +kernel
theorem dJx4a65c_isEmpty_aae02_8 : decode cJx4a65c_isEmpty_aae02 8 = .ok (.goto 4, 3) := by decide +kernel
theorem dJx4a65c_isEmpty_aae02_11 : decode cJx4a65c_isEmpty_aae02 11 = .ok (.iconst 0, 1) := by decide +kernel
theorem dJx4a65c_isEmpty_aae02_12 : decode cJx4a65c_isEmpty_aae02 12 = .ok (.ireturn, 1) := by decide +kernel
theorem dJx4a65c_elementData_915e3_0 : decode cJx4a65c_elementData_915e3 0 = .ok (.aload_n 0, 1) := by decide +kernel
theorem dJx4a65c_elementData_915e3_1 : decode cJx4a65c_elementData_915e3 1 = .ok (.getfield 9, 3) := by decide +kernel
theorem dJx4a65c_elementData_915e3_4 : decode cJx4a65c_elementData_915e3 4 = .ok (.iload_n 1, 1) := by decide +kernel
theorem dJx4a65c_elementData_915e3_5 : decode cJx4a65c_elementData_915e3 5 = .ok (.aaload, 1) := by decide +kernel
theorem dJx4a65c_elementData_915e3_6 : decode cJx4a65c_elementData_915e3 6 = .ok (.areturn, 1) := by decide +kernel
theorem dJx4a65c_get_915e3_0 : decode cJx4a65c_get_915e3 0 = .ok (.iload_n 1, 1) := by decide +kernel
theorem dJx4a65c_get_915e3_1 : decode cJx4a65c_get_915e3 1 = .ok (.aload_n 0, 1) := by decide +kernel
theorem dJx4a65c_get_915e3_2 : decode cJx4a65c_get_915e3 2 = .ok (.getfield 48, 3) := by decide +kernel
theorem dJx4a65c_get_915e3_5 : decode cJx4a65c_get_915e3 5 = .ok (.invokestatic 118, 3) := by decide +kernel
theorem dJx4a65c_get_915e3_8 : decode cJx4a65c_get_915e3 8 = .ok (.pop, 1) := by decide +kernel
theorem dJx4a65c_get_915e3_9 : decode cJx4a65c_get_915e3 9 = .ok (.aload_n 0, 1) := by decide +kernel
theorem dJx4a65c_get_915e3_10 : decode cJx4a65c_get_915e3 10 = .ok (.iload_n 1, 1) := by decide +kernel
theorem dJx4a65c_get_915e3_11 : decode cJx4a65c_get_915e3 11 = .ok (.invokevirtual 123, 3) := by decide +kernel
theorem dJx4a65c_get_915e3_14 : decode cJx4a65c_get_915e3 14 = .ok (.areturn, 1) := by decide +kernel
theorem dJx4a65c_add_72be8_0 : decode cJx4a65c_add_72be8 0 = .ok (.iload_n 3, 1) := by decide +kernel
theorem dJx4a65c_add_72be8_1 : decode cJx4a65c_add_72be8 1 = .ok (.aload_n 2, 1) := by decide +kernel
theorem dJx4a65c_add_72be8_2 : decode cJx4a65c_add_72be8 2 = .ok (.arraylength, 1) := by decide +kernel
theorem dJx4a65c_add_72be8_3 : decode cJx4a65c_add_72be8 3 = .ok (.if_icmp .ne 8, 3) := by decide +kernel
theorem dJx4a65c_add_72be8_6 : decode cJx4a65c_add_72be8 6 = .ok (.aload_n 0, 1) := by decide +kernel
theorem dJx4a65c_add_72be8_7 : decode cJx4a65c_add_72be8 7 = .ok (.invokevirtual 129, 3) := by decide +kernel
theorem dJx4a65c_add_72be8_10 : decode cJx4a65c_add_72be8 10 = .ok (.astore_n 2, 1) := by decide +kernel
theorem dJx4a65c_add_72be8_11 : decode cJx4a65c_add_72be8 11 = .ok (.aload_n 2, 1) := by decide +kernel
theorem dJx4a65c_add_72be8_12 : decode cJx4a65c_add_72be8 12 = .ok (.iload_n 3, 1) := by decide +kernel
theorem dJx4a65c_add_72be8_13 : decode cJx4a65c_add_72be8 13 = .ok (.aload_n 1, 1) := by decide +kernel
theorem dJx4a65c_add_72be8_14 : decode cJx4a65c_add_72be8 14 = .ok (.aastore, 1) := by decide +kernel
theorem dJx4a65c_add_72be8_15 : decode cJx4a65c_add_72be8 15 = .ok (.aload_n 0, 1) := by decide +kernel
theorem dJx4a65c_add_72be8_16 : decode cJx4a65c_add_72be8 16 = .ok (.iload_n 3, 1) := by decide +kernel
theorem dJx4a65c_add_72be8_17 : decode cJx4a65c_add_72be8 17 = .ok (.iconst 1, 1) := by decide +kernel
theorem dJx4a65c_add_72be8_18 : decode cJx4a65c_add_72be8 18 = .ok (.iadd, 1) := by decide +kernel
theorem dJx4a65c_add_72be8_19 : decode cJx4a65c_add_72be8 19 = .ok (.putfield 48, 3) := by decide +kernel
theorem dJx4a65c_add_72be8_22 : decode cJx4a65c_add_72be8 22 = .ok (.return_, 1) := by decide +kernel
theorem dJx4a65c_add_9ea2d_0 : decode cJx4a65c_add_9ea2d 0 = .ok (.aload_n 0, 1) := by decide +kernel
theorem dJx4a65c_add_9ea2d_1 : decode cJx4a65c_add_9ea2d 1 = .ok (.dup, 1) := by decide +kernel
theorem dJx4a65c_add_9ea2d_2 : decode cJx4a65c_add_9ea2d 2 = .ok (.getfield 63, 3) := by decide +kernel
theorem dJx4a65c_add_9ea2d_5 : decode cJx4a65c_add_9ea2d 5 = .ok (.iconst 1, 1) := by decide +kernel
theorem dJx4a65c_add_9ea2d_6 : decode cJx4a65c_add_9ea2d 6 = .ok (.iadd, 1) := by decide +kernel
theorem dJx4a65c_add_9ea2d_7 : decode cJx4a65c_add_9ea2d 7 = .ok (.putfield 63, 3) := by decide +kernel
theorem dJx4a65c_add_9ea2d_10 : decode cJx4a65c_add_9ea2d 10 = .ok (.aload_n 0, 1) := by decide +kernel
theorem dJx4a65c_add_9ea2d_11 : decode cJx4a65c_add_9ea2d 11 = .ok (.aload_n 1, 1) := by decide +kernel
theorem dJx4a65c_add_9ea2d_12 : decode cJx4a65c_add_9ea2d 12 = .ok (.aload_n 0, 1) := by decide +kernel
theorem dJx4a65c_add_9ea2d_13 : decode cJx4a65c_add_9ea2d 13 = .ok (.getfield 9, 3) := by decide +kernel
theorem dJx4a65c_add_9ea2d_16 : decode cJx4a65c_add_9ea2d 16 = .ok (.aload_n 0, 1) := by decide +kernel
theorem dJx4a65c_add_9ea2d_17 : decode cJx4a65c_add_9ea2d 17 = .ok (.getfield 48, 3) := by decide +kernel
theorem dJx4a65c_add_9ea2d_20 : decode cJx4a65c_add_9ea2d 20 = .ok (.invokevirtual 131, 3) := by decide +kernel
theorem dJx4a65c_add_9ea2d_23 : decode cJx4a65c_add_9ea2d 23 = .ok (.iconst 1, 1) := by decide +kernel
theorem dJx4a65c_add_9ea2d_24 : decode cJx4a65c_add_9ea2d 24 = .ok (.ireturn, 1) := by decide +kernel
theorem dJx4a65c_remove_915e3_0 : decode cJx4a65c_remove_915e3 0 = .ok (.iload_n 1, 1) := by decide +kernel
theorem dJx4a65c_remove_915e3_1 : decode cJx4a65c_remove_915e3 1 = .ok (.aload_n 0, 1) := by decide +kernel
theorem dJx4a65c_remove_915e3_2 : decode cJx4a65c_remove_915e3 2 = .ok (.getfield 48, 3) := by decide +kernel
theorem dJx4a65c_remove_915e3_5 : decode cJx4a65c_remove_915e3 5 = .ok (.invokestatic 118, 3) := by decide +kernel
theorem dJx4a65c_remove_915e3_8 : decode cJx4a65c_remove_915e3 8 = .ok (.pop, 1) := by decide +kernel
theorem dJx4a65c_remove_915e3_9 : decode cJx4a65c_remove_915e3 9 = .ok (.aload_n 0, 1) := by decide +kernel
theorem dJx4a65c_remove_915e3_10 : decode cJx4a65c_remove_915e3 10 = .ok (.getfield 9, 3) := by decide +kernel
theorem dJx4a65c_remove_915e3_13 : decode cJx4a65c_remove_915e3 13 = .ok (.astore_n 2, 1) := by decide +kernel
theorem dJx4a65c_remove_915e3_14 : decode cJx4a65c_remove_915e3 14 = .ok (.aload_n 2, 1) := by decide +kernel
theorem dJx4a65c_remove_915e3_15 : decode cJx4a65c_remove_915e3 15 = .ok (.iload_n 1, 1) := by decide +kernel
theorem dJx4a65c_remove_915e3_16 : decode cJx4a65c_remove_915e3 16 = .ok (.aaload, 1) := by decide +kernel
theorem dJx4a65c_remove_915e3_17 : decode cJx4a65c_remove_915e3 17 = .ok (.astore_n 3, 1) := by decide +kernel
theorem dJx4a65c_remove_915e3_18 : decode cJx4a65c_remove_915e3 18 = .ok (.aload_n 0, 1) := by decide +kernel
theorem dJx4a65c_remove_915e3_19 : decode cJx4a65c_remove_915e3 19 = .ok (.aload_n 2, 1) := by decide +kernel
theorem dJx4a65c_remove_915e3_20 : decode cJx4a65c_remove_915e3 20 = .ok (.iload_n 1, 1) := by decide +kernel
theorem dJx4a65c_remove_915e3_21 : decode cJx4a65c_remove_915e3 21 = .ok (.invokevirtual 144, 3) := by decide +kernel
theorem dJx4a65c_remove_915e3_24 : decode cJx4a65c_remove_915e3 24 = .ok (.aload_n 3, 1) := by decide +kernel
theorem dJx4a65c_remove_915e3_25 : decode cJx4a65c_remove_915e3 25 = .ok (.areturn, 1) := by decide +kernel
theorem dJx4a65c_fastRemove_b59b0_0 : decode cJx4a65c_fastRemove_b59b0 0 = .ok (.aload_n 0, 1) := by decide +kernel
theorem dJx4a65c_fastRemove_b59b0_1 : decode cJx4a65c_fastRemove_b59b0 1 = .ok (.dup, 1) := by decide +kernel
theorem dJx4a65c_fastRemove_b59b0_2 : decode cJx4a65c_fastRemove_b59b0 2 = .ok (.getfield 63, 3) := by decide +kernel
theorem dJx4a65c_fastRemove_b59b0_5 : decode cJx4a65c_fastRemove_b59b0 5 = .ok (.iconst 1, 1) := by decide +kernel
theorem dJx4a65c_fastRemove_b59b0_6 : decode cJx4a65c_fastRemove_b59b0 6 = .ok (.iadd, 1) := by decide +kernel
theorem dJx4a65c_fastRemove_b59b0_7 : decode cJx4a65c_fastRemove_b59b0 7 = .ok (.putfield 63, 3) := by decide +kernel
theorem dJx4a65c_fastRemove_b59b0_10 : decode cJx4a65c_fastRemove_b59b0 10 = .ok (.aload_n 0, 1) := by decide +kernel
theorem dJx4a65c_fastRemove_b59b0_11 : decode cJx4a65c_fastRemove_b59b0 11 = .ok (.getfield 48, 3) := by decide +kernel
theorem dJx4a65c_fastRemove_b59b0_14 : decode cJx4a65c_fastRemove_b59b0 14 = .ok (.iconst 1, 1) := by decide +kernel
theorem dJx4a65c_fastRemove_b59b0_15 : decode cJx4a65c_fastRemove_b59b0 15 = .ok (.isub, 1) := by decide +kernel
theorem dJx4a65c_fastRemove_b59b0_16 : decode cJx4a65c_fastRemove_b59b0 16 = .ok (.dup, 1) := by decide +kernel
theorem dJx4a65c_fastRemove_b59b0_17 : decode cJx4a65c_fastRemove_b59b0 17 = .ok (.istore_n 3, 1) := by decide +kernel
theorem dJx4a65c_fastRemove_b59b0_18 : decode cJx4a65c_fastRemove_b59b0 18 = .ok (.iload_n 2, 1) := by decide +kernel
theorem dJx4a65c_fastRemove_b59b0_19 : decode cJx4a65c_fastRemove_b59b0 19 = .ok (.if_icmp .le 15, 3) := by decide +kernel
theorem dJx4a65c_fastRemove_b59b0_22 : decode cJx4a65c_fastRemove_b59b0 22 = .ok (.aload_n 1, 1) := by decide +kernel
theorem dJx4a65c_fastRemove_b59b0_23 : decode cJx4a65c_fastRemove_b59b0 23 = .ok (.iload_n 2, 1) := by decide +kernel
theorem dJx4a65c_fastRemove_b59b0_24 : decode cJx4a65c_fastRemove_b59b0 24 = .ok (.iconst 1, 1) := by decide +kernel
theorem dJx4a65c_fastRemove_b59b0_25 : decode cJx4a65c_fastRemove_b59b0 25 = .ok (.iadd, 1) := by decide +kernel
theorem dJx4a65c_fastRemove_b59b0_26 : decode cJx4a65c_fastRemove_b59b0 26 = .ok (.aload_n 1, 1) := by decide +kernel
theorem dJx4a65c_fastRemove_b59b0_27 : decode cJx4a65c_fastRemove_b59b0 27 = .ok (.iload_n 2, 1) := by decide +kernel
theorem dJx4a65c_fastRemove_b59b0_28 : decode cJx4a65c_fastRemove_b59b0 28 = .ok (.iload_n 3, 1) := by decide +kernel
theorem dJx4a65c_fastRemove_b59b0_29 : decode cJx4a65c_fastRemove_b59b0 29 = .ok (.iload_n 2, 1) := by decide +kernel
theorem dJx4a65c_fastRemove_b59b0_30 : decode cJx4a65c_fastRemove_b59b0 30 = .ok (.isub, 1) := by decide +kernel
theorem dJx4a65c_fastRemove_b59b0_31 : decode cJx4a65c_fastRemove_b59b0 31 = .ok (.invokestatic 112, 3) := by decide +kernel
theorem dJx4a65c_fastRemove_b59b0_34 : decode cJx4a65c_fastRemove_b59b0 34 = .ok (.aload_n 1, 1) := by decide +kernel
theorem dJx4a65c_fastRemove_b59b0_35 : decode cJx4a65c_fastRemove_b59b0 35 = .ok (.aload_n 0, 1) := by decide +kernel
theorem dJx4a65c_fastRemove_b59b0_36 : decode cJx4a65c_fastRemove_b59b0 36 = .ok (.iload_n 3, 1) := by decide +kernel
theorem dJx4a65c_fastRemove_b59b0_37 : decode cJx4a65c_fastRemove_b59b0 37 = .ok (.dup_x1, 1) := by decide +kernel
theorem dJx4a65c_fastRemove_b59b0_38 : decode cJx4a65c_fastRemove_b59b0 38 = .ok (.putfield 48, 3) := by decide +kernel
theorem dJx4a65c_fastRemove_b59b0_41 : decode cJx4a65c_fastRemove_b59b0 41 = .ok (.aconst_null, 1) := by decide +kernel
theorem dJx4a65c_fastRemove_b59b0_42 : decode cJx4a65c_fastRemove_b59b0 42 = .ok (.aastore, 1) := by decide +kernel
theorem dJx4a65c_fastRemove_b59b0_43 : decode cJx4a65c_fastRemove_b59b0 43 = .ok (.return_, 1) := by decide +kernel
theorem dJx4a65c_clear_da8c8_0 : decode cJx4a65c_clear_da8c8 0 = .ok (.aload_n 0, 1) := by decide +kernel
theorem dJx4a65c_clear_da8c8_1 : decode cJx4a65c_clear_da8c8 1 = .ok (.dup, 1) := by decide +kernel
theorem dJx4a65c_clear_da8c8_2 : decode cJx4a65c_clear_da8c8 2 = .ok (.getfield 63, 3) := by decide +kernel
theorem dJx4a65c_clear_da8c8_5 : decode cJx4a65c_clear_da8c8 5 = .ok (.iconst 1, 1) := by decide +kernel
theorem dJx4a65c_clear_da8c8_6 : decode cJx4a65c_clear_da8c8 6 = .ok (.iadd, 1) := by decide +kernel
theorem dJx4a65c_clear_da8c8_7 : decode cJx4a65c_clear_da8c8 7 = .ok (.putfield 63, 3) := by decide +kernel
theorem dJx4a65c_clear_da8c8_10 : decode cJx4a65c_clear_da8c8 10 = .ok (.aload_n 0, 1) := by decide +kernel
theorem dJx4a65c_clear_da8c8_11 : decode cJx4a65c_clear_da8c8 11 = .ok (.getfield 9, 3) := by decide +kernel
theorem dJx4a65c_clear_da8c8_14 : decode cJx4a65c_clear_da8c8 14 = .ok (.astore_n 1, 1) := by decide +kernel
theorem dJx4a65c_clear_da8c8_15 : decode cJx4a65c_clear_da8c8 15 = .ok (.aload_n 0, 1) := by decide +kernel
theorem dJx4a65c_clear_da8c8_16 : decode cJx4a65c_clear_da8c8 16 = .ok (.getfield 48, 3) := by decide +kernel
theorem dJx4a65c_clear_da8c8_19 : decode cJx4a65c_clear_da8c8 19 = .ok (.istore_n 2, 1) := by decide +kernel
theorem dJx4a65c_clear_da8c8_20 : decode cJx4a65c_clear_da8c8 20 = .ok (.aload_n 0, 1) := by decide +kernel
theorem dJx4a65c_clear_da8c8_21 : decode cJx4a65c_clear_da8c8 21 = .ok (.iconst 0, 1) := by decide +kernel
theorem dJx4a65c_clear_da8c8_22 : decode cJx4a65c_clear_da8c8 22 = .ok (.dup_x1, 1) := by decide +kernel
theorem dJx4a65c_clear_da8c8_23 : decode cJx4a65c_clear_da8c8 23 = .ok (.putfield 48, 3) := by decide +kernel
theorem dJx4a65c_clear_da8c8_26 : decode cJx4a65c_clear_da8c8 26 = .ok (.istore_n 3, 1) := by decide +kernel
theorem dJx4a65c_clear_da8c8_27 : decode cJx4a65c_clear_da8c8 27 = .ok (.iload_n 3, 1) := by decide +kernel
theorem dJx4a65c_clear_da8c8_28 : decode cJx4a65c_clear_da8c8 28 = .ok (.iload_n 2, 1) := by decide +kernel
theorem dJx4a65c_clear_da8c8_29 : decode cJx4a65c_clear_da8c8 29 = .ok (.if_icmp .ge 13, 3) := by decide +kernel
theorem dJx4a65c_clear_da8c8_32 : decode cJx4a65c_clear_da8c8 32 = .ok (.aload_n 1, 1) := by decide +kernel
theorem dJx4a65c_clear_da8c8_33 : decode cJx4a65c_clear_da8c8 33 = .ok (.iload_n 3, 1) := by decide +kernel
theorem dJx4a65c_clear_da8c8_34 : decode cJx4a65c_clear_da8c8 34 = .ok (.aconst_null, 1) := by decide +kernel
theorem dJx4a65c_clear_da8c8_35 : decode cJx4a65c_clear_da8c8 35 = .ok (.aastore, 1) := by decide +kernel
theorem dJx4a65c_clear_da8c8_36 : decode cJx4a65c_clear_da8c8 36 = .ok (.iinc 3 1, 3) := by decide +kernel
theorem dJx4a65c_clear_da8c8_39 : decode cJx4a65c_clear_da8c8 39 = .ok (.goto (-12), 3) := by decide +kernel
theorem dJx4a65c_clear_da8c8_42 : decode cJx4a65c_clear_da8c8 42 = .ok (.return_, 1) := by decide +kernel
theorem dJ7_fill_53178_0 : decode cJ7_fill_53178 0 = .ok (.iconst 0, 1) := by decide +kernel
theorem dJ7_fill_53178_1 : decode cJ7_fill_53178 1 = .ok (.istore_n 2, 1) := by decide +kernel
theorem dJ7_fill_53178_2 : decode cJ7_fill_53178 2 = .ok (.aload_n 0, 1) := by decide +kernel
theorem dJ7_fill_53178_3 : decode cJ7_fill_53178 3 = .ok (.arraylength, 1) := by decide +kernel
theorem dJ7_fill_53178_4 : decode cJ7_fill_53178 4 = .ok (.istore_n 3, 1) := by decide +kernel
theorem dJ7_fill_53178_5 : decode cJ7_fill_53178 5 = .ok (.iload_n 2, 1) := by decide +kernel
theorem dJ7_fill_53178_6 : decode cJ7_fill_53178 6 = .ok (.iload_n 3, 1) := by decide +kernel
theorem dJ7_fill_53178_7 : decode cJ7_fill_53178 7 = .ok (.if_icmp .ge 13, 3) := by decide +kernel
theorem dJ7_fill_53178_10 : decode cJ7_fill_53178 10 = .ok (.aload_n 0, 1) := by decide +kernel
theorem dJ7_fill_53178_11 : decode cJ7_fill_53178 11 = .ok (.iload_n 2, 1) := by decide +kernel
theorem dJ7_fill_53178_12 : decode cJ7_fill_53178 12 = .ok (.iload_n 1, 1) := by decide +kernel
theorem dJ7_fill_53178_13 : decode cJ7_fill_53178 13 = .ok (.iastore, 1) := by decide +kernel
theorem dJ7_fill_53178_14 : decode cJ7_fill_53178 14 = .ok (.iinc 2 1, 3) := by decide +kernel
theorem dJ7_fill_53178_17 : decode cJ7_fill_53178 17 = .ok (.goto (-12), 3) := by decide +kernel
theorem dJ7_fill_53178_20 : decode cJ7_fill_53178 20 = .ok (.return_, 1) := by decide +kernel
theorem dJ7_copyOf_1904c_0 : decode cJ7_copyOf_1904c 0 = .ok (.aload_n 0, 1) := by decide +kernel
theorem dJ7_copyOf_1904c_1 : decode cJ7_copyOf_1904c 1 = .ok (.iload_n 1, 1) := by decide +kernel
theorem dJ7_copyOf_1904c_2 : decode cJ7_copyOf_1904c 2 = .ok (.aload_n 0, 1) := by decide +kernel
theorem dJ7_copyOf_1904c_3 : decode cJ7_copyOf_1904c 3 = .ok (.invokevirtual 86, 3) := by decide +kernel
theorem dJ7_copyOf_1904c_6 : decode cJ7_copyOf_1904c 6 = .ok (.invokestatic 300, 3) := by decide +kernel
theorem dJ7_copyOf_1904c_9 : decode cJ7_copyOf_1904c 9 = .ok (.areturn, 1) := by decide +kernel
theorem dJ7_copyOf_6403c_0 : decode cJ7_copyOf_6403c 0 = .ok (.aload_n 2, 1) := by decide +kernel
theorem dJ7_copyOf_6403c_1 : decode cJ7_copyOf_6403c 1 = .ok (.ldc 110, 2) := by decide +kernel
theorem dJ7_copyOf_6403c_3 : decode cJ7_copyOf_6403c 3 = .ok (.if_acmp .ne 10, 3) := by decide +kernel
theorem dJ7_copyOf_6403c_6 : decode cJ7_copyOf_6403c 6 = .ok (.iload_n 1, 1) := by decide +kernel
theorem dJ7_copyOf_6403c_7 : decode cJ7_copyOf_6403c 7 = .ok (.anewarray 2, 3) := by decide +kernel
theorem dJ7_copyOf_6403c_10 : decode cJ7_copyOf_6403c 10 = .ok (.goto 14, 3) := by decide +kernel
theorem dJ7_copyOf_6403c_13 : decode cJ7_copyOf_6403c 13 = .ok (.aload_n 2, 1) := by decide +kernel
theorem dJ7_copyOf_6403c_14 : decode cJ7_copyOf_6403c 14 = .ok (.invokevirtual 90, 3) := by decide +kernel
theorem dJ7_copyOf_6403c_17 : decode cJ7_copyOf_6403c 17 = .ok (.iload_n 1, 1) := by decide +kernel
theorem dJ7_copyOf_6403c_18 : decode cJ7_copyOf_6403c 18 = .ok (.invokestatic 95, 3) := by decide +kernel
theorem dJ7_copyOf_6403c_21 : decode cJ7_copyOf_6403c 21 = .ok (.checkcast 110, 3) := by decide +kernel
theorem dJ7_copyOf_6403c_24 : decode cJ7_copyOf_6403c 24 = .ok (.astore_n 3, 1) := by decide +kernel
theorem dJ7_copyOf_6403c_25 : decode cJ7_copyOf_6403c 25 = .ok (.aload_n 0, 1) := by decide +kernel
theorem dJ7_copyOf_6403c_26 : decode cJ7_copyOf_6403c 26 = .ok (.iconst 0, 1) := by decide +kernel
theorem dJ7_copyOf_6403c_27 : decode cJ7_copyOf_6403c 27 = .ok (.aload_n 3, 1) := by decide +kernel
theorem dJ7_copyOf_6403c_28 : decode cJ7_copyOf_6403c 28 = .ok (.iconst 0, 1) := by decide +kernel
theorem dJ7_copyOf_6403c_29 : decode cJ7_copyOf_6403c 29 = .ok (.aload_n 0, 1) := by decide +kernel
theorem dJ7_copyOf_6403c_30 : decode cJ7_copyOf_6403c 30 = .ok (.arraylength, 1) := by decide +kernel
theorem dJ7_copyOf_6403c_31 : decode cJ7_copyOf_6403c 31 = .ok (.iload_n 1, 1) := by decide +kernel
theorem dJ7_copyOf_6403c_32 : decode cJ7_copyOf_6403c 32 = .ok (.invokestatic 304, 3) := by decide +kernel
theorem dJ7_copyOf_6403c_35 : decode cJ7_copyOf_6403c 35 = .ok (.invokestatic 150, 3) := by decide +kernel
theorem dJ7_copyOf_6403c_38 : decode cJ7_copyOf_6403c 38 = .ok (.aload_n 3, 1) := by decide +kernel
theorem dJ7_copyOf_6403c_39 : decode cJ7_copyOf_6403c 39 = .ok (.areturn, 1) := by decide +kernel
theorem dJ15_checkIndex_7cf53_0 : decode cJ15_checkIndex_7cf53 0 = .ok (.iload_n 0, 1) := by decide +kernel
theorem dJ15_checkIndex_7cf53_1 : decode cJ15_checkIndex_7cf53 1 = .ok (.iload_n 1, 1) := by decide +kernel
theorem dJ15_checkIndex_7cf53_2 : decode cJ15_checkIndex_7cf53 2 = .ok (.aconst_null, 1) := by decide +kernel
theorem dJ15_checkIndex_7cf53_3 : decode cJ15_checkIndex_7cf53 3 = .ok (.invokestatic 105, 3) := by decide +kernel
theorem dJ15_checkIndex_7cf53_6 : decode cJ15_checkIndex_7cf53 6 = .ok (.ireturn, 1) := by decide +kernel
theorem dJ8_newLength_cabcc_0 : decode cJ8_newLength_cabcc 0 = .ok (.iload_n 0, 1) := by decide +kernel
theorem dJ8_newLength_cabcc_1 : decode cJ8_newLength_cabcc 1 = .ok (.iload_n 1, 1) := by decide +kernel
theorem dJ8_newLength_cabcc_2 : decode cJ8_newLength_cabcc 2 = .ok (.iload_n 2, 1) := by decide +kernel
theorem dJ8_newLength_cabcc_3 : decode cJ8_newLength_cabcc 3 = .ok (.invokestatic 194, 3) := by decide +kernel
theorem dJ8_newLength_cabcc_6 : decode cJ8_newLength_cabcc 6 = .ok (.iadd, 1) := by decide +kernel
theorem dJ8_newLength_cabcc_7 : decode cJ8_newLength_cabcc 7 = .ok (.istore_n 3, 1) := by decide +kernel
theorem dJ8_newLength_cabcc_8 : decode cJ8_newLength_cabcc 8 = .ok (.iconst 0, 1) := by decide +kernel
theorem dJ8_newLength_cabcc_9 : decode cJ8_newLength_cabcc 9 = .ok (.iload_n 3, 1) := by decide +kernel
theorem dJ8_newLength_cabcc_10 : decode cJ8_newLength_cabcc 10 = .ok (.if_icmp .ge 11, 3) := by decide +kernel
theorem dJ8_newLength_cabcc_13 : decode cJ8_newLength_cabcc 13 = .ok (.iload_n 3, 1) := by decide +kernel
theorem dJ8_newLength_cabcc_14 : decode cJ8_newLength_cabcc 14 = .ok (.ldc 200, 2) := by decide +kernel
theorem dJ8_newLength_cabcc_16 : decode cJ8_newLength_cabcc 16 = .ok (.if_icmp .gt 5, 3) := by decide +kernel
theorem dJ8_newLength_cabcc_19 : decode cJ8_newLength_cabcc 19 = .ok (.iload_n 3, 1) := by decide +kernel
theorem dJ8_newLength_cabcc_20 : decode cJ8_newLength_cabcc 20 = .ok (.ireturn, 1) := by decide +kernel
theorem dJ8_newLength_cabcc_21 : decode cJ8_newLength_cabcc 21 = .ok (.iload_n 0, 1) := by decide +kernel
theorem dJ8_newLength_cabcc_22 : decode cJ8_newLength_cabcc 22 = .ok (.iload_n 1, 1) := by decide +kernel
theorem dJ8_newLength_cabcc_23 : decode cJ8_newLength_cabcc 23 = .ok (.invokestatic 201, 3) := by decide +kernel
theorem dJ8_newLength_cabcc_26 : decode cJ8_newLength_cabcc 26 = .ok (.ireturn, 1) := by decide +kernel
theorem dJ8_hugeLength_7cf53_0 : decode cJ8_hugeLength_7cf53 0 = .ok (.iload_n 0, 1) := by decide +kernel
theorem dJ8_hugeLength_7cf53_1 : decode cJ8_hugeLength_7cf53 1 = .ok (.iload_n 1, 1) := by decide +kernel
theorem dJ8_hugeLength_7cf53_2 : decode cJ8_hugeLength_7cf53 2 = .ok (.iadd, 1) := by decide +kernel
theorem dJ8_hugeLength_7cf53_3 : decode cJ8_hugeLength_7cf53 3 = .ok (.istore_n 2, 1) := by decide +kernel
theorem dJ8_hugeLength_7cf53_4 : decode cJ8_hugeLength_7cf53 4 = .ok (.iload_n 2, 1) := by decide +kernel
theorem dJ8_hugeLength_7cf53_5 : decode cJ8_hugeLength_7cf53 5 = .ok (.ifCond .ge 44, 3) := by decide +kernel
theorem dJ8_hugeLength_7cf53_8 : decode cJ8_hugeLength_7cf53 8 = .ok (.new 204, 3) := by decide +kernel
theorem dJ8_hugeLength_7cf53_11 : decode cJ8_hugeLength_7cf53 11 = .ok (.dup, 1) := by decide +kernel
theorem dJ8_hugeLength_7cf53_12 : decode cJ8_hugeLength_7cf53 12 = .ok (.new 89, 3) := by decide +kernel
theorem dJ8_hugeLength_7cf53_15 : decode cJ8_hugeLength_7cf53 15 = .ok (.dup, 1) := by decide +kernel
theorem dJ8_hugeLength_7cf53_16 : decode cJ8_hugeLength_7cf53 16 = .ok (.invokespecial 91, 3) := by decide +kernel
theorem dJ8_hugeLength_7cf53_19 : decode cJ8_hugeLength_7cf53 19 = .ok (.ldc 206, 2) := by decide +kernel
theorem dJ8_hugeLength_7cf53_21 : decode cJ8_hugeLength_7cf53 21 = .ok (.invokevirtual 94, 3) := by decide +kernel
theorem dJ8_hugeLength_7cf53_24 : decode cJ8_hugeLength_7cf53 24 = .ok (.iload_n 0, 1) := by decide +kernel
theorem dJ8_hugeLength_7cf53_25 : decode cJ8_hugeLength_7cf53 25 = .ok (.invokevirtual 98, 3) := by decide +kernel
theorem dJ8_hugeLength_7cf53_28 : decode cJ8_hugeLength_7cf53 28 = .ok (.ldc 208, 2) := by decide +kernel
theorem dJ8_hugeLength_7cf53_30 : decode cJ8_hugeLength_7cf53 30 = .ok (.invokevirtual 94, 3) := by decide +kernel
theorem dJ8_hugeLength_7cf53_33 : decode cJ8_hugeLength_7cf53 33 = .ok (.iload_n 1, 1) := by decide +kernel
theorem dJ8_hugeLength_7cf53_34 : decode cJ8_hugeLength_7cf53 34 = .ok (.invokevirtual 98, 3) := by decide +kernel
theorem dJ8_hugeLength_7cf53_37 : decode cJ8_hugeLength_7cf53 37 = .ok (.ldc 210, 2) := by decide +kernel
theorem dJ8_hugeLength_7cf53_39 : decode cJ8_hugeLength_7cf53 39 = .ok (.invokevirtual 94, 3) := by decide +kernel
theorem dJ8_hugeLength_7cf53_42 : decode cJ8_hugeLength_7cf53 42 = .ok (.invokevirtual 101, 3) := by decide +kernel
theorem dJ8_hugeLength_7cf53_45 : decode cJ8_hugeLength_7cf53 45 = .ok (.invokespecial 212, 3) := by decide +kernel
theorem dJ8_hugeLength_7cf53_48 : decode cJ8_hugeLength_7cf53 48 = .ok (.athrow, 1) := by decide +kernel
theorem dJ8_hugeLength_7cf53_49 : decode cJ8_hugeLength_7cf53 49 = .ok (.iload_n 2, 1) := by decide +kernel
theorem dJ8_hugeLength_7cf53_50 : decode cJ8_hugeLength_7cf53 50 = .ok (.ldc 200, 2) := by decide +kernel
theorem dJ8_hugeLength_7cf53_52 : decode cJ8_hugeLength_7cf53 52 = .ok (.if_icmp .gt 6, 3) := by decide +kernel
theorem dJ8_hugeLength_7cf53_55 : decode cJ8_hugeLength_7cf53 55 = .ok (.ldc 200, 2) := by decide +kernel
theorem dJ8_hugeLength_7cf53_57 : decode cJ8_hugeLength_7cf53 57 = .ok (.ireturn, 1) := by decide +kernel
theorem dJ8_hugeLength_7cf53_58 : decode cJ8_hugeLength_7cf53 58 = .ok (.iload_n 2, 1) := by decide +kernel
theorem dJ8_hugeLength_7cf53_59 : decode cJ8_hugeLength_7cf53 59 = .ok (.ireturn, 1) := by decide +kernel
theorem dJ3_checkIndex_8e157_0 : decode cJ3_checkIndex_8e157 0 = .ok (.iload_n 0, 1) := by decide +kernel
theorem dJ3_checkIndex_8e157_1 : decode cJ3_checkIndex_8e157 1 = .ok (.ifCond .lt 8, 3) := by decide +kernel
theorem dJ3_checkIndex_8e157_4 : decode cJ3_checkIndex_8e157 4 = .ok (.iload_n 0, 1) := by decide +kernel
theorem dJ3_checkIndex_8e157_5 : decode cJ3_checkIndex_8e157 5 = .ok (.iload_n 1, 1) := by decide +kernel
theorem dJ3_checkIndex_8e157_6 : decode cJ3_checkIndex_8e157 6 = .ok (.if_icmp .lt 10, 3) := by decide +kernel
theorem dJ3_checkIndex_8e157_9 : decode cJ3_checkIndex_8e157 9 = .ok (.aload_n 2, 1) := by decide +kernel
theorem dJ3_checkIndex_8e157_10 : decode cJ3_checkIndex_8e157 10 = .ok (.iload_n 0, 1) := by decide +kernel
theorem dJ3_checkIndex_8e157_11 : decode cJ3_checkIndex_8e157 11 = .ok (.iload_n 1, 1) := by decide +kernel
theorem dJ3_checkIndex_8e157_12 : decode cJ3_checkIndex_8e157 12 = .ok (.invokestatic 95, 3) := by decide +kernel
theorem dJ3_checkIndex_8e157_15 : decode cJ3_checkIndex_8e157 15 = .ok (.athrow, 1) := by decide +kernel
theorem dJ3_checkIndex_8e157_16 : decode cJ3_checkIndex_8e157 16 = .ok (.iload_n 0, 1) := by decide +kernel
theorem dJ3_checkIndex_8e157_17 : decode cJ3_checkIndex_8e157 17 = .ok (.ireturn, 1) := by decide +kernel
theorem dX0_init_0 : decode cX0_init 0 = .ok (.aload_n 0, 1) := by decide +kernel
theorem dX0_init_1 : decode cX0_init 1 = .ok (.invokespecial 3, 3) := by decide +kernel
theorem dX0_init_4 : decode cX0_init 4 = .ok (.aload_n 0, 1) := by decide +kernel
theorem dX0_init_5 : decode cX0_init 5 = .ok (.bipush 6, 2) := by decide +kernel
theorem dX0_init_7 : decode cX0_init 7 = .ok (.newarray .int, 2) := by decide +kernel
theorem dX0_init_9 : decode cX0_init 9 = .ok (.putfield 9, 3) := by decide +kernel
theorem dX0_init_12 : decode cX0_init 12 = .ok (.aload_n 0, 1) := by decide +kernel
theorem dX0_init_13 : decode cX0_init 13 = .ok (.bipush 6, 2) := by decide +kernel
theorem dX0_init_15 : decode cX0_init 15 = .ok (.newarray .int, 2) := by decide +kernel
theorem dX0_init_17 : decode cX0_init 17 = .ok (.putfield 15, 3) := by decide +kernel
theorem dX0_init_20 : decode cX0_init 20 = .ok (.aload_n 0, 1) := by decide +kernel
theorem dX0_init_21 : decode cX0_init 21 = .ok (.bipush 6, 2) := by decide +kernel
theorem dX0_init_23 : decode cX0_init 23 = .ok (.newarray .int, 2) := by decide +kernel
theorem dX0_init_25 : decode cX0_init 25 = .ok (.putfield 18, 3) := by decide +kernel
theorem dX0_init_28 : decode cX0_init 28 = .ok (.aload_n 0, 1) := by decide +kernel
theorem dX0_init_29 : decode cX0_init 29 = .ok (.bipush 6, 2) := by decide +kernel
theorem dX0_init_31 : decode cX0_init 31 = .ok (.newarray .int, 2) := by decide +kernel
theorem dX0_init_33 : decode cX0_init 33 = .ok (.putfield 21, 3) := by decide +kernel
theorem dX0_init_36 : decode cX0_init 36 = .ok (.aload_n 0, 1) := by decide +kernel
theorem dX0_init_37 : decode cX0_init 37 = .ok (.bipush 6, 2) := by decide +kernel
theorem dX0_init_39 : decode cX0_init 39 = .ok (.newarray .int, 2) := by decide +kernel
theorem dX0_init_41 : decode cX0_init 41 = .ok (.putfield 24, 3) := by decide +kernel
theorem dX0_init_44 : decode cX0_init 44 = .ok (.return_, 1) := by decide +kernel
theorem dX0_append_0 : decode cX0_append 0 = .ok (.aload_n 0, 1) := by decide +kernel
theorem dX0_append_1 : decode cX0_append 1 = .ok (.getfield 27, 3) := by decide +kernel
theorem dX0_append_4 : decode cX0_append 4 = .ok (.bipush 6, 2) := by decide +kernel
theorem dX0_append_6 : decode cX0_append 6 = .ok (.if_icmp .ge 43, 3) := by decide +kernel
theorem dX0_append_9 : decode cX0_append 9 = .ok (.aload_n 0, 1) := by decide +kernel
theorem dX0_append_10 : decode cX0_append 10 = .ok (.getfield 9, 3) := by decide +kernel
theorem dX0_append_13 : decode cX0_append 13 = .ok (.aload_n 0, 1) := by decide +kernel
theorem dX0_append_14 : decode cX0_append 14 = .ok (.getfield 27, 3) := by decide +kernel
theorem dX0_append_17 : decode cX0_append 17 = .ok (.iload_n 1, 1) := by decide +kernel
theorem dX0_append_18 : decode cX0_append 18 = .ok (.iastore, 1) := by decide +kernel
theorem dX0_append_19 : decode cX0_append 19 = .ok (.aload_n 0, 1) := by decide +kernel
theorem dX0_append_20 : decode cX0_append 20 = .ok (.getfield 15, 3) := by decide +kernel
theorem dX0_append_23 : decode cX0_append 23 = .ok (.aload_n 0, 1) := by decide +kernel
theorem dX0_append_24 : decode cX0_append 24 = .ok (.getfield 27, 3) := by decide +kernel
theorem dX0_append_27 : decode cX0_append 27 = .ok (.iload_n 2, 1) := by decide +kernel
theorem dX0_append_28 : decode cX0_append 28 = .ok (.iastore, 1) := by decide +kernel
theorem dX0_append_29 : decode cX0_append 29 = .ok (.aload_n 0, 1) := by decide +kernel
theorem dX0_append_30 : decode cX0_append 30 = .ok (.getfield 18, 3) := by decide +kernel
theorem dX0_append_33 : decode cX0_append 33 = .ok (.aload_n 0, 1) := by decide +kernel
theorem dX0_append_34 : decode cX0_append 34 = .ok (.getfield 27, 3) := by decide +kernel
theorem dX0_append_37 : decode cX0_append 37 = .ok (.iload_n 3, 1) := by decide +kernel
theorem dX0_append_38 : decode cX0_append 38 = .ok (.iastore, 1) := by decide +kernel
theorem dX0_append_39 : decode cX0_append 39 = .ok (.aload_n 0, 1) := by decide +kernel
theorem dX0_append_40 : decode cX0_append 40 = .ok (.dup, 1) := by decide +kernel
theorem dX0_append_41 : decode cX0_append 41 = .ok (.getfield 27, 3) := by decide +kernel
theorem dX0_append_44 : decode cX0_append 44 = .ok (.iconst 1, 1) := by decide +kernel
theorem dX0_append_45 : decode cX0_append 45 = .ok (.iadd, 1) := by decide +kernel
theorem dX0_append_46 : decode cX0_append 46 = .ok (.putfield 27, 3) := by decide +kernel
theorem dX0_append_49 : decode cX0_append 49 = .ok (.return_, 1) := by decide +kernel
theorem dX0_toleranceNow_0 : decode cX0_toleranceNow 0 = .ok (.aload_n 0, 1) := by decide +kernel
theorem dX0_toleranceNow_1 : decode cX0_toleranceNow 1 = .ok (.getfield 18, 3) := by decide +kernel
theorem dX0_toleranceNow_4 : decode cX0_toleranceNow 4 = .ok (.iload_n 1, 1) := by decide +kernel
theorem dX0_toleranceNow_5 : decode cX0_toleranceNow 5 = .ok (.iaload, 1) := by decide +kernel
theorem dX0_toleranceNow_6 : decode cX0_toleranceNow 6 = .ok (.aload_n 0, 1) := by decide +kernel
theorem dX0_toleranceNow_7 : decode cX0_toleranceNow 7 = .ok (.getfield 24, 3) := by decide +kernel
theorem dX0_toleranceNow_10 : decode cX0_toleranceNow 10 = .ok (.iload_n 1, 1) := by decide +kernel
theorem dX0_toleranceNow_11 : decode cX0_toleranceNow 11 = .ok (.iaload, 1) := by decide +kernel
theorem dX0_toleranceNow_12 : decode cX0_toleranceNow 12 = .ok (.ifCond .le 12, 3) := by decide +kernel
theorem dX0_toleranceNow_15 : decode cX0_toleranceNow 15 = .ok (.aload_n 0, 1) := by decide +kernel
theorem dX0_toleranceNow_16 : decode cX0_toleranceNow 16 = .ok (.getfield 21, 3) := by decide +kernel
theorem dX0_toleranceNow_19 : decode cX0_toleranceNow 19 = .ok (.iload_n 1, 1) := by decide +kernel
theorem dX0_toleranceNow_20 : decode cX0_toleranceNow 20 = .ok (.iaload, 1) := by decide +kernel
theorem dX0_toleranceNow_21 : decode cX0_toleranceNow 21 = .ok (.goto 4, 3) := by decide +kernel
theorem dX0_toleranceNow_24 : decode cX0_toleranceNow 24 = .ok (.iconst 0, 1) := by decide +kernel
theorem dX0_toleranceNow_25 : decode cX0_toleranceNow 25 = .ok (.iadd, 1) := by decide +kernel
theorem dX0_toleranceNow_26 : decode cX0_toleranceNow 26 = .ok (.ireturn, 1) := by decide +kernel
theorem dX0_spendPaper_0 : decode cX0_spendPaper 0 = .ok (.iconst 0, 1) := by decide +kernel
theorem dX0_spendPaper_1 : decode cX0_spendPaper 1 = .ok (.istore_n 1, 1) := by decide +kernel
theorem dX0_spendPaper_2 : decode cX0_spendPaper 2 = .ok (.iload_n 1, 1) := by decide +kernel
theorem dX0_spendPaper_3 : decode cX0_spendPaper 3 = .ok (.aload_n 0, 1) := by decide +kernel
theorem dX0_spendPaper_4 : decode cX0_spendPaper 4 = .ok (.getfield 27, 3) := by decide +kernel
theorem dX0_spendPaper_7 : decode cX0_spendPaper 7 = .ok (.if_icmp .ge 27, 3) := by decide +kernel
theorem dX0_spendPaper_10 : decode cX0_spendPaper 10 = .ok (.aload_n 0, 1) := by decide +kernel
theorem dX0_spendPaper_11 : decode cX0_spendPaper 11 = .ok (.getfield 24, 3) := by decide +kernel
theorem dX0_spendPaper_14 : decode cX0_spendPaper 14 = .ok (.iload_n 1, 1) := by decide +kernel
theorem dX0_spendPaper_15 : decode cX0_spendPaper 15 = .ok (.iconst 0, 1) := by decide +kernel
theorem dX0_spendPaper_16 : decode cX0_spendPaper 16 = .ok (.aload_n 0, 1) := by decide +kernel
theorem dX0_spendPaper_17 : decode cX0_spendPaper 17 = .ok (.getfield 24, 3) := by decide +kernel
theorem dX0_spendPaper_20 : decode cX0_spendPaper 20 = .ok (.iload_n 1, 1) := by decide +kernel
theorem dX0_spendPaper_21 : decode cX0_spendPaper 21 = .ok (.iaload, 1) := by decide +kernel
theorem dX0_spendPaper_22 : decode cX0_spendPaper 22 = .ok (.iconst 1, 1) := by decide +kernel
theorem dX0_spendPaper_23 : decode cX0_spendPaper 23 = .ok (.isub, 1) := by decide +kernel
theorem dX0_spendPaper_24 : decode cX0_spendPaper 24 = .ok (.invokestatic 31, 3) := by decide +kernel
theorem dX0_spendPaper_27 : decode cX0_spendPaper 27 = .ok (.iastore, 1) := by decide +kernel
theorem dX0_spendPaper_28 : decode cX0_spendPaper 28 = .ok (.iinc 1 1, 3) := by decide +kernel
theorem dX0_spendPaper_31 : decode cX0_spendPaper 31 = .ok (.goto (-29), 3) := by decide +kernel
theorem dX0_spendPaper_34 : decode cX0_spendPaper 34 = .ok (.return_, 1) := by decide +kernel
theorem dX1_init_0 : decode cX1_init 0 = .ok (.aload_n 0, 1) := by decide +kernel
theorem dX1_init_1 : decode cX1_init 1 = .ok (.invokespecial 3, 3) := by decide +kernel
theorem dX1_init_4 : decode cX1_init 4 = .ok (.aload_n 0, 1) := by decide +kernel
theorem dX1_init_5 : decode cX1_init 5 = .ok (.iconst (-1), 1) := by decide +kernel
theorem dX1_init_6 : decode cX1_init 6 = .ok (.putfield 9, 3) := by decide +kernel
theorem dX1_init_9 : decode cX1_init 9 = .ok (.return_, 1) := by decide +kernel
theorem dX1_isGood_0 : decode cX1_isGood 0 = .ok (.aload_n 0, 1) := by decide +kernel
theorem dX1_isGood_1 : decode cX1_isGood 1 = .ok (.getfield 9, 3) := by decide +kernel
theorem dX1_isGood_4 : decode cX1_isGood 4 = .ok (.iconst (-1), 1) := by decide +kernel
theorem dX1_isGood_5 : decode cX1_isGood 5 = .ok (.if_icmp .eq 19, 3) := by decide +kernel
theorem dX1_isGood_8 : decode cX1_isGood 8 = .ok (.iload_n 1, 1) := by decide +kernel
theorem dX1_isGood_9 : decode cX1_isGood 9 = .ok (.aload_n 0, 1) := by decide +kernel
theorem dX1_isGood_10 : decode cX1_isGood 10 = .ok (.getfield 9, 3) := by decide +kernel
theorem dX1_isGood_13 : decode cX1_isGood 13 = .ok (.isub, 1) := by decide +kernel
theorem dX1_isGood_14 : decode cX1_isGood 14 = .ok (.sipush 1000, 3) := by decide +kernel
theorem dX1_isGood_17 : decode cX1_isGood 17 = .ok (.if_icmp .ge 7, 3) := by decide +kernel
theorem dX1_isGood_20 : decode cX1_isGood 20 = .ok (.iconst 1, 1) := by decide +kernel
theorem dX1_isGood_21 : decode cX1_isGood 21 = .ok (.goto 4, 3) := by decide +kernel
theorem dX1_isGood_24 : decode cX1_isGood 24 = .ok (.iconst 0, 1) := by decide +kernel
theorem dX1_isGood_25 : decode cX1_isGood 25 = .ok (.ireturn, 1) := by decide +kernel
theorem dX1_reads_0 : decode cX1_reads 0 = .ok (.iload_n 1, 1) := by decide +kernel
theorem dX1_reads_1 : decode cX1_reads 1 = .ok (.iload_n 2, 1) := by decide +kernel
theorem dX1_reads_2 : decode cX1_reads 2 = .ok (.aload_n 0, 1) := by decide +kernel
theorem dX1_reads_3 : decode cX1_reads 3 = .ok (.getfield 9, 3) := by decide +kernel
theorem dX1_reads_6 : decode cX1_reads 6 = .ok (.isub, 1) := by decide +kernel
theorem dX1_reads_7 : decode cX1_reads 7 = .ok (.bipush 100, 2) := by decide +kernel
theorem dX1_reads_9 : decode cX1_reads 9 = .ok (.idiv, 1) := by decide +kernel
theorem dX1_reads_10 : decode cX1_reads 10 = .ok (.iadd, 1) := by decide +kernel
theorem dX1_reads_11 : decode cX1_reads 11 = .ok (.ireturn, 1) := by decide +kernel
theorem dX2_init_0 : decode cX2_init 0 = .ok (.aload_n 0, 1) := by decide +kernel
theorem dX2_init_1 : decode cX2_init 1 = .ok (.invokespecial 3, 3) := by decide +kernel
theorem dX2_init_4 : decode cX2_init 4 = .ok (.aload_n 0, 1) := by decide +kernel
theorem dX2_init_5 : decode cX2_init 5 = .ok (.sipush 144, 3) := by decide +kernel
theorem dX2_init_8 : decode cX2_init 8 = .ok (.newarray .int, 2) := by decide +kernel
theorem dX2_init_10 : decode cX2_init 10 = .ok (.putfield 9, 3) := by decide +kernel
theorem dX2_init_13 : decode cX2_init 13 = .ok (.aload_n 0, 1) := by decide +kernel
theorem dX2_init_14 : decode cX2_init 14 = .ok (.sipush 144, 3) := by decide +kernel
theorem dX2_init_17 : decode cX2_init 17 = .ok (.newarray .int, 2) := by decide +kernel
theorem dX2_init_19 : decode cX2_init 19 = .ok (.putfield 15, 3) := by decide +kernel
theorem dX2_init_22 : decode cX2_init 22 = .ok (.aload_n 0, 1) := by decide +kernel
theorem dX2_init_23 : decode cX2_init 23 = .ok (.sipush 144, 3) := by decide +kernel
theorem dX2_init_26 : decode cX2_init 26 = .ok (.newarray .int, 2) := by decide +kernel
theorem dX2_init_28 : decode cX2_init 28 = .ok (.putfield 18, 3) := by decide +kernel
theorem dX2_init_31 : decode cX2_init 31 = .ok (.aload_n 0, 1) := by decide +kernel
theorem dX2_init_32 : decode cX2_init 32 = .ok (.sipush 144, 3) := by decide +kernel
theorem dX2_init_35 : decode cX2_init 35 = .ok (.newarray .int, 2) := by decide +kernel
theorem dX2_init_37 : decode cX2_init 37 = .ok (.putfield 21, 3) := by decide +kernel
theorem dX2_init_40 : decode cX2_init 40 = .ok (.aload_n 0, 1) := by decide +kernel
theorem dX2_init_41 : decode cX2_init 41 = .ok (.sipush 144, 3) := by decide +kernel
theorem dX2_init_44 : decode cX2_init 44 = .ok (.newarray .int, 2) := by decide +kernel
theorem dX2_init_46 : decode cX2_init 46 = .ok (.putfield 24, 3) := by decide +kernel
theorem dX2_init_49 : decode cX2_init 49 = .ok (.aload_n 0, 1) := by decide +kernel
theorem dX2_init_50 : decode cX2_init 50 = .ok (.iconst 0, 1) := by decide +kernel
theorem dX2_init_51 : decode cX2_init 51 = .ok (.putfield 27, 3) := by decide +kernel
theorem dX2_init_54 : decode cX2_init 54 = .ok (.aload_n 0, 1) := by decide +kernel
theorem dX2_init_55 : decode cX2_init 55 = .ok (.iconst (-1), 1) := by decide +kernel
theorem dX2_init_56 : decode cX2_init 56 = .ok (.putfield 31, 3) := by decide +kernel
theorem dX2_init_59 : decode cX2_init 59 = .ok (.aload_n 0, 1) := by decide +kernel
theorem dX2_init_60 : decode cX2_init 60 = .ok (.iconst (-1), 1) := by decide +kernel
theorem dX2_init_61 : decode cX2_init 61 = .ok (.putfield 34, 3) := by decide +kernel
theorem dX2_init_64 : decode cX2_init 64 = .ok (.aload_n 0, 1) := by decide +kernel
theorem dX2_init_65 : decode cX2_init 65 = .ok (.getfield 9, 3) := by decide +kernel
theorem dX2_init_68 : decode cX2_init 68 = .ok (.iload_n 1, 1) := by decide +kernel
theorem dX2_init_69 : decode cX2_init 69 = .ok (.invokestatic 37, 3) := by decide +kernel
theorem dX2_init_72 : decode cX2_init 72 = .ok (.aload_n 0, 1) := by decide +kernel
theorem dX2_init_73 : decode cX2_init 73 = .ok (.getfield 15, 3) := by decide +kernel
theorem dX2_init_76 : decode cX2_init 76 = .ok (.sipush 1000, 3) := by decide +kernel
theorem dX2_init_79 : decode cX2_init 79 = .ok (.iload_n 1, 1) := by decide +kernel
theorem dX2_init_80 : decode cX2_init 80 = .ok (.imul, 1) := by decide +kernel
theorem dX2_init_81 : decode cX2_init 81 = .ok (.invokestatic 37, 3) := by decide +kernel
theorem dX2_init_84 : decode cX2_init 84 = .ok (.aload_n 0, 1) := by decide +kernel
theorem dX2_init_85 : decode cX2_init 85 = .ok (.getfield 18, 3) := by decide +kernel
theorem dX2_init_88 : decode cX2_init 88 = .ok (.iconst (-1), 1) := by decide +kernel
theorem dX2_init_89 : decode cX2_init 89 = .ok (.invokestatic 37, 3) := by decide +kernel
theorem dX2_init_92 : decode cX2_init 92 = .ok (.aload_n 0, 1) := by decide +kernel
theorem dX2_init_93 : decode cX2_init 93 = .ok (.getfield 21, 3) := by decide +kernel
theorem dX2_init_96 : decode cX2_init 96 = .ok (.iconst (-1), 1) := by decide +kernel
theorem dX2_init_97 : decode cX2_init 97 = .ok (.invokestatic 37, 3) := by decide +kernel
theorem dX2_init_100 : decode cX2_init 100 = .ok (.return_, 1) := by decide +kernel
theorem dX3_init_0 : decode cX3_init 0 = .ok (.aload_n 0, 1) := by decide +kernel
theorem dX3_init_1 : decode cX3_init 1 = .ok (.invokespecial 3, 3) := by decide +kernel
theorem dX3_init_4 : decode cX3_init 4 = .ok (.aload_n 0, 1) := by decide +kernel
theorem dX3_init_5 : decode cX3_init 5 = .ok (.bipush 6, 2) := by decide +kernel
theorem dX3_init_7 : decode cX3_init 7 = .ok (.newarray .int, 2) := by decide +kernel
theorem dX3_init_9 : decode cX3_init 9 = .ok (.putfield 9, 3) := by decide +kernel
theorem dX3_init_12 : decode cX3_init 12 = .ok (.aload_n 0, 1) := by decide +kernel
theorem dX3_init_13 : decode cX3_init 13 = .ok (.bipush 6, 2) := by decide +kernel
theorem dX3_init_15 : decode cX3_init 15 = .ok (.newarray .int, 2) := by decide +kernel
theorem dX3_init_17 : decode cX3_init 17 = .ok (.putfield 15, 3) := by decide +kernel
theorem dX3_init_20 : decode cX3_init 20 = .ok (.aload_n 0, 1) := by decide +kernel
theorem dX3_init_21 : decode cX3_init 21 = .ok (.iload_n 1, 1) := by decide +kernel
theorem dX3_init_22 : decode cX3_init 22 = .ok (.putfield 18, 3) := by decide +kernel
theorem dX3_init_25 : decode cX3_init 25 = .ok (.aload_n 0, 1) := by decide +kernel
theorem dX3_init_26 : decode cX3_init 26 = .ok (.iload_n 2, 1) := by decide +kernel
theorem dX3_init_27 : decode cX3_init 27 = .ok (.putfield 22, 3) := by decide +kernel
theorem dX3_init_30 : decode cX3_init 30 = .ok (.aload_n 0, 1) := by decide +kernel
theorem dX3_init_31 : decode cX3_init 31 = .ok (.iload_n 3, 1) := by decide +kernel
theorem dX3_init_32 : decode cX3_init 32 = .ok (.putfield 25, 3) := by decide +kernel
theorem dX3_init_35 : decode cX3_init 35 = .ok (.aload_n 0, 1) := by decide +kernel
theorem dX3_init_36 : decode cX3_init 36 = .ok (.iload 4, 2) := by decide +kernel
theorem dX3_init_38 : decode cX3_init 38 = .ok (.putfield 28, 3) := by decide +kernel
theorem dX3_init_41 : decode cX3_init 41 = .ok (.return_, 1) := by decide +kernel
theorem dX3_append_0 : decode cX3_append 0 = .ok (.aload_n 0, 1) := by decide +kernel
theorem dX3_append_1 : decode cX3_append 1 = .ok (.getfield 31, 3) := by decide +kernel
theorem dX3_append_4 : decode cX3_append 4 = .ok (.bipush 6, 2) := by decide +kernel
theorem dX3_append_6 : decode cX3_append 6 = .ok (.if_icmp .ge 33, 3) := by decide +kernel
theorem dX3_append_9 : decode cX3_append 9 = .ok (.aload_n 0, 1) := by decide +kernel
theorem dX3_append_10 : decode cX3_append 10 = .ok (.getfield 9, 3) := by decide +kernel
theorem dX3_append_13 : decode cX3_append 13 = .ok (.aload_n 0, 1) := by decide +kernel
theorem dX3_append_14 : decode cX3_append 14 = .ok (.getfield 31, 3) := by decide +kernel
theorem dX3_append_17 : decode cX3_append 17 = .ok (.iload_n 1, 1) := by decide +kernel
theorem dX3_append_18 : decode cX3_append 18 = .ok (.iastore, 1) := by decide +kernel
theorem dX3_append_19 : decode cX3_append 19 = .ok (.aload_n 0, 1) := by decide +kernel
theorem dX3_append_20 : decode cX3_append 20 = .ok (.getfield 15, 3) := by decide +kernel
theorem dX3_append_23 : decode cX3_append 23 = .ok (.aload_n 0, 1) := by decide +kernel
theorem dX3_append_24 : decode cX3_append 24 = .ok (.getfield 31, 3) := by decide +kernel
theorem dX3_append_27 : decode cX3_append 27 = .ok (.iload_n 2, 1) := by decide +kernel
theorem dX3_append_28 : decode cX3_append 28 = .ok (.iastore, 1) := by decide +kernel
theorem dX3_append_29 : decode cX3_append 29 = .ok (.aload_n 0, 1) := by decide +kernel
theorem dX3_append_30 : decode cX3_append 30 = .ok (.dup, 1) := by decide +kernel
theorem dX3_append_31 : decode cX3_append 31 = .ok (.getfield 31, 3) := by decide +kernel
theorem dX3_append_34 : decode cX3_append 34 = .ok (.iconst 1, 1) := by decide +kernel
theorem dX3_append_35 : decode cX3_append 35 = .ok (.iadd, 1) := by decide +kernel
theorem dX3_append_36 : decode cX3_append 36 = .ok (.putfield 31, 3) := by decide +kernel
theorem dX3_append_39 : decode cX3_append 39 = .ok (.return_, 1) := by decide +kernel
theorem dX3_verdict_0 : decode cX3_verdict 0 = .ok (.iconst 0, 1) := by decide +kernel
theorem dX3_verdict_1 : decode cX3_verdict 1 = .ok (.istore_n 1, 1) := by decide +kernel
theorem dX3_verdict_2 : decode cX3_verdict 2 = .ok (.iconst 0, 1) := by decide +kernel
theorem dX3_verdict_3 : decode cX3_verdict 3 = .ok (.istore_n 2, 1) := by decide +kernel
theorem dX3_verdict_4 : decode cX3_verdict 4 = .ok (.iload_n 2, 1) := by decide +kernel
theorem dX3_verdict_5 : decode cX3_verdict 5 = .ok (.aload_n 0, 1) := by decide +kernel
theorem dX3_verdict_6 : decode cX3_verdict 6 = .ok (.getfield 31, 3) := by decide +kernel
theorem dX3_verdict_9 : decode cX3_verdict 9 = .ok (.if_icmp .ge 53, 3) := by decide +kernel
theorem dX3_verdict_12 : decode cX3_verdict 12 = .ok (.aload_n 0, 1) := by decide +kernel
theorem dX3_verdict_13 : decode cX3_verdict 13 = .ok (.getfield 9, 3) := by decide +kernel
theorem dX3_verdict_16 : decode cX3_verdict 16 = .ok (.iload_n 2, 1) := by decide +kernel
theorem dX3_verdict_17 : decode cX3_verdict 17 = .ok (.iaload, 1) := by decide +kernel
theorem dX3_verdict_18 : decode cX3_verdict 18 = .ok (.invokestatic 34, 3) := by decide +kernel
theorem dX3_verdict_21 : decode cX3_verdict 21 = .ok (.istore_n 3, 1) := by decide +kernel
theorem dX3_verdict_22 : decode cX3_verdict 22 = .ok (.iload_n 3, 1) := by decide +kernel
theorem dX3_verdict_23 : decode cX3_verdict 23 = .ok (.aload_n 0, 1) := by decide +kernel
theorem dX3_verdict_24 : decode cX3_verdict 24 = .ok (.getfield 15, 3) := by decide +kernel
theorem dX3_verdict_27 : decode cX3_verdict 27 = .ok (.iload_n 2, 1) := by decide +kernel
theorem dX3_verdict_28 : decode cX3_verdict 28 = .ok (.iaload, 1) := by decide +kernel
theorem dX3_verdict_29 : decode cX3_verdict 29 = .ok (.aload_n 0, 1) := by decide +kernel
theorem dX3_verdict_30 : decode cX3_verdict 30 = .ok (.getfield 28, 3) := by decide +kernel
theorem dX3_verdict_33 : decode cX3_verdict 33 = .ok (.iadd, 1) := by decide +kernel
theorem dX3_verdict_34 : decode cX3_verdict 34 = .ok (.if_icmp .le 5, 3) := by decide +kernel
theorem dX3_verdict_37 : decode cX3_verdict 37 = .ok (.iconst 2, 1) := by decide +kernel
theorem dX3_verdict_38 : decode cX3_verdict 38 = .ok (.ireturn, 1) := by decide +kernel
theorem dX3_verdict_39 : decode cX3_verdict 39 = .ok (.iload_n 3, 1) := by decide +kernel
theorem dX3_verdict_40 : decode cX3_verdict 40 = .ok (.aload_n 0, 1) := by decide +kernel
theorem dX3_verdict_41 : decode cX3_verdict 41 = .ok (.getfield 15, 3) := by decide +kernel
theorem dX3_verdict_44 : decode cX3_verdict 44 = .ok (.iload_n 2, 1) := by decide +kernel
theorem dX3_verdict_45 : decode cX3_verdict 45 = .ok (.iaload, 1) := by decide +kernel
theorem dX3_verdict_46 : decode cX3_verdict 46 = .ok (.aload_n 0, 1) := by decide +kernel
theorem dX3_verdict_47 : decode cX3_verdict 47 = .ok (.getfield 28, 3) := by decide +kernel
theorem dX3_verdict_50 : decode cX3_verdict 50 = .ok (.isub, 1) := by decide +kernel
theorem dX3_verdict_51 : decode cX3_verdict 51 = .ok (.if_icmp .le 5, 3) := by decide +kernel
theorem dX3_verdict_54 : decode cX3_verdict 54 = .ok (.iconst 1, 1) := by decide +kernel
theorem dX3_verdict_55 : decode cX3_verdict 55 = .ok (.istore_n 1, 1) := by decide +kernel
theorem dX3_verdict_56 : decode cX3_verdict 56 = .ok (.iinc 2 1, 3) := by decide +kernel
theorem dX3_verdict_59 : decode cX3_verdict 59 = .ok (.goto (-55), 3) := by decide +kernel
theorem dX3_verdict_62 : decode cX3_verdict 62 = .ok (.iload_n 1, 1) := by decide +kernel
theorem dX3_verdict_63 : decode cX3_verdict 63 = .ok (.ireturn, 1) := by decide +kernel
theorem dX4_init_0 : decode cX4_init 0 = .ok (.aload_n 0, 1) := by decide +kernel
theorem dX4_init_1 : decode cX4_init 1 = .ok (.invokespecial 3, 3) := by decide +kernel
theorem dX4_init_4 : decode cX4_init 4 = .ok (.aload_n 0, 1) := by decide +kernel
theorem dX4_init_5 : decode cX4_init 5 = .ok (.bipush 30, 2) := by decide +kernel
theorem dX4_init_7 : decode cX4_init 7 = .ok (.newarray .int, 2) := by decide +kernel
theorem dX4_init_9 : decode cX4_init 9 = .ok (.putfield 9, 3) := by decide +kernel
theorem dX4_init_12 : decode cX4_init 12 = .ok (.aload_n 0, 1) := by decide +kernel
theorem dX4_init_13 : decode cX4_init 13 = .ok (.bipush 30, 2) := by decide +kernel
theorem dX4_init_15 : decode cX4_init 15 = .ok (.newarray .int, 2) := by decide +kernel
theorem dX4_init_17 : decode cX4_init 17 = .ok (.putfield 15, 3) := by decide +kernel
theorem dX4_init_20 : decode cX4_init 20 = .ok (.return_, 1) := by decide +kernel
theorem dX4_append_0 : decode cX4_append 0 = .ok (.aload_n 0, 1) := by decide +kernel
theorem dX4_append_1 : decode cX4_append 1 = .ok (.getfield 18, 3) := by decide +kernel
theorem dX4_append_4 : decode cX4_append 4 = .ok (.bipush 30, 2) := by decide +kernel
theorem dX4_append_6 : decode cX4_append 6 = .ok (.if_icmp .ge 33, 3) := by decide +kernel
theorem dX4_append_9 : decode cX4_append 9 = .ok (.aload_n 0, 1) := by decide +kernel
theorem dX4_append_10 : decode cX4_append 10 = .ok (.getfield 9, 3) := by decide +kernel
theorem dX4_append_13 : decode cX4_append 13 = .ok (.aload_n 0, 1) := by decide +kernel
theorem dX4_append_14 : decode cX4_append 14 = .ok (.getfield 18, 3) := by decide +kernel
theorem dX4_append_17 : decode cX4_append 17 = .ok (.iload_n 1, 1) := by decide +kernel
theorem dX4_append_18 : decode cX4_append 18 = .ok (.iastore, 1) := by decide +kernel
theorem dX4_append_19 : decode cX4_append 19 = .ok (.aload_n 0, 1) := by decide +kernel
theorem dX4_append_20 : decode cX4_append 20 = .ok (.getfield 15, 3) := by decide +kernel
theorem dX4_append_23 : decode cX4_append 23 = .ok (.aload_n 0, 1) := by decide +kernel
theorem dX4_append_24 : decode cX4_append 24 = .ok (.getfield 18, 3) := by decide +kernel
theorem dX4_append_27 : decode cX4_append 27 = .ok (.iload_n 2, 1) := by decide +kernel
theorem dX4_append_28 : decode cX4_append 28 = .ok (.iastore, 1) := by decide +kernel
theorem dX4_append_29 : decode cX4_append 29 = .ok (.aload_n 0, 1) := by decide +kernel
theorem dX4_append_30 : decode cX4_append 30 = .ok (.dup, 1) := by decide +kernel
theorem dX4_append_31 : decode cX4_append 31 = .ok (.getfield 18, 3) := by decide +kernel
theorem dX4_append_34 : decode cX4_append 34 = .ok (.iconst 1, 1) := by decide +kernel
theorem dX4_append_35 : decode cX4_append 35 = .ok (.iadd, 1) := by decide +kernel
theorem dX4_append_36 : decode cX4_append 36 = .ok (.putfield 18, 3) := by decide +kernel
theorem dX4_append_39 : decode cX4_append 39 = .ok (.return_, 1) := by decide +kernel
theorem dX5_init_0 : decode cX5_init 0 = .ok (.aload_n 0, 1) := by decide +kernel
theorem dX5_init_1 : decode cX5_init 1 = .ok (.invokespecial 3, 3) := by decide +kernel
theorem dX5_init_4 : decode cX5_init 4 = .ok (.aload_n 0, 1) := by decide +kernel
theorem dX5_init_5 : decode cX5_init 5 = .ok (.iconst 3, 1) := by decide +kernel
theorem dX5_init_6 : decode cX5_init 6 = .ok (.newarray .int, 2) := by decide +kernel
theorem dX5_init_8 : decode cX5_init 8 = .ok (.putfield 9, 3) := by decide +kernel
theorem dX5_init_11 : decode cX5_init 11 = .ok (.aload_n 0, 1) := by decide +kernel
theorem dX5_init_12 : decode cX5_init 12 = .ok (.iload_n 1, 1) := by decide +kernel
theorem dX5_init_13 : decode cX5_init 13 = .ok (.putfield 15, 3) := by decide +kernel
theorem dX5_init_16 : decode cX5_init 16 = .ok (.aload_n 0, 1) := by decide +kernel
theorem dX5_init_17 : decode cX5_init 17 = .ok (.iload_n 2, 1) := by decide +kernel
theorem dX5_init_18 : decode cX5_init 18 = .ok (.putfield 19, 3) := by decide +kernel
theorem dX5_init_21 : decode cX5_init 21 = .ok (.aload_n 0, 1) := by decide +kernel
theorem dX5_init_22 : decode cX5_init 22 = .ok (.iload_n 3, 1) := by decide +kernel
theorem dX5_init_23 : decode cX5_init 23 = .ok (.putfield 22, 3) := by decide +kernel
theorem dX5_init_26 : decode cX5_init 26 = .ok (.return_, 1) := by decide +kernel
theorem dX5_leftFor_0 : decode cX5_leftFor 0 = .ok (.aload_n 0, 1) := by decide +kernel
theorem dX5_leftFor_1 : decode cX5_leftFor 1 = .ok (.getfield 25, 3) := by decide +kernel
theorem dX5_leftFor_4 : decode cX5_leftFor 4 = .ok (.ifCond .eq 23, 3) := by decide +kernel
theorem dX5_leftFor_7 : decode cX5_leftFor 7 = .ok (.aload_n 0, 1) := by decide +kernel
theorem dX5_leftFor_8 : decode cX5_leftFor 8 = .ok (.getfield 19, 3) := by decide +kernel
theorem dX5_leftFor_11 : decode cX5_leftFor 11 = .ok (.iload_n 1, 1) := by decide +kernel
theorem dX5_leftFor_12 : decode cX5_leftFor 12 = .ok (.if_icmp .ne 15, 3) := by decide +kernel
theorem dX5_leftFor_15 : decode cX5_leftFor 15 = .ok (.aload_n 0, 1) := by decide +kernel
theorem dX5_leftFor_16 : decode cX5_leftFor 16 = .ok (.getfield 22, 3) := by decide +kernel
theorem dX5_leftFor_19 : decode cX5_leftFor 19 = .ok (.aload_n 0, 1) := by decide +kernel
theorem dX5_leftFor_20 : decode cX5_leftFor 20 = .ok (.getfield 29, 3) := by decide +kernel
theorem dX5_leftFor_23 : decode cX5_leftFor 23 = .ok (.isub, 1) := by decide +kernel
theorem dX5_leftFor_24 : decode cX5_leftFor 24 = .ok (.goto 4, 3) := by decide +kernel
theorem dX5_leftFor_27 : decode cX5_leftFor 27 = .ok (.iconst 0, 1) := by decide +kernel
theorem dX5_leftFor_28 : decode cX5_leftFor 28 = .ok (.ireturn, 1) := by decide +kernel
theorem dX5_hear_0 : decode cX5_hear 0 = .ok (.aload_n 0, 1) := by decide +kernel
theorem dX5_hear_1 : decode cX5_hear 1 = .ok (.getfield 9, 3) := by decide +kernel
theorem dX5_hear_4 : decode cX5_hear 4 = .ok (.aload_n 0, 1) := by decide +kernel
theorem dX5_hear_5 : decode cX5_hear 5 = .ok (.getfield 32, 3) := by decide +kernel
theorem dX5_hear_8 : decode cX5_hear 8 = .ok (.iconst 3, 1) := by decide +kernel
theorem dX5_hear_9 : decode cX5_hear 9 = .ok (.irem, 1) := by decide +kernel
theorem dX5_hear_10 : decode cX5_hear 10 = .ok (.iload_n 1, 1) := by decide +kernel
theorem dX5_hear_11 : decode cX5_hear 11 = .ok (.iastore, 1) := by decide +kernel
theorem dX5_hear_12 : decode cX5_hear 12 = .ok (.aload_n 0, 1) := by decide +kernel
theorem dX5_hear_13 : decode cX5_hear 13 = .ok (.dup, 1) := by decide +kernel
theorem dX5_hear_14 : decode cX5_hear 14 = .ok (.getfield 32, 3) := by decide +kernel
theorem dX5_hear_17 : decode cX5_hear 17 = .ok (.iconst 1, 1) := by decide +kernel
theorem dX5_hear_18 : decode cX5_hear 18 = .ok (.iadd, 1) := by decide +kernel
theorem dX5_hear_19 : decode cX5_hear 19 = .ok (.putfield 32, 3) := by decide +kernel
theorem dX5_hear_22 : decode cX5_hear 22 = .ok (.return_, 1) := by decide +kernel
theorem dX5_correctOffset_0 : decode cX5_correctOffset 0 = .ok (.aload_n 0, 1) := by decide +kernel
theorem dX5_correctOffset_1 : decode cX5_correctOffset 1 = .ok (.getfield 32, 3) := by decide +kernel
theorem dX5_correctOffset_4 : decode cX5_correctOffset 4 = .ok (.iconst 3, 1) := by decide +kernel
theorem dX5_correctOffset_5 : decode cX5_correctOffset 5 = .ok (.if_icmp .lt 10, 3) := by decide +kernel
theorem dX5_correctOffset_8 : decode cX5_correctOffset 8 = .ok (.aload_n 0, 1) := by decide +kernel
theorem dX5_correctOffset_9 : decode cX5_correctOffset 9 = .ok (.invokevirtual 35, 3) := by decide +kernel
theorem dX5_correctOffset_12 : decode cX5_correctOffset 12 = .ok (.ifCond .ne 5, 3) := by decide +kernel
theorem dX5_correctOffset_15 : decode cX5_correctOffset 15 = .ok (.iconst 0, 1) := by decide +kernel
theorem dX5_correctOffset_16 : decode cX5_correctOffset 16 = .ok (.ireturn, 1) := by decide +kernel
theorem dX5_correctOffset_17 : decode cX5_correctOffset 17 = .ok (.iconst 0, 1) := by decide +kernel
theorem dX5_correctOffset_18 : decode cX5_correctOffset 18 = .ok (.istore_n 1, 1) := by decide +kernel
theorem dX5_correctOffset_19 : decode cX5_correctOffset 19 = .ok (.iconst 0, 1) := by decide +kernel
theorem dX5_correctOffset_20 : decode cX5_correctOffset 20 = .ok (.istore_n 2, 1) := by decide +kernel
theorem dX5_correctOffset_21 : decode cX5_correctOffset 21 = .ok (.iload_n 2, 1) := by decide +kernel
theorem dX5_correctOffset_22 : decode cX5_correctOffset 22 = .ok (.iconst 3, 1) := by decide +kernel
theorem dX5_correctOffset_23 : decode cX5_correctOffset 23 = .ok (.if_icmp .ge 18, 3) := by decide +kernel
theorem dX5_correctOffset_26 : decode cX5_correctOffset 26 = .ok (.iload_n 1, 1) := by decide +kernel
theorem dX5_correctOffset_27 : decode cX5_correctOffset 27 = .ok (.aload_n 0, 1) := by decide +kernel
theorem dX5_correctOffset_28 : decode cX5_correctOffset 28 = .ok (.getfield 9, 3) := by decide +kernel
theorem dX5_correctOffset_31 : decode cX5_correctOffset 31 = .ok (.iload_n 2, 1) := by decide +kernel
theorem dX5_correctOffset_32 : decode cX5_correctOffset 32 = .ok (.iaload, 1) := by decide +kernel
theorem dX5_correctOffset_33 : decode cX5_correctOffset 33 = .ok (.iadd, 1) := by decide +kernel
theorem dX5_correctOffset_34 : decode cX5_correctOffset 34 = .ok (.istore_n 1, 1) := by decide +kernel
theorem dX5_correctOffset_35 : decode cX5_correctOffset 35 = .ok (.iinc 2 1, 3) := by decide +kernel
theorem dX5_correctOffset_38 : decode cX5_correctOffset 38 = .ok (.goto (-17), 3) := by decide +kernel
theorem dX5_correctOffset_41 : decode cX5_correctOffset 41 = .ok (.aload_n 0, 1) := by decide +kernel
theorem dX5_correctOffset_42 : decode cX5_correctOffset 42 = .ok (.getfield 39, 3) := by decide +kernel
theorem dX5_correctOffset_45 : decode cX5_correctOffset 45 = .ok (.istore_n 2, 1) := by decide +kernel
theorem dX5_correctOffset_46 : decode cX5_correctOffset 46 = .ok (.aload_n 0, 1) := by decide +kernel
theorem dX5_correctOffset_47 : decode cX5_correctOffset 47 = .ok (.sipush (-200), 3) := by decide +kernel
theorem dX5_correctOffset_50 : decode cX5_correctOffset 50 = .ok (.sipush 200, 3) := by decide +kernel
theorem dX5_correctOffset_53 : decode cX5_correctOffset 53 = .ok (.iload_n 2, 1) := by decide +kernel
theorem dX5_correctOffset_54 : decode cX5_correctOffset 54 = .ok (.iload_n 1, 1) := by decide +kernel
theorem dX5_correctOffset_55 : decode cX5_correctOffset 55 = .ok (.iconst 3, 1) := by decide +kernel
theorem dX5_correctOffset_56 : decode cX5_correctOffset 56 = .ok (.idiv, 1) := by decide +kernel
theorem dX5_correctOffset_57 : decode cX5_correctOffset 57 = .ok (.iconst 2, 1) := by decide +kernel
theorem dX5_correctOffset_58 : decode cX5_correctOffset 58 = .ok (.idiv, 1) := by decide +kernel
theorem dX5_correctOffset_59 : decode cX5_correctOffset 59 = .ok (.iadd, 1) := by decide +kernel
theorem dX5_correctOffset_60 : decode cX5_correctOffset 60 = .ok (.invokestatic 42, 3) := by decide +kernel
theorem dX5_correctOffset_63 : decode cX5_correctOffset 63 = .ok (.invokestatic 48, 3) := by decide +kernel
theorem dX5_correctOffset_66 : decode cX5_correctOffset 66 = .ok (.putfield 39, 3) := by decide +kernel
theorem dX5_correctOffset_69 : decode cX5_correctOffset 69 = .ok (.aload_n 0, 1) := by decide +kernel
theorem dX5_correctOffset_70 : decode cX5_correctOffset 70 = .ok (.iconst 0, 1) := by decide +kernel
theorem dX5_correctOffset_71 : decode cX5_correctOffset 71 = .ok (.putfield 32, 3) := by decide +kernel
theorem dX5_correctOffset_74 : decode cX5_correctOffset 74 = .ok (.aload_n 0, 1) := by decide +kernel
theorem dX5_correctOffset_75 : decode cX5_correctOffset 75 = .ok (.getfield 39, 3) := by decide +kernel
theorem dX5_correctOffset_78 : decode cX5_correctOffset 78 = .ok (.iload_n 2, 1) := by decide +kernel
theorem dX5_correctOffset_79 : decode cX5_correctOffset 79 = .ok (.isub, 1) := by decide +kernel
theorem dX5_correctOffset_80 : decode cX5_correctOffset 80 = .ok (.ireturn, 1) := by decide +kernel
theorem dX5_isOneWay_0 : decode cX5_isOneWay 0 = .ok (.iconst 0, 1) := by decide +kernel
theorem dX5_isOneWay_1 : decode cX5_isOneWay 1 = .ok (.istore_n 1, 1) := by decide +kernel
theorem dX5_isOneWay_2 : decode cX5_isOneWay 2 = .ok (.iconst 0, 1) := by decide +kernel
theorem dX5_isOneWay_3 : decode cX5_isOneWay 3 = .ok (.istore_n 2, 1) := by decide +kernel
theorem dX5_isOneWay_4 : decode cX5_isOneWay 4 = .ok (.iconst 0, 1) := by decide +kernel
theorem dX5_isOneWay_5 : decode cX5_isOneWay 5 = .ok (.istore_n 3, 1) := by decide +kernel
theorem dX5_isOneWay_6 : decode cX5_isOneWay 6 = .ok (.iload_n 3, 1) := by decide +kernel
theorem dX5_isOneWay_7 : decode cX5_isOneWay 7 = .ok (.iconst 3, 1) := by decide +kernel
theorem dX5_isOneWay_8 : decode cX5_isOneWay 8 = .ok (.if_icmp .ge 43, 3) := by decide +kernel
theorem dX5_isOneWay_11 : decode cX5_isOneWay 11 = .ok (.iload_n 1, 1) := by decide +kernel
theorem dX5_isOneWay_12 : decode cX5_isOneWay 12 = .ok (.aload_n 0, 1) := by decide +kernel
theorem dX5_isOneWay_13 : decode cX5_isOneWay 13 = .ok (.getfield 9, 3) := by decide +kernel
theorem dX5_isOneWay_16 : decode cX5_isOneWay 16 = .ok (.iload_n 3, 1) := by decide +kernel
theorem dX5_isOneWay_17 : decode cX5_isOneWay 17 = .ok (.iaload, 1) := by decide +kernel
theorem dX5_isOneWay_18 : decode cX5_isOneWay 18 = .ok (.ifCond .le 7, 3) := by decide +kernel
theorem dX5_isOneWay_21 : decode cX5_isOneWay 21 = .ok (.iconst 1, 1) := by decide +kernel
theorem dX5_isOneWay_22 : decode cX5_isOneWay 22 = .ok (.goto 4, 3) := by decide +kernel
theorem dX5_isOneWay_25 : decode cX5_isOneWay 25 = .ok (.iconst 0, 1) := by decide +kernel
theorem dX5_isOneWay_26 : decode cX5_isOneWay 26 = .ok (.iadd, 1) := by decide +kernel
theorem dX5_isOneWay_27 : decode cX5_isOneWay 27 = .ok (.istore_n 1, 1) := by decide +kernel
theorem dX5_isOneWay_28 : decode cX5_isOneWay 28 = .ok (.iload_n 2, 1) := by decide +kernel
theorem dX5_isOneWay_29 : decode cX5_isOneWay 29 = .ok (.aload_n 0, 1) := by decide +kernel
theorem dX5_isOneWay_30 : decode cX5_isOneWay 30 = .ok (.getfield 9, 3) := by decide +kernel
theorem dX5_isOneWay_33 : decode cX5_isOneWay 33 = .ok (.iload_n 3, 1) := by decide +kernel
theorem dX5_isOneWay_34 : decode cX5_isOneWay 34 = .ok (.iaload, 1) := by decide +kernel
theorem dX5_isOneWay_35 : decode cX5_isOneWay 35 = .ok (.ifCond .ge 7, 3) := by decide +kernel
theorem dX5_isOneWay_38 : decode cX5_isOneWay 38 = .ok (.iconst 1, 1) := by decide +kernel
theorem dX5_isOneWay_39 : decode cX5_isOneWay 39 = .ok (.goto 4, 3) := by decide +kernel
theorem dX5_isOneWay_42 : decode cX5_isOneWay 42 = .ok (.iconst 0, 1) := by decide +kernel
theorem dX5_isOneWay_43 : decode cX5_isOneWay 43 = .ok (.iadd, 1) := by decide +kernel
theorem dX5_isOneWay_44 : decode cX5_isOneWay 44 = .ok (.istore_n 2, 1) := by decide +kernel
theorem dX5_isOneWay_45 : decode cX5_isOneWay 45 = .ok (.iinc 3 1, 3) := by decide +kernel
theorem dX5_isOneWay_48 : decode cX5_isOneWay 48 = .ok (.goto (-42), 3) := by decide +kernel
theorem dX5_isOneWay_51 : decode cX5_isOneWay 51 = .ok (.iload_n 1, 1) := by decide +kernel
theorem dX5_isOneWay_52 : decode cX5_isOneWay 52 = .ok (.iconst 3, 1) := by decide +kernel
theorem dX5_isOneWay_53 : decode cX5_isOneWay 53 = .ok (.if_icmp .eq 8, 3) := by decide +kernel
theorem dX5_isOneWay_56 : decode cX5_isOneWay 56 = .ok (.iload_n 2, 1) := by decide +kernel
theorem dX5_isOneWay_57 : decode cX5_isOneWay 57 = .ok (.iconst 3, 1) := by decide +kernel
theorem dX5_isOneWay_58 : decode cX5_isOneWay 58 = .ok (.if_icmp .ne 7, 3) := by decide +kernel
theorem dX5_isOneWay_61 : decode cX5_isOneWay 61 = .ok (.iconst 1, 1) := by decide +kernel
theorem dX5_isOneWay_62 : decode cX5_isOneWay 62 = .ok (.goto 4, 3) := by decide +kernel
theorem dX5_isOneWay_65 : decode cX5_isOneWay 65 = .ok (.iconst 0, 1) := by decide +kernel
theorem dX5_isOneWay_66 : decode cX5_isOneWay 66 = .ok (.ireturn, 1) := by decide +kernel
theorem dX6_init_0 : decode cX6_init 0 = .ok (.aload_n 0, 1) := by decide +kernel
theorem dX6_init_1 : decode cX6_init 1 = .ok (.invokespecial 3, 3) := by decide +kernel
theorem dX6_init_4 : decode cX6_init 4 = .ok (.aload_n 0, 1) := by decide +kernel
theorem dX6_init_5 : decode cX6_init 5 = .ok (.sipush 144, 3) := by decide +kernel
theorem dX6_init_8 : decode cX6_init 8 = .ok (.newarray .int, 2) := by decide +kernel
theorem dX6_init_10 : decode cX6_init 10 = .ok (.putfield 9, 3) := by decide +kernel
theorem dX6_init_13 : decode cX6_init 13 = .ok (.aload_n 0, 1) := by decide +kernel
theorem dX6_init_14 : decode cX6_init 14 = .ok (.iconst 4, 1) := by decide +kernel
theorem dX6_init_15 : decode cX6_init 15 = .ok (.newarray .int, 2) := by decide +kernel
theorem dX6_init_17 : decode cX6_init 17 = .ok (.putfield 15, 3) := by decide +kernel
theorem dX6_init_20 : decode cX6_init 20 = .ok (.return_, 1) := by decide +kernel
theorem dX6_run_0 : decode cX6_run 0 = .ok (.aload_n 2, 1) := by decide +kernel
theorem dX6_run_1 : decode cX6_run 1 = .ok (.getfield 18, 3) := by decide +kernel
theorem dX6_run_4 : decode cX6_run 4 = .ok (.iconst 0, 1) := by decide +kernel
theorem dX6_run_5 : decode cX6_run 5 = .ok (.aload_n 0, 1) := by decide +kernel
theorem dX6_run_6 : decode cX6_run 6 = .ok (.getfield 9, 3) := by decide +kernel
theorem dX6_run_9 : decode cX6_run 9 = .ok (.iconst 0, 1) := by decide +kernel
theorem dX6_run_10 : decode cX6_run 10 = .ok (.sipush 144, 3) := by decide +kernel
theorem dX6_run_13 : decode cX6_run 13 = .ok (.invokestatic 21, 3) := by decide +kernel
theorem dX6_run_16 : decode cX6_run 16 = .ok (.aload_n 0, 1) := by decide +kernel
theorem dX6_run_17 : decode cX6_run 17 = .ok (.getfield 15, 3) := by decide +kernel
theorem dX6_run_20 : decode cX6_run 20 = .ok (.iconst 0, 1) := by decide +kernel
theorem dX6_run_21 : decode cX6_run 21 = .ok (.invokestatic 27, 3) := by decide +kernel
theorem dX6_run_24 : decode cX6_run 24 = .ok (.aload_n 0, 1) := by decide +kernel
theorem dX6_run_25 : decode cX6_run 25 = .ok (.iconst 0, 1) := by decide +kernel
theorem dX6_run_26 : decode cX6_run 26 = .ok (.putfield 33, 3) := by decide +kernel
theorem dX6_run_29 : decode cX6_run 29 = .ok (.aload_n 0, 1) := by decide +kernel
theorem dX6_run_30 : decode cX6_run 30 = .ok (.iconst 0, 1) := by decide +kernel
theorem dX6_run_31 : decode cX6_run 31 = .ok (.putfield 37, 3) := by decide +kernel
theorem dX6_run_34 : decode cX6_run 34 = .ok (.aload_n 1, 1) := by decide +kernel
theorem dX6_run_35 : decode cX6_run 35 = .ok (.iload_n 3, 1) := by decide +kernel
theorem dX6_run_36 : decode cX6_run 36 = .ok (.invokevirtual 40, 3) := by decide +kernel
theorem dX6_run_39 : decode cX6_run 39 = .ok (.iconst 0, 1) := by decide +kernel
theorem dX6_run_40 : decode cX6_run 40 = .ok (.istore 5, 2) := by decide +kernel
theorem dX6_run_42 : decode cX6_run 42 = .ok (.iload 5, 2) := by decide +kernel
theorem dX6_run_44 : decode cX6_run 44 = .ok (.sipush 6600, 3) := by decide +kernel
theorem dX6_run_47 : decode cX6_run 47 = .ok (.if_icmp .gt 120, 3) := by decide +kernel
theorem dX6_run_50 : decode cX6_run 50 = .ok (.aload_n 1, 1) := by decide +kernel
theorem dX6_run_51 : decode cX6_run 51 = .ok (.invokevirtual 46, 3) := by decide +kernel
theorem dX6_run_54 : decode cX6_run 54 = .ok (.ifCond .eq 113, 3) := by decide +kernel
theorem dX6_run_57 : decode cX6_run 57 = .ok (.iload 5, 2) := by decide +kernel
theorem dX6_run_59 : decode cX6_run 59 = .ok (.iload 4, 2) := by decide +kernel
theorem dX6_run_61 : decode cX6_run 61 = .ok (.if_icmp .ge 6, 3) := by decide +kernel
theorem dX6_run_64 : decode cX6_run 64 = .ok (.goto 97, 3) := by decide +kernel
theorem dX6_run_67 : decode cX6_run 67 = .ok (.aload_n 1, 1) := by decide +kernel
theorem dX6_run_68 : decode cX6_run 68 = .ok (.aload_n 2, 1) := by decide +kernel
theorem dX6_run_69 : decode cX6_run 69 = .ok (.getfield 50, 3) := by decide +kernel
theorem dX6_run_72 : decode cX6_run 72 = .ok (.invokevirtual 53, 3) := by decide +kernel
theorem dX6_run_75 : decode cX6_run 75 = .ok (.ifCond .ne 21, 3) := by decide +kernel
theorem dX6_run_78 : decode cX6_run 78 = .ok (.aload_n 1, 1) := by decide +kernel
theorem dX6_run_79 : decode cX6_run 79 = .ok (.aload_n 0, 1) := by decide +kernel
theorem dX6_run_80 : decode cX6_run 80 = .ok (.getfield 9, 3) := by decide +kernel
theorem dX6_run_83 : decode cX6_run 83 = .ok (.invokevirtual 53, 3) := by decide +kernel
theorem dX6_run_86 : decode cX6_run 86 = .ok (.ifCond .eq 16, 3) := by decide +kernel
theorem dX6_run_89 : decode cX6_run 89 = .ok (.aload_n 1, 1) := by decide +kernel
theorem dX6_run_90 : decode cX6_run 90 = .ok (.invokevirtual 57, 3) := by decide +kernel
theorem dX6_run_93 : decode cX6_run 93 = .ok (.ifCond .ne 9, 3) := by decide +kernel
theorem dX6_run_96 : decode cX6_run 96 = .ok (.aload_n 0, 1) := by decide +kernel
theorem dX6_run_97 : decode cX6_run 97 = .ok (.iconst 3, 1) := by decide +kernel
theorem dX6_run_98 : decode cX6_run 98 = .ok (.putfield 60, 3) := by decide +kernel
theorem dX6_run_101 : decode cX6_run 101 = .ok (.return_, 1) := by decide +kernel
theorem dX6_run_102 : decode cX6_run 102 = .ok (.aload_n 0, 1) := by decide +kernel
theorem dX6_run_103 : decode cX6_run 103 = .ok (.dup, 1) := by decide +kernel
theorem dX6_run_104 : decode cX6_run 104 = .ok (.getfield 33, 3) := by decide +kernel
theorem dX6_run_107 : decode cX6_run 107 = .ok (.iconst 1, 1) := by decide +kernel
theorem dX6_run_108 : decode cX6_run 108 = .ok (.iadd, 1) := by decide +kernel
theorem dX6_run_109 : decode cX6_run 109 = .ok (.putfield 33, 3) := by decide +kernel
theorem dX6_run_112 : decode cX6_run 112 = .ok (.aload_n 1, 1) := by decide +kernel
theorem dX6_run_113 : decode cX6_run 113 = .ok (.aload_n 0, 1) := by decide +kernel
theorem dX6_run_114 : decode cX6_run 114 = .ok (.getfield 9, 3) := by decide +kernel
theorem dX6_run_117 : decode cX6_run 117 = .ok (.invokevirtual 53, 3) := by decide +kernel
theorem dX6_run_120 : decode cX6_run 120 = .ok (.ifCond .eq 41, 3) := by decide +kernel
theorem dX6_run_123 : decode cX6_run 123 = .ok (.aload_n 0, 1) := by decide +kernel
theorem dX6_run_124 : decode cX6_run 124 = .ok (.dup, 1) := by decide +kernel
theorem dX6_run_125 : decode cX6_run 125 = .ok (.getfield 37, 3) := by decide +kernel
theorem dX6_run_128 : decode cX6_run 128 = .ok (.iconst 1, 1) := by decide +kernel
theorem dX6_run_129 : decode cX6_run 129 = .ok (.iadd, 1) := by decide +kernel
theorem dX6_run_130 : decode cX6_run 130 = .ok (.putfield 37, 3) := by decide +kernel
theorem dX6_run_133 : decode cX6_run 133 = .ok (.aload_n 0, 1) := by decide +kernel
theorem dX6_run_134 : decode cX6_run 134 = .ok (.getfield 15, 3) := by decide +kernel
theorem dX6_run_137 : decode cX6_run 137 = .ok (.aload_n 1, 1) := by decide +kernel
theorem dX6_run_138 : decode cX6_run 138 = .ok (.getfield 63, 3) := by decide +kernel
theorem dX6_run_141 : decode cX6_run 141 = .ok (.dup2, 1) := by decide +kernel
theorem dX6_run_142 : decode cX6_run 142 = .ok (.iaload, 1) := by decide +kernel
theorem dX6_run_143 : decode cX6_run 143 = .ok (.iconst 1, 1) := by decide +kernel
theorem dX6_run_144 : decode cX6_run 144 = .ok (.iadd, 1) := by decide +kernel
theorem dX6_run_145 : decode cX6_run 145 = .ok (.iastore, 1) := by decide +kernel
theorem dX6_run_146 : decode cX6_run 146 = .ok (.aload_n 0, 1) := by decide +kernel
theorem dX6_run_147 : decode cX6_run 147 = .ok (.getfield 9, 3) := by decide +kernel
theorem dX6_run_150 : decode cX6_run 150 = .ok (.aload_n 1, 1) := by decide +kernel
theorem dX6_run_151 : decode cX6_run 151 = .ok (.invokevirtual 66, 3) := by decide +kernel
theorem dX6_run_154 : decode cX6_run 154 = .ok (.aload_n 1, 1) := by decide +kernel
theorem dX6_run_155 : decode cX6_run 155 = .ok (.getfield 70, 3) := by decide +kernel
theorem dX6_run_158 : decode cX6_run 158 = .ok (.iconst 2, 1) := by decide +kernel
theorem dX6_run_159 : decode cX6_run 159 = .ok (.iaload, 1) := by decide +kernel
theorem dX6_run_160 : decode cX6_run 160 = .ok (.iastore, 1) := by decide +kernel
theorem dX6_run_161 : decode cX6_run 161 = .ok (.iinc 5 1, 3) := by decide +kernel
theorem dX6_run_164 : decode cX6_run 164 = .ok (.goto (-122), 3) := by decide +kernel
theorem dX6_run_167 : decode cX6_run 167 = .ok (.aload_n 0, 1) := by decide +kernel
theorem dX6_run_168 : decode cX6_run 168 = .ok (.aload_n 1, 1) := by decide +kernel
theorem dX6_run_169 : decode cX6_run 169 = .ok (.getfield 73, 3) := by decide +kernel
theorem dX6_run_172 : decode cX6_run 172 = .ok (.putfield 60, 3) := by decide +kernel
theorem dX6_run_175 : decode cX6_run 175 = .ok (.return_, 1) := by decide +kernel
theorem dX7_init_0 : decode cX7_init 0 = .ok (.aload_n 0, 1) := by decide +kernel
theorem dX7_init_1 : decode cX7_init 1 = .ok (.invokespecial 3, 3) := by decide +kernel
theorem dX7_init_4 : decode cX7_init 4 = .ok (.aload_n 0, 1) := by decide +kernel
theorem dX7_init_5 : decode cX7_init 5 = .ok (.new 9, 3) := by decide +kernel
theorem dX7_init_8 : decode cX7_init 8 = .ok (.dup, 1) := by decide +kernel
theorem dX7_init_9 : decode cX7_init 9 = .ok (.invokespecial 11, 3) := by decide +kernel
theorem dX7_init_12 : decode cX7_init 12 = .ok (.putfield 12, 3) := by decide +kernel
theorem dX7_init_15 : decode cX7_init 15 = .ok (.aload_n 0, 1) := by decide +kernel
theorem dX7_init_16 : decode cX7_init 16 = .ok (.new 9, 3) := by decide +kernel
theorem dX7_init_19 : decode cX7_init 19 = .ok (.dup, 1) := by decide +kernel
theorem dX7_init_20 : decode cX7_init 20 = .ok (.invokespecial 11, 3) := by decide +kernel
theorem dX7_init_23 : decode cX7_init 23 = .ok (.putfield 18, 3) := by decide +kernel
theorem dX7_init_26 : decode cX7_init 26 = .ok (.aload_n 0, 1) := by decide +kernel
theorem dX7_init_27 : decode cX7_init 27 = .ok (.bipush 6, 2) := by decide +kernel
theorem dX7_init_29 : decode cX7_init 29 = .ok (.newarray .int, 2) := by decide +kernel
theorem dX7_init_31 : decode cX7_init 31 = .ok (.putfield 21, 3) := by decide +kernel
theorem dX7_init_34 : decode cX7_init 34 = .ok (.aload_n 0, 1) := by decide +kernel
theorem dX7_init_35 : decode cX7_init 35 = .ok (.iconst 3, 1) := by decide +kernel
theorem dX7_init_36 : decode cX7_init 36 = .ok (.newarray .int, 2) := by decide +kernel
theorem dX7_init_38 : decode cX7_init 38 = .ok (.putfield 25, 3) := by decide +kernel
theorem dX7_init_41 : decode cX7_init 41 = .ok (.return_, 1) := by decide +kernel
theorem dX7_begin_0 : decode cX7_begin 0 = .ok (.aload_n 0, 1) := by decide +kernel
theorem dX7_begin_1 : decode cX7_begin 1 = .ok (.getfield 18, 3) := by decide +kernel
theorem dX7_begin_4 : decode cX7_begin 4 = .ok (.invokevirtual 28, 3) := by decide +kernel
theorem dX7_begin_7 : decode cX7_begin 7 = .ok (.aload_n 0, 1) := by decide +kernel
theorem dX7_begin_8 : decode cX7_begin 8 = .ok (.getfield 25, 3) := by decide +kernel
theorem dX7_begin_11 : decode cX7_begin 11 = .ok (.iconst 0, 1) := by decide +kernel
theorem dX7_begin_12 : decode cX7_begin 12 = .ok (.iconst 0, 1) := by decide +kernel
theorem dX7_begin_13 : decode cX7_begin 13 = .ok (.iastore, 1) := by decide +kernel
theorem dX7_begin_14 : decode cX7_begin 14 = .ok (.aload_n 0, 1) := by decide +kernel
theorem dX7_begin_15 : decode cX7_begin 15 = .ok (.getfield 25, 3) := by decide +kernel
theorem dX7_begin_18 : decode cX7_begin 18 = .ok (.iconst 1, 1) := by decide +kernel
theorem dX7_begin_19 : decode cX7_begin 19 = .ok (.iconst 0, 1) := by decide +kernel
theorem dX7_begin_20 : decode cX7_begin 20 = .ok (.iastore, 1) := by decide +kernel
theorem dX7_begin_21 : decode cX7_begin 21 = .ok (.aload_n 0, 1) := by decide +kernel
theorem dX7_begin_22 : decode cX7_begin 22 = .ok (.getfield 25, 3) := by decide +kernel
theorem dX7_begin_25 : decode cX7_begin 25 = .ok (.iconst 2, 1) := by decide +kernel
theorem dX7_begin_26 : decode cX7_begin 26 = .ok (.bipush 9, 2) := by decide +kernel
theorem dX7_begin_28 : decode cX7_begin 28 = .ok (.iastore, 1) := by decide +kernel
theorem dX7_begin_29 : decode cX7_begin 29 = .ok (.aload_n 0, 1) := by decide +kernel
theorem dX7_begin_30 : decode cX7_begin 30 = .ok (.iconst 0, 1) := by decide +kernel
theorem dX7_begin_31 : decode cX7_begin 31 = .ok (.putfield 31, 3) := by decide +kernel
theorem dX7_begin_34 : decode cX7_begin 34 = .ok (.aload_n 0, 1) := by decide +kernel
theorem dX7_begin_35 : decode cX7_begin 35 = .ok (.iconst 0, 1) := by decide +kernel
theorem dX7_begin_36 : decode cX7_begin 36 = .ok (.putfield 35, 3) := by decide +kernel
theorem dX7_begin_39 : decode cX7_begin 39 = .ok (.aload_n 0, 1) := by decide +kernel
theorem dX7_begin_40 : decode cX7_begin 40 = .ok (.iconst 0, 1) := by decide +kernel
theorem dX7_begin_41 : decode cX7_begin 41 = .ok (.putfield 38, 3) := by decide +kernel
theorem dX7_begin_44 : decode cX7_begin 44 = .ok (.aload_n 0, 1) := by decide +kernel
theorem dX7_begin_45 : decode cX7_begin 45 = .ok (.iconst 0, 1) := by decide +kernel
theorem dX7_begin_46 : decode cX7_begin 46 = .ok (.putfield 41, 3) := by decide +kernel
theorem dX7_begin_49 : decode cX7_begin 49 = .ok (.aload_n 0, 1) := by decide +kernel
theorem dX7_begin_50 : decode cX7_begin 50 = .ok (.iconst 0, 1) := by decide +kernel
theorem dX7_begin_51 : decode cX7_begin 51 = .ok (.putfield 45, 3) := by decide +kernel
theorem dX7_begin_54 : decode cX7_begin 54 = .ok (.aload_n 0, 1) := by decide +kernel
theorem dX7_begin_55 : decode cX7_begin 55 = .ok (.iconst (-1), 1) := by decide +kernel
theorem dX7_begin_56 : decode cX7_begin 56 = .ok (.putfield 48, 3) := by decide +kernel
theorem dX7_begin_59 : decode cX7_begin 59 = .ok (.aload_n 0, 1) := by decide +kernel
theorem dX7_begin_60 : decode cX7_begin 60 = .ok (.iconst 0, 1) := by decide +kernel
theorem dX7_begin_61 : decode cX7_begin 61 = .ok (.putfield 51, 3) := by decide +kernel
theorem dX7_begin_64 : decode cX7_begin 64 = .ok (.aload_n 0, 1) := by decide +kernel
theorem dX7_begin_65 : decode cX7_begin 65 = .ok (.iload_n 1, 1) := by decide +kernel
theorem dX7_begin_66 : decode cX7_begin 66 = .ok (.invokevirtual 54, 3) := by decide +kernel
theorem dX7_begin_69 : decode cX7_begin 69 = .ok (.return_, 1) := by decide +kernel
theorem dX7_goStep_0 : decode cX7_goStep 0 = .ok (.iconst 0, 1) := by decide +kernel
theorem dX7_goStep_1 : decode cX7_goStep 1 = .ok (.istore_n 1, 1) := by decide +kernel
theorem dX7_goStep_2 : decode cX7_goStep 2 = .ok (.iload_n 1, 1) := by decide +kernel
theorem dX7_goStep_3 : decode cX7_goStep 3 = .ok (.sipush 600, 3) := by decide +kernel
theorem dX7_goStep_6 : decode cX7_goStep 6 = .ok (.if_icmp .gt 96, 3) := by decide +kernel
theorem dX7_goStep_9 : decode cX7_goStep 9 = .ok (.aload_n 0, 1) := by decide +kernel
theorem dX7_goStep_10 : decode cX7_goStep 10 = .ok (.getfield 51, 3) := by decide +kernel
theorem dX7_goStep_13 : decode cX7_goStep 13 = .ok (.ifCond .ne 89, 3) := by decide +kernel
theorem dX7_goStep_16 : decode cX7_goStep 16 = .ok (.aload_n 0, 1) := by decide +kernel
theorem dX7_goStep_17 : decode cX7_goStep 17 = .ok (.getfield 25, 3) := by decide +kernel
theorem dX7_goStep_20 : decode cX7_goStep 20 = .ok (.aload_n 0, 1) := by decide +kernel
theorem dX7_goStep_21 : decode cX7_goStep 21 = .ok (.getfield 31, 3) := by decide +kernel
theorem dX7_goStep_24 : decode cX7_goStep 24 = .ok (.iaload, 1) := by decide +kernel
theorem dX7_goStep_25 : decode cX7_goStep 25 = .ok (.aload_n 0, 1) := by decide +kernel
theorem dX7_goStep_26 : decode cX7_goStep 26 = .ok (.getfield 35, 3) := by decide +kernel
theorem dX7_goStep_29 : decode cX7_goStep 29 = .ok (.if_icmp .eq 38, 3) := by decide +kernel
theorem dX7_goStep_32 : decode cX7_goStep 32 = .ok (.aload_n 0, 1) := by decide +kernel
theorem dX7_goStep_33 : decode cX7_goStep 33 = .ok (.getfield 25, 3) := by decide +kernel
theorem dX7_goStep_36 : decode cX7_goStep 36 = .ok (.aload_n 0, 1) := by decide +kernel
theorem dX7_goStep_37 : decode cX7_goStep 37 = .ok (.getfield 31, 3) := by decide +kernel
theorem dX7_goStep_40 : decode cX7_goStep 40 = .ok (.dup2, 1) := by decide +kernel
theorem dX7_goStep_41 : decode cX7_goStep 41 = .ok (.iaload, 1) := by decide +kernel
theorem dX7_goStep_42 : decode cX7_goStep 42 = .ok (.aload_n 0, 1) := by decide +kernel
theorem dX7_goStep_43 : decode cX7_goStep 43 = .ok (.getfield 25, 3) := by decide +kernel
theorem dX7_goStep_46 : decode cX7_goStep 46 = .ok (.aload_n 0, 1) := by decide +kernel
theorem dX7_goStep_47 : decode cX7_goStep 47 = .ok (.getfield 31, 3) := by decide +kernel
theorem dX7_goStep_50 : decode cX7_goStep 50 = .ok (.iaload, 1) := by decide +kernel
theorem dX7_goStep_51 : decode cX7_goStep 51 = .ok (.aload_n 0, 1) := by decide +kernel
theorem dX7_goStep_52 : decode cX7_goStep 52 = .ok (.getfield 35, 3) := by decide +kernel
theorem dX7_goStep_55 : decode cX7_goStep 55 = .ok (.if_icmp .ge 7, 3) := by decide +kernel
theorem dX7_goStep_58 : decode cX7_goStep 58 = .ok (.iconst 1, 1) := by decide +kernel
theorem dX7_goStep_59 : decode cX7_goStep 59 = .ok (.goto 4, 3) := by decide +kernel
theorem dX7_goStep_62 : decode cX7_goStep 62 = .ok (.iconst (-1), 1) := by decide +kernel
theorem dX7_goStep_63 : decode cX7_goStep 63 = .ok (.iadd, 1) := by decide +kernel
theorem dX7_goStep_64 : decode cX7_goStep 64 = .ok (.iastore, 1) := by decide +kernel
theorem dX7_goStep_65 : decode cX7_goStep 65 = .ok (.iconst 1, 1) := by decide +kernel
theorem dX7_goStep_66 : decode cX7_goStep 66 = .ok (.ireturn, 1) := by decide +kernel
theorem dX7_goStep_67 : decode cX7_goStep 67 = .ok (.aload_n 0, 1) := by decide +kernel
theorem dX7_goStep_68 : decode cX7_goStep 68 = .ok (.invokevirtual 58, 3) := by decide +kernel
theorem dX7_goStep_71 : decode cX7_goStep 71 = .ok (.aload_n 0, 1) := by decide +kernel
theorem dX7_goStep_72 : decode cX7_goStep 72 = .ok (.getfield 18, 3) := by decide +kernel
theorem dX7_goStep_75 : decode cX7_goStep 75 = .ok (.invokevirtual 61, 3) := by decide +kernel
theorem dX7_goStep_78 : decode cX7_goStep 78 = .ok (.ifCond .eq 5, 3) := by decide +kernel
theorem dX7_goStep_81 : decode cX7_goStep 81 = .ok (.iconst 0, 1) := by decide +kernel
theorem dX7_goStep_82 : decode cX7_goStep 82 = .ok (.ireturn, 1) := by decide +kernel
theorem dX7_goStep_83 : decode cX7_goStep 83 = .ok (.aload_n 0, 1) := by decide +kernel
theorem dX7_goStep_84 : decode cX7_goStep 84 = .ok (.aload_n 0, 1) := by decide +kernel
theorem dX7_goStep_85 : decode cX7_goStep 85 = .ok (.getfield 18, 3) := by decide +kernel
theorem dX7_goStep_88 : decode cX7_goStep 88 = .ok (.invokevirtual 65, 3) := by decide +kernel
theorem dX7_goStep_91 : decode cX7_goStep 91 = .ok (.iconst 1, 1) := by decide +kernel
theorem dX7_goStep_92 : decode cX7_goStep 92 = .ok (.isub, 1) := by decide +kernel
theorem dX7_goStep_93 : decode cX7_goStep 93 = .ok (.invokevirtual 69, 3) := by decide +kernel
theorem dX7_goStep_96 : decode cX7_goStep 96 = .ok (.iinc 1 1, 3) := by decide +kernel
theorem dX7_goStep_99 : decode cX7_goStep 99 = .ok (.goto (-97), 3) := by decide +kernel
theorem dX7_goStep_102 : decode cX7_goStep 102 = .ok (.iconst 0, 1) := by decide +kernel
theorem dX7_goStep_103 : decode cX7_goStep 103 = .ok (.ireturn, 1) := by decide +kernel
theorem dX7_cellNow_0 : decode cX7_cellNow 0 = .ok (.aload_n 0, 1) := by decide +kernel
theorem dX7_cellNow_1 : decode cX7_cellNow 1 = .ok (.getfield 25, 3) := by decide +kernel
theorem dX7_cellNow_4 : decode cX7_cellNow 4 = .ok (.iconst 1, 1) := by decide +kernel
theorem dX7_cellNow_5 : decode cX7_cellNow 5 = .ok (.iaload, 1) := by decide +kernel
theorem dX7_cellNow_6 : decode cX7_cellNow 6 = .ok (.bipush 12, 2) := by decide +kernel
theorem dX7_cellNow_8 : decode cX7_cellNow 8 = .ok (.imul, 1) := by decide +kernel
theorem dX7_cellNow_9 : decode cX7_cellNow 9 = .ok (.aload_n 0, 1) := by decide +kernel
theorem dX7_cellNow_10 : decode cX7_cellNow 10 = .ok (.getfield 25, 3) := by decide +kernel
theorem dX7_cellNow_13 : decode cX7_cellNow 13 = .ok (.iconst 0, 1) := by decide +kernel
theorem dX7_cellNow_14 : decode cX7_cellNow 14 = .ok (.iaload, 1) := by decide +kernel
theorem dX7_cellNow_15 : decode cX7_cellNow 15 = .ok (.iadd, 1) := by decide +kernel
theorem dX7_cellNow_16 : decode cX7_cellNow 16 = .ok (.ireturn, 1) := by decide +kernel
theorem dX7_isBelow_0 : decode cX7_isBelow 0 = .ok (.aload_n 0, 1) := by decide +kernel
theorem dX7_isBelow_1 : decode cX7_isBelow 1 = .ok (.getfield 25, 3) := by decide +kernel
theorem dX7_isBelow_4 : decode cX7_isBelow 4 = .ok (.iconst 2, 1) := by decide +kernel
theorem dX7_isBelow_5 : decode cX7_isBelow 5 = .ok (.iaload, 1) := by decide +kernel
theorem dX7_isBelow_6 : decode cX7_isBelow 6 = .ok (.aload_n 1, 1) := by decide +kernel
theorem dX7_isBelow_7 : decode cX7_isBelow 7 = .ok (.aload_n 0, 1) := by decide +kernel
theorem dX7_isBelow_8 : decode cX7_isBelow 8 = .ok (.invokevirtual 72, 3) := by decide +kernel
theorem dX7_isBelow_11 : decode cX7_isBelow 11 = .ok (.iaload, 1) := by decide +kernel
theorem dX7_isBelow_12 : decode cX7_isBelow 12 = .ok (.if_icmp .ge 7, 3) := by decide +kernel
theorem dX7_isBelow_15 : decode cX7_isBelow 15 = .ok (.iconst 1, 1) := by decide +kernel
theorem dX7_isBelow_16 : decode cX7_isBelow 16 = .ok (.goto 4, 3) := by decide +kernel
theorem dX7_isBelow_19 : decode cX7_isBelow 19 = .ok (.iconst 0, 1) := by decide +kernel
theorem dX7_isBelow_20 : decode cX7_isBelow 20 = .ok (.ireturn, 1) := by decide +kernel
theorem dX7_canCut_0 : decode cX7_canCut 0 = .ok (.aload_n 0, 1) := by decide +kernel
theorem dX7_canCut_1 : decode cX7_canCut 1 = .ok (.getfield 41, 3) := by decide +kernel
theorem dX7_canCut_4 : decode cX7_canCut 4 = .ok (.ifCond .eq 15, 3) := by decide +kernel
theorem dX7_canCut_7 : decode cX7_canCut 7 = .ok (.aload_n 0, 1) := by decide +kernel
theorem dX7_canCut_8 : decode cX7_canCut 8 = .ok (.getfield 48, 3) := by decide +kernel
theorem dX7_canCut_11 : decode cX7_canCut 11 = .ok (.iconst (-1), 1) := by decide +kernel
theorem dX7_canCut_12 : decode cX7_canCut 12 = .ok (.if_icmp .eq 7, 3) := by decide +kernel
theorem dX7_canCut_15 : decode cX7_canCut 15 = .ok (.iconst 1, 1) := by decide +kernel
theorem dX7_canCut_16 : decode cX7_canCut 16 = .ok (.goto 4, 3) := by decide +kernel
theorem dX7_canCut_19 : decode cX7_canCut 19 = .ok (.iconst 0, 1) := by decide +kernel
theorem dX7_canCut_20 : decode cX7_canCut 20 = .ok (.ireturn, 1) := by decide +kernel
theorem dX7_leaveEnded_0 : decode cX7_leaveEnded 0 = .ok (.aload_n 0, 1) := by decide +kernel
theorem dX7_leaveEnded_1 : decode cX7_leaveEnded 1 = .ok (.getfield 18, 3) := by decide +kernel
theorem dX7_leaveEnded_4 : decode cX7_leaveEnded 4 = .ok (.invokevirtual 65, 3) := by decide +kernel
theorem dX7_leaveEnded_7 : decode cX7_leaveEnded 7 = .ok (.iconst 1, 1) := by decide +kernel
theorem dX7_leaveEnded_8 : decode cX7_leaveEnded 8 = .ok (.isub, 1) := by decide +kernel
theorem dX7_leaveEnded_9 : decode cX7_leaveEnded 9 = .ok (.istore_n 1, 1) := by decide +kernel
theorem dX7_leaveEnded_10 : decode cX7_leaveEnded 10 = .ok (.iload_n 1, 1) := by decide +kernel
theorem dX7_leaveEnded_11 : decode cX7_leaveEnded 11 = .ok (.ifCond .lt 42, 3) := by decide +kernel
theorem dX7_leaveEnded_14 : decode cX7_leaveEnded 14 = .ok (.aload_n 0, 1) := by decide +kernel
theorem dX7_leaveEnded_15 : decode cX7_leaveEnded 15 = .ok (.getfield 21, 3) := by decide +kernel
theorem dX7_leaveEnded_18 : decode cX7_leaveEnded 18 = .ok (.iload_n 1, 1) := by decide +kernel
theorem dX7_leaveEnded_19 : decode cX7_leaveEnded 19 = .ok (.iaload, 1) := by decide +kernel
theorem dX7_leaveEnded_20 : decode cX7_leaveEnded 20 = .ok (.aload_n 0, 1) := by decide +kernel
theorem dX7_leaveEnded_21 : decode cX7_leaveEnded 21 = .ok (.getfield 18, 3) := by decide +kernel
theorem dX7_leaveEnded_24 : decode cX7_leaveEnded 24 = .ok (.iload_n 1, 1) := by decide +kernel
theorem dX7_leaveEnded_25 : decode cX7_leaveEnded 25 = .ok (.invokevirtual 75, 3) := by decide +kernel
theorem dX7_leaveEnded_28 : decode cX7_leaveEnded 28 = .ok (.checkcast 79, 3) := by decide +kernel
theorem dX7_leaveEnded_31 : decode cX7_leaveEnded 31 = .ok (.getfield 81, 3) := by decide +kernel
theorem dX7_leaveEnded_34 : decode cX7_leaveEnded 34 = .ok (.if_icmp .ge 4, 3) := by decide +kernel
theorem dX7_leaveEnded_37 : decode cX7_leaveEnded 37 = .ok (.return_, 1) := by decide +kernel
theorem dX7_leaveEnded_38 : decode cX7_leaveEnded 38 = .ok (.aload_n 0, 1) := by decide +kernel
theorem dX7_leaveEnded_39 : decode cX7_leaveEnded 39 = .ok (.getfield 18, 3) := by decide +kernel
theorem dX7_leaveEnded_42 : decode cX7_leaveEnded 42 = .ok (.iload_n 1, 1) := by decide +kernel
theorem dX7_leaveEnded_43 : decode cX7_leaveEnded 43 = .ok (.invokevirtual 83, 3) := by decide +kernel
theorem dX7_leaveEnded_46 : decode cX7_leaveEnded 46 = .ok (.pop, 1) := by decide +kernel
theorem dX7_leaveEnded_47 : decode cX7_leaveEnded 47 = .ok (.iinc 1 (-1), 3) := by decide +kernel
theorem dX7_leaveEnded_50 : decode cX7_leaveEnded 50 = .ok (.goto (-40), 3) := by decide +kernel
theorem dX7_leaveEnded_53 : decode cX7_leaveEnded 53 = .ok (.return_, 1) := by decide +kernel
theorem dX7_obeyNext_0 : decode cX7_obeyNext 0 = .ok (.aload_n 0, 1) := by decide +kernel
theorem dX7_obeyNext_1 : decode cX7_obeyNext 1 = .ok (.getfield 38, 3) := by decide +kernel
theorem dX7_obeyNext_4 : decode cX7_obeyNext 4 = .ok (.sipush 600, 3) := by decide +kernel
theorem dX7_obeyNext_7 : decode cX7_obeyNext 7 = .ok (.if_icmp .lt 9, 3) := by decide +kernel
theorem dX7_obeyNext_10 : decode cX7_obeyNext 10 = .ok (.aload_n 0, 1) := by decide +kernel
theorem dX7_obeyNext_11 : decode cX7_obeyNext 11 = .ok (.iconst 4, 1) := by decide +kernel
theorem dX7_obeyNext_12 : decode cX7_obeyNext 12 = .ok (.putfield 51, 3) := by decide +kernel
theorem dX7_obeyNext_15 : decode cX7_obeyNext 15 = .ok (.return_, 1) := by decide +kernel
theorem dX7_obeyNext_16 : decode cX7_obeyNext 16 = .ok (.aload_n 0, 1) := by decide +kernel
theorem dX7_obeyNext_17 : decode cX7_obeyNext 17 = .ok (.dup, 1) := by decide +kernel
theorem dX7_obeyNext_18 : decode cX7_obeyNext 18 = .ok (.getfield 38, 3) := by decide +kernel
theorem dX7_obeyNext_21 : decode cX7_obeyNext 21 = .ok (.iconst 1, 1) := by decide +kernel
theorem dX7_obeyNext_22 : decode cX7_obeyNext 22 = .ok (.iadd, 1) := by decide +kernel
theorem dX7_obeyNext_23 : decode cX7_obeyNext 23 = .ok (.putfield 38, 3) := by decide +kernel
theorem dX7_obeyNext_26 : decode cX7_obeyNext 26 = .ok (.aload_n 0, 1) := by decide +kernel
theorem dX7_obeyNext_27 : decode cX7_obeyNext 27 = .ok (.getfield 21, 3) := by decide +kernel
theorem dX7_obeyNext_30 : decode cX7_obeyNext 30 = .ok (.iload_n 1, 1) := by decide +kernel
theorem dX7_obeyNext_31 : decode cX7_obeyNext 31 = .ok (.iaload, 1) := by decide +kernel
theorem dX7_obeyNext_32 : decode cX7_obeyNext 32 = .ok (.istore_n 2, 1) := by decide +kernel
theorem dX7_obeyNext_33 : decode cX7_obeyNext 33 = .ok (.aload_n 0, 1) := by decide +kernel
theorem dX7_obeyNext_34 : decode cX7_obeyNext 34 = .ok (.getfield 21, 3) := by decide +kernel
theorem dX7_obeyNext_37 : decode cX7_obeyNext 37 = .ok (.iload_n 1, 1) := by decide +kernel
theorem dX7_obeyNext_38 : decode cX7_obeyNext 38 = .ok (.dup2, 1) := by decide +kernel
theorem dX7_obeyNext_39 : decode cX7_obeyNext 39 = .ok (.iaload, 1) := by decide +kernel
theorem dX7_obeyNext_40 : decode cX7_obeyNext 40 = .ok (.iconst 1, 1) := by decide +kernel
theorem dX7_obeyNext_41 : decode cX7_obeyNext 41 = .ok (.iadd, 1) := by decide +kernel
theorem dX7_obeyNext_42 : decode cX7_obeyNext 42 = .ok (.iastore, 1) := by decide +kernel
theorem dX7_obeyNext_43 : decode cX7_obeyNext 43 = .ok (.aload_n 0, 1) := by decide +kernel
theorem dX7_obeyNext_44 : decode cX7_obeyNext 44 = .ok (.getfield 18, 3) := by decide +kernel
theorem dX7_obeyNext_47 : decode cX7_obeyNext 47 = .ok (.iload_n 1, 1) := by decide +kernel
theorem dX7_obeyNext_48 : decode cX7_obeyNext 48 = .ok (.invokevirtual 75, 3) := by decide +kernel
theorem dX7_obeyNext_51 : decode cX7_obeyNext 51 = .ok (.checkcast 79, 3) := by decide +kernel
theorem dX7_obeyNext_54 : decode cX7_obeyNext 54 = .ok (.getfield 86, 3) := by decide +kernel
theorem dX7_obeyNext_57 : decode cX7_obeyNext 57 = .ok (.iload_n 2, 1) := by decide +kernel
theorem dX7_obeyNext_58 : decode cX7_obeyNext 58 = .ok (.iaload, 1) := by decide +kernel
theorem dX7_obeyNext_59 : decode cX7_obeyNext 59 = .ok (.istore_n 3, 1) := by decide +kernel
theorem dX7_obeyNext_60 : decode cX7_obeyNext 60 = .ok (.aload_n 0, 1) := by decide +kernel
theorem dX7_obeyNext_61 : decode cX7_obeyNext 61 = .ok (.getfield 18, 3) := by decide +kernel
theorem dX7_obeyNext_64 : decode cX7_obeyNext 64 = .ok (.iload_n 1, 1) := by decide +kernel
theorem dX7_obeyNext_65 : decode cX7_obeyNext 65 = .ok (.invokevirtual 75, 3) := by decide +kernel
theorem dX7_obeyNext_68 : decode cX7_obeyNext 68 = .ok (.checkcast 79, 3) := by decide +kernel
theorem dX7_obeyNext_71 : decode cX7_obeyNext 71 = .ok (.getfield 89, 3) := by decide +kernel
theorem dX7_obeyNext_74 : decode cX7_obeyNext 74 = .ok (.iload_n 2, 1) := by decide +kernel
theorem dX7_obeyNext_75 : decode cX7_obeyNext 75 = .ok (.iaload, 1) := by decide +kernel
theorem dX7_obeyNext_76 : decode cX7_obeyNext 76 = .ok (.tableswitch 127 0 6 #[44, 61, 78, 89, 100, 111, 119], 44) := by decide +kernel
theorem dX7_obeyNext_120 : decode cX7_obeyNext 120 = .ok (.aload_n 0, 1) := by decide +kernel
theorem dX7_obeyNext_121 : decode cX7_obeyNext 121 = .ok (.iload_n 3, 1) := by decide +kernel
theorem dX7_obeyNext_122 : decode cX7_obeyNext 122 = .ok (.iconst 1, 1) := by decide +kernel
theorem dX7_obeyNext_123 : decode cX7_obeyNext 123 = .ok (.if_icmp .ne 7, 3) := by decide +kernel
theorem dX7_obeyNext_126 : decode cX7_obeyNext 126 = .ok (.iconst 1, 1) := by decide +kernel
theorem dX7_obeyNext_127 : decode cX7_obeyNext 127 = .ok (.goto 4, 3) := by decide +kernel
theorem dX7_obeyNext_130 : decode cX7_obeyNext 130 = .ok (.iconst 0, 1) := by decide +kernel
theorem dX7_obeyNext_131 : decode cX7_obeyNext 131 = .ok (.putfield 41, 3) := by decide +kernel
theorem dX7_obeyNext_134 : decode cX7_obeyNext 134 = .ok (.goto 69, 3) := by decide +kernel
theorem dX7_obeyNext_137 : decode cX7_obeyNext 137 = .ok (.aload_n 0, 1) := by decide +kernel
theorem dX7_obeyNext_138 : decode cX7_obeyNext 138 = .ok (.iload_n 3, 1) := by decide +kernel
theorem dX7_obeyNext_139 : decode cX7_obeyNext 139 = .ok (.iconst 1, 1) := by decide +kernel
theorem dX7_obeyNext_140 : decode cX7_obeyNext 140 = .ok (.if_icmp .ne 7, 3) := by decide +kernel
theorem dX7_obeyNext_143 : decode cX7_obeyNext 143 = .ok (.iconst 1, 1) := by decide +kernel
theorem dX7_obeyNext_144 : decode cX7_obeyNext 144 = .ok (.goto 4, 3) := by decide +kernel
theorem dX7_obeyNext_147 : decode cX7_obeyNext 147 = .ok (.iconst 0, 1) := by decide +kernel
theorem dX7_obeyNext_148 : decode cX7_obeyNext 148 = .ok (.putfield 45, 3) := by decide +kernel
theorem dX7_obeyNext_151 : decode cX7_obeyNext 151 = .ok (.goto 52, 3) := by decide +kernel
theorem dX7_obeyNext_154 : decode cX7_obeyNext 154 = .ok (.aload_n 0, 1) := by decide +kernel
theorem dX7_obeyNext_155 : decode cX7_obeyNext 155 = .ok (.iconst 0, 1) := by decide +kernel
theorem dX7_obeyNext_156 : decode cX7_obeyNext 156 = .ok (.iload_n 3, 1) := by decide +kernel
theorem dX7_obeyNext_157 : decode cX7_obeyNext 157 = .ok (.bipush 11, 2) := by decide +kernel
theorem dX7_obeyNext_159 : decode cX7_obeyNext 159 = .ok (.invokevirtual 92, 3) := by decide +kernel
theorem dX7_obeyNext_162 : decode cX7_obeyNext 162 = .ok (.goto 41, 3) := by decide +kernel
theorem dX7_obeyNext_165 : decode cX7_obeyNext 165 = .ok (.aload_n 0, 1) := by decide +kernel
theorem dX7_obeyNext_166 : decode cX7_obeyNext 166 = .ok (.iconst 1, 1) := by decide +kernel
theorem dX7_obeyNext_167 : decode cX7_obeyNext 167 = .ok (.iload_n 3, 1) := by decide +kernel
theorem dX7_obeyNext_168 : decode cX7_obeyNext 168 = .ok (.bipush 11, 2) := by decide +kernel
theorem dX7_obeyNext_170 : decode cX7_obeyNext 170 = .ok (.invokevirtual 92, 3) := by decide +kernel
theorem dX7_obeyNext_173 : decode cX7_obeyNext 173 = .ok (.goto 30, 3) := by decide +kernel
theorem dX7_obeyNext_176 : decode cX7_obeyNext 176 = .ok (.aload_n 0, 1) := by decide +kernel
theorem dX7_obeyNext_177 : decode cX7_obeyNext 177 = .ok (.iconst 2, 1) := by decide +kernel
theorem dX7_obeyNext_178 : decode cX7_obeyNext 178 = .ok (.iload_n 3, 1) := by decide +kernel
theorem dX7_obeyNext_179 : decode cX7_obeyNext 179 = .ok (.bipush 9, 2) := by decide +kernel
theorem dX7_obeyNext_181 : decode cX7_obeyNext 181 = .ok (.invokevirtual 92, 3) := by decide +kernel
theorem dX7_obeyNext_184 : decode cX7_obeyNext 184 = .ok (.goto 19, 3) := by decide +kernel
theorem dX7_obeyNext_187 : decode cX7_obeyNext 187 = .ok (.aload_n 0, 1) := by decide +kernel
theorem dX7_obeyNext_188 : decode cX7_obeyNext 188 = .ok (.iload_n 3, 1) := by decide +kernel
theorem dX7_obeyNext_189 : decode cX7_obeyNext 189 = .ok (.invokevirtual 96, 3) := by decide +kernel
theorem dX7_obeyNext_192 : decode cX7_obeyNext 192 = .ok (.goto 11, 3) := by decide +kernel
theorem dX7_obeyNext_195 : decode cX7_obeyNext 195 = .ok (.aload_n 0, 1) := by decide +kernel
theorem dX7_obeyNext_196 : decode cX7_obeyNext 196 = .ok (.iload_n 3, 1) := by decide +kernel
theorem dX7_obeyNext_197 : decode cX7_obeyNext 197 = .ok (.invokevirtual 54, 3) := by decide +kernel
theorem dX7_obeyNext_200 : decode cX7_obeyNext 200 = .ok (.goto 3, 3) := by decide +kernel
theorem dX7_obeyNext_203 : decode cX7_obeyNext 203 = .ok (.return_, 1) := by decide +kernel
theorem dX7_changeTool_0 : decode cX7_changeTool 0 = .ok (.aload_n 0, 1) := by decide +kernel
theorem dX7_changeTool_1 : decode cX7_changeTool 1 = .ok (.getfield 25, 3) := by decide +kernel
theorem dX7_changeTool_4 : decode cX7_changeTool 4 = .ok (.iconst 2, 1) := by decide +kernel
theorem dX7_changeTool_5 : decode cX7_changeTool 5 = .ok (.iaload, 1) := by decide +kernel
theorem dX7_changeTool_6 : decode cX7_changeTool 6 = .ok (.bipush 9, 2) := by decide +kernel
theorem dX7_changeTool_8 : decode cX7_changeTool 8 = .ok (.if_icmp .eq 11, 3) := by decide +kernel
theorem dX7_changeTool_11 : decode cX7_changeTool 11 = .ok (.aload_n 0, 1) := by decide +kernel
theorem dX7_changeTool_12 : decode cX7_changeTool 12 = .ok (.iconst 2, 1) := by decide +kernel
theorem dX7_changeTool_13 : decode cX7_changeTool 13 = .ok (.putfield 51, 3) := by decide +kernel
theorem dX7_changeTool_16 : decode cX7_changeTool 16 = .ok (.goto 8, 3) := by decide +kernel
theorem dX7_changeTool_19 : decode cX7_changeTool 19 = .ok (.aload_n 0, 1) := by decide +kernel
theorem dX7_changeTool_20 : decode cX7_changeTool 20 = .ok (.iload_n 1, 1) := by decide +kernel
theorem dX7_changeTool_21 : decode cX7_changeTool 21 = .ok (.putfield 48, 3) := by decide +kernel
theorem dX7_changeTool_24 : decode cX7_changeTool 24 = .ok (.return_, 1) := by decide +kernel
theorem dX7_enter_0 : decode cX7_enter 0 = .ok (.aload_n 0, 1) := by decide +kernel
theorem dX7_enter_1 : decode cX7_enter 1 = .ok (.getfield 18, 3) := by decide +kernel
theorem dX7_enter_4 : decode cX7_enter 4 = .ok (.invokevirtual 65, 3) := by decide +kernel
theorem dX7_enter_7 : decode cX7_enter 7 = .ok (.istore_n 2, 1) := by decide +kernel
theorem dX7_enter_8 : decode cX7_enter 8 = .ok (.iload_n 1, 1) := by decide +kernel
theorem dX7_enter_9 : decode cX7_enter 9 = .ok (.ifCond .lt 46, 3) := by decide +kernel
theorem dX7_enter_12 : decode cX7_enter 12 = .ok (.iload_n 1, 1) := by decide +kernel
theorem dX7_enter_13 : decode cX7_enter 13 = .ok (.aload_n 0, 1) := by decide +kernel
theorem dX7_enter_14 : decode cX7_enter 14 = .ok (.getfield 12, 3) := by decide +kernel
theorem dX7_enter_17 : decode cX7_enter 17 = .ok (.invokevirtual 65, 3) := by decide +kernel
theorem dX7_enter_20 : decode cX7_enter 20 = .ok (.if_icmp .ge 35, 3) := by decide +kernel
theorem dX7_enter_23 : decode cX7_enter 23 = .ok (.iload_n 2, 1) := by decide +kernel
theorem dX7_enter_24 : decode cX7_enter 24 = .ok (.bipush 6, 2) := by decide +kernel
theorem dX7_enter_26 : decode cX7_enter 26 = .ok (.if_icmp .ge 29, 3) := by decide +kernel
theorem dX7_enter_29 : decode cX7_enter 29 = .ok (.aload_n 0, 1) := by decide +kernel
theorem dX7_enter_30 : decode cX7_enter 30 = .ok (.getfield 21, 3) := by decide +kernel
theorem dX7_enter_33 : decode cX7_enter 33 = .ok (.iload_n 2, 1) := by decide +kernel
theorem dX7_enter_34 : decode cX7_enter 34 = .ok (.iconst 0, 1) := by decide +kernel
theorem dX7_enter_35 : decode cX7_enter 35 = .ok (.iastore, 1) := by decide +kernel
theorem dX7_enter_36 : decode cX7_enter 36 = .ok (.aload_n 0, 1) := by decide +kernel
theorem dX7_enter_37 : decode cX7_enter 37 = .ok (.getfield 18, 3) := by decide +kernel
theorem dX7_enter_40 : decode cX7_enter 40 = .ok (.aload_n 0, 1) := by decide +kernel
theorem dX7_enter_41 : decode cX7_enter 41 = .ok (.getfield 12, 3) := by decide +kernel
theorem dX7_enter_44 : decode cX7_enter 44 = .ok (.iload_n 1, 1) := by decide +kernel
theorem dX7_enter_45 : decode cX7_enter 45 = .ok (.invokevirtual 75, 3) := by decide +kernel
theorem dX7_enter_48 : decode cX7_enter 48 = .ok (.checkcast 79, 3) := by decide +kernel
theorem dX7_enter_51 : decode cX7_enter 51 = .ok (.invokevirtual 99, 3) := by decide +kernel
theorem dX7_enter_54 : decode cX7_enter 54 = .ok (.pop, 1) := by decide +kernel
theorem dX7_enter_55 : decode cX7_enter 55 = .ok (.return_, 1) := by decide +kernel
theorem dX7_aim_0 : decode cX7_aim 0 = .ok (.aload_n 0, 1) := by decide +kernel
theorem dX7_aim_1 : decode cX7_aim 1 = .ok (.getfield 45, 3) := by decide +kernel
theorem dX7_aim_4 : decode cX7_aim 4 = .ok (.ifCond .eq 14, 3) := by decide +kernel
theorem dX7_aim_7 : decode cX7_aim 7 = .ok (.aload_n 0, 1) := by decide +kernel
theorem dX7_aim_8 : decode cX7_aim 8 = .ok (.getfield 25, 3) := by decide +kernel
theorem dX7_aim_11 : decode cX7_aim 11 = .ok (.iload_n 1, 1) := by decide +kernel
theorem dX7_aim_12 : decode cX7_aim 12 = .ok (.iaload, 1) := by decide +kernel
theorem dX7_aim_13 : decode cX7_aim 13 = .ok (.iload_n 2, 1) := by decide +kernel
theorem dX7_aim_14 : decode cX7_aim 14 = .ok (.iadd, 1) := by decide +kernel
theorem dX7_aim_15 : decode cX7_aim 15 = .ok (.goto 4, 3) := by decide +kernel
theorem dX7_aim_18 : decode cX7_aim 18 = .ok (.iload_n 2, 1) := by decide +kernel
theorem dX7_aim_19 : decode cX7_aim 19 = .ok (.istore 4, 2) := by decide +kernel
theorem dX7_aim_21 : decode cX7_aim 21 = .ok (.iload 4, 2) := by decide +kernel
theorem dX7_aim_23 : decode cX7_aim 23 = .ok (.ifCond .lt 9, 3) := by decide +kernel
theorem dX7_aim_26 : decode cX7_aim 26 = .ok (.iload 4, 2) := by decide +kernel
theorem dX7_aim_28 : decode cX7_aim 28 = .ok (.iload_n 3, 1) := by decide +kernel
theorem dX7_aim_29 : decode cX7_aim 29 = .ok (.if_icmp .le 11, 3) := by decide +kernel
theorem dX7_aim_32 : decode cX7_aim 32 = .ok (.aload_n 0, 1) := by decide +kernel
theorem dX7_aim_33 : decode cX7_aim 33 = .ok (.iconst 1, 1) := by decide +kernel
theorem dX7_aim_34 : decode cX7_aim 34 = .ok (.putfield 51, 3) := by decide +kernel
theorem dX7_aim_37 : decode cX7_aim 37 = .ok (.goto 14, 3) := by decide +kernel
theorem dX7_aim_40 : decode cX7_aim 40 = .ok (.aload_n 0, 1) := by decide +kernel
theorem dX7_aim_41 : decode cX7_aim 41 = .ok (.iload_n 1, 1) := by decide +kernel
theorem dX7_aim_42 : decode cX7_aim 42 = .ok (.putfield 31, 3) := by decide +kernel
theorem dX7_aim_45 : decode cX7_aim 45 = .ok (.aload_n 0, 1) := by decide +kernel
theorem dX7_aim_46 : decode cX7_aim 46 = .ok (.iload 4, 2) := by decide +kernel
theorem dX7_aim_48 : decode cX7_aim 48 = .ok (.putfield 35, 3) := by decide +kernel
theorem dX7_aim_51 : decode cX7_aim 51 = .ok (.return_, 1) := by decide +kernel
theorem dX8_init_0 : decode cX8_init 0 = .ok (.aload_n 0, 1) := by decide +kernel
theorem dX8_init_1 : decode cX8_init 1 = .ok (.invokespecial 3, 3) := by decide +kernel
theorem dX8_init_4 : decode cX8_init 4 = .ok (.aload_n 0, 1) := by decide +kernel
theorem dX8_init_5 : decode cX8_init 5 = .ok (.new 9, 3) := by decide +kernel
theorem dX8_init_8 : decode cX8_init 8 = .ok (.dup, 1) := by decide +kernel
theorem dX8_init_9 : decode cX8_init 9 = .ok (.invokespecial 11, 3) := by decide +kernel
theorem dX8_init_12 : decode cX8_init 12 = .ok (.putfield 12, 3) := by decide +kernel
theorem dX8_init_15 : decode cX8_init 15 = .ok (.aload_n 0, 1) := by decide +kernel
theorem dX8_init_16 : decode cX8_init 16 = .ok (.new 9, 3) := by decide +kernel
theorem dX8_init_19 : decode cX8_init 19 = .ok (.dup, 1) := by decide +kernel
theorem dX8_init_20 : decode cX8_init 20 = .ok (.invokespecial 11, 3) := by decide +kernel
theorem dX8_init_23 : decode cX8_init 23 = .ok (.putfield 16, 3) := by decide +kernel
theorem dX8_init_26 : decode cX8_init 26 = .ok (.aload_n 0, 1) := by decide +kernel
theorem dX8_init_27 : decode cX8_init 27 = .ok (.new 9, 3) := by decide +kernel
theorem dX8_init_30 : decode cX8_init 30 = .ok (.dup, 1) := by decide +kernel
theorem dX8_init_31 : decode cX8_init 31 = .ok (.invokespecial 11, 3) := by decide +kernel
theorem dX8_init_34 : decode cX8_init 34 = .ok (.putfield 19, 3) := by decide +kernel
theorem dX8_init_37 : decode cX8_init 37 = .ok (.aload_n 0, 1) := by decide +kernel
theorem dX8_init_38 : decode cX8_init 38 = .ok (.new 9, 3) := by decide +kernel
theorem dX8_init_41 : decode cX8_init 41 = .ok (.dup, 1) := by decide +kernel
theorem dX8_init_42 : decode cX8_init 42 = .ok (.invokespecial 11, 3) := by decide +kernel
theorem dX8_init_45 : decode cX8_init 45 = .ok (.putfield 22, 3) := by decide +kernel
theorem dX8_init_48 : decode cX8_init 48 = .ok (.aload_n 0, 1) := by decide +kernel
theorem dX8_init_49 : decode cX8_init 49 = .ok (.new 9, 3) := by decide +kernel
theorem dX8_init_52 : decode cX8_init 52 = .ok (.dup, 1) := by decide +kernel
theorem dX8_init_53 : decode cX8_init 53 = .ok (.invokespecial 11, 3) := by decide +kernel
theorem dX8_init_56 : decode cX8_init 56 = .ok (.putfield 25, 3) := by decide +kernel
theorem dX8_init_59 : decode cX8_init 59 = .ok (.aload_n 0, 1) := by decide +kernel
theorem dX8_init_60 : decode cX8_init 60 = .ok (.new 9, 3) := by decide +kernel
theorem dX8_init_63 : decode cX8_init 63 = .ok (.dup, 1) := by decide +kernel
theorem dX8_init_64 : decode cX8_init 64 = .ok (.invokespecial 11, 3) := by decide +kernel
theorem dX8_init_67 : decode cX8_init 67 = .ok (.putfield 28, 3) := by decide +kernel
theorem dX8_init_70 : decode cX8_init 70 = .ok (.aload_n 0, 1) := by decide +kernel
theorem dX8_init_71 : decode cX8_init 71 = .ok (.bipush 12, 2) := by decide +kernel
theorem dX8_init_73 : decode cX8_init 73 = .ok (.newarray .int, 2) := by decide +kernel
theorem dX8_init_75 : decode cX8_init 75 = .ok (.putfield 31, 3) := by decide +kernel
theorem dX8_init_78 : decode cX8_init 78 = .ok (.aload_n 0, 1) := by decide +kernel
theorem dX8_init_79 : decode cX8_init 79 = .ok (.iconst 4, 1) := by decide +kernel
theorem dX8_init_80 : decode cX8_init 80 = .ok (.newarray .int, 2) := by decide +kernel
theorem dX8_init_82 : decode cX8_init 82 = .ok (.putfield 35, 3) := by decide +kernel
theorem dX8_init_85 : decode cX8_init 85 = .ok (.aload_n 0, 1) := by decide +kernel
theorem dX8_init_86 : decode cX8_init 86 = .ok (.iconst 4, 1) := by decide +kernel
theorem dX8_init_87 : decode cX8_init 87 = .ok (.newarray .int, 2) := by decide +kernel
theorem dX8_init_89 : decode cX8_init 89 = .ok (.putfield 38, 3) := by decide +kernel
theorem dX8_init_92 : decode cX8_init 92 = .ok (.aload_n 0, 1) := by decide +kernel
theorem dX8_init_93 : decode cX8_init 93 = .ok (.new 41, 3) := by decide +kernel
theorem dX8_init_96 : decode cX8_init 96 = .ok (.dup, 1) := by decide +kernel
theorem dX8_init_97 : decode cX8_init 97 = .ok (.invokespecial 43, 3) := by decide +kernel
theorem dX8_init_100 : decode cX8_init 100 = .ok (.putfield 44, 3) := by decide +kernel
theorem dX8_init_103 : decode cX8_init 103 = .ok (.aload_n 0, 1) := by decide +kernel
theorem dX8_init_104 : decode cX8_init 104 = .ok (.new 48, 3) := by decide +kernel
theorem dX8_init_107 : decode cX8_init 107 = .ok (.dup, 1) := by decide +kernel
theorem dX8_init_108 : decode cX8_init 108 = .ok (.invokespecial 50, 3) := by decide +kernel
theorem dX8_init_111 : decode cX8_init 111 = .ok (.putfield 51, 3) := by decide +kernel
theorem dX8_init_114 : decode cX8_init 114 = .ok (.iconst 0, 1) := by decide +kernel
theorem dX8_init_115 : decode cX8_init 115 = .ok (.istore_n 1, 1) := by decide +kernel
theorem dX8_init_116 : decode cX8_init 116 = .ok (.iload_n 1, 1) := by decide +kernel
theorem dX8_init_117 : decode cX8_init 117 = .ok (.iconst 4, 1) := by decide +kernel
theorem dX8_init_118 : decode cX8_init 118 = .ok (.if_icmp .ge 24, 3) := by decide +kernel
theorem dX8_init_121 : decode cX8_init 121 = .ok (.aload_n 0, 1) := by decide +kernel
theorem dX8_init_122 : decode cX8_init 122 = .ok (.getfield 22, 3) := by decide +kernel
theorem dX8_init_125 : decode cX8_init 125 = .ok (.new 55, 3) := by decide +kernel
theorem dX8_init_128 : decode cX8_init 128 = .ok (.dup, 1) := by decide +kernel
theorem dX8_init_129 : decode cX8_init 129 = .ok (.invokespecial 57, 3) := by decide +kernel
theorem dX8_init_132 : decode cX8_init 132 = .ok (.invokevirtual 58, 3) := by decide +kernel
theorem dX8_init_135 : decode cX8_init 135 = .ok (.pop, 1) := by decide +kernel
theorem dX8_init_136 : decode cX8_init 136 = .ok (.iinc 1 1, 3) := by decide +kernel
theorem dX8_init_139 : decode cX8_init 139 = .ok (.goto (-23), 3) := by decide +kernel
theorem dX8_init_142 : decode cX8_init 142 = .ok (.return_, 1) := by decide +kernel
theorem dX8_program_0 : decode cX8_program 0 = .ok (.aload_n 0, 1) := by decide +kernel
theorem dX8_program_1 : decode cX8_program 1 = .ok (.getfield 44, 3) := by decide +kernel
theorem dX8_program_4 : decode cX8_program 4 = .ok (.getfield 62, 3) := by decide +kernel
theorem dX8_program_7 : decode cX8_program 7 = .ok (.invokevirtual 65, 3) := by decide +kernel
theorem dX8_program_10 : decode cX8_program 10 = .ok (.bipush 6, 2) := by decide +kernel
theorem dX8_program_12 : decode cX8_program 12 = .ok (.if_icmp .lt 13, 3) := by decide +kernel
theorem dX8_program_15 : decode cX8_program 15 = .ok (.new 69, 3) := by decide +kernel
theorem dX8_program_18 : decode cX8_program 18 = .ok (.dup, 1) := by decide +kernel
theorem dX8_program_19 : decode cX8_program 19 = .ok (.ldc 71, 2) := by decide +kernel
theorem dX8_program_21 : decode cX8_program 21 = .ok (.invokespecial 73, 3) := by decide +kernel
theorem dX8_program_24 : decode cX8_program 24 = .ok (.athrow, 1) := by decide +kernel
theorem dX8_program_25 : decode cX8_program 25 = .ok (.aload_n 0, 1) := by decide +kernel
theorem dX8_program_26 : decode cX8_program 26 = .ok (.getfield 44, 3) := by decide +kernel
theorem dX8_program_29 : decode cX8_program 29 = .ok (.getfield 62, 3) := by decide +kernel
theorem dX8_program_32 : decode cX8_program 32 = .ok (.new 76, 3) := by decide +kernel
theorem dX8_program_35 : decode cX8_program 35 = .ok (.dup, 1) := by decide +kernel
theorem dX8_program_36 : decode cX8_program 36 = .ok (.invokespecial 78, 3) := by decide +kernel
theorem dX8_program_39 : decode cX8_program 39 = .ok (.invokevirtual 58, 3) := by decide +kernel
theorem dX8_program_42 : decode cX8_program 42 = .ok (.pop, 1) := by decide +kernel
theorem dX8_program_43 : decode cX8_program 43 = .ok (.aload_n 0, 1) := by decide +kernel
theorem dX8_program_44 : decode cX8_program 44 = .ok (.getfield 44, 3) := by decide +kernel
theorem dX8_program_47 : decode cX8_program 47 = .ok (.getfield 62, 3) := by decide +kernel
theorem dX8_program_50 : decode cX8_program 50 = .ok (.invokevirtual 65, 3) := by decide +kernel
theorem dX8_program_53 : decode cX8_program 53 = .ok (.iconst 1, 1) := by decide +kernel
theorem dX8_program_54 : decode cX8_program 54 = .ok (.isub, 1) := by decide +kernel
theorem dX8_program_55 : decode cX8_program 55 = .ok (.ireturn, 1) := by decide +kernel
theorem dX8_block_0 : decode cX8_block 0 = .ok (.aload_n 0, 1) := by decide +kernel
theorem dX8_block_1 : decode cX8_block 1 = .ok (.iload_n 1, 1) := by decide +kernel
theorem dX8_block_2 : decode cX8_block 2 = .ok (.invokevirtual 79, 3) := by decide +kernel
theorem dX8_block_5 : decode cX8_block 5 = .ok (.astore 4, 2) := by decide +kernel
theorem dX8_block_7 : decode cX8_block 7 = .ok (.iload_n 1, 1) := by decide +kernel
theorem dX8_block_8 : decode cX8_block 8 = .ok (.iload_n 2, 1) := by decide +kernel
theorem dX8_block_9 : decode cX8_block 9 = .ok (.iload_n 3, 1) := by decide +kernel
theorem dX8_block_10 : decode cX8_block 10 = .ok (.invokestatic 83, 3) := by decide +kernel
theorem dX8_block_13 : decode cX8_block 13 = .ok (.ifCond .ne 13, 3) := by decide +kernel
theorem dX8_block_16 : decode cX8_block 16 = .ok (.new 87, 3) := by decide +kernel
theorem dX8_block_19 : decode cX8_block 19 = .ok (.dup, 1) := by decide +kernel
theorem dX8_block_20 : decode cX8_block 20 = .ok (.ldc 89, 2) := by decide +kernel
theorem dX8_block_22 : decode cX8_block 22 = .ok (.invokespecial 91, 3) := by decide +kernel
theorem dX8_block_25 : decode cX8_block 25 = .ok (.athrow, 1) := by decide +kernel
theorem dX8_block_26 : decode cX8_block 26 = .ok (.aload 4, 2) := by decide +kernel
theorem dX8_block_28 : decode cX8_block 28 = .ok (.getfield 92, 3) := by decide +kernel
theorem dX8_block_31 : decode cX8_block 31 = .ok (.bipush 30, 2) := by decide +kernel
theorem dX8_block_33 : decode cX8_block 33 = .ok (.if_icmp .ge 13, 3) := by decide +kernel
theorem dX8_block_36 : decode cX8_block 36 = .ok (.aload_n 0, 1) := by decide +kernel
theorem dX8_block_37 : decode cX8_block 37 = .ok (.getfield 19, 3) := by decide +kernel
theorem dX8_block_40 : decode cX8_block 40 = .ok (.invokevirtual 95, 3) := by decide +kernel
theorem dX8_block_43 : decode cX8_block 43 = .ok (.ifCond .ne 13, 3) := by decide +kernel
theorem dX8_block_46 : decode cX8_block 46 = .ok (.new 69, 3) := by decide +kernel
theorem dX8_block_49 : decode cX8_block 49 = .ok (.dup, 1) := by decide +kernel
theorem dX8_block_50 : decode cX8_block 50 = .ok (.ldc 99, 2) := by decide +kernel
theorem dX8_block_52 : decode cX8_block 52 = .ok (.invokespecial 73, 3) := by decide +kernel
theorem dX8_block_55 : decode cX8_block 55 = .ok (.athrow, 1) := by decide +kernel
theorem dX8_block_56 : decode cX8_block 56 = .ok (.aload 4, 2) := by decide +kernel
theorem dX8_block_58 : decode cX8_block 58 = .ok (.iload_n 2, 1) := by decide +kernel
theorem dX8_block_59 : decode cX8_block 59 = .ok (.iload_n 3, 1) := by decide +kernel
theorem dX8_block_60 : decode cX8_block 60 = .ok (.invokevirtual 101, 3) := by decide +kernel
theorem dX8_block_63 : decode cX8_block 63 = .ok (.aload 4, 2) := by decide +kernel
theorem dX8_block_65 : decode cX8_block 65 = .ok (.getfield 92, 3) := by decide +kernel
theorem dX8_block_68 : decode cX8_block 68 = .ok (.ireturn, 1) := by decide +kernel
theorem dX8_map_0 : decode cX8_map 0 = .ok (.iload_n 1, 1) := by decide +kernel
theorem dX8_map_1 : decode cX8_map 1 = .ok (.iconst 0, 1) := by decide +kernel
theorem dX8_map_2 : decode cX8_map 2 = .ok (.bipush 11, 2) := by decide +kernel
theorem dX8_map_4 : decode cX8_map 4 = .ok (.invokestatic 105, 3) := by decide +kernel
theorem dX8_map_7 : decode cX8_map 7 = .ok (.ifCond .eq 14, 3) := by decide +kernel
theorem dX8_map_10 : decode cX8_map 10 = .ok (.iload_n 2, 1) := by decide +kernel
theorem dX8_map_11 : decode cX8_map 11 = .ok (.bipush (-50), 2) := by decide +kernel
theorem dX8_map_13 : decode cX8_map 13 = .ok (.bipush 50, 2) := by decide +kernel
theorem dX8_map_15 : decode cX8_map 15 = .ok (.invokestatic 105, 3) := by decide +kernel
theorem dX8_map_18 : decode cX8_map 18 = .ok (.ifCond .ne 13, 3) := by decide +kernel
theorem dX8_map_21 : decode cX8_map 21 = .ok (.new 87, 3) := by decide +kernel
theorem dX8_map_24 : decode cX8_map 24 = .ok (.dup, 1) := by decide +kernel
theorem dX8_map_25 : decode cX8_map 25 = .ok (.ldc 108, 2) := by decide +kernel
theorem dX8_map_27 : decode cX8_map 27 = .ok (.invokespecial 91, 3) := by decide +kernel
theorem dX8_map_30 : decode cX8_map 30 = .ok (.athrow, 1) := by decide +kernel
theorem dX8_map_31 : decode cX8_map 31 = .ok (.aload_n 0, 1) := by decide +kernel
theorem dX8_map_32 : decode cX8_map 32 = .ok (.getfield 31, 3) := by decide +kernel
theorem dX8_map_35 : decode cX8_map 35 = .ok (.iload_n 1, 1) := by decide +kernel
theorem dX8_map_36 : decode cX8_map 36 = .ok (.iaload, 1) := by decide +kernel
theorem dX8_map_37 : decode cX8_map 37 = .ok (.istore_n 3, 1) := by decide +kernel
theorem dX8_map_38 : decode cX8_map 38 = .ok (.aload_n 0, 1) := by decide +kernel
theorem dX8_map_39 : decode cX8_map 39 = .ok (.getfield 31, 3) := by decide +kernel
theorem dX8_map_42 : decode cX8_map 42 = .ok (.iload_n 1, 1) := by decide +kernel
theorem dX8_map_43 : decode cX8_map 43 = .ok (.iload_n 2, 1) := by decide +kernel
theorem dX8_map_44 : decode cX8_map 44 = .ok (.iastore, 1) := by decide +kernel
theorem dX8_map_45 : decode cX8_map 45 = .ok (.iload_n 3, 1) := by decide +kernel
theorem dX8_map_46 : decode cX8_map 46 = .ok (.ireturn, 1) := by decide +kernel
theorem dX8_tool_0 : decode cX8_tool 0 = .ok (.iload_n 1, 1) := by decide +kernel
theorem dX8_tool_1 : decode cX8_tool 1 = .ok (.iconst 0, 1) := by decide +kernel
theorem dX8_tool_2 : decode cX8_tool 2 = .ok (.iconst 3, 1) := by decide +kernel
theorem dX8_tool_3 : decode cX8_tool 3 = .ok (.invokestatic 105, 3) := by decide +kernel
theorem dX8_tool_6 : decode cX8_tool 6 = .ok (.ifCond .eq 14, 3) := by decide +kernel
theorem dX8_tool_9 : decode cX8_tool 9 = .ok (.iload_n 2, 1) := by decide +kernel
theorem dX8_tool_10 : decode cX8_tool 10 = .ok (.iconst 1, 1) := by decide +kernel
theorem dX8_tool_11 : decode cX8_tool 11 = .ok (.sipush 500, 3) := by decide +kernel
theorem dX8_tool_14 : decode cX8_tool 14 = .ok (.invokestatic 105, 3) := by decide +kernel
theorem dX8_tool_17 : decode cX8_tool 17 = .ok (.ifCond .ne 13, 3) := by decide +kernel
theorem dX8_tool_20 : decode cX8_tool 20 = .ok (.new 87, 3) := by decide +kernel
theorem dX8_tool_23 : decode cX8_tool 23 = .ok (.dup, 1) := by decide +kernel
theorem dX8_tool_24 : decode cX8_tool 24 = .ok (.ldc 110, 2) := by decide +kernel
theorem dX8_tool_26 : decode cX8_tool 26 = .ok (.invokespecial 91, 3) := by decide +kernel
theorem dX8_tool_29 : decode cX8_tool 29 = .ok (.athrow, 1) := by decide +kernel
theorem dX8_tool_30 : decode cX8_tool 30 = .ok (.aload_n 0, 1) := by decide +kernel
theorem dX8_tool_31 : decode cX8_tool 31 = .ok (.getfield 12, 3) := by decide +kernel
theorem dX8_tool_34 : decode cX8_tool 34 = .ok (.invokevirtual 65, 3) := by decide +kernel
theorem dX8_tool_37 : decode cX8_tool 37 = .ok (.bipush 16, 2) := by decide +kernel
theorem dX8_tool_39 : decode cX8_tool 39 = .ok (.if_icmp .lt 13, 3) := by decide +kernel
theorem dX8_tool_42 : decode cX8_tool 42 = .ok (.new 69, 3) := by decide +kernel
theorem dX8_tool_45 : decode cX8_tool 45 = .ok (.dup, 1) := by decide +kernel
theorem dX8_tool_46 : decode cX8_tool 46 = .ok (.ldc 112, 2) := by decide +kernel
theorem dX8_tool_48 : decode cX8_tool 48 = .ok (.invokespecial 73, 3) := by decide +kernel
theorem dX8_tool_51 : decode cX8_tool 51 = .ok (.athrow, 1) := by decide +kernel
theorem dX8_tool_52 : decode cX8_tool 52 = .ok (.aload_n 0, 1) := by decide +kernel
theorem dX8_tool_53 : decode cX8_tool 53 = .ok (.getfield 12, 3) := by decide +kernel
theorem dX8_tool_56 : decode cX8_tool 56 = .ok (.new 114, 3) := by decide +kernel
theorem dX8_tool_59 : decode cX8_tool 59 = .ok (.dup, 1) := by decide +kernel
theorem dX8_tool_60 : decode cX8_tool 60 = .ok (.aload_n 0, 1) := by decide +kernel
theorem dX8_tool_61 : decode cX8_tool 61 = .ok (.getfield 12, 3) := by decide +kernel
theorem dX8_tool_64 : decode cX8_tool 64 = .ok (.invokevirtual 65, 3) := by decide +kernel
theorem dX8_tool_67 : decode cX8_tool 67 = .ok (.iload_n 1, 1) := by decide +kernel
theorem dX8_tool_68 : decode cX8_tool 68 = .ok (.iload_n 2, 1) := by decide +kernel
theorem dX8_tool_69 : decode cX8_tool 69 = .ok (.invokespecial 116, 3) := by decide +kernel
theorem dX8_tool_72 : decode cX8_tool 72 = .ok (.invokevirtual 58, 3) := by decide +kernel
theorem dX8_tool_75 : decode cX8_tool 75 = .ok (.pop, 1) := by decide +kernel
theorem dX8_tool_76 : decode cX8_tool 76 = .ok (.aload_n 0, 1) := by decide +kernel
theorem dX8_tool_77 : decode cX8_tool 77 = .ok (.getfield 12, 3) := by decide +kernel
theorem dX8_tool_80 : decode cX8_tool 80 = .ok (.invokevirtual 65, 3) := by decide +kernel
theorem dX8_tool_83 : decode cX8_tool 83 = .ok (.iconst 1, 1) := by decide +kernel
theorem dX8_tool_84 : decode cX8_tool 84 = .ok (.isub, 1) := by decide +kernel
theorem dX8_tool_85 : decode cX8_tool 85 = .ok (.ireturn, 1) := by decide +kernel
theorem dX8_load_0 : decode cX8_load 0 = .ok (.aload_n 0, 1) := by decide +kernel
theorem dX8_load_1 : decode cX8_load 1 = .ok (.iload_n 1, 1) := by decide +kernel
theorem dX8_load_2 : decode cX8_load 2 = .ok (.invokevirtual 119, 3) := by decide +kernel
theorem dX8_load_5 : decode cX8_load 5 = .ok (.astore_n 3, 1) := by decide +kernel
theorem dX8_load_6 : decode cX8_load 6 = .ok (.iload_n 2, 1) := by decide +kernel
theorem dX8_load_7 : decode cX8_load 7 = .ok (.ifCond .eq 29, 3) := by decide +kernel
theorem dX8_load_10 : decode cX8_load 10 = .ok (.aload_n 3, 1) := by decide +kernel
theorem dX8_load_11 : decode cX8_load 11 = .ok (.getfield 123, 3) := by decide +kernel
theorem dX8_load_14 : decode cX8_load 14 = .ok (.ifCond .ne 22, 3) := by decide +kernel
theorem dX8_load_17 : decode cX8_load 17 = .ok (.aload_n 0, 1) := by decide +kernel
theorem dX8_load_18 : decode cX8_load 18 = .ok (.invokevirtual 127, 3) := by decide +kernel
theorem dX8_load_21 : decode cX8_load 21 = .ok (.bipush 6, 2) := by decide +kernel
theorem dX8_load_23 : decode cX8_load 23 = .ok (.if_icmp .lt 13, 3) := by decide +kernel
theorem dX8_load_26 : decode cX8_load 26 = .ok (.new 69, 3) := by decide +kernel
theorem dX8_load_29 : decode cX8_load 29 = .ok (.dup, 1) := by decide +kernel
theorem dX8_load_30 : decode cX8_load 30 = .ok (.ldc 130, 2) := by decide +kernel
theorem dX8_load_32 : decode cX8_load 32 = .ok (.invokespecial 73, 3) := by decide +kernel
theorem dX8_load_35 : decode cX8_load 35 = .ok (.athrow, 1) := by decide +kernel
theorem dX8_load_36 : decode cX8_load 36 = .ok (.aload_n 3, 1) := by decide +kernel
theorem dX8_load_37 : decode cX8_load 37 = .ok (.iload_n 2, 1) := by decide +kernel
theorem dX8_load_38 : decode cX8_load 38 = .ok (.putfield 123, 3) := by decide +kernel
theorem dX8_load_41 : decode cX8_load 41 = .ok (.aload_n 0, 1) := by decide +kernel
theorem dX8_load_42 : decode cX8_load 42 = .ok (.invokevirtual 127, 3) := by decide +kernel
theorem dX8_load_45 : decode cX8_load 45 = .ok (.ireturn, 1) := by decide +kernel
theorem dX8_pallet_0 : decode cX8_pallet 0 = .ok (.iload_n 1, 1) := by decide +kernel
theorem dX8_pallet_1 : decode cX8_pallet 1 = .ok (.iconst 1, 1) := by decide +kernel
theorem dX8_pallet_2 : decode cX8_pallet 2 = .ok (.bipush 9, 2) := by decide +kernel
theorem dX8_pallet_4 : decode cX8_pallet 4 = .ok (.invokestatic 105, 3) := by decide +kernel
theorem dX8_pallet_7 : decode cX8_pallet 7 = .ok (.ifCond .ne 13, 3) := by decide +kernel
theorem dX8_pallet_10 : decode cX8_pallet 10 = .ok (.new 87, 3) := by decide +kernel
theorem dX8_pallet_13 : decode cX8_pallet 13 = .ok (.dup, 1) := by decide +kernel
theorem dX8_pallet_14 : decode cX8_pallet 14 = .ok (.ldc 132, 2) := by decide +kernel
theorem dX8_pallet_16 : decode cX8_pallet 16 = .ok (.invokespecial 91, 3) := by decide +kernel
theorem dX8_pallet_19 : decode cX8_pallet 19 = .ok (.athrow, 1) := by decide +kernel
theorem dX8_pallet_20 : decode cX8_pallet 20 = .ok (.aload_n 0, 1) := by decide +kernel
theorem dX8_pallet_21 : decode cX8_pallet 21 = .ok (.getfield 16, 3) := by decide +kernel
theorem dX8_pallet_24 : decode cX8_pallet 24 = .ok (.invokevirtual 65, 3) := by decide +kernel
theorem dX8_pallet_27 : decode cX8_pallet 27 = .ok (.bipush 6, 2) := by decide +kernel
theorem dX8_pallet_29 : decode cX8_pallet 29 = .ok (.if_icmp .lt 13, 3) := by decide +kernel
theorem dX8_pallet_32 : decode cX8_pallet 32 = .ok (.new 69, 3) := by decide +kernel
theorem dX8_pallet_35 : decode cX8_pallet 35 = .ok (.dup, 1) := by decide +kernel
theorem dX8_pallet_36 : decode cX8_pallet 36 = .ok (.ldc 134, 2) := by decide +kernel
theorem dX8_pallet_38 : decode cX8_pallet 38 = .ok (.invokespecial 73, 3) := by decide +kernel
theorem dX8_pallet_41 : decode cX8_pallet 41 = .ok (.athrow, 1) := by decide +kernel
theorem dX8_pallet_42 : decode cX8_pallet 42 = .ok (.aload_n 0, 1) := by decide +kernel
theorem dX8_pallet_43 : decode cX8_pallet 43 = .ok (.getfield 16, 3) := by decide +kernel
theorem dX8_pallet_46 : decode cX8_pallet 46 = .ok (.new 136, 3) := by decide +kernel
theorem dX8_pallet_49 : decode cX8_pallet 49 = .ok (.dup, 1) := by decide +kernel
theorem dX8_pallet_50 : decode cX8_pallet 50 = .ok (.iload_n 1, 1) := by decide +kernel
theorem dX8_pallet_51 : decode cX8_pallet 51 = .ok (.invokespecial 138, 3) := by decide +kernel
theorem dX8_pallet_54 : decode cX8_pallet 54 = .ok (.invokevirtual 58, 3) := by decide +kernel
theorem dX8_pallet_57 : decode cX8_pallet 57 = .ok (.pop, 1) := by decide +kernel
theorem dX8_pallet_58 : decode cX8_pallet 58 = .ok (.aload_n 0, 1) := by decide +kernel
theorem dX8_pallet_59 : decode cX8_pallet 59 = .ok (.getfield 16, 3) := by decide +kernel
theorem dX8_pallet_62 : decode cX8_pallet 62 = .ok (.invokevirtual 65, 3) := by decide +kernel
theorem dX8_pallet_65 : decode cX8_pallet 65 = .ok (.iconst 1, 1) := by decide +kernel
theorem dX8_pallet_66 : decode cX8_pallet 66 = .ok (.isub, 1) := by decide +kernel
theorem dX8_pallet_67 : decode cX8_pallet 67 = .ok (.ireturn, 1) := by decide +kernel
theorem dX8_clamp_0 : decode cX8_clamp 0 = .ok (.aload_n 0, 1) := by decide +kernel
theorem dX8_clamp_1 : decode cX8_clamp 1 = .ok (.iload_n 1, 1) := by decide +kernel
theorem dX8_clamp_2 : decode cX8_clamp 2 = .ok (.invokevirtual 141, 3) := by decide +kernel
theorem dX8_clamp_5 : decode cX8_clamp 5 = .ok (.astore 5, 2) := by decide +kernel
theorem dX8_clamp_7 : decode cX8_clamp 7 = .ok (.aload_n 0, 1) := by decide +kernel
theorem dX8_clamp_8 : decode cX8_clamp 8 = .ok (.iload_n 2, 1) := by decide +kernel
theorem dX8_clamp_9 : decode cX8_clamp 9 = .ok (.iload_n 3, 1) := by decide +kernel
theorem dX8_clamp_10 : decode cX8_clamp 10 = .ok (.invokevirtual 145, 3) := by decide +kernel
theorem dX8_clamp_13 : decode cX8_clamp 13 = .ok (.istore 6, 2) := by decide +kernel
theorem dX8_clamp_15 : decode cX8_clamp 15 = .ok (.iload 4, 2) := by decide +kernel
theorem dX8_clamp_17 : decode cX8_clamp 17 = .ok (.iconst 1, 1) := by decide +kernel
theorem dX8_clamp_18 : decode cX8_clamp 18 = .ok (.bipush 9, 2) := by decide +kernel
theorem dX8_clamp_20 : decode cX8_clamp 20 = .ok (.invokestatic 105, 3) := by decide +kernel
theorem dX8_clamp_23 : decode cX8_clamp 23 = .ok (.ifCond .ne 13, 3) := by decide +kernel
theorem dX8_clamp_26 : decode cX8_clamp 26 = .ok (.new 87, 3) := by decide +kernel
theorem dX8_clamp_29 : decode cX8_clamp 29 = .ok (.dup, 1) := by decide +kernel
theorem dX8_clamp_30 : decode cX8_clamp 30 = .ok (.ldc 149, 2) := by decide +kernel
theorem dX8_clamp_32 : decode cX8_clamp 32 = .ok (.invokespecial 91, 3) := by decide +kernel
theorem dX8_clamp_35 : decode cX8_clamp 35 = .ok (.athrow, 1) := by decide +kernel
theorem dX8_clamp_36 : decode cX8_clamp 36 = .ok (.aload 5, 2) := by decide +kernel
theorem dX8_clamp_38 : decode cX8_clamp 38 = .ok (.getfield 151, 3) := by decide +kernel
theorem dX8_clamp_41 : decode cX8_clamp 41 = .ok (.ifCond .ne 23, 3) := by decide +kernel
theorem dX8_clamp_44 : decode cX8_clamp 44 = .ok (.aload 5, 2) := by decide +kernel
theorem dX8_clamp_46 : decode cX8_clamp 46 = .ok (.getfield 154, 3) := by decide +kernel
theorem dX8_clamp_49 : decode cX8_clamp 49 = .ok (.iload 6, 2) := by decide +kernel
theorem dX8_clamp_51 : decode cX8_clamp 51 = .ok (.iaload, 1) := by decide +kernel
theorem dX8_clamp_52 : decode cX8_clamp 52 = .ok (.ifCond .ne 12, 3) := by decide +kernel
theorem dX8_clamp_55 : decode cX8_clamp 55 = .ok (.aload 5, 2) := by decide +kernel
theorem dX8_clamp_57 : decode cX8_clamp 57 = .ok (.getfield 157, 3) := by decide +kernel
theorem dX8_clamp_60 : decode cX8_clamp 60 = .ok (.iconst 3, 1) := by decide +kernel
theorem dX8_clamp_61 : decode cX8_clamp 61 = .ok (.if_icmp .lt 13, 3) := by decide +kernel
theorem dX8_clamp_64 : decode cX8_clamp 64 = .ok (.new 69, 3) := by decide +kernel
theorem dX8_clamp_67 : decode cX8_clamp 67 = .ok (.dup, 1) := by decide +kernel
theorem dX8_clamp_68 : decode cX8_clamp 68 = .ok (.ldc 160, 2) := by decide +kernel
theorem dX8_clamp_70 : decode cX8_clamp 70 = .ok (.invokespecial 73, 3) := by decide +kernel
theorem dX8_clamp_73 : decode cX8_clamp 73 = .ok (.athrow, 1) := by decide +kernel
theorem dX8_clamp_74 : decode cX8_clamp 74 = .ok (.aload 5, 2) := by decide +kernel
theorem dX8_clamp_76 : decode cX8_clamp 76 = .ok (.getfield 154, 3) := by decide +kernel
theorem dX8_clamp_79 : decode cX8_clamp 79 = .ok (.iload 6, 2) := by decide +kernel
theorem dX8_clamp_81 : decode cX8_clamp 81 = .ok (.iload 4, 2) := by decide +kernel
theorem dX8_clamp_83 : decode cX8_clamp 83 = .ok (.iastore, 1) := by decide +kernel
theorem dX8_clamp_84 : decode cX8_clamp 84 = .ok (.aload 5, 2) := by decide +kernel
theorem dX8_clamp_86 : decode cX8_clamp 86 = .ok (.dup, 1) := by decide +kernel
theorem dX8_clamp_87 : decode cX8_clamp 87 = .ok (.getfield 157, 3) := by decide +kernel
theorem dX8_clamp_90 : decode cX8_clamp 90 = .ok (.iconst 1, 1) := by decide +kernel
theorem dX8_clamp_91 : decode cX8_clamp 91 = .ok (.iadd, 1) := by decide +kernel
theorem dX8_clamp_92 : decode cX8_clamp 92 = .ok (.putfield 157, 3) := by decide +kernel
theorem dX8_clamp_95 : decode cX8_clamp 95 = .ok (.aload 5, 2) := by decide +kernel
theorem dX8_clamp_97 : decode cX8_clamp 97 = .ok (.getfield 157, 3) := by decide +kernel
theorem dX8_clamp_100 : decode cX8_clamp 100 = .ok (.ireturn, 1) := by decide +kernel
theorem dX8_prove_0 : decode cX8_prove 0 = .ok (.aload_n 0, 1) := by decide +kernel
theorem dX8_prove_1 : decode cX8_prove 1 = .ok (.iload_n 1, 1) := by decide +kernel
theorem dX8_prove_2 : decode cX8_prove 2 = .ok (.iload_n 2, 1) := by decide +kernel
theorem dX8_prove_3 : decode cX8_prove 3 = .ok (.invokevirtual 162, 3) := by decide +kernel
theorem dX8_prove_6 : decode cX8_prove 6 = .ok (.aload_n 0, 1) := by decide +kernel
theorem dX8_prove_7 : decode cX8_prove 7 = .ok (.getfield 51, 3) := by decide +kernel
theorem dX8_prove_10 : decode cX8_prove 10 = .ok (.getfield 165, 3) := by decide +kernel
theorem dX8_prove_13 : decode cX8_prove 13 = .ok (.ifCond .ne 7, 3) := by decide +kernel
theorem dX8_prove_16 : decode cX8_prove 16 = .ok (.iconst (-1), 1) := by decide +kernel
theorem dX8_prove_17 : decode cX8_prove 17 = .ok (.goto 22, 3) := by decide +kernel
theorem dX8_prove_20 : decode cX8_prove 20 = .ok (.sipush 10000, 3) := by decide +kernel
theorem dX8_prove_23 : decode cX8_prove 23 = .ok (.aload_n 0, 1) := by decide +kernel
theorem dX8_prove_24 : decode cX8_prove 24 = .ok (.getfield 51, 3) := by decide +kernel
theorem dX8_prove_27 : decode cX8_prove 27 = .ok (.getfield 165, 3) := by decide +kernel
theorem dX8_prove_30 : decode cX8_prove 30 = .ok (.imul, 1) := by decide +kernel
theorem dX8_prove_31 : decode cX8_prove 31 = .ok (.aload_n 0, 1) := by decide +kernel
theorem dX8_prove_32 : decode cX8_prove 32 = .ok (.getfield 51, 3) := by decide +kernel
theorem dX8_prove_35 : decode cX8_prove 35 = .ok (.getfield 168, 3) := by decide +kernel
theorem dX8_prove_38 : decode cX8_prove 38 = .ok (.iadd, 1) := by decide +kernel
theorem dX8_prove_39 : decode cX8_prove 39 = .ok (.ireturn, 1) := by decide +kernel
theorem dX8_takes_0 : decode cX8_takes 0 = .ok (.aload_n 0, 1) := by decide +kernel
theorem dX8_takes_1 : decode cX8_takes 1 = .ok (.iload_n 1, 1) := by decide +kernel
theorem dX8_takes_2 : decode cX8_takes 2 = .ok (.iload_n 2, 1) := by decide +kernel
theorem dX8_takes_3 : decode cX8_takes 3 = .ok (.invokevirtual 162, 3) := by decide +kernel
theorem dX8_takes_6 : decode cX8_takes 6 = .ok (.aload_n 0, 1) := by decide +kernel
theorem dX8_takes_7 : decode cX8_takes 7 = .ok (.getfield 51, 3) := by decide +kernel
theorem dX8_takes_10 : decode cX8_takes 10 = .ok (.getfield 165, 3) := by decide +kernel
theorem dX8_takes_13 : decode cX8_takes 13 = .ok (.ifCond .ne 13, 3) := by decide +kernel
theorem dX8_takes_16 : decode cX8_takes 16 = .ok (.aload_n 0, 1) := by decide +kernel
theorem dX8_takes_17 : decode cX8_takes 17 = .ok (.getfield 51, 3) := by decide +kernel
theorem dX8_takes_20 : decode cX8_takes 20 = .ok (.getfield 171, 3) := by decide +kernel
theorem dX8_takes_23 : decode cX8_takes 23 = .ok (.goto 4, 3) := by decide +kernel
theorem dX8_takes_26 : decode cX8_takes 26 = .ok (.iconst (-1), 1) := by decide +kernel
theorem dX8_takes_27 : decode cX8_takes 27 = .ok (.ireturn, 1) := by decide +kernel
theorem dX8_plan_0 : decode cX8_plan 0 = .ok (.aload_n 0, 1) := by decide +kernel
theorem dX8_plan_1 : decode cX8_plan 1 = .ok (.iload_n 1, 1) := by decide +kernel
theorem dX8_plan_2 : decode cX8_plan 2 = .ok (.invokevirtual 141, 3) := by decide +kernel
theorem dX8_plan_5 : decode cX8_plan 5 = .ok (.astore_n 3, 1) := by decide +kernel
theorem dX8_plan_6 : decode cX8_plan 6 = .ok (.aload_n 0, 1) := by decide +kernel
theorem dX8_plan_7 : decode cX8_plan 7 = .ok (.iload_n 1, 1) := by decide +kernel
theorem dX8_plan_8 : decode cX8_plan 8 = .ok (.iload_n 2, 1) := by decide +kernel
theorem dX8_plan_9 : decode cX8_plan 9 = .ok (.invokevirtual 162, 3) := by decide +kernel
theorem dX8_plan_12 : decode cX8_plan 12 = .ok (.aload_n 3, 1) := by decide +kernel
theorem dX8_plan_13 : decode cX8_plan 13 = .ok (.getfield 151, 3) := by decide +kernel
theorem dX8_plan_16 : decode cX8_plan 16 = .ok (.ifCond .ne 13, 3) := by decide +kernel
theorem dX8_plan_19 : decode cX8_plan 19 = .ok (.aload_n 0, 1) := by decide +kernel
theorem dX8_plan_20 : decode cX8_plan 20 = .ok (.getfield 51, 3) := by decide +kernel
theorem dX8_plan_23 : decode cX8_plan 23 = .ok (.getfield 165, 3) := by decide +kernel
theorem dX8_plan_26 : decode cX8_plan 26 = .ok (.ifCond .eq 13, 3) := by decide +kernel
theorem dX8_plan_29 : decode cX8_plan 29 = .ok (.new 69, 3) := by decide +kernel
theorem dX8_plan_32 : decode cX8_plan 32 = .ok (.dup, 1) := by decide +kernel
theorem dX8_plan_33 : decode cX8_plan 33 = .ok (.ldc 174, 2) := by decide +kernel
theorem dX8_plan_35 : decode cX8_plan 35 = .ok (.invokespecial 73, 3) := by decide +kernel
theorem dX8_plan_38 : decode cX8_plan 38 = .ok (.athrow, 1) := by decide +kernel
theorem dX8_plan_39 : decode cX8_plan 39 = .ok (.aload_n 3, 1) := by decide +kernel
theorem dX8_plan_40 : decode cX8_plan 40 = .ok (.iconst 1, 1) := by decide +kernel
theorem dX8_plan_41 : decode cX8_plan 41 = .ok (.putfield 151, 3) := by decide +kernel
theorem dX8_plan_44 : decode cX8_plan 44 = .ok (.aload_n 3, 1) := by decide +kernel
theorem dX8_plan_45 : decode cX8_plan 45 = .ok (.iload_n 2, 1) := by decide +kernel
theorem dX8_plan_46 : decode cX8_plan 46 = .ok (.putfield 176, 3) := by decide +kernel
theorem dX8_plan_49 : decode cX8_plan 49 = .ok (.aload_n 0, 1) := by decide +kernel
theorem dX8_plan_50 : decode cX8_plan 50 = .ok (.getfield 19, 3) := by decide +kernel
theorem dX8_plan_53 : decode cX8_plan 53 = .ok (.aload_n 3, 1) := by decide +kernel
theorem dX8_plan_54 : decode cX8_plan 54 = .ok (.invokevirtual 58, 3) := by decide +kernel
theorem dX8_plan_57 : decode cX8_plan 57 = .ok (.pop, 1) := by decide +kernel
theorem dX8_plan_58 : decode cX8_plan 58 = .ok (.aload_n 0, 1) := by decide +kernel
theorem dX8_plan_59 : decode cX8_plan 59 = .ok (.getfield 19, 3) := by decide +kernel
theorem dX8_plan_62 : decode cX8_plan 62 = .ok (.invokevirtual 65, 3) := by decide +kernel
theorem dX8_plan_65 : decode cX8_plan 65 = .ok (.ireturn, 1) := by decide +kernel
theorem dX8_night_0 : decode cX8_night 0 = .ok (.iconst 0, 1) := by decide +kernel
theorem dX8_night_1 : decode cX8_night 1 = .ok (.istore_n 1, 1) := by decide +kernel
theorem dX8_night_2 : decode cX8_night 2 = .ok (.iconst 0, 1) := by decide +kernel
theorem dX8_night_3 : decode cX8_night 3 = .ok (.istore_n 2, 1) := by decide +kernel
theorem dX8_night_4 : decode cX8_night 4 = .ok (.iload_n 2, 1) := by decide +kernel
theorem dX8_night_5 : decode cX8_night 5 = .ok (.bipush 6, 2) := by decide +kernel
theorem dX8_night_7 : decode cX8_night 7 = .ok (.if_icmp .ge 59, 3) := by decide +kernel
theorem dX8_night_10 : decode cX8_night 10 = .ok (.aload_n 0, 1) := by decide +kernel
theorem dX8_night_11 : decode cX8_night 11 = .ok (.getfield 19, 3) := by decide +kernel
theorem dX8_night_14 : decode cX8_night 14 = .ok (.invokevirtual 95, 3) := by decide +kernel
theorem dX8_night_17 : decode cX8_night 17 = .ok (.ifCond .ne 49, 3) := by decide +kernel
theorem dX8_night_20 : decode cX8_night 20 = .ok (.aload_n 0, 1) := by decide +kernel
theorem dX8_night_21 : decode cX8_night 21 = .ok (.getfield 19, 3) := by decide +kernel
theorem dX8_night_24 : decode cX8_night 24 = .ok (.iconst 0, 1) := by decide +kernel
theorem dX8_night_25 : decode cX8_night 25 = .ok (.invokevirtual 179, 3) := by decide +kernel
theorem dX8_night_28 : decode cX8_night 28 = .ok (.checkcast 136, 3) := by decide +kernel
theorem dX8_night_31 : decode cX8_night 31 = .ok (.astore_n 3, 1) := by decide +kernel
theorem dX8_night_32 : decode cX8_night 32 = .ok (.aload_n 0, 1) := by decide +kernel
theorem dX8_night_33 : decode cX8_night 33 = .ok (.aload_n 3, 1) := by decide +kernel
theorem dX8_night_34 : decode cX8_night 34 = .ok (.invokevirtual 183, 3) := by decide +kernel
theorem dX8_night_37 : decode cX8_night 37 = .ok (.ifCond .ne 6, 3) := by decide +kernel
theorem dX8_night_40 : decode cX8_night 40 = .ok (.goto 26, 3) := by decide +kernel
theorem dX8_night_43 : decode cX8_night 43 = .ok (.aload_n 3, 1) := by decide +kernel
theorem dX8_night_44 : decode cX8_night 44 = .ok (.iconst 2, 1) := by decide +kernel
theorem dX8_night_45 : decode cX8_night 45 = .ok (.putfield 151, 3) := by decide +kernel
theorem dX8_night_48 : decode cX8_night 48 = .ok (.aload_n 0, 1) := by decide +kernel
theorem dX8_night_49 : decode cX8_night 49 = .ok (.getfield 19, 3) := by decide +kernel
theorem dX8_night_52 : decode cX8_night 52 = .ok (.iconst 0, 1) := by decide +kernel
theorem dX8_night_53 : decode cX8_night 53 = .ok (.invokevirtual 187, 3) := by decide +kernel
theorem dX8_night_56 : decode cX8_night 56 = .ok (.pop, 1) := by decide +kernel
theorem dX8_night_57 : decode cX8_night 57 = .ok (.iinc 1 1, 3) := by decide +kernel
theorem dX8_night_60 : decode cX8_night 60 = .ok (.iinc 2 1, 3) := by decide +kernel
theorem dX8_night_63 : decode cX8_night 63 = .ok (.goto (-59), 3) := by decide +kernel
theorem dX8_night_66 : decode cX8_night 66 = .ok (.iload_n 1, 1) := by decide +kernel
theorem dX8_night_67 : decode cX8_night 67 = .ok (.ireturn, 1) := by decide +kernel
theorem dX8_foresees_0 : decode cX8_foresees 0 = .ok (.iconst 0, 1) := by decide +kernel
theorem dX8_foresees_1 : decode cX8_foresees 1 = .ok (.istore_n 1, 1) := by decide +kernel
theorem dX8_foresees_2 : decode cX8_foresees 2 = .ok (.iload_n 1, 1) := by decide +kernel
theorem dX8_foresees_3 : decode cX8_foresees 3 = .ok (.iconst 4, 1) := by decide +kernel
theorem dX8_foresees_4 : decode cX8_foresees 4 = .ok (.if_icmp .ge 20, 3) := by decide +kernel
theorem dX8_foresees_7 : decode cX8_foresees 7 = .ok (.aload_n 0, 1) := by decide +kernel
theorem dX8_foresees_8 : decode cX8_foresees 8 = .ok (.getfield 38, 3) := by decide +kernel
theorem dX8_foresees_11 : decode cX8_foresees 11 = .ok (.iload_n 1, 1) := by decide +kernel
theorem dX8_foresees_12 : decode cX8_foresees 12 = .ok (.aload_n 0, 1) := by decide +kernel
theorem dX8_foresees_13 : decode cX8_foresees 13 = .ok (.iload_n 1, 1) := by decide +kernel
theorem dX8_foresees_14 : decode cX8_foresees 14 = .ok (.invokevirtual 190, 3) := by decide +kernel
theorem dX8_foresees_17 : decode cX8_foresees 17 = .ok (.iastore, 1) := by decide +kernel
theorem dX8_foresees_18 : decode cX8_foresees 18 = .ok (.iinc 1 1, 3) := by decide +kernel
theorem dX8_foresees_21 : decode cX8_foresees 21 = .ok (.goto (-19), 3) := by decide +kernel
theorem dX8_foresees_24 : decode cX8_foresees 24 = .ok (.iconst 0, 1) := by decide +kernel
theorem dX8_foresees_25 : decode cX8_foresees 25 = .ok (.istore_n 1, 1) := by decide +kernel
theorem dX8_foresees_26 : decode cX8_foresees 26 = .ok (.iload_n 1, 1) := by decide +kernel
theorem dX8_foresees_27 : decode cX8_foresees 27 = .ok (.aload_n 0, 1) := by decide +kernel
theorem dX8_foresees_28 : decode cX8_foresees 28 = .ok (.getfield 19, 3) := by decide +kernel
theorem dX8_foresees_31 : decode cX8_foresees 31 = .ok (.invokevirtual 65, 3) := by decide +kernel
theorem dX8_foresees_34 : decode cX8_foresees 34 = .ok (.if_icmp .ge 29, 3) := by decide +kernel
theorem dX8_foresees_37 : decode cX8_foresees 37 = .ok (.aload_n 0, 1) := by decide +kernel
theorem dX8_foresees_38 : decode cX8_foresees 38 = .ok (.aload_n 0, 1) := by decide +kernel
theorem dX8_foresees_39 : decode cX8_foresees 39 = .ok (.getfield 19, 3) := by decide +kernel
theorem dX8_foresees_42 : decode cX8_foresees 42 = .ok (.iload_n 1, 1) := by decide +kernel
theorem dX8_foresees_43 : decode cX8_foresees 43 = .ok (.invokevirtual 179, 3) := by decide +kernel
theorem dX8_foresees_46 : decode cX8_foresees 46 = .ok (.checkcast 136, 3) := by decide +kernel
theorem dX8_foresees_49 : decode cX8_foresees 49 = .ok (.invokevirtual 194, 3) := by decide +kernel
theorem dX8_foresees_52 : decode cX8_foresees 52 = .ok (.ifCond .ne 5, 3) := by decide +kernel
theorem dX8_foresees_55 : decode cX8_foresees 55 = .ok (.iload_n 1, 1) := by decide +kernel
theorem dX8_foresees_56 : decode cX8_foresees 56 = .ok (.ireturn, 1) := by decide +kernel
theorem dX8_foresees_57 : decode cX8_foresees 57 = .ok (.iinc 1 1, 3) := by decide +kernel
theorem dX8_foresees_60 : decode cX8_foresees 60 = .ok (.goto (-34), 3) := by decide +kernel
theorem dX8_foresees_63 : decode cX8_foresees 63 = .ok (.aload_n 0, 1) := by decide +kernel
theorem dX8_foresees_64 : decode cX8_foresees 64 = .ok (.getfield 19, 3) := by decide +kernel
theorem dX8_foresees_67 : decode cX8_foresees 67 = .ok (.invokevirtual 65, 3) := by decide +kernel
theorem dX8_foresees_70 : decode cX8_foresees 70 = .ok (.ireturn, 1) := by decide +kernel
theorem dX8_lacks_0 : decode cX8_lacks 0 = .ok (.iload_n 1, 1) := by decide +kernel
theorem dX8_lacks_1 : decode cX8_lacks 1 = .ok (.iconst 0, 1) := by decide +kernel
theorem dX8_lacks_2 : decode cX8_lacks 2 = .ok (.iconst 3, 1) := by decide +kernel
theorem dX8_lacks_3 : decode cX8_lacks 3 = .ok (.invokestatic 105, 3) := by decide +kernel
theorem dX8_lacks_6 : decode cX8_lacks 6 = .ok (.ifCond .ne 13, 3) := by decide +kernel
theorem dX8_lacks_9 : decode cX8_lacks 9 = .ok (.new 87, 3) := by decide +kernel
theorem dX8_lacks_12 : decode cX8_lacks 12 = .ok (.dup, 1) := by decide +kernel
theorem dX8_lacks_13 : decode cX8_lacks 13 = .ok (.ldc 197, 2) := by decide +kernel
theorem dX8_lacks_15 : decode cX8_lacks 15 = .ok (.invokespecial 91, 3) := by decide +kernel
theorem dX8_lacks_18 : decode cX8_lacks 18 = .ok (.athrow, 1) := by decide +kernel
theorem dX8_lacks_19 : decode cX8_lacks 19 = .ok (.iconst 0, 1) := by decide +kernel
theorem dX8_lacks_20 : decode cX8_lacks 20 = .ok (.istore_n 2, 1) := by decide +kernel
theorem dX8_lacks_21 : decode cX8_lacks 21 = .ok (.iconst 0, 1) := by decide +kernel
theorem dX8_lacks_22 : decode cX8_lacks 22 = .ok (.istore_n 3, 1) := by decide +kernel
theorem dX8_lacks_23 : decode cX8_lacks 23 = .ok (.iload_n 3, 1) := by decide +kernel
theorem dX8_lacks_24 : decode cX8_lacks 24 = .ok (.aload_n 0, 1) := by decide +kernel
theorem dX8_lacks_25 : decode cX8_lacks 25 = .ok (.getfield 19, 3) := by decide +kernel
theorem dX8_lacks_28 : decode cX8_lacks 28 = .ok (.invokevirtual 65, 3) := by decide +kernel
theorem dX8_lacks_31 : decode cX8_lacks 31 = .ok (.if_icmp .ge 57, 3) := by decide +kernel
theorem dX8_lacks_34 : decode cX8_lacks 34 = .ok (.aload_n 0, 1) := by decide +kernel
theorem dX8_lacks_35 : decode cX8_lacks 35 = .ok (.getfield 19, 3) := by decide +kernel
theorem dX8_lacks_38 : decode cX8_lacks 38 = .ok (.iload_n 3, 1) := by decide +kernel
theorem dX8_lacks_39 : decode cX8_lacks 39 = .ok (.invokevirtual 179, 3) := by decide +kernel
theorem dX8_lacks_42 : decode cX8_lacks 42 = .ok (.checkcast 136, 3) := by decide +kernel
theorem dX8_lacks_45 : decode cX8_lacks 45 = .ok (.astore 4, 2) := by decide +kernel
theorem dX8_lacks_47 : decode cX8_lacks 47 = .ok (.aload_n 0, 1) := by decide +kernel
theorem dX8_lacks_48 : decode cX8_lacks 48 = .ok (.getfield 51, 3) := by decide +kernel
theorem dX8_lacks_51 : decode cX8_lacks 51 = .ok (.aload_n 0, 1) := by decide +kernel
theorem dX8_lacks_52 : decode cX8_lacks 52 = .ok (.getfield 44, 3) := by decide +kernel
theorem dX8_lacks_55 : decode cX8_lacks 55 = .ok (.aload 4, 2) := by decide +kernel
theorem dX8_lacks_57 : decode cX8_lacks 57 = .ok (.aload 4, 2) := by decide +kernel
theorem dX8_lacks_59 : decode cX8_lacks 59 = .ok (.getfield 176, 3) := by decide +kernel
theorem dX8_lacks_62 : decode cX8_lacks 62 = .ok (.aload 4, 2) := by decide +kernel
theorem dX8_lacks_64 : decode cX8_lacks 64 = .ok (.getfield 199, 3) := by decide +kernel
theorem dX8_lacks_67 : decode cX8_lacks 67 = .ok (.invokevirtual 202, 3) := by decide +kernel
theorem dX8_lacks_70 : decode cX8_lacks 70 = .ok (.iload_n 2, 1) := by decide +kernel
theorem dX8_lacks_71 : decode cX8_lacks 71 = .ok (.aload_n 0, 1) := by decide +kernel
theorem dX8_lacks_72 : decode cX8_lacks 72 = .ok (.getfield 51, 3) := by decide +kernel
theorem dX8_lacks_75 : decode cX8_lacks 75 = .ok (.getfield 206, 3) := by decide +kernel
theorem dX8_lacks_78 : decode cX8_lacks 78 = .ok (.iload_n 1, 1) := by decide +kernel
theorem dX8_lacks_79 : decode cX8_lacks 79 = .ok (.iaload, 1) := by decide +kernel
theorem dX8_lacks_80 : decode cX8_lacks 80 = .ok (.iadd, 1) := by decide +kernel
theorem dX8_lacks_81 : decode cX8_lacks 81 = .ok (.istore_n 2, 1) := by decide +kernel
theorem dX8_lacks_82 : decode cX8_lacks 82 = .ok (.iinc 3 1, 3) := by decide +kernel
theorem dX8_lacks_85 : decode cX8_lacks 85 = .ok (.goto (-62), 3) := by decide +kernel
theorem dX8_lacks_88 : decode cX8_lacks 88 = .ok (.iconst 0, 1) := by decide +kernel
theorem dX8_lacks_89 : decode cX8_lacks 89 = .ok (.iload_n 2, 1) := by decide +kernel
theorem dX8_lacks_90 : decode cX8_lacks 90 = .ok (.aload_n 0, 1) := by decide +kernel
theorem dX8_lacks_91 : decode cX8_lacks 91 = .ok (.iload_n 1, 1) := by decide +kernel
theorem dX8_lacks_92 : decode cX8_lacks 92 = .ok (.invokevirtual 190, 3) := by decide +kernel
theorem dX8_lacks_95 : decode cX8_lacks 95 = .ok (.isub, 1) := by decide +kernel
theorem dX8_lacks_96 : decode cX8_lacks 96 = .ok (.invokestatic 209, 3) := by decide +kernel
theorem dX8_lacks_99 : decode cX8_lacks 99 = .ok (.ireturn, 1) := by decide +kernel
theorem dX8_idle_0 : decode cX8_idle 0 = .ok (.iload_n 1, 1) := by decide +kernel
theorem dX8_idle_1 : decode cX8_idle 1 = .ok (.iconst 1, 1) := by decide +kernel
theorem dX8_idle_2 : decode cX8_idle 2 = .ok (.sipush 500, 3) := by decide +kernel
theorem dX8_idle_5 : decode cX8_idle 5 = .ok (.invokestatic 105, 3) := by decide +kernel
theorem dX8_idle_8 : decode cX8_idle 8 = .ok (.ifCond .ne 13, 3) := by decide +kernel
theorem dX8_idle_11 : decode cX8_idle 11 = .ok (.new 87, 3) := by decide +kernel
theorem dX8_idle_14 : decode cX8_idle 14 = .ok (.dup, 1) := by decide +kernel
theorem dX8_idle_15 : decode cX8_idle 15 = .ok (.ldc 214, 2) := by decide +kernel
theorem dX8_idle_17 : decode cX8_idle 17 = .ok (.invokespecial 91, 3) := by decide +kernel
theorem dX8_idle_20 : decode cX8_idle 20 = .ok (.athrow, 1) := by decide +kernel
theorem dX8_idle_21 : decode cX8_idle 21 = .ok (.aload_n 0, 1) := by decide +kernel
theorem dX8_idle_22 : decode cX8_idle 22 = .ok (.getfield 216, 3) := by decide +kernel
theorem dX8_idle_25 : decode cX8_idle 25 = .ok (.iload_n 1, 1) := by decide +kernel
theorem dX8_idle_26 : decode cX8_idle 26 = .ok (.iadd, 1) := by decide +kernel
theorem dX8_idle_27 : decode cX8_idle 27 = .ok (.ldc 219, 2) := by decide +kernel
theorem dX8_idle_29 : decode cX8_idle 29 = .ok (.if_icmp .le 13, 3) := by decide +kernel
theorem dX8_idle_32 : decode cX8_idle 32 = .ok (.new 69, 3) := by decide +kernel
theorem dX8_idle_35 : decode cX8_idle 35 = .ok (.dup, 1) := by decide +kernel
theorem dX8_idle_36 : decode cX8_idle 36 = .ok (.ldc 220, 2) := by decide +kernel
theorem dX8_idle_38 : decode cX8_idle 38 = .ok (.invokespecial 73, 3) := by decide +kernel
theorem dX8_idle_41 : decode cX8_idle 41 = .ok (.athrow, 1) := by decide +kernel
theorem dX8_idle_42 : decode cX8_idle 42 = .ok (.aload_n 0, 1) := by decide +kernel
theorem dX8_idle_43 : decode cX8_idle 43 = .ok (.dup, 1) := by decide +kernel
theorem dX8_idle_44 : decode cX8_idle 44 = .ok (.getfield 216, 3) := by decide +kernel
theorem dX8_idle_47 : decode cX8_idle 47 = .ok (.iload_n 1, 1) := by decide +kernel
theorem dX8_idle_48 : decode cX8_idle 48 = .ok (.iadd, 1) := by decide +kernel
theorem dX8_idle_49 : decode cX8_idle 49 = .ok (.putfield 216, 3) := by decide +kernel
theorem dX8_idle_52 : decode cX8_idle 52 = .ok (.aload_n 0, 1) := by decide +kernel
theorem dX8_idle_53 : decode cX8_idle 53 = .ok (.iconst 0, 1) := by decide +kernel
theorem dX8_idle_54 : decode cX8_idle 54 = .ok (.aload_n 0, 1) := by decide +kernel
theorem dX8_idle_55 : decode cX8_idle 55 = .ok (.getfield 222, 3) := by decide +kernel
theorem dX8_idle_58 : decode cX8_idle 58 = .ok (.iload_n 1, 1) := by decide +kernel
theorem dX8_idle_59 : decode cX8_idle 59 = .ok (.isub, 1) := by decide +kernel
theorem dX8_idle_60 : decode cX8_idle 60 = .ok (.invokestatic 209, 3) := by decide +kernel
theorem dX8_idle_63 : decode cX8_idle 63 = .ok (.putfield 222, 3) := by decide +kernel
theorem dX8_idle_66 : decode cX8_idle 66 = .ok (.aload_n 0, 1) := by decide +kernel
theorem dX8_idle_67 : decode cX8_idle 67 = .ok (.getfield 216, 3) := by decide +kernel
theorem dX8_idle_70 : decode cX8_idle 70 = .ok (.ireturn, 1) := by decide +kernel
theorem dX8_calibrate_0 : decode cX8_calibrate 0 = .ok (.aload_n 0, 1) := by decide +kernel
theorem dX8_calibrate_1 : decode cX8_calibrate 1 = .ok (.iload_n 1, 1) := by decide +kernel
theorem dX8_calibrate_2 : decode cX8_calibrate 2 = .ok (.invokevirtual 225, 3) := by decide +kernel
theorem dX8_calibrate_5 : decode cX8_calibrate 5 = .ok (.astore_n 3, 1) := by decide +kernel
theorem dX8_calibrate_6 : decode cX8_calibrate 6 = .ok (.iload_n 2, 1) := by decide +kernel
theorem dX8_calibrate_7 : decode cX8_calibrate 7 = .ok (.iconst 0, 1) := by decide +kernel
theorem dX8_calibrate_8 : decode cX8_calibrate 8 = .ok (.bipush 30, 2) := by decide +kernel
theorem dX8_calibrate_10 : decode cX8_calibrate 10 = .ok (.invokestatic 105, 3) := by decide +kernel
theorem dX8_calibrate_13 : decode cX8_calibrate 13 = .ok (.ifCond .ne 13, 3) := by decide +kernel
theorem dX8_calibrate_16 : decode cX8_calibrate 16 = .ok (.new 87, 3) := by decide +kernel
theorem dX8_calibrate_19 : decode cX8_calibrate 19 = .ok (.dup, 1) := by decide +kernel
theorem dX8_calibrate_20 : decode cX8_calibrate 20 = .ok (.ldc 229, 2) := by decide +kernel
theorem dX8_calibrate_22 : decode cX8_calibrate 22 = .ok (.invokespecial 91, 3) := by decide +kernel
theorem dX8_calibrate_25 : decode cX8_calibrate 25 = .ok (.athrow, 1) := by decide +kernel
theorem dX8_calibrate_26 : decode cX8_calibrate 26 = .ok (.aload_n 3, 1) := by decide +kernel
theorem dX8_calibrate_27 : decode cX8_calibrate 27 = .ok (.aload_n 0, 1) := by decide +kernel
theorem dX8_calibrate_28 : decode cX8_calibrate 28 = .ok (.getfield 216, 3) := by decide +kernel
theorem dX8_calibrate_31 : decode cX8_calibrate 31 = .ok (.putfield 231, 3) := by decide +kernel
theorem dX8_calibrate_34 : decode cX8_calibrate 34 = .ok (.aload_n 3, 1) := by decide +kernel
theorem dX8_calibrate_35 : decode cX8_calibrate 35 = .ok (.iload_n 2, 1) := by decide +kernel
theorem dX8_calibrate_36 : decode cX8_calibrate 36 = .ok (.putfield 234, 3) := by decide +kernel
theorem dX8_calibrate_39 : decode cX8_calibrate 39 = .ok (.aload_n 0, 1) := by decide +kernel
theorem dX8_calibrate_40 : decode cX8_calibrate 40 = .ok (.getfield 216, 3) := by decide +kernel
theorem dX8_calibrate_43 : decode cX8_calibrate 43 = .ok (.sipush 1000, 3) := by decide +kernel
theorem dX8_calibrate_46 : decode cX8_calibrate 46 = .ok (.iadd, 1) := by decide +kernel
theorem dX8_calibrate_47 : decode cX8_calibrate 47 = .ok (.iconst 1, 1) := by decide +kernel
theorem dX8_calibrate_48 : decode cX8_calibrate 48 = .ok (.isub, 1) := by decide +kernel
theorem dX8_calibrate_49 : decode cX8_calibrate 49 = .ok (.ireturn, 1) := by decide +kernel
theorem dX8_drawing_0 : decode cX8_drawing 0 = .ok (.aload_n 0, 1) := by decide +kernel
theorem dX8_drawing_1 : decode cX8_drawing 1 = .ok (.getfield 25, 3) := by decide +kernel
theorem dX8_drawing_4 : decode cX8_drawing 4 = .ok (.invokevirtual 65, 3) := by decide +kernel
theorem dX8_drawing_7 : decode cX8_drawing 7 = .ok (.iconst 4, 1) := by decide +kernel
theorem dX8_drawing_8 : decode cX8_drawing 8 = .ok (.if_icmp .lt 13, 3) := by decide +kernel
theorem dX8_drawing_11 : decode cX8_drawing 11 = .ok (.new 69, 3) := by decide +kernel
theorem dX8_drawing_14 : decode cX8_drawing 14 = .ok (.dup, 1) := by decide +kernel
theorem dX8_drawing_15 : decode cX8_drawing 15 = .ok (.ldc 236, 2) := by decide +kernel
theorem dX8_drawing_17 : decode cX8_drawing 17 = .ok (.invokespecial 73, 3) := by decide +kernel
theorem dX8_drawing_20 : decode cX8_drawing 20 = .ok (.athrow, 1) := by decide +kernel
theorem dX8_drawing_21 : decode cX8_drawing 21 = .ok (.aload_n 0, 1) := by decide +kernel
theorem dX8_drawing_22 : decode cX8_drawing 22 = .ok (.getfield 25, 3) := by decide +kernel
theorem dX8_drawing_25 : decode cX8_drawing 25 = .ok (.new 238, 3) := by decide +kernel
theorem dX8_drawing_28 : decode cX8_drawing 28 = .ok (.dup, 1) := by decide +kernel
theorem dX8_drawing_29 : decode cX8_drawing 29 = .ok (.invokespecial 240, 3) := by decide +kernel
theorem dX8_drawing_32 : decode cX8_drawing 32 = .ok (.invokevirtual 58, 3) := by decide +kernel
theorem dX8_drawing_35 : decode cX8_drawing 35 = .ok (.pop, 1) := by decide +kernel
theorem dX8_drawing_36 : decode cX8_drawing 36 = .ok (.aload_n 0, 1) := by decide +kernel
theorem dX8_drawing_37 : decode cX8_drawing 37 = .ok (.getfield 25, 3) := by decide +kernel
theorem dX8_drawing_40 : decode cX8_drawing 40 = .ok (.invokevirtual 65, 3) := by decide +kernel
theorem dX8_drawing_43 : decode cX8_drawing 43 = .ok (.iconst 1, 1) := by decide +kernel
theorem dX8_drawing_44 : decode cX8_drawing 44 = .ok (.isub, 1) := by decide +kernel
theorem dX8_drawing_45 : decode cX8_drawing 45 = .ok (.ireturn, 1) := by decide +kernel
theorem dX8_feature_0 : decode cX8_feature 0 = .ok (.aload_n 0, 1) := by decide +kernel
theorem dX8_feature_1 : decode cX8_feature 1 = .ok (.iload_n 1, 1) := by decide +kernel
theorem dX8_feature_2 : decode cX8_feature 2 = .ok (.invokevirtual 241, 3) := by decide +kernel
theorem dX8_feature_5 : decode cX8_feature 5 = .ok (.astore 6, 2) := by decide +kernel
theorem dX8_feature_7 : decode cX8_feature 7 = .ok (.aload_n 0, 1) := by decide +kernel
theorem dX8_feature_8 : decode cX8_feature 8 = .ok (.iload_n 2, 1) := by decide +kernel
theorem dX8_feature_9 : decode cX8_feature 9 = .ok (.iload_n 3, 1) := by decide +kernel
theorem dX8_feature_10 : decode cX8_feature 10 = .ok (.invokevirtual 145, 3) := by decide +kernel
theorem dX8_feature_13 : decode cX8_feature 13 = .ok (.istore 7, 2) := by decide +kernel
theorem dX8_feature_15 : decode cX8_feature 15 = .ok (.iload 4, 2) := by decide +kernel
theorem dX8_feature_17 : decode cX8_feature 17 = .ok (.iconst 0, 1) := by decide +kernel
theorem dX8_feature_18 : decode cX8_feature 18 = .ok (.bipush 9, 2) := by decide +kernel
theorem dX8_feature_20 : decode cX8_feature 20 = .ok (.invokestatic 105, 3) := by decide +kernel
theorem dX8_feature_23 : decode cX8_feature 23 = .ok (.ifCond .eq 14, 3) := by decide +kernel
theorem dX8_feature_26 : decode cX8_feature 26 = .ok (.iload 5, 2) := by decide +kernel
theorem dX8_feature_28 : decode cX8_feature 28 = .ok (.iconst 1, 1) := by decide +kernel
theorem dX8_feature_29 : decode cX8_feature 29 = .ok (.bipush 99, 2) := by decide +kernel
theorem dX8_feature_31 : decode cX8_feature 31 = .ok (.invokestatic 105, 3) := by decide +kernel
theorem dX8_feature_34 : decode cX8_feature 34 = .ok (.ifCond .ne 13, 3) := by decide +kernel
theorem dX8_feature_37 : decode cX8_feature 37 = .ok (.new 87, 3) := by decide +kernel
theorem dX8_feature_40 : decode cX8_feature 40 = .ok (.dup, 1) := by decide +kernel
theorem dX8_feature_41 : decode cX8_feature 41 = .ok (.ldc 245, 2) := by decide +kernel
theorem dX8_feature_43 : decode cX8_feature 43 = .ok (.invokespecial 91, 3) := by decide +kernel
theorem dX8_feature_46 : decode cX8_feature 46 = .ok (.athrow, 1) := by decide +kernel
theorem dX8_feature_47 : decode cX8_feature 47 = .ok (.aload 6, 2) := by decide +kernel
theorem dX8_feature_49 : decode cX8_feature 49 = .ok (.getfield 247, 3) := by decide +kernel
theorem dX8_feature_52 : decode cX8_feature 52 = .ok (.bipush 6, 2) := by decide +kernel
theorem dX8_feature_54 : decode cX8_feature 54 = .ok (.if_icmp .lt 13, 3) := by decide +kernel
theorem dX8_feature_57 : decode cX8_feature 57 = .ok (.new 69, 3) := by decide +kernel
theorem dX8_feature_60 : decode cX8_feature 60 = .ok (.dup, 1) := by decide +kernel
theorem dX8_feature_61 : decode cX8_feature 61 = .ok (.ldc 248, 2) := by decide +kernel
theorem dX8_feature_63 : decode cX8_feature 63 = .ok (.invokespecial 73, 3) := by decide +kernel
theorem dX8_feature_66 : decode cX8_feature 66 = .ok (.athrow, 1) := by decide +kernel
theorem dX8_feature_67 : decode cX8_feature 67 = .ok (.aload 6, 2) := by decide +kernel
theorem dX8_feature_69 : decode cX8_feature 69 = .ok (.iload 7, 2) := by decide +kernel
theorem dX8_feature_71 : decode cX8_feature 71 = .ok (.iload 4, 2) := by decide +kernel
theorem dX8_feature_73 : decode cX8_feature 73 = .ok (.iload 5, 2) := by decide +kernel
theorem dX8_feature_75 : decode cX8_feature 75 = .ok (.invokevirtual 250, 3) := by decide +kernel
theorem dX8_feature_78 : decode cX8_feature 78 = .ok (.aload 6, 2) := by decide +kernel
theorem dX8_feature_80 : decode cX8_feature 80 = .ok (.getfield 247, 3) := by decide +kernel
theorem dX8_feature_83 : decode cX8_feature 83 = .ok (.ireturn, 1) := by decide +kernel
theorem dX8_allow_0 : decode cX8_allow 0 = .ok (.aload_n 0, 1) := by decide +kernel
theorem dX8_allow_1 : decode cX8_allow 1 = .ok (.iload_n 1, 1) := by decide +kernel
theorem dX8_allow_2 : decode cX8_allow 2 = .ok (.invokevirtual 241, 3) := by decide +kernel
theorem dX8_allow_5 : decode cX8_allow 5 = .ok (.astore 5, 2) := by decide +kernel
theorem dX8_allow_7 : decode cX8_allow 7 = .ok (.iload_n 2, 1) := by decide +kernel
theorem dX8_allow_8 : decode cX8_allow 8 = .ok (.iconst 0, 1) := by decide +kernel
theorem dX8_allow_9 : decode cX8_allow 9 = .ok (.aload 5, 2) := by decide +kernel
theorem dX8_allow_11 : decode cX8_allow 11 = .ok (.getfield 247, 3) := by decide +kernel
theorem dX8_allow_14 : decode cX8_allow 14 = .ok (.iconst 1, 1) := by decide +kernel
theorem dX8_allow_15 : decode cX8_allow 15 = .ok (.isub, 1) := by decide +kernel
theorem dX8_allow_16 : decode cX8_allow 16 = .ok (.invokestatic 105, 3) := by decide +kernel
theorem dX8_allow_19 : decode cX8_allow 19 = .ok (.ifCond .ne 13, 3) := by decide +kernel
theorem dX8_allow_22 : decode cX8_allow 22 = .ok (.new 252, 3) := by decide +kernel
theorem dX8_allow_25 : decode cX8_allow 25 = .ok (.dup, 1) := by decide +kernel
theorem dX8_allow_26 : decode cX8_allow 26 = .ok (.ldc 254, 2) := by decide +kernel
theorem dX8_allow_28 : decode cX8_allow 28 = .ok (.invokespecial 256, 3) := by decide +kernel
theorem dX8_allow_31 : decode cX8_allow 31 = .ok (.athrow, 1) := by decide +kernel
theorem dX8_allow_32 : decode cX8_allow 32 = .ok (.iload_n 3, 1) := by decide +kernel
theorem dX8_allow_33 : decode cX8_allow 33 = .ok (.iconst 0, 1) := by decide +kernel
theorem dX8_allow_34 : decode cX8_allow 34 = .ok (.bipush 99, 2) := by decide +kernel
theorem dX8_allow_36 : decode cX8_allow 36 = .ok (.invokestatic 105, 3) := by decide +kernel
theorem dX8_allow_39 : decode cX8_allow 39 = .ok (.ifCond .eq 14, 3) := by decide +kernel
theorem dX8_allow_42 : decode cX8_allow 42 = .ok (.iload 4, 2) := by decide +kernel
theorem dX8_allow_44 : decode cX8_allow 44 = .ok (.iconst 1, 1) := by decide +kernel
theorem dX8_allow_45 : decode cX8_allow 45 = .ok (.bipush 9, 2) := by decide +kernel
theorem dX8_allow_47 : decode cX8_allow 47 = .ok (.invokestatic 105, 3) := by decide +kernel
theorem dX8_allow_50 : decode cX8_allow 50 = .ok (.ifCond .ne 14, 3) := by decide +kernel
theorem dX8_allow_53 : decode cX8_allow 53 = .ok (.new 87, 3) := by decide +kernel
theorem dX8_allow_56 : decode cX8_allow 56 = .ok (.dup, 1) := by decide +kernel
theorem dX8_allow_57 : decode cX8_allow 57 = .ok (.ldc_w 257, 3) := by decide +kernel
theorem dX8_allow_60 : decode cX8_allow 60 = .ok (.invokespecial 91, 3) := by decide +kernel
theorem dX8_allow_63 : decode cX8_allow 63 = .ok (.athrow, 1) := by decide +kernel
theorem dX8_allow_64 : decode cX8_allow 64 = .ok (.aload 5, 2) := by decide +kernel
theorem dX8_allow_66 : decode cX8_allow 66 = .ok (.getfield 259, 3) := by decide +kernel
theorem dX8_allow_69 : decode cX8_allow 69 = .ok (.iload_n 2, 1) := by decide +kernel
theorem dX8_allow_70 : decode cX8_allow 70 = .ok (.iload_n 3, 1) := by decide +kernel
theorem dX8_allow_71 : decode cX8_allow 71 = .ok (.iastore, 1) := by decide +kernel
theorem dX8_allow_72 : decode cX8_allow 72 = .ok (.aload 5, 2) := by decide +kernel
theorem dX8_allow_74 : decode cX8_allow 74 = .ok (.getfield 262, 3) := by decide +kernel
theorem dX8_allow_77 : decode cX8_allow 77 = .ok (.iload_n 2, 1) := by decide +kernel
theorem dX8_allow_78 : decode cX8_allow 78 = .ok (.iload 4, 2) := by decide +kernel
theorem dX8_allow_80 : decode cX8_allow 80 = .ok (.iastore, 1) := by decide +kernel
theorem dX8_allow_81 : decode cX8_allow 81 = .ok (.aload 5, 2) := by decide +kernel
theorem dX8_allow_83 : decode cX8_allow 83 = .ok (.iload_n 2, 1) := by decide +kernel
theorem dX8_allow_84 : decode cX8_allow 84 = .ok (.invokevirtual 265, 3) := by decide +kernel
theorem dX8_allow_87 : decode cX8_allow 87 = .ok (.ireturn, 1) := by decide +kernel
theorem dX8_judge_0 : decode cX8_judge 0 = .ok (.aload_n 0, 1) := by decide +kernel
theorem dX8_judge_1 : decode cX8_judge 1 = .ok (.iload_n 1, 1) := by decide +kernel
theorem dX8_judge_2 : decode cX8_judge 2 = .ok (.invokevirtual 141, 3) := by decide +kernel
theorem dX8_judge_5 : decode cX8_judge 5 = .ok (.astore 4, 2) := by decide +kernel
theorem dX8_judge_7 : decode cX8_judge 7 = .ok (.aload_n 0, 1) := by decide +kernel
theorem dX8_judge_8 : decode cX8_judge 8 = .ok (.iload_n 2, 1) := by decide +kernel
theorem dX8_judge_9 : decode cX8_judge 9 = .ok (.invokevirtual 241, 3) := by decide +kernel
theorem dX8_judge_12 : decode cX8_judge 12 = .ok (.astore 5, 2) := by decide +kernel
theorem dX8_judge_14 : decode cX8_judge 14 = .ok (.aload_n 0, 1) := by decide +kernel
theorem dX8_judge_15 : decode cX8_judge 15 = .ok (.iload_n 3, 1) := by decide +kernel
theorem dX8_judge_16 : decode cX8_judge 16 = .ok (.invokevirtual 225, 3) := by decide +kernel
theorem dX8_judge_19 : decode cX8_judge 19 = .ok (.astore 6, 2) := by decide +kernel
theorem dX8_judge_21 : decode cX8_judge 21 = .ok (.aload 4, 2) := by decide +kernel
theorem dX8_judge_23 : decode cX8_judge 23 = .ok (.getfield 151, 3) := by decide +kernel
theorem dX8_judge_26 : decode cX8_judge 26 = .ok (.iconst 2, 1) := by decide +kernel
theorem dX8_judge_27 : decode cX8_judge 27 = .ok (.if_icmp .ne 35, 3) := by decide +kernel
theorem dX8_judge_30 : decode cX8_judge 30 = .ok (.aload 5, 2) := by decide +kernel
theorem dX8_judge_32 : decode cX8_judge 32 = .ok (.getfield 247, 3) := by decide +kernel
theorem dX8_judge_35 : decode cX8_judge 35 = .ok (.ifCond .eq 27, 3) := by decide +kernel
theorem dX8_judge_38 : decode cX8_judge 38 = .ok (.aload 6, 2) := by decide +kernel
theorem dX8_judge_40 : decode cX8_judge 40 = .ok (.aload_n 0, 1) := by decide +kernel
theorem dX8_judge_41 : decode cX8_judge 41 = .ok (.getfield 216, 3) := by decide +kernel
theorem dX8_judge_44 : decode cX8_judge 44 = .ok (.invokevirtual 268, 3) := by decide +kernel
theorem dX8_judge_47 : decode cX8_judge 47 = .ok (.ifCond .eq 15, 3) := by decide +kernel
theorem dX8_judge_50 : decode cX8_judge 50 = .ok (.aload_n 0, 1) := by decide +kernel
theorem dX8_judge_51 : decode cX8_judge 51 = .ok (.getfield 28, 3) := by decide +kernel
theorem dX8_judge_54 : decode cX8_judge 54 = .ok (.invokevirtual 65, 3) := by decide +kernel
theorem dX8_judge_57 : decode cX8_judge 57 = .ok (.bipush 30, 2) := by decide +kernel
theorem dX8_judge_59 : decode cX8_judge 59 = .ok (.if_icmp .lt 14, 3) := by decide +kernel
theorem dX8_judge_62 : decode cX8_judge 62 = .ok (.new 69, 3) := by decide +kernel
theorem dX8_judge_65 : decode cX8_judge 65 = .ok (.dup, 1) := by decide +kernel
theorem dX8_judge_66 : decode cX8_judge 66 = .ok (.ldc_w 272, 3) := by decide +kernel
theorem dX8_judge_69 : decode cX8_judge 69 = .ok (.invokespecial 73, 3) := by decide +kernel
theorem dX8_judge_72 : decode cX8_judge 72 = .ok (.athrow, 1) := by decide +kernel
theorem dX8_judge_73 : decode cX8_judge 73 = .ok (.new 274, 3) := by decide +kernel
theorem dX8_judge_76 : decode cX8_judge 76 = .ok (.dup, 1) := by decide +kernel
theorem dX8_judge_77 : decode cX8_judge 77 = .ok (.iload_n 1, 1) := by decide +kernel
theorem dX8_judge_78 : decode cX8_judge 78 = .ok (.iload_n 2, 1) := by decide +kernel
theorem dX8_judge_79 : decode cX8_judge 79 = .ok (.aload_n 0, 1) := by decide +kernel
theorem dX8_judge_80 : decode cX8_judge 80 = .ok (.getfield 216, 3) := by decide +kernel
theorem dX8_judge_83 : decode cX8_judge 83 = .ok (.aload 6, 2) := by decide +kernel
theorem dX8_judge_85 : decode cX8_judge 85 = .ok (.getfield 234, 3) := by decide +kernel
theorem dX8_judge_88 : decode cX8_judge 88 = .ok (.invokespecial 276, 3) := by decide +kernel
theorem dX8_judge_91 : decode cX8_judge 91 = .ok (.astore 7, 2) := by decide +kernel
theorem dX8_judge_93 : decode cX8_judge 93 = .ok (.iconst 0, 1) := by decide +kernel
theorem dX8_judge_94 : decode cX8_judge 94 = .ok (.istore 8, 2) := by decide +kernel
theorem dX8_judge_96 : decode cX8_judge 96 = .ok (.iload 8, 2) := by decide +kernel
theorem dX8_judge_98 : decode cX8_judge 98 = .ok (.aload 5, 2) := by decide +kernel
theorem dX8_judge_100 : decode cX8_judge 100 = .ok (.getfield 247, 3) := by decide +kernel
theorem dX8_judge_103 : decode cX8_judge 103 = .ok (.if_icmp .ge 79, 3) := by decide +kernel
theorem dX8_judge_106 : decode cX8_judge 106 = .ok (.aload 5, 2) := by decide +kernel
theorem dX8_judge_108 : decode cX8_judge 108 = .ok (.getfield 279, 3) := by decide +kernel
theorem dX8_judge_111 : decode cX8_judge 111 = .ok (.iload 8, 2) := by decide +kernel
theorem dX8_judge_113 : decode cX8_judge 113 = .ok (.iaload, 1) := by decide +kernel
theorem dX8_judge_114 : decode cX8_judge 114 = .ok (.istore 9, 2) := by decide +kernel
theorem dX8_judge_116 : decode cX8_judge 116 = .ok (.aload 6, 2) := by decide +kernel
theorem dX8_judge_118 : decode cX8_judge 118 = .ok (.aload 4, 2) := by decide +kernel
theorem dX8_judge_120 : decode cX8_judge 120 = .ok (.getfield 282, 3) := by decide +kernel
theorem dX8_judge_123 : decode cX8_judge 123 = .ok (.iload 9, 2) := by decide +kernel
theorem dX8_judge_125 : decode cX8_judge 125 = .ok (.iaload, 1) := by decide +kernel
theorem dX8_judge_126 : decode cX8_judge 126 = .ok (.aload_n 0, 1) := by decide +kernel
theorem dX8_judge_127 : decode cX8_judge 127 = .ok (.getfield 216, 3) := by decide +kernel
theorem dX8_judge_130 : decode cX8_judge 130 = .ok (.invokevirtual 285, 3) := by decide +kernel
theorem dX8_judge_133 : decode cX8_judge 133 = .ok (.sipush 1000, 3) := by decide +kernel
theorem dX8_judge_136 : decode cX8_judge 136 = .ok (.aload 5, 2) := by decide +kernel
theorem dX8_judge_138 : decode cX8_judge 138 = .ok (.getfield 288, 3) := by decide +kernel
theorem dX8_judge_141 : decode cX8_judge 141 = .ok (.iload 8, 2) := by decide +kernel
theorem dX8_judge_143 : decode cX8_judge 143 = .ok (.iaload, 1) := by decide +kernel
theorem dX8_judge_144 : decode cX8_judge 144 = .ok (.imul, 1) := by decide +kernel
theorem dX8_judge_145 : decode cX8_judge 145 = .ok (.isub, 1) := by decide +kernel
theorem dX8_judge_146 : decode cX8_judge 146 = .ok (.istore 10, 2) := by decide +kernel
theorem dX8_judge_148 : decode cX8_judge 148 = .ok (.aload 7, 2) := by decide +kernel
theorem dX8_judge_150 : decode cX8_judge 150 = .ok (.iload 10, 2) := by decide +kernel
theorem dX8_judge_152 : decode cX8_judge 152 = .ok (.aload 5, 2) := by decide +kernel
theorem dX8_judge_154 : decode cX8_judge 154 = .ok (.iload 8, 2) := by decide +kernel
theorem dX8_judge_156 : decode cX8_judge 156 = .ok (.invokevirtual 265, 3) := by decide +kernel
theorem dX8_judge_159 : decode cX8_judge 159 = .ok (.invokevirtual 291, 3) := by decide +kernel
theorem dX8_judge_162 : decode cX8_judge 162 = .ok (.aload_n 0, 1) := by decide +kernel
theorem dX8_judge_163 : decode cX8_judge 163 = .ok (.aload 4, 2) := by decide +kernel
theorem dX8_judge_165 : decode cX8_judge 165 = .ok (.getfield 292, 3) := by decide +kernel
theorem dX8_judge_168 : decode cX8_judge 168 = .ok (.iload 9, 2) := by decide +kernel
theorem dX8_judge_170 : decode cX8_judge 170 = .ok (.iaload, 1) := by decide +kernel
theorem dX8_judge_171 : decode cX8_judge 171 = .ok (.iload 10, 2) := by decide +kernel
theorem dX8_judge_173 : decode cX8_judge 173 = .ok (.invokevirtual 295, 3) := by decide +kernel
theorem dX8_judge_176 : decode cX8_judge 176 = .ok (.iinc 8 1, 3) := by decide +kernel
theorem dX8_judge_179 : decode cX8_judge 179 = .ok (.goto (-83), 3) := by decide +kernel
theorem dX8_judge_182 : decode cX8_judge 182 = .ok (.aload 5, 2) := by decide +kernel
theorem dX8_judge_184 : decode cX8_judge 184 = .ok (.invokevirtual 298, 3) := by decide +kernel
theorem dX8_judge_187 : decode cX8_judge 187 = .ok (.aload 4, 2) := by decide +kernel
theorem dX8_judge_189 : decode cX8_judge 189 = .ok (.aload 7, 2) := by decide +kernel
theorem dX8_judge_191 : decode cX8_judge 191 = .ok (.invokevirtual 301, 3) := by decide +kernel
theorem dX8_judge_194 : decode cX8_judge 194 = .ok (.putfield 304, 3) := by decide +kernel
theorem dX8_judge_197 : decode cX8_judge 197 = .ok (.aload_n 0, 1) := by decide +kernel
theorem dX8_judge_198 : decode cX8_judge 198 = .ok (.getfield 28, 3) := by decide +kernel
theorem dX8_judge_201 : decode cX8_judge 201 = .ok (.aload 7, 2) := by decide +kernel
theorem dX8_judge_203 : decode cX8_judge 203 = .ok (.invokevirtual 58, 3) := by decide +kernel
theorem dX8_judge_206 : decode cX8_judge 206 = .ok (.pop, 1) := by decide +kernel
theorem dX8_judge_207 : decode cX8_judge 207 = .ok (.aload_n 0, 1) := by decide +kernel
theorem dX8_judge_208 : decode cX8_judge 208 = .ok (.getfield 28, 3) := by decide +kernel
theorem dX8_judge_211 : decode cX8_judge 211 = .ok (.invokevirtual 65, 3) := by decide +kernel
theorem dX8_judge_214 : decode cX8_judge 214 = .ok (.iconst 1, 1) := by decide +kernel
theorem dX8_judge_215 : decode cX8_judge 215 = .ok (.isub, 1) := by decide +kernel
theorem dX8_judge_216 : decode cX8_judge 216 = .ok (.ireturn, 1) := by decide +kernel
theorem dX8_correct_0 : decode cX8_correct 0 = .ok (.aload_n 0, 1) := by decide +kernel
theorem dX8_correct_1 : decode cX8_correct 1 = .ok (.iload_n 1, 1) := by decide +kernel
theorem dX8_correct_2 : decode cX8_correct 2 = .ok (.invokevirtual 119, 3) := by decide +kernel
theorem dX8_correct_5 : decode cX8_correct 5 = .ok (.invokevirtual 307, 3) := by decide +kernel
theorem dX8_correct_8 : decode cX8_correct 8 = .ok (.ireturn, 1) := by decide +kernel
theorem dX8_minute_0 : decode cX8_minute 0 = .ok (.aload_n 0, 1) := by decide +kernel
theorem dX8_minute_1 : decode cX8_minute 1 = .ok (.getfield 216, 3) := by decide +kernel
theorem dX8_minute_4 : decode cX8_minute 4 = .ok (.ireturn, 1) := by decide +kernel
theorem dX8_warmth_0 : decode cX8_warmth 0 = .ok (.aload_n 0, 1) := by decide +kernel
theorem dX8_warmth_1 : decode cX8_warmth 1 = .ok (.getfield 222, 3) := by decide +kernel
theorem dX8_warmth_4 : decode cX8_warmth 4 = .ok (.ireturn, 1) := by decide +kernel
theorem dX8_ofTool_0 : decode cX8_ofTool 0 = .ok (.aload_n 0, 1) := by decide +kernel
theorem dX8_ofTool_1 : decode cX8_ofTool 1 = .ok (.iload_n 1, 1) := by decide +kernel
theorem dX8_ofTool_2 : decode cX8_ofTool 2 = .ok (.invokevirtual 119, 3) := by decide +kernel
theorem dX8_ofTool_5 : decode cX8_ofTool 5 = .ok (.astore_n 3, 1) := by decide +kernel
theorem dX8_ofTool_6 : decode cX8_ofTool 6 = .ok (.iload_n 2, 1) := by decide +kernel
theorem dX8_ofTool_7 : decode cX8_ofTool 7 = .ok (.tableswitch 75 0 5 #[37, 42, 47, 52, 57, 70], 37) := by decide +kernel
theorem dX8_ofTool_44 : decode cX8_ofTool 44 = .ok (.aload_n 3, 1) := by decide +kernel
theorem dX8_ofTool_45 : decode cX8_ofTool 45 = .ok (.getfield 310, 3) := by decide +kernel
theorem dX8_ofTool_48 : decode cX8_ofTool 48 = .ok (.ireturn, 1) := by decide +kernel
theorem dX8_ofTool_49 : decode cX8_ofTool 49 = .ok (.aload_n 3, 1) := by decide +kernel
theorem dX8_ofTool_50 : decode cX8_ofTool 50 = .ok (.getfield 312, 3) := by decide +kernel
theorem dX8_ofTool_53 : decode cX8_ofTool 53 = .ok (.ireturn, 1) := by decide +kernel
theorem dX8_ofTool_54 : decode cX8_ofTool 54 = .ok (.aload_n 3, 1) := by decide +kernel
theorem dX8_ofTool_55 : decode cX8_ofTool 55 = .ok (.getfield 315, 3) := by decide +kernel
theorem dX8_ofTool_58 : decode cX8_ofTool 58 = .ok (.ireturn, 1) := by decide +kernel
theorem dX8_ofTool_59 : decode cX8_ofTool 59 = .ok (.aload_n 3, 1) := by decide +kernel
theorem dX8_ofTool_60 : decode cX8_ofTool 60 = .ok (.getfield 318, 3) := by decide +kernel
theorem dX8_ofTool_63 : decode cX8_ofTool 63 = .ok (.ireturn, 1) := by decide +kernel
theorem dX8_ofTool_64 : decode cX8_ofTool 64 = .ok (.aload_n 3, 1) := by decide +kernel
theorem dX8_ofTool_65 : decode cX8_ofTool 65 = .ok (.getfield 123, 3) := by decide +kernel
theorem dX8_ofTool_68 : decode cX8_ofTool 68 = .ok (.ifCond .eq 7, 3) := by decide +kernel
theorem dX8_ofTool_71 : decode cX8_ofTool 71 = .ok (.iconst 1, 1) := by decide +kernel
theorem dX8_ofTool_72 : decode cX8_ofTool 72 = .ok (.goto 4, 3) := by decide +kernel
theorem dX8_ofTool_75 : decode cX8_ofTool 75 = .ok (.iconst 0, 1) := by decide +kernel
theorem dX8_ofTool_76 : decode cX8_ofTool 76 = .ok (.ireturn, 1) := by decide +kernel
theorem dX8_ofTool_77 : decode cX8_ofTool 77 = .ok (.aload_n 3, 1) := by decide +kernel
theorem dX8_ofTool_78 : decode cX8_ofTool 78 = .ok (.getfield 321, 3) := by decide +kernel
theorem dX8_ofTool_81 : decode cX8_ofTool 81 = .ok (.ireturn, 1) := by decide +kernel
theorem dX8_ofTool_82 : decode cX8_ofTool 82 = .ok (.new 87, 3) := by decide +kernel
theorem dX8_ofTool_85 : decode cX8_ofTool 85 = .ok (.dup, 1) := by decide +kernel
theorem dX8_ofTool_86 : decode cX8_ofTool 86 = .ok (.ldc_w 324, 3) := by decide +kernel
theorem dX8_ofTool_89 : decode cX8_ofTool 89 = .ok (.invokespecial 91, 3) := by decide +kernel
theorem dX8_ofTool_92 : decode cX8_ofTool 92 = .ok (.athrow, 1) := by decide +kernel
theorem dX8_ofCell_0 : decode cX8_ofCell 0 = .ok (.aload_n 0, 1) := by decide +kernel
theorem dX8_ofCell_1 : decode cX8_ofCell 1 = .ok (.iload_n 1, 1) := by decide +kernel
theorem dX8_ofCell_2 : decode cX8_ofCell 2 = .ok (.invokevirtual 141, 3) := by decide +kernel
theorem dX8_ofCell_5 : decode cX8_ofCell 5 = .ok (.astore 5, 2) := by decide +kernel
theorem dX8_ofCell_7 : decode cX8_ofCell 7 = .ok (.aload_n 0, 1) := by decide +kernel
theorem dX8_ofCell_8 : decode cX8_ofCell 8 = .ok (.iload_n 2, 1) := by decide +kernel
theorem dX8_ofCell_9 : decode cX8_ofCell 9 = .ok (.iload_n 3, 1) := by decide +kernel
theorem dX8_ofCell_10 : decode cX8_ofCell 10 = .ok (.invokevirtual 145, 3) := by decide +kernel
theorem dX8_ofCell_13 : decode cX8_ofCell 13 = .ok (.istore 6, 2) := by decide +kernel
theorem dX8_ofCell_15 : decode cX8_ofCell 15 = .ok (.iload 4, 2) := by decide +kernel
theorem dX8_ofCell_17 : decode cX8_ofCell 17 = .ok (.tableswitch 80 0 4 #[35, 44, 53, 62, 71], 35) := by decide +kernel
theorem dX8_ofCell_52 : decode cX8_ofCell 52 = .ok (.aload 5, 2) := by decide +kernel
theorem dX8_ofCell_54 : decode cX8_ofCell 54 = .ok (.getfield 326, 3) := by decide +kernel
theorem dX8_ofCell_57 : decode cX8_ofCell 57 = .ok (.iload 6, 2) := by decide +kernel
theorem dX8_ofCell_59 : decode cX8_ofCell 59 = .ok (.iaload, 1) := by decide +kernel
theorem dX8_ofCell_60 : decode cX8_ofCell 60 = .ok (.ireturn, 1) := by decide +kernel
theorem dX8_ofCell_61 : decode cX8_ofCell 61 = .ok (.aload 5, 2) := by decide +kernel
theorem dX8_ofCell_63 : decode cX8_ofCell 63 = .ok (.getfield 282, 3) := by decide +kernel
theorem dX8_ofCell_66 : decode cX8_ofCell 66 = .ok (.iload 6, 2) := by decide +kernel
theorem dX8_ofCell_68 : decode cX8_ofCell 68 = .ok (.iaload, 1) := by decide +kernel
theorem dX8_ofCell_69 : decode cX8_ofCell 69 = .ok (.ireturn, 1) := by decide +kernel
theorem dX8_ofCell_70 : decode cX8_ofCell 70 = .ok (.aload 5, 2) := by decide +kernel
theorem dX8_ofCell_72 : decode cX8_ofCell 72 = .ok (.getfield 292, 3) := by decide +kernel
theorem dX8_ofCell_75 : decode cX8_ofCell 75 = .ok (.iload 6, 2) := by decide +kernel
theorem dX8_ofCell_77 : decode cX8_ofCell 77 = .ok (.iaload, 1) := by decide +kernel
theorem dX8_ofCell_78 : decode cX8_ofCell 78 = .ok (.ireturn, 1) := by decide +kernel
theorem dX8_ofCell_79 : decode cX8_ofCell 79 = .ok (.aload 5, 2) := by decide +kernel
theorem dX8_ofCell_81 : decode cX8_ofCell 81 = .ok (.getfield 327, 3) := by decide +kernel
theorem dX8_ofCell_84 : decode cX8_ofCell 84 = .ok (.iload 6, 2) := by decide +kernel
theorem dX8_ofCell_86 : decode cX8_ofCell 86 = .ok (.iaload, 1) := by decide +kernel
theorem dX8_ofCell_87 : decode cX8_ofCell 87 = .ok (.ireturn, 1) := by decide +kernel
theorem dX8_ofCell_88 : decode cX8_ofCell 88 = .ok (.aload 5, 2) := by decide +kernel
theorem dX8_ofCell_90 : decode cX8_ofCell 90 = .ok (.getfield 154, 3) := by decide +kernel
theorem dX8_ofCell_93 : decode cX8_ofCell 93 = .ok (.iload 6, 2) := by decide +kernel
theorem dX8_ofCell_95 : decode cX8_ofCell 95 = .ok (.iaload, 1) := by decide +kernel
theorem dX8_ofCell_96 : decode cX8_ofCell 96 = .ok (.ireturn, 1) := by decide +kernel
theorem dX8_ofCell_97 : decode cX8_ofCell 97 = .ok (.new 87, 3) := by decide +kernel
theorem dX8_ofCell_100 : decode cX8_ofCell 100 = .ok (.dup, 1) := by decide +kernel
theorem dX8_ofCell_101 : decode cX8_ofCell 101 = .ok (.ldc_w 324, 3) := by decide +kernel
theorem dX8_ofCell_104 : decode cX8_ofCell 104 = .ok (.invokespecial 91, 3) := by decide +kernel
theorem dX8_ofCell_107 : decode cX8_ofCell 107 = .ok (.athrow, 1) := by decide +kernel
theorem dX8_ofPallet_0 : decode cX8_ofPallet 0 = .ok (.aload_n 0, 1) := by decide +kernel
theorem dX8_ofPallet_1 : decode cX8_ofPallet 1 = .ok (.iload_n 1, 1) := by decide +kernel
theorem dX8_ofPallet_2 : decode cX8_ofPallet 2 = .ok (.invokevirtual 141, 3) := by decide +kernel
theorem dX8_ofPallet_5 : decode cX8_ofPallet 5 = .ok (.astore_n 3, 1) := by decide +kernel
theorem dX8_ofPallet_6 : decode cX8_ofPallet 6 = .ok (.iload_n 2, 1) := by decide +kernel
theorem dX8_ofPallet_7 : decode cX8_ofPallet 7 = .ok (.tableswitch 50 0 3 #[29, 34, 39, 45], 29) := by decide +kernel
theorem dX8_ofPallet_36 : decode cX8_ofPallet 36 = .ok (.aload_n 3, 1) := by decide +kernel
theorem dX8_ofPallet_37 : decode cX8_ofPallet 37 = .ok (.getfield 151, 3) := by decide +kernel
theorem dX8_ofPallet_40 : decode cX8_ofPallet 40 = .ok (.ireturn, 1) := by decide +kernel
theorem dX8_ofPallet_41 : decode cX8_ofPallet 41 = .ok (.aload_n 3, 1) := by decide +kernel
theorem dX8_ofPallet_42 : decode cX8_ofPallet 42 = .ok (.getfield 199, 3) := by decide +kernel
theorem dX8_ofPallet_45 : decode cX8_ofPallet 45 = .ok (.ireturn, 1) := by decide +kernel
theorem dX8_ofPallet_46 : decode cX8_ofPallet 46 = .ok (.aload_n 0, 1) := by decide +kernel
theorem dX8_ofPallet_47 : decode cX8_ofPallet 47 = .ok (.aload_n 3, 1) := by decide +kernel
theorem dX8_ofPallet_48 : decode cX8_ofPallet 48 = .ok (.invokevirtual 330, 3) := by decide +kernel
theorem dX8_ofPallet_51 : decode cX8_ofPallet 51 = .ok (.ireturn, 1) := by decide +kernel
theorem dX8_ofPallet_52 : decode cX8_ofPallet 52 = .ok (.aload_n 3, 1) := by decide +kernel
theorem dX8_ofPallet_53 : decode cX8_ofPallet 53 = .ok (.getfield 304, 3) := by decide +kernel
theorem dX8_ofPallet_56 : decode cX8_ofPallet 56 = .ok (.ireturn, 1) := by decide +kernel
theorem dX8_ofPallet_57 : decode cX8_ofPallet 57 = .ok (.new 87, 3) := by decide +kernel
theorem dX8_ofPallet_60 : decode cX8_ofPallet 60 = .ok (.dup, 1) := by decide +kernel
theorem dX8_ofPallet_61 : decode cX8_ofPallet 61 = .ok (.ldc_w 324, 3) := by decide +kernel
theorem dX8_ofPallet_64 : decode cX8_ofPallet 64 = .ok (.invokespecial 91, 3) := by decide +kernel
theorem dX8_ofPallet_67 : decode cX8_ofPallet 67 = .ok (.athrow, 1) := by decide +kernel
theorem dX8_ofPaper_0 : decode cX8_ofPaper 0 = .ok (.aload_n 0, 1) := by decide +kernel
theorem dX8_ofPaper_1 : decode cX8_ofPaper 1 = .ok (.iload_n 1, 1) := by decide +kernel
theorem dX8_ofPaper_2 : decode cX8_ofPaper 2 = .ok (.invokevirtual 334, 3) := by decide +kernel
theorem dX8_ofPaper_5 : decode cX8_ofPaper 5 = .ok (.astore_n 3, 1) := by decide +kernel
theorem dX8_ofPaper_6 : decode cX8_ofPaper 6 = .ok (.iload_n 2, 1) := by decide +kernel
theorem dX8_ofPaper_7 : decode cX8_ofPaper 7 = .ok (.iconst 0, 1) := by decide +kernel
theorem dX8_ofPaper_8 : decode cX8_ofPaper 8 = .ok (.bipush 10, 2) := by decide +kernel
theorem dX8_ofPaper_10 : decode cX8_ofPaper 10 = .ok (.invokestatic 105, 3) := by decide +kernel
theorem dX8_ofPaper_13 : decode cX8_ofPaper 13 = .ok (.ifCond .ne 14, 3) := by decide +kernel
theorem dX8_ofPaper_16 : decode cX8_ofPaper 16 = .ok (.new 87, 3) := by decide +kernel
theorem dX8_ofPaper_19 : decode cX8_ofPaper 19 = .ok (.dup, 1) := by decide +kernel
theorem dX8_ofPaper_20 : decode cX8_ofPaper 20 = .ok (.ldc_w 324, 3) := by decide +kernel
theorem dX8_ofPaper_23 : decode cX8_ofPaper 23 = .ok (.invokespecial 91, 3) := by decide +kernel
theorem dX8_ofPaper_26 : decode cX8_ofPaper 26 = .ok (.athrow, 1) := by decide +kernel
theorem dX8_ofPaper_27 : decode cX8_ofPaper 27 = .ok (.iload_n 2, 1) := by decide +kernel
theorem dX8_ofPaper_28 : decode cX8_ofPaper 28 = .ok (.tableswitch 61 0 4 #[36, 41, 46, 51, 56], 36) := by decide +kernel
theorem dX8_ofPaper_64 : decode cX8_ofPaper 64 = .ok (.aload_n 3, 1) := by decide +kernel
theorem dX8_ofPaper_65 : decode cX8_ofPaper 65 = .ok (.getfield 338, 3) := by decide +kernel
theorem dX8_ofPaper_68 : decode cX8_ofPaper 68 = .ok (.ireturn, 1) := by decide +kernel
theorem dX8_ofPaper_69 : decode cX8_ofPaper 69 = .ok (.aload_n 3, 1) := by decide +kernel
theorem dX8_ofPaper_70 : decode cX8_ofPaper 70 = .ok (.getfield 341, 3) := by decide +kernel
theorem dX8_ofPaper_73 : decode cX8_ofPaper 73 = .ok (.ireturn, 1) := by decide +kernel
theorem dX8_ofPaper_74 : decode cX8_ofPaper 74 = .ok (.aload_n 3, 1) := by decide +kernel
theorem dX8_ofPaper_75 : decode cX8_ofPaper 75 = .ok (.invokevirtual 301, 3) := by decide +kernel
theorem dX8_ofPaper_78 : decode cX8_ofPaper 78 = .ok (.ireturn, 1) := by decide +kernel
theorem dX8_ofPaper_79 : decode cX8_ofPaper 79 = .ok (.aload_n 3, 1) := by decide +kernel
theorem dX8_ofPaper_80 : decode cX8_ofPaper 80 = .ok (.getfield 344, 3) := by decide +kernel
theorem dX8_ofPaper_83 : decode cX8_ofPaper 83 = .ok (.ireturn, 1) := by decide +kernel
theorem dX8_ofPaper_84 : decode cX8_ofPaper 84 = .ok (.aload_n 3, 1) := by decide +kernel
theorem dX8_ofPaper_85 : decode cX8_ofPaper 85 = .ok (.getfield 347, 3) := by decide +kernel
theorem dX8_ofPaper_88 : decode cX8_ofPaper 88 = .ok (.ireturn, 1) := by decide +kernel
theorem dX8_ofPaper_89 : decode cX8_ofPaper 89 = .ok (.aload_n 3, 1) := by decide +kernel
theorem dX8_ofPaper_90 : decode cX8_ofPaper 90 = .ok (.getfield 348, 3) := by decide +kernel
theorem dX8_ofPaper_93 : decode cX8_ofPaper 93 = .ok (.iload_n 2, 1) := by decide +kernel
theorem dX8_ofPaper_94 : decode cX8_ofPaper 94 = .ok (.iconst 5, 1) := by decide +kernel
theorem dX8_ofPaper_95 : decode cX8_ofPaper 95 = .ok (.isub, 1) := by decide +kernel
theorem dX8_ofPaper_96 : decode cX8_ofPaper 96 = .ok (.iaload, 1) := by decide +kernel
theorem dX8_ofPaper_97 : decode cX8_ofPaper 97 = .ok (.ireturn, 1) := by decide +kernel
theorem dX8_judgeAnew_0 : decode cX8_judgeAnew 0 = .ok (.aload_n 0, 1) := by decide +kernel
theorem dX8_judgeAnew_1 : decode cX8_judgeAnew 1 = .ok (.iload_n 1, 1) := by decide +kernel
theorem dX8_judgeAnew_2 : decode cX8_judgeAnew 2 = .ok (.invokevirtual 334, 3) := by decide +kernel
theorem dX8_judgeAnew_5 : decode cX8_judgeAnew 5 = .ok (.invokevirtual 301, 3) := by decide +kernel
theorem dX8_judgeAnew_8 : decode cX8_judgeAnew 8 = .ok (.ireturn, 1) := by decide +kernel
theorem dX8_programAt_0 : decode cX8_programAt 0 = .ok (.iload_n 1, 1) := by decide +kernel
theorem dX8_programAt_1 : decode cX8_programAt 1 = .ok (.ifCond .lt 17, 3) := by decide +kernel
theorem dX8_programAt_4 : decode cX8_programAt 4 = .ok (.iload_n 1, 1) := by decide +kernel
theorem dX8_programAt_5 : decode cX8_programAt 5 = .ok (.aload_n 0, 1) := by decide +kernel
theorem dX8_programAt_6 : decode cX8_programAt 6 = .ok (.getfield 44, 3) := by decide +kernel
theorem dX8_programAt_9 : decode cX8_programAt 9 = .ok (.getfield 62, 3) := by decide +kernel
theorem dX8_programAt_12 : decode cX8_programAt 12 = .ok (.invokevirtual 65, 3) := by decide +kernel
theorem dX8_programAt_15 : decode cX8_programAt 15 = .ok (.if_icmp .lt 14, 3) := by decide +kernel
theorem dX8_programAt_18 : decode cX8_programAt 18 = .ok (.new 252, 3) := by decide +kernel
theorem dX8_programAt_21 : decode cX8_programAt 21 = .ok (.dup, 1) := by decide +kernel
theorem dX8_programAt_22 : decode cX8_programAt 22 = .ok (.ldc_w 351, 3) := by decide +kernel
theorem dX8_programAt_25 : decode cX8_programAt 25 = .ok (.invokespecial 256, 3) := by decide +kernel
theorem dX8_programAt_28 : decode cX8_programAt 28 = .ok (.athrow, 1) := by decide +kernel
theorem dX8_programAt_29 : decode cX8_programAt 29 = .ok (.aload_n 0, 1) := by decide +kernel
theorem dX8_programAt_30 : decode cX8_programAt 30 = .ok (.getfield 44, 3) := by decide +kernel
theorem dX8_programAt_33 : decode cX8_programAt 33 = .ok (.getfield 62, 3) := by decide +kernel
theorem dX8_programAt_36 : decode cX8_programAt 36 = .ok (.iload_n 1, 1) := by decide +kernel
theorem dX8_programAt_37 : decode cX8_programAt 37 = .ok (.invokevirtual 179, 3) := by decide +kernel
theorem dX8_programAt_40 : decode cX8_programAt 40 = .ok (.checkcast 76, 3) := by decide +kernel
theorem dX8_programAt_43 : decode cX8_programAt 43 = .ok (.areturn, 1) := by decide +kernel
theorem dX8_toolAt_0 : decode cX8_toolAt 0 = .ok (.iload_n 1, 1) := by decide +kernel
theorem dX8_toolAt_1 : decode cX8_toolAt 1 = .ok (.ifCond .lt 14, 3) := by decide +kernel
theorem dX8_toolAt_4 : decode cX8_toolAt 4 = .ok (.iload_n 1, 1) := by decide +kernel
theorem dX8_toolAt_5 : decode cX8_toolAt 5 = .ok (.aload_n 0, 1) := by decide +kernel
theorem dX8_toolAt_6 : decode cX8_toolAt 6 = .ok (.getfield 12, 3) := by decide +kernel
theorem dX8_toolAt_9 : decode cX8_toolAt 9 = .ok (.invokevirtual 65, 3) := by decide +kernel
theorem dX8_toolAt_12 : decode cX8_toolAt 12 = .ok (.if_icmp .lt 14, 3) := by decide +kernel
theorem dX8_toolAt_15 : decode cX8_toolAt 15 = .ok (.new 252, 3) := by decide +kernel
theorem dX8_toolAt_18 : decode cX8_toolAt 18 = .ok (.dup, 1) := by decide +kernel
theorem dX8_toolAt_19 : decode cX8_toolAt 19 = .ok (.ldc_w 353, 3) := by decide +kernel
theorem dX8_toolAt_22 : decode cX8_toolAt 22 = .ok (.invokespecial 256, 3) := by decide +kernel
theorem dX8_toolAt_25 : decode cX8_toolAt 25 = .ok (.athrow, 1) := by decide +kernel
theorem dX8_toolAt_26 : decode cX8_toolAt 26 = .ok (.aload_n 0, 1) := by decide +kernel
theorem dX8_toolAt_27 : decode cX8_toolAt 27 = .ok (.getfield 12, 3) := by decide +kernel
theorem dX8_toolAt_30 : decode cX8_toolAt 30 = .ok (.iload_n 1, 1) := by decide +kernel
theorem dX8_toolAt_31 : decode cX8_toolAt 31 = .ok (.invokevirtual 179, 3) := by decide +kernel
theorem dX8_toolAt_34 : decode cX8_toolAt 34 = .ok (.checkcast 114, 3) := by decide +kernel
theorem dX8_toolAt_37 : decode cX8_toolAt 37 = .ok (.areturn, 1) := by decide +kernel
theorem dX8_palletAt_0 : decode cX8_palletAt 0 = .ok (.iload_n 1, 1) := by decide +kernel
theorem dX8_palletAt_1 : decode cX8_palletAt 1 = .ok (.ifCond .lt 14, 3) := by decide +kernel
theorem dX8_palletAt_4 : decode cX8_palletAt 4 = .ok (.iload_n 1, 1) := by decide +kernel
theorem dX8_palletAt_5 : decode cX8_palletAt 5 = .ok (.aload_n 0, 1) := by decide +kernel
theorem dX8_palletAt_6 : decode cX8_palletAt 6 = .ok (.getfield 16, 3) := by decide +kernel
theorem dX8_palletAt_9 : decode cX8_palletAt 9 = .ok (.invokevirtual 65, 3) := by decide +kernel
theorem dX8_palletAt_12 : decode cX8_palletAt 12 = .ok (.if_icmp .lt 14, 3) := by decide +kernel
theorem dX8_palletAt_15 : decode cX8_palletAt 15 = .ok (.new 252, 3) := by decide +kernel
theorem dX8_palletAt_18 : decode cX8_palletAt 18 = .ok (.dup, 1) := by decide +kernel
theorem dX8_palletAt_19 : decode cX8_palletAt 19 = .ok (.ldc_w 355, 3) := by decide +kernel
theorem dX8_palletAt_22 : decode cX8_palletAt 22 = .ok (.invokespecial 256, 3) := by decide +kernel
theorem dX8_palletAt_25 : decode cX8_palletAt 25 = .ok (.athrow, 1) := by decide +kernel
theorem dX8_palletAt_26 : decode cX8_palletAt 26 = .ok (.aload_n 0, 1) := by decide +kernel
theorem dX8_palletAt_27 : decode cX8_palletAt 27 = .ok (.getfield 16, 3) := by decide +kernel
theorem dX8_palletAt_30 : decode cX8_palletAt 30 = .ok (.iload_n 1, 1) := by decide +kernel
theorem dX8_palletAt_31 : decode cX8_palletAt 31 = .ok (.invokevirtual 179, 3) := by decide +kernel
theorem dX8_palletAt_34 : decode cX8_palletAt 34 = .ok (.checkcast 136, 3) := by decide +kernel
theorem dX8_palletAt_37 : decode cX8_palletAt 37 = .ok (.areturn, 1) := by decide +kernel
theorem dX8_cellAt_0 : decode cX8_cellAt 0 = .ok (.iload_n 1, 1) := by decide +kernel
theorem dX8_cellAt_1 : decode cX8_cellAt 1 = .ok (.iconst 0, 1) := by decide +kernel
theorem dX8_cellAt_2 : decode cX8_cellAt 2 = .ok (.bipush 11, 2) := by decide +kernel
theorem dX8_cellAt_4 : decode cX8_cellAt 4 = .ok (.invokestatic 105, 3) := by decide +kernel
theorem dX8_cellAt_7 : decode cX8_cellAt 7 = .ok (.ifCond .eq 13, 3) := by decide +kernel
theorem dX8_cellAt_10 : decode cX8_cellAt 10 = .ok (.iload_n 2, 1) := by decide +kernel
theorem dX8_cellAt_11 : decode cX8_cellAt 11 = .ok (.iconst 0, 1) := by decide +kernel
theorem dX8_cellAt_12 : decode cX8_cellAt 12 = .ok (.bipush 11, 2) := by decide +kernel
theorem dX8_cellAt_14 : decode cX8_cellAt 14 = .ok (.invokestatic 105, 3) := by decide +kernel
theorem dX8_cellAt_17 : decode cX8_cellAt 17 = .ok (.ifCond .ne 14, 3) := by decide +kernel
theorem dX8_cellAt_20 : decode cX8_cellAt 20 = .ok (.new 252, 3) := by decide +kernel
theorem dX8_cellAt_23 : decode cX8_cellAt 23 = .ok (.dup, 1) := by decide +kernel
theorem dX8_cellAt_24 : decode cX8_cellAt 24 = .ok (.ldc_w 357, 3) := by decide +kernel
theorem dX8_cellAt_27 : decode cX8_cellAt 27 = .ok (.invokespecial 256, 3) := by decide +kernel
theorem dX8_cellAt_30 : decode cX8_cellAt 30 = .ok (.athrow, 1) := by decide +kernel
theorem dX8_cellAt_31 : decode cX8_cellAt 31 = .ok (.iload_n 2, 1) := by decide +kernel
theorem dX8_cellAt_32 : decode cX8_cellAt 32 = .ok (.bipush 12, 2) := by decide +kernel
theorem dX8_cellAt_34 : decode cX8_cellAt 34 = .ok (.imul, 1) := by decide +kernel
theorem dX8_cellAt_35 : decode cX8_cellAt 35 = .ok (.iload_n 1, 1) := by decide +kernel
theorem dX8_cellAt_36 : decode cX8_cellAt 36 = .ok (.iadd, 1) := by decide +kernel
theorem dX8_cellAt_37 : decode cX8_cellAt 37 = .ok (.ireturn, 1) := by decide +kernel
theorem dX8_gaugeAt_0 : decode cX8_gaugeAt 0 = .ok (.iload_n 1, 1) := by decide +kernel
theorem dX8_gaugeAt_1 : decode cX8_gaugeAt 1 = .ok (.ifCond .lt 14, 3) := by decide +kernel
theorem dX8_gaugeAt_4 : decode cX8_gaugeAt 4 = .ok (.iload_n 1, 1) := by decide +kernel
theorem dX8_gaugeAt_5 : decode cX8_gaugeAt 5 = .ok (.aload_n 0, 1) := by decide +kernel
theorem dX8_gaugeAt_6 : decode cX8_gaugeAt 6 = .ok (.getfield 22, 3) := by decide +kernel
theorem dX8_gaugeAt_9 : decode cX8_gaugeAt 9 = .ok (.invokevirtual 65, 3) := by decide +kernel
theorem dX8_gaugeAt_12 : decode cX8_gaugeAt 12 = .ok (.if_icmp .lt 14, 3) := by decide +kernel
theorem dX8_gaugeAt_15 : decode cX8_gaugeAt 15 = .ok (.new 252, 3) := by decide +kernel
theorem dX8_gaugeAt_18 : decode cX8_gaugeAt 18 = .ok (.dup, 1) := by decide +kernel
theorem dX8_gaugeAt_19 : decode cX8_gaugeAt 19 = .ok (.ldc_w 359, 3) := by decide +kernel
theorem dX8_gaugeAt_22 : decode cX8_gaugeAt 22 = .ok (.invokespecial 256, 3) := by decide +kernel
theorem dX8_gaugeAt_25 : decode cX8_gaugeAt 25 = .ok (.athrow, 1) := by decide +kernel
theorem dX8_gaugeAt_26 : decode cX8_gaugeAt 26 = .ok (.aload_n 0, 1) := by decide +kernel
theorem dX8_gaugeAt_27 : decode cX8_gaugeAt 27 = .ok (.getfield 22, 3) := by decide +kernel
theorem dX8_gaugeAt_30 : decode cX8_gaugeAt 30 = .ok (.iload_n 1, 1) := by decide +kernel
theorem dX8_gaugeAt_31 : decode cX8_gaugeAt 31 = .ok (.invokevirtual 179, 3) := by decide +kernel
theorem dX8_gaugeAt_34 : decode cX8_gaugeAt 34 = .ok (.checkcast 55, 3) := by decide +kernel
theorem dX8_gaugeAt_37 : decode cX8_gaugeAt 37 = .ok (.areturn, 1) := by decide +kernel
theorem dX8_drawingAt_0 : decode cX8_drawingAt 0 = .ok (.iload_n 1, 1) := by decide +kernel
theorem dX8_drawingAt_1 : decode cX8_drawingAt 1 = .ok (.ifCond .lt 14, 3) := by decide +kernel
theorem dX8_drawingAt_4 : decode cX8_drawingAt 4 = .ok (.iload_n 1, 1) := by decide +kernel
theorem dX8_drawingAt_5 : decode cX8_drawingAt 5 = .ok (.aload_n 0, 1) := by decide +kernel
theorem dX8_drawingAt_6 : decode cX8_drawingAt 6 = .ok (.getfield 25, 3) := by decide +kernel
theorem dX8_drawingAt_9 : decode cX8_drawingAt 9 = .ok (.invokevirtual 65, 3) := by decide +kernel
theorem dX8_drawingAt_12 : decode cX8_drawingAt 12 = .ok (.if_icmp .lt 14, 3) := by decide +kernel
theorem dX8_drawingAt_15 : decode cX8_drawingAt 15 = .ok (.new 252, 3) := by decide +kernel
theorem dX8_drawingAt_18 : decode cX8_drawingAt 18 = .ok (.dup, 1) := by decide +kernel
theorem dX8_drawingAt_19 : decode cX8_drawingAt 19 = .ok (.ldc_w 361, 3) := by decide +kernel
theorem dX8_drawingAt_22 : decode cX8_drawingAt 22 = .ok (.invokespecial 256, 3) := by decide +kernel
theorem dX8_drawingAt_25 : decode cX8_drawingAt 25 = .ok (.athrow, 1) := by decide +kernel
theorem dX8_drawingAt_26 : decode cX8_drawingAt 26 = .ok (.aload_n 0, 1) := by decide +kernel
theorem dX8_drawingAt_27 : decode cX8_drawingAt 27 = .ok (.getfield 25, 3) := by decide +kernel
theorem dX8_drawingAt_30 : decode cX8_drawingAt 30 = .ok (.iload_n 1, 1) := by decide +kernel
theorem dX8_drawingAt_31 : decode cX8_drawingAt 31 = .ok (.invokevirtual 179, 3) := by decide +kernel
theorem dX8_drawingAt_34 : decode cX8_drawingAt 34 = .ok (.checkcast 238, 3) := by decide +kernel
theorem dX8_drawingAt_37 : decode cX8_drawingAt 37 = .ok (.areturn, 1) := by decide +kernel
theorem dX8_paperAt_0 : decode cX8_paperAt 0 = .ok (.iload_n 1, 1) := by decide +kernel
theorem dX8_paperAt_1 : decode cX8_paperAt 1 = .ok (.ifCond .lt 14, 3) := by decide +kernel
theorem dX8_paperAt_4 : decode cX8_paperAt 4 = .ok (.iload_n 1, 1) := by decide +kernel
theorem dX8_paperAt_5 : decode cX8_paperAt 5 = .ok (.aload_n 0, 1) := by decide +kernel
theorem dX8_paperAt_6 : decode cX8_paperAt 6 = .ok (.getfield 28, 3) := by decide +kernel
theorem dX8_paperAt_9 : decode cX8_paperAt 9 = .ok (.invokevirtual 65, 3) := by decide +kernel
theorem dX8_paperAt_12 : decode cX8_paperAt 12 = .ok (.if_icmp .lt 14, 3) := by decide +kernel
theorem dX8_paperAt_15 : decode cX8_paperAt 15 = .ok (.new 252, 3) := by decide +kernel
theorem dX8_paperAt_18 : decode cX8_paperAt 18 = .ok (.dup, 1) := by decide +kernel
theorem dX8_paperAt_19 : decode cX8_paperAt 19 = .ok (.ldc_w 363, 3) := by decide +kernel
theorem dX8_paperAt_22 : decode cX8_paperAt 22 = .ok (.invokespecial 256, 3) := by decide +kernel
theorem dX8_paperAt_25 : decode cX8_paperAt 25 = .ok (.athrow, 1) := by decide +kernel
theorem dX8_paperAt_26 : decode cX8_paperAt 26 = .ok (.aload_n 0, 1) := by decide +kernel
theorem dX8_paperAt_27 : decode cX8_paperAt 27 = .ok (.getfield 28, 3) := by decide +kernel
theorem dX8_paperAt_30 : decode cX8_paperAt 30 = .ok (.iload_n 1, 1) := by decide +kernel
theorem dX8_paperAt_31 : decode cX8_paperAt 31 = .ok (.invokevirtual 179, 3) := by decide +kernel
theorem dX8_paperAt_34 : decode cX8_paperAt 34 = .ok (.checkcast 274, 3) := by decide +kernel
theorem dX8_paperAt_37 : decode cX8_paperAt 37 = .ok (.areturn, 1) := by decide +kernel
theorem dX8_isWithin_0 : decode cX8_isWithin 0 = .ok (.iload_n 0, 1) := by decide +kernel
theorem dX8_isWithin_1 : decode cX8_isWithin 1 = .ok (.iload_n 1, 1) := by decide +kernel
theorem dX8_isWithin_2 : decode cX8_isWithin 2 = .ok (.if_icmp .lt 12, 3) := by decide +kernel
theorem dX8_isWithin_5 : decode cX8_isWithin 5 = .ok (.iload_n 0, 1) := by decide +kernel
theorem dX8_isWithin_6 : decode cX8_isWithin 6 = .ok (.iload_n 2, 1) := by decide +kernel
theorem dX8_isWithin_7 : decode cX8_isWithin 7 = .ok (.if_icmp .gt 7, 3) := by decide +kernel
theorem dX8_isWithin_10 : decode cX8_isWithin 10 = .ok (.iconst 1, 1) := by decide +kernel
theorem dX8_isWithin_11 : decode cX8_isWithin 11 = .ok (.goto 4, 3) := by decide +kernel
theorem dX8_isWithin_14 : decode cX8_isWithin 14 = .ok (.iconst 0, 1) := by decide +kernel
theorem dX8_isWithin_15 : decode cX8_isWithin 15 = .ok (.ireturn, 1) := by decide +kernel
theorem dX8_isBlock_0 : decode cX8_isBlock 0 = .ok (.iload_n 1, 1) := by decide +kernel
theorem dX8_isBlock_1 : decode cX8_isBlock 1 = .ok (.tableswitch 75 0 6 #[43, 43, 50, 50, 50, 59, 66], 43) := by decide +kernel
theorem dX8_isBlock_44 : decode cX8_isBlock 44 = .ok (.iload_n 2, 1) := by decide +kernel
theorem dX8_isBlock_45 : decode cX8_isBlock 45 = .ok (.iconst 0, 1) := by decide +kernel
theorem dX8_isBlock_46 : decode cX8_isBlock 46 = .ok (.iconst 1, 1) := by decide +kernel
theorem dX8_isBlock_47 : decode cX8_isBlock 47 = .ok (.invokestatic 105, 3) := by decide +kernel
theorem dX8_isBlock_50 : decode cX8_isBlock 50 = .ok (.ireturn, 1) := by decide +kernel
theorem dX8_isBlock_51 : decode cX8_isBlock 51 = .ok (.iload_n 2, 1) := by decide +kernel
theorem dX8_isBlock_52 : decode cX8_isBlock 52 = .ok (.bipush (-11), 2) := by decide +kernel
theorem dX8_isBlock_54 : decode cX8_isBlock 54 = .ok (.bipush 11, 2) := by decide +kernel
theorem dX8_isBlock_56 : decode cX8_isBlock 56 = .ok (.invokestatic 105, 3) := by decide +kernel
theorem dX8_isBlock_59 : decode cX8_isBlock 59 = .ok (.ireturn, 1) := by decide +kernel
theorem dX8_isBlock_60 : decode cX8_isBlock 60 = .ok (.iload_n 2, 1) := by decide +kernel
theorem dX8_isBlock_61 : decode cX8_isBlock 61 = .ok (.iconst 0, 1) := by decide +kernel
theorem dX8_isBlock_62 : decode cX8_isBlock 62 = .ok (.iconst 3, 1) := by decide +kernel
theorem dX8_isBlock_63 : decode cX8_isBlock 63 = .ok (.invokestatic 105, 3) := by decide +kernel
theorem dX8_isBlock_66 : decode cX8_isBlock 66 = .ok (.ireturn, 1) := by decide +kernel
theorem dX8_isBlock_67 : decode cX8_isBlock 67 = .ok (.iload_n 2, 1) := by decide +kernel
theorem dX8_isBlock_68 : decode cX8_isBlock 68 = .ok (.iconst 0, 1) := by decide +kernel
theorem dX8_isBlock_69 : decode cX8_isBlock 69 = .ok (.iload_n 0, 1) := by decide +kernel
theorem dX8_isBlock_70 : decode cX8_isBlock 70 = .ok (.iconst 1, 1) := by decide +kernel
theorem dX8_isBlock_71 : decode cX8_isBlock 71 = .ok (.isub, 1) := by decide +kernel
theorem dX8_isBlock_72 : decode cX8_isBlock 72 = .ok (.invokestatic 105, 3) := by decide +kernel
theorem dX8_isBlock_75 : decode cX8_isBlock 75 = .ok (.ireturn, 1) := by decide +kernel
theorem dX8_isBlock_76 : decode cX8_isBlock 76 = .ok (.iconst 0, 1) := by decide +kernel
theorem dX8_isBlock_77 : decode cX8_isBlock 77 = .ok (.ireturn, 1) := by decide +kernel
theorem dX8_placeInQueue_0 : decode cX8_placeInQueue 0 = .ok (.iconst 0, 1) := by decide +kernel
theorem dX8_placeInQueue_1 : decode cX8_placeInQueue 1 = .ok (.istore_n 2, 1) := by decide +kernel
theorem dX8_placeInQueue_2 : decode cX8_placeInQueue 2 = .ok (.iload_n 2, 1) := by decide +kernel
theorem dX8_placeInQueue_3 : decode cX8_placeInQueue 3 = .ok (.aload_n 0, 1) := by decide +kernel
theorem dX8_placeInQueue_4 : decode cX8_placeInQueue 4 = .ok (.getfield 19, 3) := by decide +kernel
theorem dX8_placeInQueue_7 : decode cX8_placeInQueue 7 = .ok (.invokevirtual 65, 3) := by decide +kernel
theorem dX8_placeInQueue_10 : decode cX8_placeInQueue 10 = .ok (.if_icmp .ge 23, 3) := by decide +kernel
theorem dX8_placeInQueue_13 : decode cX8_placeInQueue 13 = .ok (.aload_n 0, 1) := by decide +kernel
theorem dX8_placeInQueue_14 : decode cX8_placeInQueue 14 = .ok (.getfield 19, 3) := by decide +kernel
theorem dX8_placeInQueue_17 : decode cX8_placeInQueue 17 = .ok (.iload_n 2, 1) := by decide +kernel
theorem dX8_placeInQueue_18 : decode cX8_placeInQueue 18 = .ok (.invokevirtual 179, 3) := by decide +kernel
theorem dX8_placeInQueue_21 : decode cX8_placeInQueue 21 = .ok (.aload_n 1, 1) := by decide +kernel
theorem dX8_placeInQueue_22 : decode cX8_placeInQueue 22 = .ok (.if_acmp .ne 5, 3) := by decide +kernel
theorem dX8_placeInQueue_25 : decode cX8_placeInQueue 25 = .ok (.iload_n 2, 1) := by decide +kernel
theorem dX8_placeInQueue_26 : decode cX8_placeInQueue 26 = .ok (.ireturn, 1) := by decide +kernel
theorem dX8_placeInQueue_27 : decode cX8_placeInQueue 27 = .ok (.iinc 2 1, 3) := by decide +kernel
theorem dX8_placeInQueue_30 : decode cX8_placeInQueue 30 = .ok (.goto (-28), 3) := by decide +kernel
theorem dX8_placeInQueue_33 : decode cX8_placeInQueue 33 = .ok (.iconst (-1), 1) := by decide +kernel
theorem dX8_placeInQueue_34 : decode cX8_placeInQueue 34 = .ok (.ireturn, 1) := by decide +kernel
theorem dX8_countLoaded_0 : decode cX8_countLoaded 0 = .ok (.iconst 0, 1) := by decide +kernel
theorem dX8_countLoaded_1 : decode cX8_countLoaded 1 = .ok (.istore_n 1, 1) := by decide +kernel
theorem dX8_countLoaded_2 : decode cX8_countLoaded 2 = .ok (.iconst 0, 1) := by decide +kernel
theorem dX8_countLoaded_3 : decode cX8_countLoaded 3 = .ok (.istore_n 2, 1) := by decide +kernel
theorem dX8_countLoaded_4 : decode cX8_countLoaded 4 = .ok (.iload_n 2, 1) := by decide +kernel
theorem dX8_countLoaded_5 : decode cX8_countLoaded 5 = .ok (.aload_n 0, 1) := by decide +kernel
theorem dX8_countLoaded_6 : decode cX8_countLoaded 6 = .ok (.getfield 12, 3) := by decide +kernel
theorem dX8_countLoaded_9 : decode cX8_countLoaded 9 = .ok (.invokevirtual 65, 3) := by decide +kernel
theorem dX8_countLoaded_12 : decode cX8_countLoaded 12 = .ok (.if_icmp .ge 34, 3) := by decide +kernel
theorem dX8_countLoaded_15 : decode cX8_countLoaded 15 = .ok (.iload_n 1, 1) := by decide +kernel
theorem dX8_countLoaded_16 : decode cX8_countLoaded 16 = .ok (.aload_n 0, 1) := by decide +kernel
theorem dX8_countLoaded_17 : decode cX8_countLoaded 17 = .ok (.getfield 12, 3) := by decide +kernel
theorem dX8_countLoaded_20 : decode cX8_countLoaded 20 = .ok (.iload_n 2, 1) := by decide +kernel
theorem dX8_countLoaded_21 : decode cX8_countLoaded 21 = .ok (.invokevirtual 179, 3) := by decide +kernel
theorem dX8_countLoaded_24 : decode cX8_countLoaded 24 = .ok (.checkcast 114, 3) := by decide +kernel
theorem dX8_countLoaded_27 : decode cX8_countLoaded 27 = .ok (.getfield 123, 3) := by decide +kernel
theorem dX8_countLoaded_30 : decode cX8_countLoaded 30 = .ok (.ifCond .eq 7, 3) := by decide +kernel
theorem dX8_countLoaded_33 : decode cX8_countLoaded 33 = .ok (.iconst 1, 1) := by decide +kernel
theorem dX8_countLoaded_34 : decode cX8_countLoaded 34 = .ok (.goto 4, 3) := by decide +kernel
theorem dX8_countLoaded_37 : decode cX8_countLoaded 37 = .ok (.iconst 0, 1) := by decide +kernel
theorem dX8_countLoaded_38 : decode cX8_countLoaded 38 = .ok (.iadd, 1) := by decide +kernel
theorem dX8_countLoaded_39 : decode cX8_countLoaded 39 = .ok (.istore_n 1, 1) := by decide +kernel
theorem dX8_countLoaded_40 : decode cX8_countLoaded 40 = .ok (.iinc 2 1, 3) := by decide +kernel
theorem dX8_countLoaded_43 : decode cX8_countLoaded 43 = .ok (.goto (-39), 3) := by decide +kernel
theorem dX8_countLoaded_46 : decode cX8_countLoaded 46 = .ok (.iload_n 1, 1) := by decide +kernel
theorem dX8_countLoaded_47 : decode cX8_countLoaded 47 = .ok (.ireturn, 1) := by decide +kernel
theorem dX8_countLeft_0 : decode cX8_countLeft 0 = .ok (.iconst 0, 1) := by decide +kernel
theorem dX8_countLeft_1 : decode cX8_countLeft 1 = .ok (.istore_n 2, 1) := by decide +kernel
theorem dX8_countLeft_2 : decode cX8_countLeft 2 = .ok (.iconst 0, 1) := by decide +kernel
theorem dX8_countLeft_3 : decode cX8_countLeft 3 = .ok (.istore_n 3, 1) := by decide +kernel
theorem dX8_countLeft_4 : decode cX8_countLeft 4 = .ok (.iload_n 3, 1) := by decide +kernel
theorem dX8_countLeft_5 : decode cX8_countLeft 5 = .ok (.aload_n 0, 1) := by decide +kernel
theorem dX8_countLeft_6 : decode cX8_countLeft 6 = .ok (.getfield 12, 3) := by decide +kernel
theorem dX8_countLeft_9 : decode cX8_countLeft 9 = .ok (.invokevirtual 65, 3) := by decide +kernel
theorem dX8_countLeft_12 : decode cX8_countLeft 12 = .ok (.if_icmp .ge 27, 3) := by decide +kernel
theorem dX8_countLeft_15 : decode cX8_countLeft 15 = .ok (.iload_n 2, 1) := by decide +kernel
theorem dX8_countLeft_16 : decode cX8_countLeft 16 = .ok (.aload_n 0, 1) := by decide +kernel
theorem dX8_countLeft_17 : decode cX8_countLeft 17 = .ok (.getfield 12, 3) := by decide +kernel
theorem dX8_countLeft_20 : decode cX8_countLeft 20 = .ok (.iload_n 3, 1) := by decide +kernel
theorem dX8_countLeft_21 : decode cX8_countLeft 21 = .ok (.invokevirtual 179, 3) := by decide +kernel
theorem dX8_countLeft_24 : decode cX8_countLeft 24 = .ok (.checkcast 114, 3) := by decide +kernel
theorem dX8_countLeft_27 : decode cX8_countLeft 27 = .ok (.iload_n 1, 1) := by decide +kernel
theorem dX8_countLeft_28 : decode cX8_countLeft 28 = .ok (.invokevirtual 365, 3) := by decide +kernel
theorem dX8_countLeft_31 : decode cX8_countLeft 31 = .ok (.iadd, 1) := by decide +kernel
theorem dX8_countLeft_32 : decode cX8_countLeft 32 = .ok (.istore_n 2, 1) := by decide +kernel
theorem dX8_countLeft_33 : decode cX8_countLeft 33 = .ok (.iinc 3 1, 3) := by decide +kernel
theorem dX8_countLeft_36 : decode cX8_countLeft 36 = .ok (.goto (-32), 3) := by decide +kernel
theorem dX8_countLeft_39 : decode cX8_countLeft 39 = .ok (.iload_n 2, 1) := by decide +kernel
theorem dX8_countLeft_40 : decode cX8_countLeft 40 = .ok (.ireturn, 1) := by decide +kernel
theorem dX8_lowestToolFor_0 : decode cX8_lowestToolFor 0 = .ok (.iconst 0, 1) := by decide +kernel
theorem dX8_lowestToolFor_1 : decode cX8_lowestToolFor 1 = .ok (.istore_n 2, 1) := by decide +kernel
theorem dX8_lowestToolFor_2 : decode cX8_lowestToolFor 2 = .ok (.iload_n 2, 1) := by decide +kernel
theorem dX8_lowestToolFor_3 : decode cX8_lowestToolFor 3 = .ok (.aload_n 0, 1) := by decide +kernel
theorem dX8_lowestToolFor_4 : decode cX8_lowestToolFor 4 = .ok (.getfield 12, 3) := by decide +kernel
theorem dX8_lowestToolFor_7 : decode cX8_lowestToolFor 7 = .ok (.invokevirtual 65, 3) := by decide +kernel
theorem dX8_lowestToolFor_10 : decode cX8_lowestToolFor 10 = .ok (.if_icmp .ge 39, 3) := by decide +kernel
theorem dX8_lowestToolFor_13 : decode cX8_lowestToolFor 13 = .ok (.aload_n 0, 1) := by decide +kernel
theorem dX8_lowestToolFor_14 : decode cX8_lowestToolFor 14 = .ok (.getfield 12, 3) := by decide +kernel
theorem dX8_lowestToolFor_17 : decode cX8_lowestToolFor 17 = .ok (.iload_n 2, 1) := by decide +kernel
theorem dX8_lowestToolFor_18 : decode cX8_lowestToolFor 18 = .ok (.invokevirtual 179, 3) := by decide +kernel
theorem dX8_lowestToolFor_21 : decode cX8_lowestToolFor 21 = .ok (.checkcast 114, 3) := by decide +kernel
theorem dX8_lowestToolFor_24 : decode cX8_lowestToolFor 24 = .ok (.iload_n 1, 1) := by decide +kernel
theorem dX8_lowestToolFor_25 : decode cX8_lowestToolFor 25 = .ok (.invokevirtual 365, 3) := by decide +kernel
theorem dX8_lowestToolFor_28 : decode cX8_lowestToolFor 28 = .ok (.ifCond .le 15, 3) := by decide +kernel
theorem dX8_lowestToolFor_31 : decode cX8_lowestToolFor 31 = .ok (.aload_n 0, 1) := by decide +kernel
theorem dX8_lowestToolFor_32 : decode cX8_lowestToolFor 32 = .ok (.getfield 12, 3) := by decide +kernel
theorem dX8_lowestToolFor_35 : decode cX8_lowestToolFor 35 = .ok (.iload_n 2, 1) := by decide +kernel
theorem dX8_lowestToolFor_36 : decode cX8_lowestToolFor 36 = .ok (.invokevirtual 179, 3) := by decide +kernel
theorem dX8_lowestToolFor_39 : decode cX8_lowestToolFor 39 = .ok (.checkcast 114, 3) := by decide +kernel
theorem dX8_lowestToolFor_42 : decode cX8_lowestToolFor 42 = .ok (.areturn, 1) := by decide +kernel
theorem dX8_lowestToolFor_43 : decode cX8_lowestToolFor 43 = .ok (.iinc 2 1, 3) := by decide +kernel
theorem dX8_lowestToolFor_46 : decode cX8_lowestToolFor 46 = .ok (.goto (-44), 3) := by decide +kernel
theorem dX8_lowestToolFor_49 : decode cX8_lowestToolFor 49 = .ok (.aconst_null, 1) := by decide +kernel
theorem dX8_lowestToolFor_50 : decode cX8_lowestToolFor 50 = .ok (.areturn, 1) := by decide +kernel
theorem dX8_tell_0 : decode cX8_tell 0 = .ok (.iload_n 1, 1) := by decide +kernel
theorem dX8_tell_1 : decode cX8_tell 1 = .ok (.ifCond .lt 29, 3) := by decide +kernel
theorem dX8_tell_4 : decode cX8_tell 4 = .ok (.iload_n 1, 1) := by decide +kernel
theorem dX8_tell_5 : decode cX8_tell 5 = .ok (.aload_n 0, 1) := by decide +kernel
theorem dX8_tell_6 : decode cX8_tell 6 = .ok (.getfield 12, 3) := by decide +kernel
theorem dX8_tell_9 : decode cX8_tell 9 = .ok (.invokevirtual 65, 3) := by decide +kernel
theorem dX8_tell_12 : decode cX8_tell 12 = .ok (.if_icmp .ge 18, 3) := by decide +kernel
theorem dX8_tell_15 : decode cX8_tell 15 = .ok (.aload_n 0, 1) := by decide +kernel
theorem dX8_tell_16 : decode cX8_tell 16 = .ok (.getfield 12, 3) := by decide +kernel
theorem dX8_tell_19 : decode cX8_tell 19 = .ok (.iload_n 1, 1) := by decide +kernel
theorem dX8_tell_20 : decode cX8_tell 20 = .ok (.invokevirtual 179, 3) := by decide +kernel
theorem dX8_tell_23 : decode cX8_tell 23 = .ok (.checkcast 114, 3) := by decide +kernel
theorem dX8_tell_26 : decode cX8_tell 26 = .ok (.iload_n 2, 1) := by decide +kernel
theorem dX8_tell_27 : decode cX8_tell 27 = .ok (.invokevirtual 368, 3) := by decide +kernel
theorem dX8_tell_30 : decode cX8_tell 30 = .ok (.return_, 1) := by decide +kernel
theorem dX8_tryWhole_0 : decode cX8_tryWhole 0 = .ok (.aload_n 0, 1) := by decide +kernel
theorem dX8_tryWhole_1 : decode cX8_tryWhole 1 = .ok (.iload_n 1, 1) := by decide +kernel
theorem dX8_tryWhole_2 : decode cX8_tryWhole 2 = .ok (.invokevirtual 141, 3) := by decide +kernel
theorem dX8_tryWhole_5 : decode cX8_tryWhole 5 = .ok (.astore_n 3, 1) := by decide +kernel
theorem dX8_tryWhole_6 : decode cX8_tryWhole 6 = .ok (.aload_n 0, 1) := by decide +kernel
theorem dX8_tryWhole_7 : decode cX8_tryWhole 7 = .ok (.iload_n 2, 1) := by decide +kernel
theorem dX8_tryWhole_8 : decode cX8_tryWhole 8 = .ok (.invokevirtual 79, 3) := by decide +kernel
theorem dX8_tryWhole_11 : decode cX8_tryWhole 11 = .ok (.pop, 1) := by decide +kernel
theorem dX8_tryWhole_12 : decode cX8_tryWhole 12 = .ok (.aload_n 0, 1) := by decide +kernel
theorem dX8_tryWhole_13 : decode cX8_tryWhole 13 = .ok (.getfield 51, 3) := by decide +kernel
theorem dX8_tryWhole_16 : decode cX8_tryWhole 16 = .ok (.aload_n 0, 1) := by decide +kernel
theorem dX8_tryWhole_17 : decode cX8_tryWhole 17 = .ok (.getfield 44, 3) := by decide +kernel
theorem dX8_tryWhole_20 : decode cX8_tryWhole 20 = .ok (.aload_n 3, 1) := by decide +kernel
theorem dX8_tryWhole_21 : decode cX8_tryWhole 21 = .ok (.iload_n 2, 1) := by decide +kernel
theorem dX8_tryWhole_22 : decode cX8_tryWhole 22 = .ok (.iconst 0, 1) := by decide +kernel
theorem dX8_tryWhole_23 : decode cX8_tryWhole 23 = .ok (.invokevirtual 202, 3) := by decide +kernel
theorem dX8_tryWhole_26 : decode cX8_tryWhole 26 = .ok (.return_, 1) := by decide +kernel
theorem dX8_isEnoughFor_0 : decode cX8_isEnoughFor 0 = .ok (.aload_n 0, 1) := by decide +kernel
theorem dX8_isEnoughFor_1 : decode cX8_isEnoughFor 1 = .ok (.getfield 51, 3) := by decide +kernel
theorem dX8_isEnoughFor_4 : decode cX8_isEnoughFor 4 = .ok (.aload_n 0, 1) := by decide +kernel
theorem dX8_isEnoughFor_5 : decode cX8_isEnoughFor 5 = .ok (.getfield 44, 3) := by decide +kernel
theorem dX8_isEnoughFor_8 : decode cX8_isEnoughFor 8 = .ok (.aload_n 1, 1) := by decide +kernel
theorem dX8_isEnoughFor_9 : decode cX8_isEnoughFor 9 = .ok (.aload_n 1, 1) := by decide +kernel
theorem dX8_isEnoughFor_10 : decode cX8_isEnoughFor 10 = .ok (.getfield 176, 3) := by decide +kernel
theorem dX8_isEnoughFor_13 : decode cX8_isEnoughFor 13 = .ok (.aload_n 1, 1) := by decide +kernel
theorem dX8_isEnoughFor_14 : decode cX8_isEnoughFor 14 = .ok (.getfield 199, 3) := by decide +kernel
theorem dX8_isEnoughFor_17 : decode cX8_isEnoughFor 17 = .ok (.invokevirtual 202, 3) := by decide +kernel
theorem dX8_isEnoughFor_20 : decode cX8_isEnoughFor 20 = .ok (.iconst 0, 1) := by decide +kernel
theorem dX8_isEnoughFor_21 : decode cX8_isEnoughFor 21 = .ok (.istore_n 2, 1) := by decide +kernel
theorem dX8_isEnoughFor_22 : decode cX8_isEnoughFor 22 = .ok (.iload_n 2, 1) := by decide +kernel
theorem dX8_isEnoughFor_23 : decode cX8_isEnoughFor 23 = .ok (.iconst 4, 1) := by decide +kernel
theorem dX8_isEnoughFor_24 : decode cX8_isEnoughFor 24 = .ok (.if_icmp .ge 38, 3) := by decide +kernel
theorem dX8_isEnoughFor_27 : decode cX8_isEnoughFor 27 = .ok (.aload_n 0, 1) := by decide +kernel
theorem dX8_isEnoughFor_28 : decode cX8_isEnoughFor 28 = .ok (.getfield 38, 3) := by decide +kernel
theorem dX8_isEnoughFor_31 : decode cX8_isEnoughFor 31 = .ok (.iload_n 2, 1) := by decide +kernel
theorem dX8_isEnoughFor_32 : decode cX8_isEnoughFor 32 = .ok (.dup2, 1) := by decide +kernel
theorem dX8_isEnoughFor_33 : decode cX8_isEnoughFor 33 = .ok (.iaload, 1) := by decide +kernel
theorem dX8_isEnoughFor_34 : decode cX8_isEnoughFor 34 = .ok (.aload_n 0, 1) := by decide +kernel
theorem dX8_isEnoughFor_35 : decode cX8_isEnoughFor 35 = .ok (.getfield 51, 3) := by decide +kernel
theorem dX8_isEnoughFor_38 : decode cX8_isEnoughFor 38 = .ok (.getfield 206, 3) := by decide +kernel
theorem dX8_isEnoughFor_41 : decode cX8_isEnoughFor 41 = .ok (.iload_n 2, 1) := by decide +kernel
theorem dX8_isEnoughFor_42 : decode cX8_isEnoughFor 42 = .ok (.iaload, 1) := by decide +kernel
theorem dX8_isEnoughFor_43 : decode cX8_isEnoughFor 43 = .ok (.isub, 1) := by decide +kernel
theorem dX8_isEnoughFor_44 : decode cX8_isEnoughFor 44 = .ok (.iastore, 1) := by decide +kernel
theorem dX8_isEnoughFor_45 : decode cX8_isEnoughFor 45 = .ok (.aload_n 0, 1) := by decide +kernel
theorem dX8_isEnoughFor_46 : decode cX8_isEnoughFor 46 = .ok (.getfield 38, 3) := by decide +kernel
theorem dX8_isEnoughFor_49 : decode cX8_isEnoughFor 49 = .ok (.iload_n 2, 1) := by decide +kernel
theorem dX8_isEnoughFor_50 : decode cX8_isEnoughFor 50 = .ok (.iaload, 1) := by decide +kernel
theorem dX8_isEnoughFor_51 : decode cX8_isEnoughFor 51 = .ok (.ifCond .ge 5, 3) := by decide +kernel
theorem dX8_isEnoughFor_54 : decode cX8_isEnoughFor 54 = .ok (.iconst 0, 1) := by decide +kernel
theorem dX8_isEnoughFor_55 : decode cX8_isEnoughFor 55 = .ok (.ireturn, 1) := by decide +kernel
theorem dX8_isEnoughFor_56 : decode cX8_isEnoughFor 56 = .ok (.iinc 2 1, 3) := by decide +kernel
theorem dX8_isEnoughFor_59 : decode cX8_isEnoughFor 59 = .ok (.goto (-37), 3) := by decide +kernel
theorem dX8_isEnoughFor_62 : decode cX8_isEnoughFor 62 = .ok (.iconst 1, 1) := by decide +kernel
theorem dX8_isEnoughFor_63 : decode cX8_isEnoughFor 63 = .ok (.ireturn, 1) := by decide +kernel
theorem dX8_isCutToEnd_0 : decode cX8_isCutToEnd 0 = .ok (.aload_n 1, 1) := by decide +kernel
theorem dX8_isCutToEnd_1 : decode cX8_isCutToEnd 1 = .ok (.getfield 199, 3) := by decide +kernel
theorem dX8_isCutToEnd_4 : decode cX8_isCutToEnd 4 = .ok (.istore_n 2, 1) := by decide +kernel
theorem dX8_isCutToEnd_5 : decode cX8_isCutToEnd 5 = .ok (.aload_n 0, 1) := by decide +kernel
theorem dX8_isCutToEnd_6 : decode cX8_isCutToEnd 6 = .ok (.getfield 44, 3) := by decide +kernel
theorem dX8_isCutToEnd_9 : decode cX8_isCutToEnd 9 = .ok (.aload_n 1, 1) := by decide +kernel
theorem dX8_isCutToEnd_10 : decode cX8_isCutToEnd 10 = .ok (.getfield 176, 3) := by decide +kernel
theorem dX8_isCutToEnd_13 : decode cX8_isCutToEnd 13 = .ok (.invokevirtual 371, 3) := by decide +kernel
theorem dX8_isCutToEnd_16 : decode cX8_isCutToEnd 16 = .ok (.iconst 0, 1) := by decide +kernel
theorem dX8_isCutToEnd_17 : decode cX8_isCutToEnd 17 = .ok (.istore_n 3, 1) := by decide +kernel
theorem dX8_isCutToEnd_18 : decode cX8_isCutToEnd 18 = .ok (.iload_n 3, 1) := by decide +kernel
theorem dX8_isCutToEnd_19 : decode cX8_isCutToEnd 19 = .ok (.sipush 6600, 3) := by decide +kernel
theorem dX8_isCutToEnd_22 : decode cX8_isCutToEnd 22 = .ok (.if_icmp .gt 78, 3) := by decide +kernel
theorem dX8_isCutToEnd_25 : decode cX8_isCutToEnd 25 = .ok (.aload_n 0, 1) := by decide +kernel
theorem dX8_isCutToEnd_26 : decode cX8_isCutToEnd 26 = .ok (.getfield 44, 3) := by decide +kernel
theorem dX8_isCutToEnd_29 : decode cX8_isCutToEnd 29 = .ok (.invokevirtual 374, 3) := by decide +kernel
theorem dX8_isCutToEnd_32 : decode cX8_isCutToEnd 32 = .ok (.ifCond .eq 68, 3) := by decide +kernel
theorem dX8_isCutToEnd_35 : decode cX8_isCutToEnd 35 = .ok (.iload_n 3, 1) := by decide +kernel
theorem dX8_isCutToEnd_36 : decode cX8_isCutToEnd 36 = .ok (.iload_n 2, 1) := by decide +kernel
theorem dX8_isCutToEnd_37 : decode cX8_isCutToEnd 37 = .ok (.if_icmp .ge 6, 3) := by decide +kernel
theorem dX8_isCutToEnd_40 : decode cX8_isCutToEnd 40 = .ok (.goto 54, 3) := by decide +kernel
theorem dX8_isCutToEnd_43 : decode cX8_isCutToEnd 43 = .ok (.aload_n 0, 1) := by decide +kernel
theorem dX8_isCutToEnd_44 : decode cX8_isCutToEnd 44 = .ok (.getfield 44, 3) := by decide +kernel
theorem dX8_isCutToEnd_47 : decode cX8_isCutToEnd 47 = .ok (.aload_n 1, 1) := by decide +kernel
theorem dX8_isCutToEnd_48 : decode cX8_isCutToEnd 48 = .ok (.getfield 326, 3) := by decide +kernel
theorem dX8_isCutToEnd_51 : decode cX8_isCutToEnd 51 = .ok (.invokevirtual 377, 3) := by decide +kernel
theorem dX8_isCutToEnd_54 : decode cX8_isCutToEnd 54 = .ok (.ifCond .eq 30, 3) := by decide +kernel
theorem dX8_isCutToEnd_57 : decode cX8_isCutToEnd 57 = .ok (.aload_n 0, 1) := by decide +kernel
theorem dX8_isCutToEnd_58 : decode cX8_isCutToEnd 58 = .ok (.aload_n 0, 1) := by decide +kernel
theorem dX8_isCutToEnd_59 : decode cX8_isCutToEnd 59 = .ok (.getfield 44, 3) := by decide +kernel
theorem dX8_isCutToEnd_62 : decode cX8_isCutToEnd 62 = .ok (.getfield 381, 3) := by decide +kernel
theorem dX8_isCutToEnd_65 : decode cX8_isCutToEnd 65 = .ok (.invokevirtual 382, 3) := by decide +kernel
theorem dX8_isCutToEnd_68 : decode cX8_isCutToEnd 68 = .ok (.astore 4, 2) := by decide +kernel
theorem dX8_isCutToEnd_70 : decode cX8_isCutToEnd 70 = .ok (.aload 4, 2) := by decide +kernel
theorem dX8_isCutToEnd_72 : decode cX8_isCutToEnd 72 = .ok (.ifnonnull 5, 3) := by decide +kernel
theorem dX8_isCutToEnd_75 : decode cX8_isCutToEnd 75 = .ok (.iconst 0, 1) := by decide +kernel
theorem dX8_isCutToEnd_76 : decode cX8_isCutToEnd 76 = .ok (.ireturn, 1) := by decide +kernel
theorem dX8_isCutToEnd_77 : decode cX8_isCutToEnd 77 = .ok (.aload_n 0, 1) := by decide +kernel
theorem dX8_isCutToEnd_78 : decode cX8_isCutToEnd 78 = .ok (.aload 4, 2) := by decide +kernel
theorem dX8_isCutToEnd_80 : decode cX8_isCutToEnd 80 = .ok (.aload_n 1, 1) := by decide +kernel
theorem dX8_isCutToEnd_81 : decode cX8_isCutToEnd 81 = .ok (.invokevirtual 385, 3) := by decide +kernel
theorem dX8_isCutToEnd_84 : decode cX8_isCutToEnd 84 = .ok (.aload_n 1, 1) := by decide +kernel
theorem dX8_isCutToEnd_85 : decode cX8_isCutToEnd 85 = .ok (.dup, 1) := by decide +kernel
theorem dX8_isCutToEnd_86 : decode cX8_isCutToEnd 86 = .ok (.getfield 199, 3) := by decide +kernel
theorem dX8_isCutToEnd_89 : decode cX8_isCutToEnd 89 = .ok (.iconst 1, 1) := by decide +kernel
theorem dX8_isCutToEnd_90 : decode cX8_isCutToEnd 90 = .ok (.iadd, 1) := by decide +kernel
theorem dX8_isCutToEnd_91 : decode cX8_isCutToEnd 91 = .ok (.putfield 199, 3) := by decide +kernel
theorem dX8_isCutToEnd_94 : decode cX8_isCutToEnd 94 = .ok (.iinc 3 1, 3) := by decide +kernel
theorem dX8_isCutToEnd_97 : decode cX8_isCutToEnd 97 = .ok (.goto (-79), 3) := by decide +kernel
theorem dX8_isCutToEnd_100 : decode cX8_isCutToEnd 100 = .ok (.iconst 1, 1) := by decide +kernel
theorem dX8_isCutToEnd_101 : decode cX8_isCutToEnd 101 = .ok (.ireturn, 1) := by decide +kernel
theorem dX8_cutBy_0 : decode cX8_cutBy 0 = .ok (.aload_n 0, 1) := by decide +kernel
theorem dX8_cutBy_1 : decode cX8_cutBy 1 = .ok (.getfield 44, 3) := by decide +kernel
theorem dX8_cutBy_4 : decode cX8_cutBy 4 = .ok (.invokevirtual 389, 3) := by decide +kernel
theorem dX8_cutBy_7 : decode cX8_cutBy 7 = .ok (.istore_n 3, 1) := by decide +kernel
theorem dX8_cutBy_8 : decode cX8_cutBy 8 = .ok (.aload_n 0, 1) := by decide +kernel
theorem dX8_cutBy_9 : decode cX8_cutBy 9 = .ok (.getfield 44, 3) := by decide +kernel
theorem dX8_cutBy_12 : decode cX8_cutBy 12 = .ok (.getfield 392, 3) := by decide +kernel
theorem dX8_cutBy_15 : decode cX8_cutBy 15 = .ok (.iconst 0, 1) := by decide +kernel
theorem dX8_cutBy_16 : decode cX8_cutBy 16 = .ok (.iaload, 1) := by decide +kernel
theorem dX8_cutBy_17 : decode cX8_cutBy 17 = .ok (.istore 4, 2) := by decide +kernel
theorem dX8_cutBy_19 : decode cX8_cutBy 19 = .ok (.aload_n 0, 1) := by decide +kernel
theorem dX8_cutBy_20 : decode cX8_cutBy 20 = .ok (.getfield 35, 3) := by decide +kernel
theorem dX8_cutBy_23 : decode cX8_cutBy 23 = .ok (.iconst 0, 1) := by decide +kernel
theorem dX8_cutBy_24 : decode cX8_cutBy 24 = .ok (.aload_n 0, 1) := by decide +kernel
theorem dX8_cutBy_25 : decode cX8_cutBy 25 = .ok (.getfield 31, 3) := by decide +kernel
theorem dX8_cutBy_28 : decode cX8_cutBy 28 = .ok (.iload 4, 2) := by decide +kernel
theorem dX8_cutBy_30 : decode cX8_cutBy 30 = .ok (.iaload, 1) := by decide +kernel
theorem dX8_cutBy_31 : decode cX8_cutBy 31 = .ok (.iastore, 1) := by decide +kernel
theorem dX8_cutBy_32 : decode cX8_cutBy 32 = .ok (.aload_n 0, 1) := by decide +kernel
theorem dX8_cutBy_33 : decode cX8_cutBy 33 = .ok (.getfield 35, 3) := by decide +kernel
theorem dX8_cutBy_36 : decode cX8_cutBy 36 = .ok (.iconst 1, 1) := by decide +kernel
theorem dX8_cutBy_37 : decode cX8_cutBy 37 = .ok (.aload_n 0, 1) := by decide +kernel
theorem dX8_cutBy_38 : decode cX8_cutBy 38 = .ok (.getfield 222, 3) := by decide +kernel
theorem dX8_cutBy_41 : decode cX8_cutBy 41 = .ok (.iload 4, 2) := by decide +kernel
theorem dX8_cutBy_43 : decode cX8_cutBy 43 = .ok (.imul, 1) := by decide +kernel
theorem dX8_cutBy_44 : decode cX8_cutBy 44 = .ok (.bipush 10, 2) := by decide +kernel
theorem dX8_cutBy_46 : decode cX8_cutBy 46 = .ok (.idiv, 1) := by decide +kernel
theorem dX8_cutBy_47 : decode cX8_cutBy 47 = .ok (.iastore, 1) := by decide +kernel
theorem dX8_cutBy_48 : decode cX8_cutBy 48 = .ok (.aload_n 0, 1) := by decide +kernel
theorem dX8_cutBy_49 : decode cX8_cutBy 49 = .ok (.getfield 35, 3) := by decide +kernel
theorem dX8_cutBy_52 : decode cX8_cutBy 52 = .ok (.iconst 2, 1) := by decide +kernel
theorem dX8_cutBy_53 : decode cX8_cutBy 53 = .ok (.aload_n 1, 1) := by decide +kernel
theorem dX8_cutBy_54 : decode cX8_cutBy 54 = .ok (.getfield 315, 3) := by decide +kernel
theorem dX8_cutBy_57 : decode cX8_cutBy 57 = .ok (.iconst 4, 1) := by decide +kernel
theorem dX8_cutBy_58 : decode cX8_cutBy 58 = .ok (.idiv, 1) := by decide +kernel
theorem dX8_cutBy_59 : decode cX8_cutBy 59 = .ok (.iastore, 1) := by decide +kernel
theorem dX8_cutBy_60 : decode cX8_cutBy 60 = .ok (.aload_n 0, 1) := by decide +kernel
theorem dX8_cutBy_61 : decode cX8_cutBy 61 = .ok (.getfield 35, 3) := by decide +kernel
theorem dX8_cutBy_64 : decode cX8_cutBy 64 = .ok (.iconst 3, 1) := by decide +kernel
theorem dX8_cutBy_65 : decode cX8_cutBy 65 = .ok (.aload_n 1, 1) := by decide +kernel
theorem dX8_cutBy_66 : decode cX8_cutBy 66 = .ok (.getfield 318, 3) := by decide +kernel
theorem dX8_cutBy_69 : decode cX8_cutBy 69 = .ok (.ineg, 1) := by decide +kernel
theorem dX8_cutBy_70 : decode cX8_cutBy 70 = .ok (.iastore, 1) := by decide +kernel
theorem dX8_cutBy_71 : decode cX8_cutBy 71 = .ok (.aload_n 2, 1) := by decide +kernel
theorem dX8_cutBy_72 : decode cX8_cutBy 72 = .ok (.getfield 326, 3) := by decide +kernel
theorem dX8_cutBy_75 : decode cX8_cutBy 75 = .ok (.iload_n 3, 1) := by decide +kernel
theorem dX8_cutBy_76 : decode cX8_cutBy 76 = .ok (.aload_n 0, 1) := by decide +kernel
theorem dX8_cutBy_77 : decode cX8_cutBy 77 = .ok (.getfield 44, 3) := by decide +kernel
theorem dX8_cutBy_80 : decode cX8_cutBy 80 = .ok (.getfield 392, 3) := by decide +kernel
theorem dX8_cutBy_83 : decode cX8_cutBy 83 = .ok (.iconst 2, 1) := by decide +kernel
theorem dX8_cutBy_84 : decode cX8_cutBy 84 = .ok (.iaload, 1) := by decide +kernel
theorem dX8_cutBy_85 : decode cX8_cutBy 85 = .ok (.iastore, 1) := by decide +kernel
theorem dX8_cutBy_86 : decode cX8_cutBy 86 = .ok (.aload_n 2, 1) := by decide +kernel
theorem dX8_cutBy_87 : decode cX8_cutBy 87 = .ok (.getfield 282, 3) := by decide +kernel
theorem dX8_cutBy_90 : decode cX8_cutBy 90 = .ok (.iload_n 3, 1) := by decide +kernel
theorem dX8_cutBy_91 : decode cX8_cutBy 91 = .ok (.sipush 1000, 3) := by decide +kernel
theorem dX8_cutBy_94 : decode cX8_cutBy 94 = .ok (.aload_n 0, 1) := by decide +kernel
theorem dX8_cutBy_95 : decode cX8_cutBy 95 = .ok (.getfield 44, 3) := by decide +kernel
theorem dX8_cutBy_98 : decode cX8_cutBy 98 = .ok (.getfield 392, 3) := by decide +kernel
theorem dX8_cutBy_101 : decode cX8_cutBy 101 = .ok (.iconst 2, 1) := by decide +kernel
theorem dX8_cutBy_102 : decode cX8_cutBy 102 = .ok (.iaload, 1) := by decide +kernel
theorem dX8_cutBy_103 : decode cX8_cutBy 103 = .ok (.imul, 1) := by decide +kernel
theorem dX8_cutBy_104 : decode cX8_cutBy 104 = .ok (.iastore, 1) := by decide +kernel
theorem dX8_cutBy_105 : decode cX8_cutBy 105 = .ok (.iconst 0, 1) := by decide +kernel
theorem dX8_cutBy_106 : decode cX8_cutBy 106 = .ok (.istore 5, 2) := by decide +kernel
theorem dX8_cutBy_108 : decode cX8_cutBy 108 = .ok (.iload 5, 2) := by decide +kernel
theorem dX8_cutBy_110 : decode cX8_cutBy 110 = .ok (.aload_n 0, 1) := by decide +kernel
theorem dX8_cutBy_111 : decode cX8_cutBy 111 = .ok (.getfield 35, 3) := by decide +kernel
theorem dX8_cutBy_114 : decode cX8_cutBy 114 = .ok (.arraylength, 1) := by decide +kernel
theorem dX8_cutBy_115 : decode cX8_cutBy 115 = .ok (.if_icmp .ge 25, 3) := by decide +kernel
theorem dX8_cutBy_118 : decode cX8_cutBy 118 = .ok (.aload_n 2, 1) := by decide +kernel
theorem dX8_cutBy_119 : decode cX8_cutBy 119 = .ok (.getfield 282, 3) := by decide +kernel
theorem dX8_cutBy_122 : decode cX8_cutBy 122 = .ok (.iload_n 3, 1) := by decide +kernel
theorem dX8_cutBy_123 : decode cX8_cutBy 123 = .ok (.dup2, 1) := by decide +kernel
theorem dX8_cutBy_124 : decode cX8_cutBy 124 = .ok (.iaload, 1) := by decide +kernel
theorem dX8_cutBy_125 : decode cX8_cutBy 125 = .ok (.aload_n 0, 1) := by decide +kernel
theorem dX8_cutBy_126 : decode cX8_cutBy 126 = .ok (.getfield 35, 3) := by decide +kernel
theorem dX8_cutBy_129 : decode cX8_cutBy 129 = .ok (.iload 5, 2) := by decide +kernel
theorem dX8_cutBy_131 : decode cX8_cutBy 131 = .ok (.iaload, 1) := by decide +kernel
theorem dX8_cutBy_132 : decode cX8_cutBy 132 = .ok (.iadd, 1) := by decide +kernel
theorem dX8_cutBy_133 : decode cX8_cutBy 133 = .ok (.iastore, 1) := by decide +kernel
theorem dX8_cutBy_134 : decode cX8_cutBy 134 = .ok (.iinc 5 1, 3) := by decide +kernel
theorem dX8_cutBy_137 : decode cX8_cutBy 137 = .ok (.goto (-29), 3) := by decide +kernel
theorem dX8_cutBy_140 : decode cX8_cutBy 140 = .ok (.aload_n 2, 1) := by decide +kernel
theorem dX8_cutBy_141 : decode cX8_cutBy 141 = .ok (.getfield 292, 3) := by decide +kernel
theorem dX8_cutBy_144 : decode cX8_cutBy 144 = .ok (.iload_n 3, 1) := by decide +kernel
theorem dX8_cutBy_145 : decode cX8_cutBy 145 = .ok (.aload_n 1, 1) := by decide +kernel
theorem dX8_cutBy_146 : decode cX8_cutBy 146 = .ok (.getfield 395, 3) := by decide +kernel
theorem dX8_cutBy_149 : decode cX8_cutBy 149 = .ok (.iastore, 1) := by decide +kernel
theorem dX8_cutBy_150 : decode cX8_cutBy 150 = .ok (.aload_n 2, 1) := by decide +kernel
theorem dX8_cutBy_151 : decode cX8_cutBy 151 = .ok (.getfield 327, 3) := by decide +kernel
theorem dX8_cutBy_154 : decode cX8_cutBy 154 = .ok (.iload_n 3, 1) := by decide +kernel
theorem dX8_cutBy_155 : decode cX8_cutBy 155 = .ok (.aload_n 0, 1) := by decide +kernel
theorem dX8_cutBy_156 : decode cX8_cutBy 156 = .ok (.invokevirtual 398, 3) := by decide +kernel
theorem dX8_cutBy_159 : decode cX8_cutBy 159 = .ok (.iastore, 1) := by decide +kernel
theorem dX8_cutBy_160 : decode cX8_cutBy 160 = .ok (.aload_n 1, 1) := by decide +kernel
theorem dX8_cutBy_161 : decode cX8_cutBy 161 = .ok (.dup, 1) := by decide +kernel
theorem dX8_cutBy_162 : decode cX8_cutBy 162 = .ok (.getfield 315, 3) := by decide +kernel
theorem dX8_cutBy_165 : decode cX8_cutBy 165 = .ok (.iconst 1, 1) := by decide +kernel
theorem dX8_cutBy_166 : decode cX8_cutBy 166 = .ok (.iadd, 1) := by decide +kernel
theorem dX8_cutBy_167 : decode cX8_cutBy 167 = .ok (.putfield 315, 3) := by decide +kernel
theorem dX8_cutBy_170 : decode cX8_cutBy 170 = .ok (.aload_n 0, 1) := by decide +kernel
theorem dX8_cutBy_171 : decode cX8_cutBy 171 = .ok (.dup, 1) := by decide +kernel
theorem dX8_cutBy_172 : decode cX8_cutBy 172 = .ok (.getfield 216, 3) := by decide +kernel
theorem dX8_cutBy_175 : decode cX8_cutBy 175 = .ok (.iconst 1, 1) := by decide +kernel
theorem dX8_cutBy_176 : decode cX8_cutBy 176 = .ok (.iadd, 1) := by decide +kernel
theorem dX8_cutBy_177 : decode cX8_cutBy 177 = .ok (.putfield 216, 3) := by decide +kernel
theorem dX8_cutBy_180 : decode cX8_cutBy 180 = .ok (.aload_n 0, 1) := by decide +kernel
theorem dX8_cutBy_181 : decode cX8_cutBy 181 = .ok (.bipush 99, 2) := by decide +kernel
theorem dX8_cutBy_183 : decode cX8_cutBy 183 = .ok (.aload_n 0, 1) := by decide +kernel
theorem dX8_cutBy_184 : decode cX8_cutBy 184 = .ok (.getfield 222, 3) := by decide +kernel
theorem dX8_cutBy_187 : decode cX8_cutBy 187 = .ok (.iconst 1, 1) := by decide +kernel
theorem dX8_cutBy_188 : decode cX8_cutBy 188 = .ok (.iadd, 1) := by decide +kernel
theorem dX8_cutBy_189 : decode cX8_cutBy 189 = .ok (.invokestatic 401, 3) := by decide +kernel
theorem dX8_cutBy_192 : decode cX8_cutBy 192 = .ok (.putfield 222, 3) := by decide +kernel
theorem dX8_cutBy_195 : decode cX8_cutBy 195 = .ok (.return_, 1) := by decide +kernel
theorem dX8_greatestPart_0 : decode cX8_greatestPart 0 = .ok (.iconst (-1), 1) := by decide +kernel
theorem dX8_greatestPart_1 : decode cX8_greatestPart 1 = .ok (.istore_n 1, 1) := by decide +kernel
theorem dX8_greatestPart_2 : decode cX8_greatestPart 2 = .ok (.iconst 0, 1) := by decide +kernel
theorem dX8_greatestPart_3 : decode cX8_greatestPart 3 = .ok (.istore_n 2, 1) := by decide +kernel
theorem dX8_greatestPart_4 : decode cX8_greatestPart 4 = .ok (.iconst 0, 1) := by decide +kernel
theorem dX8_greatestPart_5 : decode cX8_greatestPart 5 = .ok (.istore_n 3, 1) := by decide +kernel
theorem dX8_greatestPart_6 : decode cX8_greatestPart 6 = .ok (.iload_n 3, 1) := by decide +kernel
theorem dX8_greatestPart_7 : decode cX8_greatestPart 7 = .ok (.aload_n 0, 1) := by decide +kernel
theorem dX8_greatestPart_8 : decode cX8_greatestPart 8 = .ok (.getfield 35, 3) := by decide +kernel
theorem dX8_greatestPart_11 : decode cX8_greatestPart 11 = .ok (.arraylength, 1) := by decide +kernel
theorem dX8_greatestPart_12 : decode cX8_greatestPart 12 = .ok (.if_icmp .ge 34, 3) := by decide +kernel
theorem dX8_greatestPart_15 : decode cX8_greatestPart 15 = .ok (.aload_n 0, 1) := by decide +kernel
theorem dX8_greatestPart_16 : decode cX8_greatestPart 16 = .ok (.getfield 35, 3) := by decide +kernel
theorem dX8_greatestPart_19 : decode cX8_greatestPart 19 = .ok (.iload_n 3, 1) := by decide +kernel
theorem dX8_greatestPart_20 : decode cX8_greatestPart 20 = .ok (.iaload, 1) := by decide +kernel
theorem dX8_greatestPart_21 : decode cX8_greatestPart 21 = .ok (.invokestatic 404, 3) := by decide +kernel
theorem dX8_greatestPart_24 : decode cX8_greatestPart 24 = .ok (.iload_n 2, 1) := by decide +kernel
theorem dX8_greatestPart_25 : decode cX8_greatestPart 25 = .ok (.if_icmp .le 15, 3) := by decide +kernel
theorem dX8_greatestPart_28 : decode cX8_greatestPart 28 = .ok (.aload_n 0, 1) := by decide +kernel
theorem dX8_greatestPart_29 : decode cX8_greatestPart 29 = .ok (.getfield 35, 3) := by decide +kernel
theorem dX8_greatestPart_32 : decode cX8_greatestPart 32 = .ok (.iload_n 3, 1) := by decide +kernel
theorem dX8_greatestPart_33 : decode cX8_greatestPart 33 = .ok (.iaload, 1) := by decide +kernel
theorem dX8_greatestPart_34 : decode cX8_greatestPart 34 = .ok (.invokestatic 404, 3) := by decide +kernel
theorem dX8_greatestPart_37 : decode cX8_greatestPart 37 = .ok (.istore_n 2, 1) := by decide +kernel
theorem dX8_greatestPart_38 : decode cX8_greatestPart 38 = .ok (.iload_n 3, 1) := by decide +kernel
theorem dX8_greatestPart_39 : decode cX8_greatestPart 39 = .ok (.istore_n 1, 1) := by decide +kernel
theorem dX8_greatestPart_40 : decode cX8_greatestPart 40 = .ok (.iinc 3 1, 3) := by decide +kernel
theorem dX8_greatestPart_43 : decode cX8_greatestPart 43 = .ok (.goto (-37), 3) := by decide +kernel
theorem dX8_greatestPart_46 : decode cX8_greatestPart 46 = .ok (.iload_n 1, 1) := by decide +kernel
theorem dX8_greatestPart_47 : decode cX8_greatestPart 47 = .ok (.ireturn, 1) := by decide +kernel
