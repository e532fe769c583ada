theorem dJxe99ae_isNaN_b9ae7_0 : decode cJxe99ae_isNaN_b9ae7 0 = .ok (.dload_n 0, 1) := by decide +kernel
theorem dJxe99ae_isNaN_b9ae7_1 : decode cJxe99ae_isNaN_b9ae7 1 = .ok (.dload_n 0, 1) := by decide +kernel
theorem dJxe99ae_isNaN_b9ae7_2 : decode cJxe99ae_isNaN_b9ae7 2 = .ok (.dcmp .l, 1) := by decide +kernel
theorem dJxe99ae_isNaN_b9ae7_3 : decode cJxe99ae_isNaN_b9ae7 3 = .ok (.ifCond .eq 7, 3) := by decide +kernel
theorem dJxe99ae_isNaN_b9ae7_6 : decode cJxe99ae_isNaN_b9ae7 6 = .ok (.iconst 1, 1) := by decide +kernel
theorem dJxe99ae_isNaN_b9ae7_7 : decode cJxe99ae_isNaN_b9ae7 7 = .ok (.goto 4, 3) := by decide +kernel
theorem dJxe99ae_isNaN_b9ae7_10 : decode cJxe99ae_isNaN_b9ae7 10 = .ok (.iconst 0, 1) := by decide +kernel
theorem dJxe99ae_isNaN_b9ae7_11 : decode cJxe99ae_isNaN_b9ae7 11 = .ok (.ireturn, 1) := by decide +kernel
theorem dJxe99ae_doubleToLongBits_ccdee_0 : decode cJxe99ae_doubleToLongBits_ccdee 0 = .ok (.dload_n 0, 1) := by decide +kernel
theorem dJxe99ae_doubleToLongBits_ccdee_1 : decode cJxe99ae_doubleToLongBits_ccdee 1 = .ok (.invokestatic 122, 3) := by decide +kernel
theorem dJxe99ae_doubleToLongBits_ccdee_4 : decode cJxe99ae_doubleToLongBits_ccdee 4 = .ok (.ifCond .ne 8, 3) := by decide +kernel
theorem dJxe99ae_doubleToLongBits_ccdee_7 : decode cJxe99ae_doubleToLongBits_ccdee 7 = .ok (.dload_n 0, 1) := by decide +kernel
theorem dJxe99ae_doubleToLongBits_ccdee_8 : decode cJxe99ae_doubleToLongBits_ccdee 8 = .ok (.invokestatic 134, 3) := by decide +kernel
theorem dJxe99ae_doubleToLongBits_ccdee_11 : decode cJxe99ae_doubleToLongBits_ccdee 11 = .ok (.lreturn, 1) := by decide +kernel
theorem dJxe99ae_doubleToLongBits_ccdee_12 : decode cJxe99ae_doubleToLongBits_ccdee 12 = .ok (.ldc2_w 137, 3) := by decide +kernel
theorem dJxe99ae_doubleToLongBits_ccdee_15 : decode cJxe99ae_doubleToLongBits_ccdee 15 = .ok (.lreturn, 1) := by decide +kernel
theorem dJxf58ca_isNaN_12338_0 : decode cJxf58ca_isNaN_12338 0 = .ok (.fload_n 0, 1) := by decide +kernel
theorem dJxf58ca_isNaN_12338_1 : decode cJxf58ca_isNaN_12338 1 = .ok (.fload_n 0, 1) := by decide +kernel
theorem dJxf58ca_isNaN_12338_2 : decode cJxf58ca_isNaN_12338 2 = .ok (.fcmp .l, 1) := by decide +kernel
theorem dJxf58ca_isNaN_12338_3 : decode cJxf58ca_isNaN_12338 3 = .ok (.ifCond .eq 7, 3) := by decide +kernel
theorem dJxf58ca_isNaN_12338_6 : decode cJxf58ca_isNaN_12338 6 = .ok (.iconst 1, 1) := by decide +kernel
theorem dJxf58ca_isNaN_12338_7 : decode cJxf58ca_isNaN_12338 7 = .ok (.goto 4, 3) := by decide +kernel
theorem dJxf58ca_isNaN_12338_10 : decode cJxf58ca_isNaN_12338 10 = .ok (.iconst 0, 1) := by decide +kernel
theorem dJxf58ca_isNaN_12338_11 : decode cJxf58ca_isNaN_12338 11 = .ok (.ireturn, 1) := by decide +kernel
theorem dJxf58ca_floatToIntBits_5c35a_0 : decode cJxf58ca_floatToIntBits_5c35a 0 = .ok (.fload_n 0, 1) := by decide +kernel
theorem dJxf58ca_floatToIntBits_5c35a_1 : decode cJxf58ca_floatToIntBits_5c35a 1 = .ok (.invokestatic 59, 3) := by decide +kernel
theorem dJxf58ca_floatToIntBits_5c35a_4 : decode cJxf58ca_floatToIntBits_5c35a 4 = .ok (.ifCond .ne 8, 3) := by decide +kernel
theorem dJxf58ca_floatToIntBits_5c35a_7 : decode cJxf58ca_floatToIntBits_5c35a 7 = .ok (.fload_n 0, 1) := by decide +kernel
theorem dJxf58ca_floatToIntBits_5c35a_8 : decode cJxf58ca_floatToIntBits_5c35a 8 = .ok (.invokestatic 74, 3) := by decide +kernel
theorem dJxf58ca_floatToIntBits_5c35a_11 : decode cJxf58ca_floatToIntBits_5c35a 11 = .ok (.ireturn, 1) := by decide +kernel
theorem dJxf58ca_floatToIntBits_5c35a_12 : decode cJxf58ca_floatToIntBits_5c35a 12 = .ok (.ldc 77, 2) := by decide +kernel
theorem dJxf58ca_floatToIntBits_5c35a_14 : decode cJxf58ca_floatToIntBits_5c35a 14 = .ok (.ireturn, 1) := by decide +kernel
theorem dJ9_floorDiv_7cf53_0 : decode cJ9_floorDiv_7cf53 0 = .ok (.iload_n 0, 1) := by decide +kernel
theorem dJ9_floorDiv_7cf53_1 : decode cJ9_floorDiv_7cf53 1 = .ok (.iload_n 1, 1) := by decide +kernel
theorem dJ9_floorDiv_7cf53_2 : decode cJ9_floorDiv_7cf53 2 = .ok (.idiv, 1) := by decide +kernel
theorem dJ9_floorDiv_7cf53_3 : decode cJ9_floorDiv_7cf53 3 = .ok (.istore_n 2, 1) := by decide +kernel
theorem dJ9_floorDiv_7cf53_4 : decode cJ9_floorDiv_7cf53 4 = .ok (.iload_n 0, 1) := by decide +kernel
theorem dJ9_floorDiv_7cf53_5 : decode cJ9_floorDiv_7cf53 5 = .ok (.iload_n 1, 1) := by decide +kernel
theorem dJ9_floorDiv_7cf53_6 : decode cJ9_floorDiv_7cf53 6 = .ok (.ixor, 1) := by decide +kernel
theorem dJ9_floorDiv_7cf53_7 : decode cJ9_floorDiv_7cf53 7 = .ok (.ifCond .ge 14, 3) := by decide +kernel
theorem dJ9_floorDiv_7cf53_10 : decode cJ9_floorDiv_7cf53 10 = .ok (.iload_n 2, 1) := by decide +kernel
theorem dJ9_floorDiv_7cf53_11 : decode cJ9_floorDiv_7cf53 11 = .ok (.iload_n 1, 1) := by decide +kernel
theorem dJ9_floorDiv_7cf53_12 : decode cJ9_floorDiv_7cf53 12 = .ok (.imul, 1) := by decide +kernel
theorem dJ9_floorDiv_7cf53_13 : decode cJ9_floorDiv_7cf53 13 = .ok (.iload_n 0, 1) := by decide +kernel
theorem dJ9_floorDiv_7cf53_14 : decode cJ9_floorDiv_7cf53 14 = .ok (.if_icmp .eq 7, 3) := by decide +kernel
theorem dJ9_floorDiv_7cf53_17 : decode cJ9_floorDiv_7cf53 17 = .ok (.iload_n 2, 1) := by decide +kernel
theorem dJ9_floorDiv_7cf53_18 : decode cJ9_floorDiv_7cf53 18 = .ok (.iconst 1, 1) := by decide +kernel
theorem dJ9_floorDiv_7cf53_19 : decode cJ9_floorDiv_7cf53 19 = .ok (.isub, 1) := by decide +kernel
theorem dJ9_floorDiv_7cf53_20 : decode cJ9_floorDiv_7cf53 20 = .ok (.ireturn, 1) := by decide +kernel
theorem dJ9_floorDiv_7cf53_21 : decode cJ9_floorDiv_7cf53 21 = .ok (.iload_n 2, 1) := by decide +kernel
theorem dJ9_floorDiv_7cf53_22 : decode cJ9_floorDiv_7cf53 22 = .ok (.ireturn, 1) := by decide +kernel
theorem dJ9_max_7cf53_0 : decode cJ9_max_7cf53 0 = .ok (.iload_n 0, 1) := by decide +kernel
theorem dJ9_max_7cf53_1 : decode cJ9_max_7cf53 1 = .ok (.iload_n 1, 1) := by decide +kernel
theorem dJ9_max_7cf53_2 : decode cJ9_max_7cf53 2 = .ok (.if_icmp .lt 7, 3) := by decide +kernel
theorem dJ9_max_7cf53_5 : decode cJ9_max_7cf53 5 = .ok (.iload_n 0, 1) := by decide +kernel
theorem dJ9_max_7cf53_6 : decode cJ9_max_7cf53 6 = .ok (.goto 4, 3) := by decide +kernel
theorem dJ9_max_7cf53_9 : decode cJ9_max_7cf53 9 = .ok (.iload_n 1, 1) := by decide +kernel
theorem dJ9_max_7cf53_10 : decode cJ9_max_7cf53 10 = .ok (.ireturn, 1) := by decide +kernel
theorem dJ9_min_7cf53_0 : decode cJ9_min_7cf53 0 = .ok (.iload_n 0, 1) := by decide +kernel
theorem dJ9_min_7cf53_1 : decode cJ9_min_7cf53 1 = .ok (.iload_n 1, 1) := by decide +kernel
theorem dJ9_min_7cf53_2 : decode cJ9_min_7cf53 2 = .ok (.if_icmp .gt 7, 3) := by decide +kernel
theorem dJ9_min_7cf53_5 : decode cJ9_min_7cf53 5 = .ok (.iload_n 0, 1) := by decide +kernel
theorem dJ9_min_7cf53_6 : decode cJ9_min_7cf53 6 = .ok (.goto 4, 3) := by decide +kernel
theorem dJ9_min_7cf53_9 : decode cJ9_min_7cf53 9 = .ok (.iload_n 1, 1) := by decide +kernel
theorem dJ9_min_7cf53_10 : decode cJ9_min_7cf53 10 = .ok (.ireturn, 1) := by decide +kernel
theorem dJ7_fill_53178_0 : decode cJ7_fill_53178 0 = .ok (.iconst 0, 1) := by decide +kernel
theorem dJ7_fill_53178_1 : decode cJ7_fill_53178 1 = .ok (.istore_n 2, 1) := by decide +kernel
theorem dJ7_fill_53178_2 : decode cJ7_fill_53178 2 = .ok (.aload_n 0, 1) := by decide +kernel
theorem dJ7_fill_53178_3 : decode cJ7_fill_53178 3 = .ok (.arraylength, 1) := by decide +kernel
theorem dJ7_fill_53178_4 : decode cJ7_fill_53178 4 = .ok (.istore_n 3, 1) := by decide +kernel
theorem dJ7_fill_53178_5 : decode cJ7_fill_53178 5 = .ok (.iload_n 2, 1) := by decide +kernel
theorem dJ7_fill_53178_6 : decode cJ7_fill_53178 6 = .ok (.iload_n 3, 1) := by decide +kernel
theorem dJ7_fill_53178_7 : decode cJ7_fill_53178 7 = .ok (.if_icmp .ge 13, 3) := by decide +kernel
theorem dJ7_fill_53178_10 : decode cJ7_fill_53178 10 = .ok (.aload_n 0, 1) := by decide +kernel
theorem dJ7_fill_53178_11 : decode cJ7_fill_53178 11 = .ok (.iload_n 2, 1) := by decide +kernel
theorem dJ7_fill_53178_12 : decode cJ7_fill_53178 12 = .ok (.iload_n 1, 1) := by decide +kernel
theorem dJ7_fill_53178_13 : decode cJ7_fill_53178 13 = .ok (.iastore, 1) := by decide +kernel
theorem dJ7_fill_53178_14 : decode cJ7_fill_53178 14 = .ok (.iinc 2 1, 3) := by decide +kernel
theorem dJ7_fill_53178_17 : decode cJ7_fill_53178 17 = .ok (.goto (-12), 3) := by decide +kernel
theorem dJ7_fill_53178_20 : decode cJ7_fill_53178 20 = .ok (.return_, 1) := by decide +kernel
theorem dJ7_copyOf_59c91_0 : decode cJ7_copyOf_59c91 0 = .ok (.iload_n 1, 1) := by decide +kernel
theorem dJ7_copyOf_59c91_1 : decode cJ7_copyOf_59c91 1 = .ok (.aload_n 0, 1) := by decide +kernel
theorem dJ7_copyOf_59c91_2 : decode cJ7_copyOf_59c91 2 = .ok (.arraylength, 1) := by decide +kernel
theorem dJ7_copyOf_59c91_3 : decode cJ7_copyOf_59c91 3 = .ok (.if_icmp .ne 11, 3) := by decide +kernel
theorem dJ7_copyOf_59c91_6 : decode cJ7_copyOf_59c91 6 = .ok (.aload_n 0, 1) := by decide +kernel
theorem dJ7_copyOf_59c91_7 : decode cJ7_copyOf_59c91 7 = .ok (.invokevirtual 316, 3) := by decide +kernel
theorem dJ7_copyOf_59c91_10 : decode cJ7_copyOf_59c91 10 = .ok (.checkcast 317, 3) := by decide +kernel
theorem dJ7_copyOf_59c91_13 : decode cJ7_copyOf_59c91 13 = .ok (.areturn, 1) := by decide +kernel
theorem dJ7_copyOf_59c91_14 : decode cJ7_copyOf_59c91 14 = .ok (.iload_n 1, 1) := by decide +kernel
theorem dJ7_copyOf_59c91_15 : decode cJ7_copyOf_59c91 15 = .ok (.newarray .int, 2) := by decide +kernel
theorem dJ7_copyOf_59c91_17 : decode cJ7_copyOf_59c91 17 = .ok (.astore_n 2, 1) := by decide +kernel
theorem dJ7_copyOf_59c91_18 : decode cJ7_copyOf_59c91 18 = .ok (.aload_n 0, 1) := by decide +kernel
theorem dJ7_copyOf_59c91_19 : decode cJ7_copyOf_59c91 19 = .ok (.iconst 0, 1) := by decide +kernel
theorem dJ7_copyOf_59c91_20 : decode cJ7_copyOf_59c91 20 = .ok (.aload_n 2, 1) := by decide +kernel
theorem dJ7_copyOf_59c91_21 : decode cJ7_copyOf_59c91 21 = .ok (.iconst 0, 1) := by decide +kernel
theorem dJ7_copyOf_59c91_22 : decode cJ7_copyOf_59c91 22 = .ok (.aload_n 0, 1) := by decide +kernel
theorem dJ7_copyOf_59c91_23 : decode cJ7_copyOf_59c91 23 = .ok (.arraylength, 1) := by decide +kernel
theorem dJ7_copyOf_59c91_24 : decode cJ7_copyOf_59c91 24 = .ok (.iload_n 1, 1) := by decide +kernel
theorem dJ7_copyOf_59c91_25 : decode cJ7_copyOf_59c91 25 = .ok (.invokestatic 304, 3) := by decide +kernel
theorem dJ7_copyOf_59c91_28 : decode cJ7_copyOf_59c91 28 = .ok (.invokestatic 150, 3) := by decide +kernel
theorem dJ7_copyOf_59c91_31 : decode cJ7_copyOf_59c91 31 = .ok (.aload_n 2, 1) := by decide +kernel
theorem dJ7_copyOf_59c91_32 : decode cJ7_copyOf_59c91 32 = .ok (.areturn, 1) := by decide +kernel
theorem dL_begin_0 : decode cL_begin 0 = .ok (.aload_n 3, 1) := by decide +kernel
theorem dL_begin_1 : decode cL_begin 1 = .ok (.iconst 0, 1) := by decide +kernel
theorem dL_begin_2 : decode cL_begin 2 = .ok (.aload_n 0, 1) := by decide +kernel
theorem dL_begin_3 : decode cL_begin 3 = .ok (.iload_n 1, 1) := by decide +kernel
theorem dL_begin_4 : decode cL_begin 4 = .ok (.iload_n 2, 1) := by decide +kernel
theorem dL_begin_5 : decode cL_begin 5 = .ok (.invokevirtual 7, 3) := by decide +kernel
theorem dL_begin_8 : decode cL_begin 8 = .ok (.i2l, 1) := by decide +kernel
theorem dL_begin_9 : decode cL_begin 9 = .ok (.lastore, 1) := by decide +kernel
theorem dL_begin_10 : decode cL_begin 10 = .ok (.goto 7, 3) := by decide +kernel
theorem dL_begin_13 : decode cL_begin 13 = .ok (.astore 4, 2) := by decide +kernel
theorem dL_begin_15 : decode cL_begin 15 = .ok (.iconst 1, 1) := by decide +kernel
theorem dL_begin_16 : decode cL_begin 16 = .ok (.ireturn, 1) := by decide +kernel
theorem dL_begin_17 : decode cL_begin 17 = .ok (.iconst 0, 1) := by decide +kernel
theorem dL_begin_18 : decode cL_begin 18 = .ok (.ireturn, 1) := by decide +kernel
theorem dL_prepare_0 : decode cL_prepare 0 = .ok (.aload_n 3, 1) := by decide +kernel
theorem dL_prepare_1 : decode cL_prepare 1 = .ok (.iconst 0, 1) := by decide +kernel
theorem dL_prepare_2 : decode cL_prepare 2 = .ok (.aload_n 0, 1) := by decide +kernel
theorem dL_prepare_3 : decode cL_prepare 3 = .ok (.iload_n 1, 1) := by decide +kernel
theorem dL_prepare_4 : decode cL_prepare 4 = .ok (.iload_n 2, 1) := by decide +kernel
theorem dL_prepare_5 : decode cL_prepare 5 = .ok (.invokevirtual 15, 3) := by decide +kernel
theorem dL_prepare_8 : decode cL_prepare 8 = .ok (.i2l, 1) := by decide +kernel
theorem dL_prepare_9 : decode cL_prepare 9 = .ok (.lastore, 1) := by decide +kernel
theorem dL_prepare_10 : decode cL_prepare 10 = .ok (.goto 15, 3) := by decide +kernel
theorem dL_prepare_13 : decode cL_prepare 13 = .ok (.astore 4, 2) := by decide +kernel
theorem dL_prepare_15 : decode cL_prepare 15 = .ok (.iconst 1, 1) := by decide +kernel
theorem dL_prepare_16 : decode cL_prepare 16 = .ok (.ireturn, 1) := by decide +kernel
theorem dL_prepare_17 : decode cL_prepare 17 = .ok (.astore 4, 2) := by decide +kernel
theorem dL_prepare_19 : decode cL_prepare 19 = .ok (.iconst 2, 1) := by decide +kernel
theorem dL_prepare_20 : decode cL_prepare 20 = .ok (.ireturn, 1) := by decide +kernel
theorem dL_prepare_21 : decode cL_prepare 21 = .ok (.astore 4, 2) := by decide +kernel
theorem dL_prepare_23 : decode cL_prepare 23 = .ok (.iconst 3, 1) := by decide +kernel
theorem dL_prepare_24 : decode cL_prepare 24 = .ok (.ireturn, 1) := by decide +kernel
theorem dL_prepare_25 : decode cL_prepare 25 = .ok (.iconst 0, 1) := by decide +kernel
theorem dL_prepare_26 : decode cL_prepare 26 = .ok (.ireturn, 1) := by decide +kernel
theorem dL_accept_0 : decode cL_accept 0 = .ok (.aload 5, 2) := by decide +kernel
theorem dL_accept_2 : decode cL_accept 2 = .ok (.iconst 0, 1) := by decide +kernel
theorem dL_accept_3 : decode cL_accept 3 = .ok (.aload_n 0, 1) := by decide +kernel
theorem dL_accept_4 : decode cL_accept 4 = .ok (.iload_n 1, 1) := by decide +kernel
theorem dL_accept_5 : decode cL_accept 5 = .ok (.iload_n 2, 1) := by decide +kernel
theorem dL_accept_6 : decode cL_accept 6 = .ok (.iload_n 3, 1) := by decide +kernel
theorem dL_accept_7 : decode cL_accept 7 = .ok (.iload 4, 2) := by decide +kernel
theorem dL_accept_9 : decode cL_accept 9 = .ok (.invokevirtual 22, 3) := by decide +kernel
theorem dL_accept_12 : decode cL_accept 12 = .ok (.i2l, 1) := by decide +kernel
theorem dL_accept_13 : decode cL_accept 13 = .ok (.lastore, 1) := by decide +kernel
theorem dL_accept_14 : decode cL_accept 14 = .ok (.goto 15, 3) := by decide +kernel
theorem dL_accept_17 : decode cL_accept 17 = .ok (.astore 6, 2) := by decide +kernel
theorem dL_accept_19 : decode cL_accept 19 = .ok (.iconst 1, 1) := by decide +kernel
theorem dL_accept_20 : decode cL_accept 20 = .ok (.ireturn, 1) := by decide +kernel
theorem dL_accept_21 : decode cL_accept 21 = .ok (.astore 6, 2) := by decide +kernel
theorem dL_accept_23 : decode cL_accept 23 = .ok (.iconst 2, 1) := by decide +kernel
theorem dL_accept_24 : decode cL_accept 24 = .ok (.ireturn, 1) := by decide +kernel
theorem dL_accept_25 : decode cL_accept 25 = .ok (.astore 6, 2) := by decide +kernel
theorem dL_accept_27 : decode cL_accept 27 = .ok (.iconst 3, 1) := by decide +kernel
theorem dL_accept_28 : decode cL_accept 28 = .ok (.ireturn, 1) := by decide +kernel
theorem dL_accept_29 : decode cL_accept 29 = .ok (.iconst 0, 1) := by decide +kernel
theorem dL_accept_30 : decode cL_accept 30 = .ok (.ireturn, 1) := by decide +kernel
theorem dL_barrier_0 : decode cL_barrier 0 = .ok (.aload_n 2, 1) := by decide +kernel
theorem dL_barrier_1 : decode cL_barrier 1 = .ok (.iconst 0, 1) := by decide +kernel
theorem dL_barrier_2 : decode cL_barrier 2 = .ok (.aload_n 0, 1) := by decide +kernel
theorem dL_barrier_3 : decode cL_barrier 3 = .ok (.iload_n 1, 1) := by decide +kernel
theorem dL_barrier_4 : decode cL_barrier 4 = .ok (.invokevirtual 26, 3) := by decide +kernel
theorem dL_barrier_7 : decode cL_barrier 7 = .ok (.i2l, 1) := by decide +kernel
theorem dL_barrier_8 : decode cL_barrier 8 = .ok (.lastore, 1) := by decide +kernel
theorem dL_barrier_9 : decode cL_barrier 9 = .ok (.goto 9, 3) := by decide +kernel
theorem dL_barrier_12 : decode cL_barrier 12 = .ok (.astore_n 3, 1) := by decide +kernel
theorem dL_barrier_13 : decode cL_barrier 13 = .ok (.iconst 1, 1) := by decide +kernel
theorem dL_barrier_14 : decode cL_barrier 14 = .ok (.ireturn, 1) := by decide +kernel
theorem dL_barrier_15 : decode cL_barrier 15 = .ok (.astore_n 3, 1) := by decide +kernel
theorem dL_barrier_16 : decode cL_barrier 16 = .ok (.iconst 2, 1) := by decide +kernel
theorem dL_barrier_17 : decode cL_barrier 17 = .ok (.ireturn, 1) := by decide +kernel
theorem dL_barrier_18 : decode cL_barrier 18 = .ok (.iconst 0, 1) := by decide +kernel
theorem dL_barrier_19 : decode cL_barrier 19 = .ok (.ireturn, 1) := by decide +kernel
theorem dL_crash_0 : decode cL_crash 0 = .ok (.aload_n 3, 1) := by decide +kernel
theorem dL_crash_1 : decode cL_crash 1 = .ok (.iconst 0, 1) := by decide +kernel
theorem dL_crash_2 : decode cL_crash 2 = .ok (.aload_n 0, 1) := by decide +kernel
theorem dL_crash_3 : decode cL_crash 3 = .ok (.iload_n 1, 1) := by decide +kernel
theorem dL_crash_4 : decode cL_crash 4 = .ok (.iload_n 2, 1) := by decide +kernel
theorem dL_crash_5 : decode cL_crash 5 = .ok (.invokevirtual 30, 3) := by decide +kernel
theorem dL_crash_8 : decode cL_crash 8 = .ok (.i2l, 1) := by decide +kernel
theorem dL_crash_9 : decode cL_crash 9 = .ok (.lastore, 1) := by decide +kernel
theorem dL_crash_10 : decode cL_crash 10 = .ok (.goto 15, 3) := by decide +kernel
theorem dL_crash_13 : decode cL_crash 13 = .ok (.astore 4, 2) := by decide +kernel
theorem dL_crash_15 : decode cL_crash 15 = .ok (.iconst 1, 1) := by decide +kernel
theorem dL_crash_16 : decode cL_crash 16 = .ok (.ireturn, 1) := by decide +kernel
theorem dL_crash_17 : decode cL_crash 17 = .ok (.astore 4, 2) := by decide +kernel
theorem dL_crash_19 : decode cL_crash 19 = .ok (.iconst 2, 1) := by decide +kernel
theorem dL_crash_20 : decode cL_crash 20 = .ok (.ireturn, 1) := by decide +kernel
theorem dL_crash_21 : decode cL_crash 21 = .ok (.astore 4, 2) := by decide +kernel
theorem dL_crash_23 : decode cL_crash 23 = .ok (.iconst 3, 1) := by decide +kernel
theorem dL_crash_24 : decode cL_crash 24 = .ok (.ireturn, 1) := by decide +kernel
theorem dL_crash_25 : decode cL_crash 25 = .ok (.iconst 0, 1) := by decide +kernel
theorem dL_crash_26 : decode cL_crash 26 = .ok (.ireturn, 1) := by decide +kernel
theorem dL_wipe_0 : decode cL_wipe 0 = .ok (.aload_n 2, 1) := by decide +kernel
theorem dL_wipe_1 : decode cL_wipe 1 = .ok (.iconst 0, 1) := by decide +kernel
theorem dL_wipe_2 : decode cL_wipe 2 = .ok (.aload_n 0, 1) := by decide +kernel
theorem dL_wipe_3 : decode cL_wipe 3 = .ok (.iload_n 1, 1) := by decide +kernel
theorem dL_wipe_4 : decode cL_wipe 4 = .ok (.invokevirtual 33, 3) := by decide +kernel
theorem dL_wipe_7 : decode cL_wipe 7 = .ok (.i2l, 1) := by decide +kernel
theorem dL_wipe_8 : decode cL_wipe 8 = .ok (.lastore, 1) := by decide +kernel
theorem dL_wipe_9 : decode cL_wipe 9 = .ok (.goto 9, 3) := by decide +kernel
theorem dL_wipe_12 : decode cL_wipe 12 = .ok (.astore_n 3, 1) := by decide +kernel
theorem dL_wipe_13 : decode cL_wipe 13 = .ok (.iconst 1, 1) := by decide +kernel
theorem dL_wipe_14 : decode cL_wipe 14 = .ok (.ireturn, 1) := by decide +kernel
theorem dL_wipe_15 : decode cL_wipe 15 = .ok (.astore_n 3, 1) := by decide +kernel
theorem dL_wipe_16 : decode cL_wipe 16 = .ok (.iconst 2, 1) := by decide +kernel
theorem dL_wipe_17 : decode cL_wipe 17 = .ok (.ireturn, 1) := by decide +kernel
theorem dL_wipe_18 : decode cL_wipe 18 = .ok (.iconst 0, 1) := by decide +kernel
theorem dL_wipe_19 : decode cL_wipe 19 = .ok (.ireturn, 1) := by decide +kernel
theorem dL_restart_0 : decode cL_restart 0 = .ok (.aload_n 2, 1) := by decide +kernel
theorem dL_restart_1 : decode cL_restart 1 = .ok (.iconst 0, 1) := by decide +kernel
theorem dL_restart_2 : decode cL_restart 2 = .ok (.aload_n 0, 1) := by decide +kernel
theorem dL_restart_3 : decode cL_restart 3 = .ok (.iload_n 1, 1) := by decide +kernel
theorem dL_restart_4 : decode cL_restart 4 = .ok (.invokevirtual 36, 3) := by decide +kernel
theorem dL_restart_7 : decode cL_restart 7 = .ok (.i2l, 1) := by decide +kernel
theorem dL_restart_8 : decode cL_restart 8 = .ok (.lastore, 1) := by decide +kernel
theorem dL_restart_9 : decode cL_restart 9 = .ok (.goto 9, 3) := by decide +kernel
theorem dL_restart_12 : decode cL_restart 12 = .ok (.astore_n 3, 1) := by decide +kernel
theorem dL_restart_13 : decode cL_restart 13 = .ok (.iconst 1, 1) := by decide +kernel
theorem dL_restart_14 : decode cL_restart 14 = .ok (.ireturn, 1) := by decide +kernel
theorem dL_restart_15 : decode cL_restart 15 = .ok (.astore_n 3, 1) := by decide +kernel
theorem dL_restart_16 : decode cL_restart 16 = .ok (.iconst 2, 1) := by decide +kernel
theorem dL_restart_17 : decode cL_restart 17 = .ok (.ireturn, 1) := by decide +kernel
theorem dL_restart_18 : decode cL_restart 18 = .ok (.iconst 0, 1) := by decide +kernel
theorem dL_restart_19 : decode cL_restart 19 = .ok (.ireturn, 1) := by decide +kernel
theorem dL_rejoin_0 : decode cL_rejoin 0 = .ok (.aload_n 3, 1) := by decide +kernel
theorem dL_rejoin_1 : decode cL_rejoin 1 = .ok (.iconst 0, 1) := by decide +kernel
theorem dL_rejoin_2 : decode cL_rejoin 2 = .ok (.aload_n 0, 1) := by decide +kernel
theorem dL_rejoin_3 : decode cL_rejoin 3 = .ok (.iload_n 1, 1) := by decide +kernel
theorem dL_rejoin_4 : decode cL_rejoin 4 = .ok (.iload_n 2, 1) := by decide +kernel
theorem dL_rejoin_5 : decode cL_rejoin 5 = .ok (.invokevirtual 39, 3) := by decide +kernel
theorem dL_rejoin_8 : decode cL_rejoin 8 = .ok (.i2l, 1) := by decide +kernel
theorem dL_rejoin_9 : decode cL_rejoin 9 = .ok (.lastore, 1) := by decide +kernel
theorem dL_rejoin_10 : decode cL_rejoin 10 = .ok (.goto 15, 3) := by decide +kernel
theorem dL_rejoin_13 : decode cL_rejoin 13 = .ok (.astore 4, 2) := by decide +kernel
theorem dL_rejoin_15 : decode cL_rejoin 15 = .ok (.iconst 1, 1) := by decide +kernel
theorem dL_rejoin_16 : decode cL_rejoin 16 = .ok (.ireturn, 1) := by decide +kernel
theorem dL_rejoin_17 : decode cL_rejoin 17 = .ok (.astore 4, 2) := by decide +kernel
theorem dL_rejoin_19 : decode cL_rejoin 19 = .ok (.iconst 2, 1) := by decide +kernel
theorem dL_rejoin_20 : decode cL_rejoin 20 = .ok (.ireturn, 1) := by decide +kernel
theorem dL_rejoin_21 : decode cL_rejoin 21 = .ok (.astore 4, 2) := by decide +kernel
theorem dL_rejoin_23 : decode cL_rejoin 23 = .ok (.iconst 3, 1) := by decide +kernel
theorem dL_rejoin_24 : decode cL_rejoin 24 = .ok (.ireturn, 1) := by decide +kernel
theorem dL_rejoin_25 : decode cL_rejoin 25 = .ok (.iconst 0, 1) := by decide +kernel
theorem dL_rejoin_26 : decode cL_rejoin 26 = .ok (.ireturn, 1) := by decide +kernel
theorem dL_append_0 : decode cL_append 0 = .ok (.aload_n 2, 1) := by decide +kernel
theorem dL_append_1 : decode cL_append 1 = .ok (.iconst 0, 1) := by decide +kernel
theorem dL_append_2 : decode cL_append 2 = .ok (.aload_n 0, 1) := by decide +kernel
theorem dL_append_3 : decode cL_append 3 = .ok (.iload_n 1, 1) := by decide +kernel
theorem dL_append_4 : decode cL_append 4 = .ok (.invokevirtual 42, 3) := by decide +kernel
theorem dL_append_7 : decode cL_append 7 = .ok (.i2l, 1) := by decide +kernel
theorem dL_append_8 : decode cL_append 8 = .ok (.lastore, 1) := by decide +kernel
theorem dL_append_9 : decode cL_append 9 = .ok (.goto 9, 3) := by decide +kernel
theorem dL_append_12 : decode cL_append 12 = .ok (.astore_n 3, 1) := by decide +kernel
theorem dL_append_13 : decode cL_append 13 = .ok (.iconst 1, 1) := by decide +kernel
theorem dL_append_14 : decode cL_append 14 = .ok (.ireturn, 1) := by decide +kernel
theorem dL_append_15 : decode cL_append 15 = .ok (.astore_n 3, 1) := by decide +kernel
theorem dL_append_16 : decode cL_append 16 = .ok (.iconst 2, 1) := by decide +kernel
theorem dL_append_17 : decode cL_append 17 = .ok (.ireturn, 1) := by decide +kernel
theorem dL_append_18 : decode cL_append 18 = .ok (.iconst 0, 1) := by decide +kernel
theorem dL_append_19 : decode cL_append 19 = .ok (.ireturn, 1) := by decide +kernel
theorem dL_load_0 : decode cL_load 0 = .ok (.aload_n 1, 1) := by decide +kernel
theorem dL_load_1 : decode cL_load 1 = .ok (.iconst 0, 1) := by decide +kernel
theorem dL_load_2 : decode cL_load 2 = .ok (.aload_n 0, 1) := by decide +kernel
theorem dL_load_3 : decode cL_load 3 = .ok (.invokevirtual 45, 3) := by decide +kernel
theorem dL_load_6 : decode cL_load 6 = .ok (.i2l, 1) := by decide +kernel
theorem dL_load_7 : decode cL_load 7 = .ok (.lastore, 1) := by decide +kernel
theorem dL_load_8 : decode cL_load 8 = .ok (.goto 6, 3) := by decide +kernel
theorem dL_load_11 : decode cL_load 11 = .ok (.astore_n 2, 1) := by decide +kernel
theorem dL_load_12 : decode cL_load 12 = .ok (.iconst 1, 1) := by decide +kernel
theorem dL_load_13 : decode cL_load 13 = .ok (.ireturn, 1) := by decide +kernel
theorem dL_load_14 : decode cL_load 14 = .ok (.iconst 0, 1) := by decide +kernel
theorem dL_load_15 : decode cL_load 15 = .ok (.ireturn, 1) := by decide +kernel
theorem dL_count_0 : decode cL_count 0 = .ok (.aload_n 2, 1) := by decide +kernel
theorem dL_count_1 : decode cL_count 1 = .ok (.iconst 0, 1) := by decide +kernel
theorem dL_count_2 : decode cL_count 2 = .ok (.aload_n 0, 1) := by decide +kernel
theorem dL_count_3 : decode cL_count 3 = .ok (.iload_n 1, 1) := by decide +kernel
theorem dL_count_4 : decode cL_count 4 = .ok (.invokevirtual 49, 3) := by decide +kernel
theorem dL_count_7 : decode cL_count 7 = .ok (.i2l, 1) := by decide +kernel
theorem dL_count_8 : decode cL_count 8 = .ok (.lastore, 1) := by decide +kernel
theorem dL_count_9 : decode cL_count 9 = .ok (.goto 6, 3) := by decide +kernel
theorem dL_count_12 : decode cL_count 12 = .ok (.astore_n 3, 1) := by decide +kernel
theorem dL_count_13 : decode cL_count 13 = .ok (.iconst 1, 1) := by decide +kernel
theorem dL_count_14 : decode cL_count 14 = .ok (.ireturn, 1) := by decide +kernel
theorem dL_count_15 : decode cL_count 15 = .ok (.iconst 0, 1) := by decide +kernel
theorem dL_count_16 : decode cL_count 16 = .ok (.ireturn, 1) := by decide +kernel
theorem dL_node_0 : decode cL_node 0 = .ok (.aload_n 3, 1) := by decide +kernel
theorem dL_node_1 : decode cL_node 1 = .ok (.iconst 0, 1) := by decide +kernel
theorem dL_node_2 : decode cL_node 2 = .ok (.aload_n 0, 1) := by decide +kernel
theorem dL_node_3 : decode cL_node 3 = .ok (.iload_n 1, 1) := by decide +kernel
theorem dL_node_4 : decode cL_node 4 = .ok (.iload_n 2, 1) := by decide +kernel
theorem dL_node_5 : decode cL_node 5 = .ok (.invokevirtual 52, 3) := by decide +kernel
theorem dL_node_8 : decode cL_node 8 = .ok (.i2l, 1) := by decide +kernel
theorem dL_node_9 : decode cL_node 9 = .ok (.lastore, 1) := by decide +kernel
theorem dL_node_10 : decode cL_node 10 = .ok (.goto 11, 3) := by decide +kernel
theorem dL_node_13 : decode cL_node 13 = .ok (.astore 4, 2) := by decide +kernel
theorem dL_node_15 : decode cL_node 15 = .ok (.iconst 1, 1) := by decide +kernel
theorem dL_node_16 : decode cL_node 16 = .ok (.ireturn, 1) := by decide +kernel
theorem dL_node_17 : decode cL_node 17 = .ok (.astore 4, 2) := by decide +kernel
theorem dL_node_19 : decode cL_node 19 = .ok (.iconst 2, 1) := by decide +kernel
theorem dL_node_20 : decode cL_node 20 = .ok (.ireturn, 1) := by decide +kernel
theorem dL_node_21 : decode cL_node 21 = .ok (.iconst 0, 1) := by decide +kernel
theorem dL_node_22 : decode cL_node 22 = .ok (.ireturn, 1) := by decide +kernel
theorem dL_accepted_0 : decode cL_accepted 0 = .ok (.aload 4, 2) := by decide +kernel
theorem dL_accepted_2 : decode cL_accepted 2 = .ok (.iconst 0, 1) := by decide +kernel
theorem dL_accepted_3 : decode cL_accepted 3 = .ok (.aload_n 0, 1) := by decide +kernel
theorem dL_accepted_4 : decode cL_accepted 4 = .ok (.iload_n 1, 1) := by decide +kernel
theorem dL_accepted_5 : decode cL_accepted 5 = .ok (.iload_n 2, 1) := by decide +kernel
theorem dL_accepted_6 : decode cL_accepted 6 = .ok (.iload_n 3, 1) := by decide +kernel
theorem dL_accepted_7 : decode cL_accepted 7 = .ok (.invokevirtual 55, 3) := by decide +kernel
theorem dL_accepted_10 : decode cL_accepted 10 = .ok (.i2l, 1) := by decide +kernel
theorem dL_accepted_11 : decode cL_accepted 11 = .ok (.lastore, 1) := by decide +kernel
theorem dL_accepted_12 : decode cL_accepted 12 = .ok (.goto 11, 3) := by decide +kernel
theorem dL_accepted_15 : decode cL_accepted 15 = .ok (.astore 5, 2) := by decide +kernel
theorem dL_accepted_17 : decode cL_accepted 17 = .ok (.iconst 1, 1) := by decide +kernel
theorem dL_accepted_18 : decode cL_accepted 18 = .ok (.ireturn, 1) := by decide +kernel
theorem dL_accepted_19 : decode cL_accepted 19 = .ok (.astore 5, 2) := by decide +kernel
theorem dL_accepted_21 : decode cL_accepted 21 = .ok (.iconst 2, 1) := by decide +kernel
theorem dL_accepted_22 : decode cL_accepted 22 = .ok (.ireturn, 1) := by decide +kernel
theorem dL_accepted_23 : decode cL_accepted 23 = .ok (.iconst 0, 1) := by decide +kernel
theorem dL_accepted_24 : decode cL_accepted 24 = .ok (.ireturn, 1) := by decide +kernel
theorem dL_waiting_0 : decode cL_waiting 0 = .ok (.aload 4, 2) := by decide +kernel
theorem dL_waiting_2 : decode cL_waiting 2 = .ok (.iconst 0, 1) := by decide +kernel
theorem dL_waiting_3 : decode cL_waiting 3 = .ok (.aload_n 0, 1) := by decide +kernel
theorem dL_waiting_4 : decode cL_waiting 4 = .ok (.iload_n 1, 1) := by decide +kernel
theorem dL_waiting_5 : decode cL_waiting 5 = .ok (.iload_n 2, 1) := by decide +kernel
theorem dL_waiting_6 : decode cL_waiting 6 = .ok (.iload_n 3, 1) := by decide +kernel
theorem dL_waiting_7 : decode cL_waiting 7 = .ok (.invokevirtual 59, 3) := by decide +kernel
theorem dL_waiting_10 : decode cL_waiting 10 = .ok (.i2l, 1) := by decide +kernel
theorem dL_waiting_11 : decode cL_waiting 11 = .ok (.lastore, 1) := by decide +kernel
theorem dL_waiting_12 : decode cL_waiting 12 = .ok (.goto 11, 3) := by decide +kernel
theorem dL_waiting_15 : decode cL_waiting 15 = .ok (.astore 5, 2) := by decide +kernel
theorem dL_waiting_17 : decode cL_waiting 17 = .ok (.iconst 1, 1) := by decide +kernel
theorem dL_waiting_18 : decode cL_waiting 18 = .ok (.ireturn, 1) := by decide +kernel
theorem dL_waiting_19 : decode cL_waiting 19 = .ok (.astore 5, 2) := by decide +kernel
theorem dL_waiting_21 : decode cL_waiting 21 = .ok (.iconst 2, 1) := by decide +kernel
theorem dL_waiting_22 : decode cL_waiting 22 = .ok (.ireturn, 1) := by decide +kernel
theorem dL_waiting_23 : decode cL_waiting 23 = .ok (.iconst 0, 1) := by decide +kernel
theorem dL_waiting_24 : decode cL_waiting 24 = .ok (.ireturn, 1) := by decide +kernel
theorem dL_slot_0 : decode cL_slot 0 = .ok (.aload_n 3, 1) := by decide +kernel
theorem dL_slot_1 : decode cL_slot 1 = .ok (.iconst 0, 1) := by decide +kernel
theorem dL_slot_2 : decode cL_slot 2 = .ok (.aload_n 0, 1) := by decide +kernel
theorem dL_slot_3 : decode cL_slot 3 = .ok (.iload_n 1, 1) := by decide +kernel
theorem dL_slot_4 : decode cL_slot 4 = .ok (.iload_n 2, 1) := by decide +kernel
theorem dL_slot_5 : decode cL_slot 5 = .ok (.invokevirtual 62, 3) := by decide +kernel
theorem dL_slot_8 : decode cL_slot 8 = .ok (.i2l, 1) := by decide +kernel
theorem dL_slot_9 : decode cL_slot 9 = .ok (.lastore, 1) := by decide +kernel
theorem dL_slot_10 : decode cL_slot 10 = .ok (.goto 11, 3) := by decide +kernel
theorem dL_slot_13 : decode cL_slot 13 = .ok (.astore 4, 2) := by decide +kernel
theorem dL_slot_15 : decode cL_slot 15 = .ok (.iconst 1, 1) := by decide +kernel
theorem dL_slot_16 : decode cL_slot 16 = .ok (.ireturn, 1) := by decide +kernel
theorem dL_slot_17 : decode cL_slot 17 = .ok (.astore 4, 2) := by decide +kernel
theorem dL_slot_19 : decode cL_slot 19 = .ok (.iconst 2, 1) := by decide +kernel
theorem dL_slot_20 : decode cL_slot 20 = .ok (.ireturn, 1) := by decide +kernel
theorem dL_slot_21 : decode cL_slot 21 = .ok (.iconst 0, 1) := by decide +kernel
theorem dL_slot_22 : decode cL_slot 22 = .ok (.ireturn, 1) := by decide +kernel
theorem dL_roundValue_0 : decode cL_roundValue 0 = .ok (.aload_n 3, 1) := by decide +kernel
theorem dL_roundValue_1 : decode cL_roundValue 1 = .ok (.iconst 0, 1) := by decide +kernel
theorem dL_roundValue_2 : decode cL_roundValue 2 = .ok (.aload_n 0, 1) := by decide +kernel
theorem dL_roundValue_3 : decode cL_roundValue 3 = .ok (.iload_n 1, 1) := by decide +kernel
theorem dL_roundValue_4 : decode cL_roundValue 4 = .ok (.iload_n 2, 1) := by decide +kernel
theorem dL_roundValue_5 : decode cL_roundValue 5 = .ok (.invokevirtual 65, 3) := by decide +kernel
theorem dL_roundValue_8 : decode cL_roundValue 8 = .ok (.i2l, 1) := by decide +kernel
theorem dL_roundValue_9 : decode cL_roundValue 9 = .ok (.lastore, 1) := by decide +kernel
theorem dL_roundValue_10 : decode cL_roundValue 10 = .ok (.goto 11, 3) := by decide +kernel
theorem dL_roundValue_13 : decode cL_roundValue 13 = .ok (.astore 4, 2) := by decide +kernel
theorem dL_roundValue_15 : decode cL_roundValue 15 = .ok (.iconst 1, 1) := by decide +kernel
theorem dL_roundValue_16 : decode cL_roundValue 16 = .ok (.ireturn, 1) := by decide +kernel
theorem dL_roundValue_17 : decode cL_roundValue 17 = .ok (.astore 4, 2) := by decide +kernel
theorem dL_roundValue_19 : decode cL_roundValue 19 = .ok (.iconst 2, 1) := by decide +kernel
theorem dL_roundValue_20 : decode cL_roundValue 20 = .ok (.ireturn, 1) := by decide +kernel
theorem dL_roundValue_21 : decode cL_roundValue 21 = .ok (.iconst 0, 1) := by decide +kernel
theorem dL_roundValue_22 : decode cL_roundValue 22 = .ok (.ireturn, 1) := by decide +kernel
theorem dL_ifCrashed_0 : decode cL_ifCrashed 0 = .ok (.aload 4, 2) := by decide +kernel
theorem dL_ifCrashed_2 : decode cL_ifCrashed 2 = .ok (.iconst 0, 1) := by decide +kernel
theorem dL_ifCrashed_3 : decode cL_ifCrashed 3 = .ok (.aload_n 0, 1) := by decide +kernel
theorem dL_ifCrashed_4 : decode cL_ifCrashed 4 = .ok (.iload_n 1, 1) := by decide +kernel
theorem dL_ifCrashed_5 : decode cL_ifCrashed 5 = .ok (.iload_n 2, 1) := by decide +kernel
theorem dL_ifCrashed_6 : decode cL_ifCrashed 6 = .ok (.iload_n 3, 1) := by decide +kernel
theorem dL_ifCrashed_7 : decode cL_ifCrashed 7 = .ok (.invokevirtual 68, 3) := by decide +kernel
theorem dL_ifCrashed_10 : decode cL_ifCrashed 10 = .ok (.i2l, 1) := by decide +kernel
theorem dL_ifCrashed_11 : decode cL_ifCrashed 11 = .ok (.lastore, 1) := by decide +kernel
theorem dL_ifCrashed_12 : decode cL_ifCrashed 12 = .ok (.goto 11, 3) := by decide +kernel
theorem dL_ifCrashed_15 : decode cL_ifCrashed 15 = .ok (.astore 5, 2) := by decide +kernel
theorem dL_ifCrashed_17 : decode cL_ifCrashed 17 = .ok (.iconst 1, 1) := by decide +kernel
theorem dL_ifCrashed_18 : decode cL_ifCrashed 18 = .ok (.ireturn, 1) := by decide +kernel
theorem dL_ifCrashed_19 : decode cL_ifCrashed 19 = .ok (.astore 5, 2) := by decide +kernel
theorem dL_ifCrashed_21 : decode cL_ifCrashed 21 = .ok (.iconst 2, 1) := by decide +kernel
theorem dL_ifCrashed_22 : decode cL_ifCrashed 22 = .ok (.ireturn, 1) := by decide +kernel
theorem dL_ifCrashed_23 : decode cL_ifCrashed 23 = .ok (.iconst 0, 1) := by decide +kernel
theorem dL_ifCrashed_24 : decode cL_ifCrashed 24 = .ok (.ireturn, 1) := by decide +kernel
theorem dL_harmless_0 : decode cL_harmless 0 = .ok (.aload_n 2, 1) := by decide +kernel
theorem dL_harmless_1 : decode cL_harmless 1 = .ok (.iconst 0, 1) := by decide +kernel
theorem dL_harmless_2 : decode cL_harmless 2 = .ok (.aload_n 0, 1) := by decide +kernel
theorem dL_harmless_3 : decode cL_harmless 3 = .ok (.iload_n 1, 1) := by decide +kernel
theorem dL_harmless_4 : decode cL_harmless 4 = .ok (.invokevirtual 71, 3) := by decide +kernel
theorem dL_harmless_7 : decode cL_harmless 7 = .ok (.i2l, 1) := by decide +kernel
theorem dL_harmless_8 : decode cL_harmless 8 = .ok (.lastore, 1) := by decide +kernel
theorem dL_harmless_9 : decode cL_harmless 9 = .ok (.goto 6, 3) := by decide +kernel
theorem dL_harmless_12 : decode cL_harmless 12 = .ok (.astore_n 3, 1) := by decide +kernel
theorem dL_harmless_13 : decode cL_harmless 13 = .ok (.iconst 1, 1) := by decide +kernel
theorem dL_harmless_14 : decode cL_harmless 14 = .ok (.ireturn, 1) := by decide +kernel
theorem dL_harmless_15 : decode cL_harmless 15 = .ok (.iconst 0, 1) := by decide +kernel
theorem dL_harmless_16 : decode cL_harmless 16 = .ok (.ireturn, 1) := by decide +kernel
theorem dL_leastLosses_0 : decode cL_leastLosses 0 = .ok (.aload_n 2, 1) := by decide +kernel
theorem dL_leastLosses_1 : decode cL_leastLosses 1 = .ok (.iconst 0, 1) := by decide +kernel
theorem dL_leastLosses_2 : decode cL_leastLosses 2 = .ok (.aload_n 0, 1) := by decide +kernel
theorem dL_leastLosses_3 : decode cL_leastLosses 3 = .ok (.iload_n 1, 1) := by decide +kernel
theorem dL_leastLosses_4 : decode cL_leastLosses 4 = .ok (.invokevirtual 74, 3) := by decide +kernel
theorem dL_leastLosses_7 : decode cL_leastLosses 7 = .ok (.i2l, 1) := by decide +kernel
theorem dL_leastLosses_8 : decode cL_leastLosses 8 = .ok (.lastore, 1) := by decide +kernel
theorem dL_leastLosses_9 : decode cL_leastLosses 9 = .ok (.goto 9, 3) := by decide +kernel
theorem dL_leastLosses_12 : decode cL_leastLosses 12 = .ok (.astore_n 3, 1) := by decide +kernel
theorem dL_leastLosses_13 : decode cL_leastLosses 13 = .ok (.iconst 1, 1) := by decide +kernel
theorem dL_leastLosses_14 : decode cL_leastLosses 14 = .ok (.ireturn, 1) := by decide +kernel
theorem dL_leastLosses_15 : decode cL_leastLosses 15 = .ok (.astore_n 3, 1) := by decide +kernel
theorem dL_leastLosses_16 : decode cL_leastLosses 16 = .ok (.iconst 2, 1) := by decide +kernel
theorem dL_leastLosses_17 : decode cL_leastLosses 17 = .ok (.ireturn, 1) := by decide +kernel
theorem dL_leastLosses_18 : decode cL_leastLosses 18 = .ok (.iconst 0, 1) := by decide +kernel
theorem dL_leastLosses_19 : decode cL_leastLosses 19 = .ok (.ireturn, 1) := by decide +kernel
theorem dL_law_0 : decode cL_law 0 = .ok (.new 8, 3) := by decide +kernel
theorem dL_law_3 : decode cL_law 3 = .ok (.dup, 1) := by decide +kernel
theorem dL_law_4 : decode cL_law 4 = .ok (.invokespecial 77, 3) := by decide +kernel
theorem dL_law_7 : decode cL_law 7 = .ok (.astore_n 1, 1) := by decide +kernel
theorem dL_law_8 : decode cL_law 8 = .ok (.new 78, 3) := by decide +kernel
theorem dL_law_11 : decode cL_law 11 = .ok (.dup, 1) := by decide +kernel
theorem dL_law_12 : decode cL_law 12 = .ok (.invokespecial 80, 3) := by decide +kernel
theorem dL_law_15 : decode cL_law 15 = .ok (.astore_n 2, 1) := by decide +kernel
theorem dL_law_16 : decode cL_law 16 = .ok (.iconst 1, 1) := by decide +kernel
theorem dL_law_17 : decode cL_law 17 = .ok (.newarray .long, 2) := by decide +kernel
theorem dL_law_19 : decode cL_law 19 = .ok (.astore_n 3, 1) := by decide +kernel
theorem dL_law_20 : decode cL_law 20 = .ok (.iconst 0, 1) := by decide +kernel
theorem dL_law_21 : decode cL_law 21 = .ok (.istore 4, 2) := by decide +kernel
theorem dL_law_23 : decode cL_law 23 = .ok (.iload 4, 2) := by decide +kernel
theorem dL_law_25 : decode cL_law 25 = .ok (.aload_n 0, 1) := by decide +kernel
theorem dL_law_26 : decode cL_law 26 = .ok (.arraylength, 1) := by decide +kernel
theorem dL_law_27 : decode cL_law 27 = .ok (.iconst 5, 1) := by decide +kernel
theorem dL_law_28 : decode cL_law 28 = .ok (.isub, 1) := by decide +kernel
theorem dL_law_29 : decode cL_law 29 = .ok (.if_icmp .gt 1508, 3) := by decide +kernel
theorem dL_law_32 : decode cL_law 32 = .ok (.aload_n 0, 1) := by decide +kernel
theorem dL_law_33 : decode cL_law 33 = .ok (.iload 4, 2) := by decide +kernel
theorem dL_law_35 : decode cL_law 35 = .ok (.iaload, 1) := by decide +kernel
theorem dL_law_36 : decode cL_law 36 = .ok (.bipush 31, 2) := by decide +kernel
theorem dL_law_38 : decode cL_law 38 = .ok (.iand, 1) := by decide +kernel
theorem dL_law_39 : decode cL_law 39 = .ok (.tableswitch 1492 0 24 #[113, 181, 222, 290, 382, 438, 506, 562, 618, 686, 742, 755, 768, 812, 868, 936, 1016, 1096, 1164, 1232, 1312, 1368, 1424, 1437, 1478], 113) := by decide +kernel
theorem dL_law_152 : decode cL_law 152 = .ok (.aload_n 1, 1) := by decide +kernel
theorem dL_law_153 : decode cL_law 153 = .ok (.aload_n 0, 1) := by decide +kernel
theorem dL_law_154 : decode cL_law 154 = .ok (.iload 4, 2) := by decide +kernel
theorem dL_law_156 : decode cL_law 156 = .ok (.iconst 1, 1) := by decide +kernel
theorem dL_law_157 : decode cL_law 157 = .ok (.iadd, 1) := by decide +kernel
theorem dL_law_158 : decode cL_law 158 = .ok (.iaload, 1) := by decide +kernel
theorem dL_law_159 : decode cL_law 159 = .ok (.aload_n 0, 1) := by decide +kernel
theorem dL_law_160 : decode cL_law 160 = .ok (.iload 4, 2) := by decide +kernel
theorem dL_law_162 : decode cL_law 162 = .ok (.iconst 2, 1) := by decide +kernel
theorem dL_law_163 : decode cL_law 163 = .ok (.iadd, 1) := by decide +kernel
theorem dL_law_164 : decode cL_law 164 = .ok (.iaload, 1) := by decide +kernel
theorem dL_law_165 : decode cL_law 165 = .ok (.aload_n 3, 1) := by decide +kernel
theorem dL_law_166 : decode cL_law 166 = .ok (.invokestatic 81, 3) := by decide +kernel
theorem dL_law_169 : decode cL_law 169 = .ok (.istore 5, 2) := by decide +kernel
theorem dL_law_171 : decode cL_law 171 = .ok (.aload_n 2, 1) := by decide +kernel
theorem dL_law_172 : decode cL_law 172 = .ok (.aload_n 0, 1) := by decide +kernel
theorem dL_law_173 : decode cL_law 173 = .ok (.iload 4, 2) := by decide +kernel
theorem dL_law_175 : decode cL_law 175 = .ok (.iconst 1, 1) := by decide +kernel
theorem dL_law_176 : decode cL_law 176 = .ok (.iadd, 1) := by decide +kernel
theorem dL_law_177 : decode cL_law 177 = .ok (.iaload, 1) := by decide +kernel
theorem dL_law_178 : decode cL_law 178 = .ok (.aload_n 0, 1) := by decide +kernel
theorem dL_law_179 : decode cL_law 179 = .ok (.iload 4, 2) := by decide +kernel
theorem dL_law_181 : decode cL_law 181 = .ok (.iconst 2, 1) := by decide +kernel
theorem dL_law_182 : decode cL_law 182 = .ok (.iadd, 1) := by decide +kernel
theorem dL_law_183 : decode cL_law 183 = .ok (.iaload, 1) := by decide +kernel
theorem dL_law_184 : decode cL_law 184 = .ok (.invokevirtual 86, 3) := by decide +kernel
theorem dL_law_187 : decode cL_law 187 = .ok (.istore 6, 2) := by decide +kernel
theorem dL_law_189 : decode cL_law 189 = .ok (.aload_n 2, 1) := by decide +kernel
theorem dL_law_190 : decode cL_law 190 = .ok (.invokevirtual 87, 3) := by decide +kernel
theorem dL_law_193 : decode cL_law 193 = .ok (.iload 5, 2) := by decide +kernel
theorem dL_law_195 : decode cL_law 195 = .ok (.if_icmp .eq 5, 3) := by decide +kernel
theorem dL_law_198 : decode cL_law 198 = .ok (.iconst 0, 1) := by decide +kernel
theorem dL_law_199 : decode cL_law 199 = .ok (.ireturn, 1) := by decide +kernel
theorem dL_law_200 : decode cL_law 200 = .ok (.iload 5, 2) := by decide +kernel
theorem dL_law_202 : decode cL_law 202 = .ok (.ifCond .ne 15, 3) := by decide +kernel
theorem dL_law_205 : decode cL_law 205 = .ok (.aload_n 3, 1) := by decide +kernel
theorem dL_law_206 : decode cL_law 206 = .ok (.iconst 0, 1) := by decide +kernel
theorem dL_law_207 : decode cL_law 207 = .ok (.laload, 1) := by decide +kernel
theorem dL_law_208 : decode cL_law 208 = .ok (.iload 6, 2) := by decide +kernel
theorem dL_law_210 : decode cL_law 210 = .ok (.i2l, 1) := by decide +kernel
theorem dL_law_211 : decode cL_law 211 = .ok (.lcmp, 1) := by decide +kernel
theorem dL_law_212 : decode cL_law 212 = .ok (.ifCond .eq 5, 3) := by decide +kernel
theorem dL_law_215 : decode cL_law 215 = .ok (.iconst 0, 1) := by decide +kernel
theorem dL_law_216 : decode cL_law 216 = .ok (.ireturn, 1) := by decide +kernel
theorem dL_law_217 : decode cL_law 217 = .ok (.goto 1314, 3) := by decide +kernel
theorem dL_law_220 : decode cL_law 220 = .ok (.aload_n 1, 1) := by decide +kernel
theorem dL_law_221 : decode cL_law 221 = .ok (.aload_n 0, 1) := by decide +kernel
theorem dL_law_222 : decode cL_law 222 = .ok (.iload 4, 2) := by decide +kernel
theorem dL_law_224 : decode cL_law 224 = .ok (.iconst 1, 1) := by decide +kernel
theorem dL_law_225 : decode cL_law 225 = .ok (.iadd, 1) := by decide +kernel
theorem dL_law_226 : decode cL_law 226 = .ok (.iaload, 1) := by decide +kernel
theorem dL_law_227 : decode cL_law 227 = .ok (.ifCond .eq 7, 3) := by decide +kernel
theorem dL_law_230 : decode cL_law 230 = .ok (.iconst 1, 1) := by decide +kernel
theorem dL_law_231 : decode cL_law 231 = .ok (.goto 4, 3) := by decide +kernel
theorem dL_law_234 : decode cL_law 234 = .ok (.iconst 0, 1) := by decide +kernel
theorem dL_law_235 : decode cL_law 235 = .ok (.invokevirtual 90, 3) := by decide +kernel
theorem dL_law_238 : decode cL_law 238 = .ok (.aload_n 2, 1) := by decide +kernel
theorem dL_law_239 : decode cL_law 239 = .ok (.aload_n 0, 1) := by decide +kernel
theorem dL_law_240 : decode cL_law 240 = .ok (.iload 4, 2) := by decide +kernel
theorem dL_law_242 : decode cL_law 242 = .ok (.iconst 1, 1) := by decide +kernel
theorem dL_law_243 : decode cL_law 243 = .ok (.iadd, 1) := by decide +kernel
theorem dL_law_244 : decode cL_law 244 = .ok (.iaload, 1) := by decide +kernel
theorem dL_law_245 : decode cL_law 245 = .ok (.ifCond .eq 7, 3) := by decide +kernel
theorem dL_law_248 : decode cL_law 248 = .ok (.iconst 1, 1) := by decide +kernel
theorem dL_law_249 : decode cL_law 249 = .ok (.goto 4, 3) := by decide +kernel
theorem dL_law_252 : decode cL_law 252 = .ok (.iconst 0, 1) := by decide +kernel
theorem dL_law_253 : decode cL_law 253 = .ok (.invokevirtual 94, 3) := by decide +kernel
theorem dL_law_256 : decode cL_law 256 = .ok (.if_icmp .eq 1275, 3) := by decide +kernel
theorem dL_law_259 : decode cL_law 259 = .ok (.iconst 0, 1) := by decide +kernel
theorem dL_law_260 : decode cL_law 260 = .ok (.ireturn, 1) := by decide +kernel
theorem dL_law_261 : decode cL_law 261 = .ok (.aload_n 1, 1) := by decide +kernel
theorem dL_law_262 : decode cL_law 262 = .ok (.aload_n 0, 1) := by decide +kernel
theorem dL_law_263 : decode cL_law 263 = .ok (.iload 4, 2) := by decide +kernel
theorem dL_law_265 : decode cL_law 265 = .ok (.iconst 1, 1) := by decide +kernel
theorem dL_law_266 : decode cL_law 266 = .ok (.iadd, 1) := by decide +kernel
theorem dL_law_267 : decode cL_law 267 = .ok (.iaload, 1) := by decide +kernel
theorem dL_law_268 : decode cL_law 268 = .ok (.aload_n 0, 1) := by decide +kernel
theorem dL_law_269 : decode cL_law 269 = .ok (.iload 4, 2) := by decide +kernel
theorem dL_law_271 : decode cL_law 271 = .ok (.iconst 2, 1) := by decide +kernel
theorem dL_law_272 : decode cL_law 272 = .ok (.iadd, 1) := by decide +kernel
theorem dL_law_273 : decode cL_law 273 = .ok (.iaload, 1) := by decide +kernel
theorem dL_law_274 : decode cL_law 274 = .ok (.aload_n 3, 1) := by decide +kernel
theorem dL_law_275 : decode cL_law 275 = .ok (.invokestatic 95, 3) := by decide +kernel
theorem dL_law_278 : decode cL_law 278 = .ok (.istore 5, 2) := by decide +kernel
theorem dL_law_280 : decode cL_law 280 = .ok (.aload_n 2, 1) := by decide +kernel
theorem dL_law_281 : decode cL_law 281 = .ok (.aload_n 0, 1) := by decide +kernel
theorem dL_law_282 : decode cL_law 282 = .ok (.iload 4, 2) := by decide +kernel
theorem dL_law_284 : decode cL_law 284 = .ok (.iconst 1, 1) := by decide +kernel
theorem dL_law_285 : decode cL_law 285 = .ok (.iadd, 1) := by decide +kernel
theorem dL_law_286 : decode cL_law 286 = .ok (.iaload, 1) := by decide +kernel
theorem dL_law_287 : decode cL_law 287 = .ok (.aload_n 0, 1) := by decide +kernel
theorem dL_law_288 : decode cL_law 288 = .ok (.iload 4, 2) := by decide +kernel
theorem dL_law_290 : decode cL_law 290 = .ok (.iconst 2, 1) := by decide +kernel
theorem dL_law_291 : decode cL_law 291 = .ok (.iadd, 1) := by decide +kernel
theorem dL_law_292 : decode cL_law 292 = .ok (.iaload, 1) := by decide +kernel
theorem dL_law_293 : decode cL_law 293 = .ok (.invokevirtual 97, 3) := by decide +kernel
theorem dL_law_296 : decode cL_law 296 = .ok (.istore 6, 2) := by decide +kernel
theorem dL_law_298 : decode cL_law 298 = .ok (.aload_n 2, 1) := by decide +kernel
theorem dL_law_299 : decode cL_law 299 = .ok (.invokevirtual 87, 3) := by decide +kernel
theorem dL_law_302 : decode cL_law 302 = .ok (.iload 5, 2) := by decide +kernel
theorem dL_law_304 : decode cL_law 304 = .ok (.if_icmp .eq 5, 3) := by decide +kernel
theorem dL_law_307 : decode cL_law 307 = .ok (.iconst 0, 1) := by decide +kernel
theorem dL_law_308 : decode cL_law 308 = .ok (.ireturn, 1) := by decide +kernel
theorem dL_law_309 : decode cL_law 309 = .ok (.iload 5, 2) := by decide +kernel
theorem dL_law_311 : decode cL_law 311 = .ok (.ifCond .ne 15, 3) := by decide +kernel
theorem dL_law_314 : decode cL_law 314 = .ok (.aload_n 3, 1) := by decide +kernel
theorem dL_law_315 : decode cL_law 315 = .ok (.iconst 0, 1) := by decide +kernel
theorem dL_law_316 : decode cL_law 316 = .ok (.laload, 1) := by decide +kernel
theorem dL_law_317 : decode cL_law 317 = .ok (.iload 6, 2) := by decide +kernel
theorem dL_law_319 : decode cL_law 319 = .ok (.i2l, 1) := by decide +kernel
theorem dL_law_320 : decode cL_law 320 = .ok (.lcmp, 1) := by decide +kernel
theorem dL_law_321 : decode cL_law 321 = .ok (.ifCond .eq 5, 3) := by decide +kernel
theorem dL_law_324 : decode cL_law 324 = .ok (.iconst 0, 1) := by decide +kernel
theorem dL_law_325 : decode cL_law 325 = .ok (.ireturn, 1) := by decide +kernel
theorem dL_law_326 : decode cL_law 326 = .ok (.goto 1205, 3) := by decide +kernel
theorem dL_law_329 : decode cL_law 329 = .ok (.aload_n 1, 1) := by decide +kernel
theorem dL_law_330 : decode cL_law 330 = .ok (.aload_n 0, 1) := by decide +kernel
theorem dL_law_331 : decode cL_law 331 = .ok (.iload 4, 2) := by decide +kernel
theorem dL_law_333 : decode cL_law 333 = .ok (.iconst 1, 1) := by decide +kernel
theorem dL_law_334 : decode cL_law 334 = .ok (.iadd, 1) := by decide +kernel
theorem dL_law_335 : decode cL_law 335 = .ok (.iaload, 1) := by decide +kernel
theorem dL_law_336 : decode cL_law 336 = .ok (.aload_n 0, 1) := by decide +kernel
theorem dL_law_337 : decode cL_law 337 = .ok (.iload 4, 2) := by decide +kernel
theorem dL_law_339 : decode cL_law 339 = .ok (.iconst 2, 1) := by decide +kernel
theorem dL_law_340 : decode cL_law 340 = .ok (.iadd, 1) := by decide +kernel
theorem dL_law_341 : decode cL_law 341 = .ok (.iaload, 1) := by decide +kernel
theorem dL_law_342 : decode cL_law 342 = .ok (.aload_n 0, 1) := by decide +kernel
theorem dL_law_343 : decode cL_law 343 = .ok (.iload 4, 2) := by decide +kernel
theorem dL_law_345 : decode cL_law 345 = .ok (.iconst 3, 1) := by decide +kernel
theorem dL_law_346 : decode cL_law 346 = .ok (.iadd, 1) := by decide +kernel
theorem dL_law_347 : decode cL_law 347 = .ok (.iaload, 1) := by decide +kernel
theorem dL_law_348 : decode cL_law 348 = .ok (.aload_n 0, 1) := by decide +kernel
theorem dL_law_349 : decode cL_law 349 = .ok (.iload 4, 2) := by decide +kernel
theorem dL_law_351 : decode cL_law 351 = .ok (.iconst 4, 1) := by decide +kernel
theorem dL_law_352 : decode cL_law 352 = .ok (.iadd, 1) := by decide +kernel
theorem dL_law_353 : decode cL_law 353 = .ok (.iaload, 1) := by decide +kernel
theorem dL_law_354 : decode cL_law 354 = .ok (.aload_n 3, 1) := by decide +kernel
theorem dL_law_355 : decode cL_law 355 = .ok (.invokestatic 98, 3) := by decide +kernel
theorem dL_law_358 : decode cL_law 358 = .ok (.istore 5, 2) := by decide +kernel
theorem dL_law_360 : decode cL_law 360 = .ok (.aload_n 2, 1) := by decide +kernel
theorem dL_law_361 : decode cL_law 361 = .ok (.aload_n 0, 1) := by decide +kernel
theorem dL_law_362 : decode cL_law 362 = .ok (.iload 4, 2) := by decide +kernel
theorem dL_law_364 : decode cL_law 364 = .ok (.iconst 1, 1) := by decide +kernel
theorem dL_law_365 : decode cL_law 365 = .ok (.iadd, 1) := by decide +kernel
theorem dL_law_366 : decode cL_law 366 = .ok (.iaload, 1) := by decide +kernel
theorem dL_law_367 : decode cL_law 367 = .ok (.aload_n 0, 1) := by decide +kernel
theorem dL_law_368 : decode cL_law 368 = .ok (.iload 4, 2) := by decide +kernel
theorem dL_law_370 : decode cL_law 370 = .ok (.iconst 2, 1) := by decide +kernel
theorem dL_law_371 : decode cL_law 371 = .ok (.iadd, 1) := by decide +kernel
theorem dL_law_372 : decode cL_law 372 = .ok (.iaload, 1) := by decide +kernel
theorem dL_law_373 : decode cL_law 373 = .ok (.aload_n 0, 1) := by decide +kernel
theorem dL_law_374 : decode cL_law 374 = .ok (.iload 4, 2) := by decide +kernel
theorem dL_law_376 : decode cL_law 376 = .ok (.iconst 3, 1) := by decide +kernel
theorem dL_law_377 : decode cL_law 377 = .ok (.iadd, 1) := by decide +kernel
theorem dL_law_378 : decode cL_law 378 = .ok (.iaload, 1) := by decide +kernel
theorem dL_law_379 : decode cL_law 379 = .ok (.aload_n 0, 1) := by decide +kernel
theorem dL_law_380 : decode cL_law 380 = .ok (.iload 4, 2) := by decide +kernel
theorem dL_law_382 : decode cL_law 382 = .ok (.iconst 4, 1) := by decide +kernel
theorem dL_law_383 : decode cL_law 383 = .ok (.iadd, 1) := by decide +kernel
theorem dL_law_384 : decode cL_law 384 = .ok (.iaload, 1) := by decide +kernel
theorem dL_law_385 : decode cL_law 385 = .ok (.invokevirtual 101, 3) := by decide +kernel
theorem dL_law_388 : decode cL_law 388 = .ok (.istore 6, 2) := by decide +kernel
theorem dL_law_390 : decode cL_law 390 = .ok (.aload_n 2, 1) := by decide +kernel
theorem dL_law_391 : decode cL_law 391 = .ok (.invokevirtual 87, 3) := by decide +kernel
theorem dL_law_394 : decode cL_law 394 = .ok (.iload 5, 2) := by decide +kernel
theorem dL_law_396 : decode cL_law 396 = .ok (.if_icmp .eq 5, 3) := by decide +kernel
theorem dL_law_399 : decode cL_law 399 = .ok (.iconst 0, 1) := by decide +kernel
theorem dL_law_400 : decode cL_law 400 = .ok (.ireturn, 1) := by decide +kernel
theorem dL_law_401 : decode cL_law 401 = .ok (.iload 5, 2) := by decide +kernel
theorem dL_law_403 : decode cL_law 403 = .ok (.ifCond .ne 15, 3) := by decide +kernel
theorem dL_law_406 : decode cL_law 406 = .ok (.aload_n 3, 1) := by decide +kernel
theorem dL_law_407 : decode cL_law 407 = .ok (.iconst 0, 1) := by decide +kernel
theorem dL_law_408 : decode cL_law 408 = .ok (.laload, 1) := by decide +kernel
theorem dL_law_409 : decode cL_law 409 = .ok (.iload 6, 2) := by decide +kernel
theorem dL_law_411 : decode cL_law 411 = .ok (.i2l, 1) := by decide +kernel
theorem dL_law_412 : decode cL_law 412 = .ok (.lcmp, 1) := by decide +kernel
theorem dL_law_413 : decode cL_law 413 = .ok (.ifCond .eq 5, 3) := by decide +kernel
theorem dL_law_416 : decode cL_law 416 = .ok (.iconst 0, 1) := by decide +kernel
theorem dL_law_417 : decode cL_law 417 = .ok (.ireturn, 1) := by decide +kernel
theorem dL_law_418 : decode cL_law 418 = .ok (.goto 1113, 3) := by decide +kernel
theorem dL_law_421 : decode cL_law 421 = .ok (.aload_n 1, 1) := by decide +kernel
theorem dL_law_422 : decode cL_law 422 = .ok (.aload_n 0, 1) := by decide +kernel
theorem dL_law_423 : decode cL_law 423 = .ok (.iload 4, 2) := by decide +kernel
theorem dL_law_425 : decode cL_law 425 = .ok (.iconst 1, 1) := by decide +kernel
theorem dL_law_426 : decode cL_law 426 = .ok (.iadd, 1) := by decide +kernel
theorem dL_law_427 : decode cL_law 427 = .ok (.iaload, 1) := by decide +kernel
theorem dL_law_428 : decode cL_law 428 = .ok (.aload_n 3, 1) := by decide +kernel
theorem dL_law_429 : decode cL_law 429 = .ok (.invokestatic 102, 3) := by decide +kernel
theorem dL_law_432 : decode cL_law 432 = .ok (.istore 5, 2) := by decide +kernel
theorem dL_law_434 : decode cL_law 434 = .ok (.aload_n 2, 1) := by decide +kernel
theorem dL_law_435 : decode cL_law 435 = .ok (.aload_n 0, 1) := by decide +kernel
theorem dL_law_436 : decode cL_law 436 = .ok (.iload 4, 2) := by decide +kernel
theorem dL_law_438 : decode cL_law 438 = .ok (.iconst 1, 1) := by decide +kernel
theorem dL_law_439 : decode cL_law 439 = .ok (.iadd, 1) := by decide +kernel
theorem dL_law_440 : decode cL_law 440 = .ok (.iaload, 1) := by decide +kernel
theorem dL_law_441 : decode cL_law 441 = .ok (.invokevirtual 105, 3) := by decide +kernel
theorem dL_law_444 : decode cL_law 444 = .ok (.istore 6, 2) := by decide +kernel
theorem dL_law_446 : decode cL_law 446 = .ok (.aload_n 2, 1) := by decide +kernel
theorem dL_law_447 : decode cL_law 447 = .ok (.invokevirtual 87, 3) := by decide +kernel
theorem dL_law_450 : decode cL_law 450 = .ok (.iload 5, 2) := by decide +kernel
theorem dL_law_452 : decode cL_law 452 = .ok (.if_icmp .eq 5, 3) := by decide +kernel
theorem dL_law_455 : decode cL_law 455 = .ok (.iconst 0, 1) := by decide +kernel
theorem dL_law_456 : decode cL_law 456 = .ok (.ireturn, 1) := by decide +kernel
theorem dL_law_457 : decode cL_law 457 = .ok (.iload 5, 2) := by decide +kernel
theorem dL_law_459 : decode cL_law 459 = .ok (.ifCond .ne 15, 3) := by decide +kernel
theorem dL_law_462 : decode cL_law 462 = .ok (.aload_n 3, 1) := by decide +kernel
theorem dL_law_463 : decode cL_law 463 = .ok (.iconst 0, 1) := by decide +kernel
theorem dL_law_464 : decode cL_law 464 = .ok (.laload, 1) := by decide +kernel
theorem dL_law_465 : decode cL_law 465 = .ok (.iload 6, 2) := by decide +kernel
theorem dL_law_467 : decode cL_law 467 = .ok (.i2l, 1) := by decide +kernel
theorem dL_law_468 : decode cL_law 468 = .ok (.lcmp, 1) := by decide +kernel
theorem dL_law_469 : decode cL_law 469 = .ok (.ifCond .eq 5, 3) := by decide +kernel
theorem dL_law_472 : decode cL_law 472 = .ok (.iconst 0, 1) := by decide +kernel
theorem dL_law_473 : decode cL_law 473 = .ok (.ireturn, 1) := by decide +kernel
theorem dL_law_474 : decode cL_law 474 = .ok (.goto 1057, 3) := by decide +kernel
theorem dL_law_477 : decode cL_law 477 = .ok (.aload_n 1, 1) := by decide +kernel
theorem dL_law_478 : decode cL_law 478 = .ok (.aload_n 0, 1) := by decide +kernel
theorem dL_law_479 : decode cL_law 479 = .ok (.iload 4, 2) := by decide +kernel
theorem dL_law_481 : decode cL_law 481 = .ok (.iconst 1, 1) := by decide +kernel
theorem dL_law_482 : decode cL_law 482 = .ok (.iadd, 1) := by decide +kernel
theorem dL_law_483 : decode cL_law 483 = .ok (.iaload, 1) := by decide +kernel
theorem dL_law_484 : decode cL_law 484 = .ok (.aload_n 0, 1) := by decide +kernel
theorem dL_law_485 : decode cL_law 485 = .ok (.iload 4, 2) := by decide +kernel
theorem dL_law_487 : decode cL_law 487 = .ok (.iconst 2, 1) := by decide +kernel
theorem dL_law_488 : decode cL_law 488 = .ok (.iadd, 1) := by decide +kernel
theorem dL_law_489 : decode cL_law 489 = .ok (.iaload, 1) := by decide +kernel
theorem dL_law_490 : decode cL_law 490 = .ok (.aload_n 3, 1) := by decide +kernel
theorem dL_law_491 : decode cL_law 491 = .ok (.invokestatic 106, 3) := by decide +kernel
theorem dL_law_494 : decode cL_law 494 = .ok (.istore 5, 2) := by decide +kernel
theorem dL_law_496 : decode cL_law 496 = .ok (.aload_n 2, 1) := by decide +kernel
theorem dL_law_497 : decode cL_law 497 = .ok (.aload_n 0, 1) := by decide +kernel
theorem dL_law_498 : decode cL_law 498 = .ok (.iload 4, 2) := by decide +kernel
theorem dL_law_500 : decode cL_law 500 = .ok (.iconst 1, 1) := by decide +kernel
theorem dL_law_501 : decode cL_law 501 = .ok (.iadd, 1) := by decide +kernel
theorem dL_law_502 : decode cL_law 502 = .ok (.iaload, 1) := by decide +kernel
theorem dL_law_503 : decode cL_law 503 = .ok (.aload_n 0, 1) := by decide +kernel
theorem dL_law_504 : decode cL_law 504 = .ok (.iload 4, 2) := by decide +kernel
theorem dL_law_506 : decode cL_law 506 = .ok (.iconst 2, 1) := by decide +kernel
theorem dL_law_507 : decode cL_law 507 = .ok (.iadd, 1) := by decide +kernel
theorem dL_law_508 : decode cL_law 508 = .ok (.iaload, 1) := by decide +kernel
theorem dL_law_509 : decode cL_law 509 = .ok (.invokevirtual 108, 3) := by decide +kernel
theorem dL_law_512 : decode cL_law 512 = .ok (.istore 6, 2) := by decide +kernel
theorem dL_law_514 : decode cL_law 514 = .ok (.aload_n 2, 1) := by decide +kernel
theorem dL_law_515 : decode cL_law 515 = .ok (.invokevirtual 87, 3) := by decide +kernel
theorem dL_law_518 : decode cL_law 518 = .ok (.iload 5, 2) := by decide +kernel
theorem dL_law_520 : decode cL_law 520 = .ok (.if_icmp .eq 5, 3) := by decide +kernel
theorem dL_law_523 : decode cL_law 523 = .ok (.iconst 0, 1) := by decide +kernel
theorem dL_law_524 : decode cL_law 524 = .ok (.ireturn, 1) := by decide +kernel
theorem dL_law_525 : decode cL_law 525 = .ok (.iload 5, 2) := by decide +kernel
theorem dL_law_527 : decode cL_law 527 = .ok (.ifCond .ne 15, 3) := by decide +kernel
theorem dL_law_530 : decode cL_law 530 = .ok (.aload_n 3, 1) := by decide +kernel
theorem dL_law_531 : decode cL_law 531 = .ok (.iconst 0, 1) := by decide +kernel
theorem dL_law_532 : decode cL_law 532 = .ok (.laload, 1) := by decide +kernel
theorem dL_law_533 : decode cL_law 533 = .ok (.iload 6, 2) := by decide +kernel
theorem dL_law_535 : decode cL_law 535 = .ok (.i2l, 1) := by decide +kernel
theorem dL_law_536 : decode cL_law 536 = .ok (.lcmp, 1) := by decide +kernel
theorem dL_law_537 : decode cL_law 537 = .ok (.ifCond .eq 5, 3) := by decide +kernel
theorem dL_law_540 : decode cL_law 540 = .ok (.iconst 0, 1) := by decide +kernel
theorem dL_law_541 : decode cL_law 541 = .ok (.ireturn, 1) := by decide +kernel
theorem dL_law_542 : decode cL_law 542 = .ok (.goto 989, 3) := by decide +kernel
theorem dL_law_545 : decode cL_law 545 = .ok (.aload_n 1, 1) := by decide +kernel
theorem dL_law_546 : decode cL_law 546 = .ok (.aload_n 0, 1) := by decide +kernel
theorem dL_law_547 : decode cL_law 547 = .ok (.iload 4, 2) := by decide +kernel
theorem dL_law_549 : decode cL_law 549 = .ok (.iconst 1, 1) := by decide +kernel
theorem dL_law_550 : decode cL_law 550 = .ok (.iadd, 1) := by decide +kernel
theorem dL_law_551 : decode cL_law 551 = .ok (.iaload, 1) := by decide +kernel
theorem dL_law_552 : decode cL_law 552 = .ok (.aload_n 3, 1) := by decide +kernel
theorem dL_law_553 : decode cL_law 553 = .ok (.invokestatic 109, 3) := by decide +kernel
theorem dL_law_556 : decode cL_law 556 = .ok (.istore 5, 2) := by decide +kernel
theorem dL_law_558 : decode cL_law 558 = .ok (.aload_n 2, 1) := by decide +kernel
theorem dL_law_559 : decode cL_law 559 = .ok (.aload_n 0, 1) := by decide +kernel
theorem dL_law_560 : decode cL_law 560 = .ok (.iload 4, 2) := by decide +kernel
theorem dL_law_562 : decode cL_law 562 = .ok (.iconst 1, 1) := by decide +kernel
theorem dL_law_563 : decode cL_law 563 = .ok (.iadd, 1) := by decide +kernel
theorem dL_law_564 : decode cL_law 564 = .ok (.iaload, 1) := by decide +kernel
theorem dL_law_565 : decode cL_law 565 = .ok (.invokevirtual 111, 3) := by decide +kernel
theorem dL_law_568 : decode cL_law 568 = .ok (.istore 6, 2) := by decide +kernel
theorem dL_law_570 : decode cL_law 570 = .ok (.aload_n 2, 1) := by decide +kernel
theorem dL_law_571 : decode cL_law 571 = .ok (.invokevirtual 87, 3) := by decide +kernel
theorem dL_law_574 : decode cL_law 574 = .ok (.iload 5, 2) := by decide +kernel
theorem dL_law_576 : decode cL_law 576 = .ok (.if_icmp .eq 5, 3) := by decide +kernel
theorem dL_law_579 : decode cL_law 579 = .ok (.iconst 0, 1) := by decide +kernel
theorem dL_law_580 : decode cL_law 580 = .ok (.ireturn, 1) := by decide +kernel
theorem dL_law_581 : decode cL_law 581 = .ok (.iload 5, 2) := by decide +kernel
theorem dL_law_583 : decode cL_law 583 = .ok (.ifCond .ne 15, 3) := by decide +kernel
theorem dL_law_586 : decode cL_law 586 = .ok (.aload_n 3, 1) := by decide +kernel
theorem dL_law_587 : decode cL_law 587 = .ok (.iconst 0, 1) := by decide +kernel
theorem dL_law_588 : decode cL_law 588 = .ok (.laload, 1) := by decide +kernel
theorem dL_law_589 : decode cL_law 589 = .ok (.iload 6, 2) := by decide +kernel
theorem dL_law_591 : decode cL_law 591 = .ok (.i2l, 1) := by decide +kernel
theorem dL_law_592 : decode cL_law 592 = .ok (.lcmp, 1) := by decide +kernel
theorem dL_law_593 : decode cL_law 593 = .ok (.ifCond .eq 5, 3) := by decide +kernel
theorem dL_law_596 : decode cL_law 596 = .ok (.iconst 0, 1) := by decide +kernel
theorem dL_law_597 : decode cL_law 597 = .ok (.ireturn, 1) := by decide +kernel
theorem dL_law_598 : decode cL_law 598 = .ok (.goto 933, 3) := by decide +kernel
theorem dL_law_601 : decode cL_law 601 = .ok (.aload_n 1, 1) := by decide +kernel
theorem dL_law_602 : decode cL_law 602 = .ok (.aload_n 0, 1) := by decide +kernel
theorem dL_law_603 : decode cL_law 603 = .ok (.iload 4, 2) := by decide +kernel
theorem dL_law_605 : decode cL_law 605 = .ok (.iconst 1, 1) := by decide +kernel
theorem dL_law_606 : decode cL_law 606 = .ok (.iadd, 1) := by decide +kernel
theorem dL_law_607 : decode cL_law 607 = .ok (.iaload, 1) := by decide +kernel
theorem dL_law_608 : decode cL_law 608 = .ok (.aload_n 3, 1) := by decide +kernel
theorem dL_law_609 : decode cL_law 609 = .ok (.invokestatic 112, 3) := by decide +kernel
theorem dL_law_612 : decode cL_law 612 = .ok (.istore 5, 2) := by decide +kernel
theorem dL_law_614 : decode cL_law 614 = .ok (.aload_n 2, 1) := by decide +kernel
theorem dL_law_615 : decode cL_law 615 = .ok (.aload_n 0, 1) := by decide +kernel
theorem dL_law_616 : decode cL_law 616 = .ok (.iload 4, 2) := by decide +kernel
theorem dL_law_618 : decode cL_law 618 = .ok (.iconst 1, 1) := by decide +kernel
theorem dL_law_619 : decode cL_law 619 = .ok (.iadd, 1) := by decide +kernel
theorem dL_law_620 : decode cL_law 620 = .ok (.iaload, 1) := by decide +kernel
theorem dL_law_621 : decode cL_law 621 = .ok (.invokevirtual 114, 3) := by decide +kernel
theorem dL_law_624 : decode cL_law 624 = .ok (.istore 6, 2) := by decide +kernel
theorem dL_law_626 : decode cL_law 626 = .ok (.aload_n 2, 1) := by decide +kernel
theorem dL_law_627 : decode cL_law 627 = .ok (.invokevirtual 87, 3) := by decide +kernel
theorem dL_law_630 : decode cL_law 630 = .ok (.iload 5, 2) := by decide +kernel
theorem dL_law_632 : decode cL_law 632 = .ok (.if_icmp .eq 5, 3) := by decide +kernel
theorem dL_law_635 : decode cL_law 635 = .ok (.iconst 0, 1) := by decide +kernel
theorem dL_law_636 : decode cL_law 636 = .ok (.ireturn, 1) := by decide +kernel
theorem dL_law_637 : decode cL_law 637 = .ok (.iload 5, 2) := by decide +kernel
theorem dL_law_639 : decode cL_law 639 = .ok (.ifCond .ne 15, 3) := by decide +kernel
theorem dL_law_642 : decode cL_law 642 = .ok (.aload_n 3, 1) := by decide +kernel
theorem dL_law_643 : decode cL_law 643 = .ok (.iconst 0, 1) := by decide +kernel
theorem dL_law_644 : decode cL_law 644 = .ok (.laload, 1) := by decide +kernel
theorem dL_law_645 : decode cL_law 645 = .ok (.iload 6, 2) := by decide +kernel
theorem dL_law_647 : decode cL_law 647 = .ok (.i2l, 1) := by decide +kernel
theorem dL_law_648 : decode cL_law 648 = .ok (.lcmp, 1) := by decide +kernel
theorem dL_law_649 : decode cL_law 649 = .ok (.ifCond .eq 5, 3) := by decide +kernel
theorem dL_law_652 : decode cL_law 652 = .ok (.iconst 0, 1) := by decide +kernel
theorem dL_law_653 : decode cL_law 653 = .ok (.ireturn, 1) := by decide +kernel
theorem dL_law_654 : decode cL_law 654 = .ok (.goto 877, 3) := by decide +kernel
theorem dL_law_657 : decode cL_law 657 = .ok (.aload_n 1, 1) := by decide +kernel
theorem dL_law_658 : decode cL_law 658 = .ok (.aload_n 0, 1) := by decide +kernel
theorem dL_law_659 : decode cL_law 659 = .ok (.iload 4, 2) := by decide +kernel
theorem dL_law_661 : decode cL_law 661 = .ok (.iconst 1, 1) := by decide +kernel
theorem dL_law_662 : decode cL_law 662 = .ok (.iadd, 1) := by decide +kernel
theorem dL_law_663 : decode cL_law 663 = .ok (.iaload, 1) := by decide +kernel
theorem dL_law_664 : decode cL_law 664 = .ok (.aload_n 0, 1) := by decide +kernel
theorem dL_law_665 : decode cL_law 665 = .ok (.iload 4, 2) := by decide +kernel
theorem dL_law_667 : decode cL_law 667 = .ok (.iconst 2, 1) := by decide +kernel
theorem dL_law_668 : decode cL_law 668 = .ok (.iadd, 1) := by decide +kernel
theorem dL_law_669 : decode cL_law 669 = .ok (.iaload, 1) := by decide +kernel
theorem dL_law_670 : decode cL_law 670 = .ok (.aload_n 3, 1) := by decide +kernel
theorem dL_law_671 : decode cL_law 671 = .ok (.invokestatic 115, 3) := by decide +kernel
theorem dL_law_674 : decode cL_law 674 = .ok (.istore 5, 2) := by decide +kernel
theorem dL_law_676 : decode cL_law 676 = .ok (.aload_n 2, 1) := by decide +kernel
theorem dL_law_677 : decode cL_law 677 = .ok (.aload_n 0, 1) := by decide +kernel
theorem dL_law_678 : decode cL_law 678 = .ok (.iload 4, 2) := by decide +kernel
theorem dL_law_680 : decode cL_law 680 = .ok (.iconst 1, 1) := by decide +kernel
theorem dL_law_681 : decode cL_law 681 = .ok (.iadd, 1) := by decide +kernel
theorem dL_law_682 : decode cL_law 682 = .ok (.iaload, 1) := by decide +kernel
theorem dL_law_683 : decode cL_law 683 = .ok (.aload_n 0, 1) := by decide +kernel
theorem dL_law_684 : decode cL_law 684 = .ok (.iload 4, 2) := by decide +kernel
theorem dL_law_686 : decode cL_law 686 = .ok (.iconst 2, 1) := by decide +kernel
theorem dL_law_687 : decode cL_law 687 = .ok (.iadd, 1) := by decide +kernel
theorem dL_law_688 : decode cL_law 688 = .ok (.iaload, 1) := by decide +kernel
theorem dL_law_689 : decode cL_law 689 = .ok (.invokevirtual 117, 3) := by decide +kernel
theorem dL_law_692 : decode cL_law 692 = .ok (.istore 6, 2) := by decide +kernel
theorem dL_law_694 : decode cL_law 694 = .ok (.aload_n 2, 1) := by decide +kernel
theorem dL_law_695 : decode cL_law 695 = .ok (.invokevirtual 87, 3) := by decide +kernel
theorem dL_law_698 : decode cL_law 698 = .ok (.iload 5, 2) := by decide +kernel
theorem dL_law_700 : decode cL_law 700 = .ok (.if_icmp .eq 5, 3) := by decide +kernel
theorem dL_law_703 : decode cL_law 703 = .ok (.iconst 0, 1) := by decide +kernel
theorem dL_law_704 : decode cL_law 704 = .ok (.ireturn, 1) := by decide +kernel
theorem dL_law_705 : decode cL_law 705 = .ok (.iload 5, 2) := by decide +kernel
theorem dL_law_707 : decode cL_law 707 = .ok (.ifCond .ne 15, 3) := by decide +kernel
theorem dL_law_710 : decode cL_law 710 = .ok (.aload_n 3, 1) := by decide +kernel
theorem dL_law_711 : decode cL_law 711 = .ok (.iconst 0, 1) := by decide +kernel
theorem dL_law_712 : decode cL_law 712 = .ok (.laload, 1) := by decide +kernel
theorem dL_law_713 : decode cL_law 713 = .ok (.iload 6, 2) := by decide +kernel
theorem dL_law_715 : decode cL_law 715 = .ok (.i2l, 1) := by decide +kernel
theorem dL_law_716 : decode cL_law 716 = .ok (.lcmp, 1) := by decide +kernel
theorem dL_law_717 : decode cL_law 717 = .ok (.ifCond .eq 5, 3) := by decide +kernel
theorem dL_law_720 : decode cL_law 720 = .ok (.iconst 0, 1) := by decide +kernel
theorem dL_law_721 : decode cL_law 721 = .ok (.ireturn, 1) := by decide +kernel
theorem dL_law_722 : decode cL_law 722 = .ok (.goto 809, 3) := by decide +kernel
theorem dL_law_725 : decode cL_law 725 = .ok (.aload_n 1, 1) := by decide +kernel
theorem dL_law_726 : decode cL_law 726 = .ok (.aload_n 0, 1) := by decide +kernel
theorem dL_law_727 : decode cL_law 727 = .ok (.iload 4, 2) := by decide +kernel
theorem dL_law_729 : decode cL_law 729 = .ok (.iconst 1, 1) := by decide +kernel
theorem dL_law_730 : decode cL_law 730 = .ok (.iadd, 1) := by decide +kernel
theorem dL_law_731 : decode cL_law 731 = .ok (.iaload, 1) := by decide +kernel
theorem dL_law_732 : decode cL_law 732 = .ok (.aload_n 3, 1) := by decide +kernel
theorem dL_law_733 : decode cL_law 733 = .ok (.invokestatic 118, 3) := by decide +kernel
theorem dL_law_736 : decode cL_law 736 = .ok (.istore 5, 2) := by decide +kernel
theorem dL_law_738 : decode cL_law 738 = .ok (.aload_n 2, 1) := by decide +kernel
theorem dL_law_739 : decode cL_law 739 = .ok (.aload_n 0, 1) := by decide +kernel
theorem dL_law_740 : decode cL_law 740 = .ok (.iload 4, 2) := by decide +kernel
theorem dL_law_742 : decode cL_law 742 = .ok (.iconst 1, 1) := by decide +kernel
theorem dL_law_743 : decode cL_law 743 = .ok (.iadd, 1) := by decide +kernel
theorem dL_law_744 : decode cL_law 744 = .ok (.iaload, 1) := by decide +kernel
theorem dL_law_745 : decode cL_law 745 = .ok (.invokevirtual 120, 3) := by decide +kernel
theorem dL_law_748 : decode cL_law 748 = .ok (.istore 6, 2) := by decide +kernel
theorem dL_law_750 : decode cL_law 750 = .ok (.aload_n 2, 1) := by decide +kernel
theorem dL_law_751 : decode cL_law 751 = .ok (.invokevirtual 87, 3) := by decide +kernel
theorem dL_law_754 : decode cL_law 754 = .ok (.iload 5, 2) := by decide +kernel
theorem dL_law_756 : decode cL_law 756 = .ok (.if_icmp .eq 5, 3) := by decide +kernel
theorem dL_law_759 : decode cL_law 759 = .ok (.iconst 0, 1) := by decide +kernel
theorem dL_law_760 : decode cL_law 760 = .ok (.ireturn, 1) := by decide +kernel
theorem dL_law_761 : decode cL_law 761 = .ok (.iload 5, 2) := by decide +kernel
theorem dL_law_763 : decode cL_law 763 = .ok (.ifCond .ne 15, 3) := by decide +kernel
theorem dL_law_766 : decode cL_law 766 = .ok (.aload_n 3, 1) := by decide +kernel
theorem dL_law_767 : decode cL_law 767 = .ok (.iconst 0, 1) := by decide +kernel
theorem dL_law_768 : decode cL_law 768 = .ok (.laload, 1) := by decide +kernel
theorem dL_law_769 : decode cL_law 769 = .ok (.iload 6, 2) := by decide +kernel
theorem dL_law_771 : decode cL_law 771 = .ok (.i2l, 1) := by decide +kernel
theorem dL_law_772 : decode cL_law 772 = .ok (.lcmp, 1) := by decide +kernel
theorem dL_law_773 : decode cL_law 773 = .ok (.ifCond .eq 5, 3) := by decide +kernel
theorem dL_law_776 : decode cL_law 776 = .ok (.iconst 0, 1) := by decide +kernel
theorem dL_law_777 : decode cL_law 777 = .ok (.ireturn, 1) := by decide +kernel
theorem dL_law_778 : decode cL_law 778 = .ok (.goto 753, 3) := by decide +kernel
theorem dL_law_781 : decode cL_law 781 = .ok (.aload_n 1, 1) := by decide +kernel
theorem dL_law_782 : decode cL_law 782 = .ok (.invokevirtual 121, 3) := by decide +kernel
theorem dL_law_785 : decode cL_law 785 = .ok (.aload_n 2, 1) := by decide +kernel
theorem dL_law_786 : decode cL_law 786 = .ok (.invokevirtual 124, 3) := by decide +kernel
theorem dL_law_789 : decode cL_law 789 = .ok (.if_icmp .eq 742, 3) := by decide +kernel
theorem dL_law_792 : decode cL_law 792 = .ok (.iconst 0, 1) := by decide +kernel
theorem dL_law_793 : decode cL_law 793 = .ok (.ireturn, 1) := by decide +kernel
theorem dL_law_794 : decode cL_law 794 = .ok (.aload_n 1, 1) := by decide +kernel
theorem dL_law_795 : decode cL_law 795 = .ok (.invokevirtual 125, 3) := by decide +kernel
theorem dL_law_798 : decode cL_law 798 = .ok (.aload_n 2, 1) := by decide +kernel
theorem dL_law_799 : decode cL_law 799 = .ok (.invokevirtual 128, 3) := by decide +kernel
theorem dL_law_802 : decode cL_law 802 = .ok (.if_icmp .eq 729, 3) := by decide +kernel
theorem dL_law_805 : decode cL_law 805 = .ok (.iconst 0, 1) := by decide +kernel
theorem dL_law_806 : decode cL_law 806 = .ok (.ireturn, 1) := by decide +kernel
theorem dL_law_807 : decode cL_law 807 = .ok (.aload_n 1, 1) := by decide +kernel
theorem dL_law_808 : decode cL_law 808 = .ok (.aload_n 3, 1) := by decide +kernel
theorem dL_law_809 : decode cL_law 809 = .ok (.invokestatic 129, 3) := by decide +kernel
theorem dL_law_812 : decode cL_law 812 = .ok (.istore 5, 2) := by decide +kernel
theorem dL_law_814 : decode cL_law 814 = .ok (.aload_n 2, 1) := by decide +kernel
theorem dL_law_815 : decode cL_law 815 = .ok (.invokevirtual 132, 3) := by decide +kernel
theorem dL_law_818 : decode cL_law 818 = .ok (.istore 6, 2) := by decide +kernel
theorem dL_law_820 : decode cL_law 820 = .ok (.aload_n 2, 1) := by decide +kernel
theorem dL_law_821 : decode cL_law 821 = .ok (.invokevirtual 87, 3) := by decide +kernel
theorem dL_law_824 : decode cL_law 824 = .ok (.iload 5, 2) := by decide +kernel
theorem dL_law_826 : decode cL_law 826 = .ok (.if_icmp .eq 5, 3) := by decide +kernel
theorem dL_law_829 : decode cL_law 829 = .ok (.iconst 0, 1) := by decide +kernel
theorem dL_law_830 : decode cL_law 830 = .ok (.ireturn, 1) := by decide +kernel
theorem dL_law_831 : decode cL_law 831 = .ok (.iload 5, 2) := by decide +kernel
theorem dL_law_833 : decode cL_law 833 = .ok (.ifCond .ne 15, 3) := by decide +kernel
theorem dL_law_836 : decode cL_law 836 = .ok (.aload_n 3, 1) := by decide +kernel
theorem dL_law_837 : decode cL_law 837 = .ok (.iconst 0, 1) := by decide +kernel
theorem dL_law_838 : decode cL_law 838 = .ok (.laload, 1) := by decide +kernel
theorem dL_law_839 : decode cL_law 839 = .ok (.iload 6, 2) := by decide +kernel
theorem dL_law_841 : decode cL_law 841 = .ok (.i2l, 1) := by decide +kernel
theorem dL_law_842 : decode cL_law 842 = .ok (.lcmp, 1) := by decide +kernel
theorem dL_law_843 : decode cL_law 843 = .ok (.ifCond .eq 5, 3) := by decide +kernel
theorem dL_law_846 : decode cL_law 846 = .ok (.iconst 0, 1) := by decide +kernel
theorem dL_law_847 : decode cL_law 847 = .ok (.ireturn, 1) := by decide +kernel
theorem dL_law_848 : decode cL_law 848 = .ok (.goto 683, 3) := by decide +kernel
theorem dL_law_851 : decode cL_law 851 = .ok (.aload_n 1, 1) := by decide +kernel
theorem dL_law_852 : decode cL_law 852 = .ok (.aload_n 0, 1) := by decide +kernel
theorem dL_law_853 : decode cL_law 853 = .ok (.iload 4, 2) := by decide +kernel
theorem dL_law_855 : decode cL_law 855 = .ok (.iconst 1, 1) := by decide +kernel
theorem dL_law_856 : decode cL_law 856 = .ok (.iadd, 1) := by decide +kernel
theorem dL_law_857 : decode cL_law 857 = .ok (.iaload, 1) := by decide +kernel
theorem dL_law_858 : decode cL_law 858 = .ok (.aload_n 3, 1) := by decide +kernel
theorem dL_law_859 : decode cL_law 859 = .ok (.invokestatic 133, 3) := by decide +kernel
theorem dL_law_862 : decode cL_law 862 = .ok (.istore 5, 2) := by decide +kernel
theorem dL_law_864 : decode cL_law 864 = .ok (.aload_n 2, 1) := by decide +kernel
theorem dL_law_865 : decode cL_law 865 = .ok (.aload_n 0, 1) := by decide +kernel
theorem dL_law_866 : decode cL_law 866 = .ok (.iload 4, 2) := by decide +kernel
theorem dL_law_868 : decode cL_law 868 = .ok (.iconst 1, 1) := by decide +kernel
theorem dL_law_869 : decode cL_law 869 = .ok (.iadd, 1) := by decide +kernel
theorem dL_law_870 : decode cL_law 870 = .ok (.iaload, 1) := by decide +kernel
theorem dL_law_871 : decode cL_law 871 = .ok (.invokevirtual 135, 3) := by decide +kernel
theorem dL_law_874 : decode cL_law 874 = .ok (.istore 6, 2) := by decide +kernel
theorem dL_law_876 : decode cL_law 876 = .ok (.aload_n 2, 1) := by decide +kernel
theorem dL_law_877 : decode cL_law 877 = .ok (.invokevirtual 87, 3) := by decide +kernel
theorem dL_law_880 : decode cL_law 880 = .ok (.iload 5, 2) := by decide +kernel
theorem dL_law_882 : decode cL_law 882 = .ok (.if_icmp .eq 5, 3) := by decide +kernel
theorem dL_law_885 : decode cL_law 885 = .ok (.iconst 0, 1) := by decide +kernel
theorem dL_law_886 : decode cL_law 886 = .ok (.ireturn, 1) := by decide +kernel
theorem dL_law_887 : decode cL_law 887 = .ok (.iload 5, 2) := by decide +kernel
theorem dL_law_889 : decode cL_law 889 = .ok (.ifCond .ne 15, 3) := by decide +kernel
theorem dL_law_892 : decode cL_law 892 = .ok (.aload_n 3, 1) := by decide +kernel
theorem dL_law_893 : decode cL_law 893 = .ok (.iconst 0, 1) := by decide +kernel
theorem dL_law_894 : decode cL_law 894 = .ok (.laload, 1) := by decide +kernel
theorem dL_law_895 : decode cL_law 895 = .ok (.iload 6, 2) := by decide +kernel
theorem dL_law_897 : decode cL_law 897 = .ok (.i2l, 1) := by decide +kernel
theorem dL_law_898 : decode cL_law 898 = .ok (.lcmp, 1) := by decide +kernel
theorem dL_law_899 : decode cL_law 899 = .ok (.ifCond .eq 5, 3) := by decide +kernel
theorem dL_law_902 : decode cL_law 902 = .ok (.iconst 0, 1) := by decide +kernel
theorem dL_law_903 : decode cL_law 903 = .ok (.ireturn, 1) := by decide +kernel
theorem dL_law_904 : decode cL_law 904 = .ok (.goto 627, 3) := by decide +kernel
theorem dL_law_907 : decode cL_law 907 = .ok (.aload_n 1, 1) := by decide +kernel
theorem dL_law_908 : decode cL_law 908 = .ok (.aload_n 0, 1) := by decide +kernel
theorem dL_law_909 : decode cL_law 909 = .ok (.iload 4, 2) := by decide +kernel
theorem dL_law_911 : decode cL_law 911 = .ok (.iconst 1, 1) := by decide +kernel
theorem dL_law_912 : decode cL_law 912 = .ok (.iadd, 1) := by decide +kernel
theorem dL_law_913 : decode cL_law 913 = .ok (.iaload, 1) := by decide +kernel
theorem dL_law_914 : decode cL_law 914 = .ok (.aload_n 0, 1) := by decide +kernel
theorem dL_law_915 : decode cL_law 915 = .ok (.iload 4, 2) := by decide +kernel
theorem dL_law_917 : decode cL_law 917 = .ok (.iconst 2, 1) := by decide +kernel
theorem dL_law_918 : decode cL_law 918 = .ok (.iadd, 1) := by decide +kernel
theorem dL_law_919 : decode cL_law 919 = .ok (.iaload, 1) := by decide +kernel
theorem dL_law_920 : decode cL_law 920 = .ok (.aload_n 3, 1) := by decide +kernel
theorem dL_law_921 : decode cL_law 921 = .ok (.invokestatic 136, 3) := by decide +kernel
theorem dL_law_924 : decode cL_law 924 = .ok (.istore 5, 2) := by decide +kernel
theorem dL_law_926 : decode cL_law 926 = .ok (.aload_n 2, 1) := by decide +kernel
theorem dL_law_927 : decode cL_law 927 = .ok (.aload_n 0, 1) := by decide +kernel
theorem dL_law_928 : decode cL_law 928 = .ok (.iload 4, 2) := by decide +kernel
theorem dL_law_930 : decode cL_law 930 = .ok (.iconst 1, 1) := by decide +kernel
theorem dL_law_931 : decode cL_law 931 = .ok (.iadd, 1) := by decide +kernel
theorem dL_law_932 : decode cL_law 932 = .ok (.iaload, 1) := by decide +kernel
theorem dL_law_933 : decode cL_law 933 = .ok (.aload_n 0, 1) := by decide +kernel
theorem dL_law_934 : decode cL_law 934 = .ok (.iload 4, 2) := by decide +kernel
theorem dL_law_936 : decode cL_law 936 = .ok (.iconst 2, 1) := by decide +kernel
theorem dL_law_937 : decode cL_law 937 = .ok (.iadd, 1) := by decide +kernel
theorem dL_law_938 : decode cL_law 938 = .ok (.iaload, 1) := by decide +kernel
theorem dL_law_939 : decode cL_law 939 = .ok (.invokevirtual 138, 3) := by decide +kernel
theorem dL_law_942 : decode cL_law 942 = .ok (.istore 6, 2) := by decide +kernel
theorem dL_law_944 : decode cL_law 944 = .ok (.aload_n 2, 1) := by decide +kernel
theorem dL_law_945 : decode cL_law 945 = .ok (.invokevirtual 87, 3) := by decide +kernel
theorem dL_law_948 : decode cL_law 948 = .ok (.iload 5, 2) := by decide +kernel
theorem dL_law_950 : decode cL_law 950 = .ok (.if_icmp .eq 5, 3) := by decide +kernel
theorem dL_law_953 : decode cL_law 953 = .ok (.iconst 0, 1) := by decide +kernel
theorem dL_law_954 : decode cL_law 954 = .ok (.ireturn, 1) := by decide +kernel
theorem dL_law_955 : decode cL_law 955 = .ok (.iload 5, 2) := by decide +kernel
theorem dL_law_957 : decode cL_law 957 = .ok (.ifCond .ne 15, 3) := by decide +kernel
theorem dL_law_960 : decode cL_law 960 = .ok (.aload_n 3, 1) := by decide +kernel
theorem dL_law_961 : decode cL_law 961 = .ok (.iconst 0, 1) := by decide +kernel
theorem dL_law_962 : decode cL_law 962 = .ok (.laload, 1) := by decide +kernel
theorem dL_law_963 : decode cL_law 963 = .ok (.iload 6, 2) := by decide +kernel
theorem dL_law_965 : decode cL_law 965 = .ok (.i2l, 1) := by decide +kernel
theorem dL_law_966 : decode cL_law 966 = .ok (.lcmp, 1) := by decide +kernel
theorem dL_law_967 : decode cL_law 967 = .ok (.ifCond .eq 5, 3) := by decide +kernel
theorem dL_law_970 : decode cL_law 970 = .ok (.iconst 0, 1) := by decide +kernel
theorem dL_law_971 : decode cL_law 971 = .ok (.ireturn, 1) := by decide +kernel
theorem dL_law_972 : decode cL_law 972 = .ok (.goto 559, 3) := by decide +kernel
theorem dL_law_975 : decode cL_law 975 = .ok (.aload_n 1, 1) := by decide +kernel
theorem dL_law_976 : decode cL_law 976 = .ok (.aload_n 0, 1) := by decide +kernel
theorem dL_law_977 : decode cL_law 977 = .ok (.iload 4, 2) := by decide +kernel
theorem dL_law_979 : decode cL_law 979 = .ok (.iconst 1, 1) := by decide +kernel
theorem dL_law_980 : decode cL_law 980 = .ok (.iadd, 1) := by decide +kernel
theorem dL_law_981 : decode cL_law 981 = .ok (.iaload, 1) := by decide +kernel
theorem dL_law_982 : decode cL_law 982 = .ok (.aload_n 0, 1) := by decide +kernel
theorem dL_law_983 : decode cL_law 983 = .ok (.iload 4, 2) := by decide +kernel
theorem dL_law_985 : decode cL_law 985 = .ok (.iconst 2, 1) := by decide +kernel
theorem dL_law_986 : decode cL_law 986 = .ok (.iadd, 1) := by decide +kernel
theorem dL_law_987 : decode cL_law 987 = .ok (.iaload, 1) := by decide +kernel
theorem dL_law_988 : decode cL_law 988 = .ok (.aload_n 0, 1) := by decide +kernel
theorem dL_law_989 : decode cL_law 989 = .ok (.iload 4, 2) := by decide +kernel
theorem dL_law_991 : decode cL_law 991 = .ok (.iconst 3, 1) := by decide +kernel
theorem dL_law_992 : decode cL_law 992 = .ok (.iadd, 1) := by decide +kernel
theorem dL_law_993 : decode cL_law 993 = .ok (.iaload, 1) := by decide +kernel
theorem dL_law_994 : decode cL_law 994 = .ok (.aload_n 3, 1) := by decide +kernel
theorem dL_law_995 : decode cL_law 995 = .ok (.invokestatic 139, 3) := by decide +kernel
theorem dL_law_998 : decode cL_law 998 = .ok (.istore 5, 2) := by decide +kernel
theorem dL_law_1000 : decode cL_law 1000 = .ok (.aload_n 2, 1) := by decide +kernel
theorem dL_law_1001 : decode cL_law 1001 = .ok (.aload_n 0, 1) := by decide +kernel
theorem dL_law_1002 : decode cL_law 1002 = .ok (.iload 4, 2) := by decide +kernel
theorem dL_law_1004 : decode cL_law 1004 = .ok (.iconst 1, 1) := by decide +kernel
theorem dL_law_1005 : decode cL_law 1005 = .ok (.iadd, 1) := by decide +kernel
theorem dL_law_1006 : decode cL_law 1006 = .ok (.iaload, 1) := by decide +kernel
theorem dL_law_1007 : decode cL_law 1007 = .ok (.aload_n 0, 1) := by decide +kernel
theorem dL_law_1008 : decode cL_law 1008 = .ok (.iload 4, 2) := by decide +kernel
theorem dL_law_1010 : decode cL_law 1010 = .ok (.iconst 2, 1) := by decide +kernel
theorem dL_law_1011 : decode cL_law 1011 = .ok (.iadd, 1) := by decide +kernel
theorem dL_law_1012 : decode cL_law 1012 = .ok (.iaload, 1) := by decide +kernel
theorem dL_law_1013 : decode cL_law 1013 = .ok (.aload_n 0, 1) := by decide +kernel
theorem dL_law_1014 : decode cL_law 1014 = .ok (.iload 4, 2) := by decide +kernel
theorem dL_law_1016 : decode cL_law 1016 = .ok (.iconst 3, 1) := by decide +kernel
theorem dL_law_1017 : decode cL_law 1017 = .ok (.iadd, 1) := by decide +kernel
theorem dL_law_1018 : decode cL_law 1018 = .ok (.iaload, 1) := by decide +kernel
theorem dL_law_1019 : decode cL_law 1019 = .ok (.invokevirtual 142, 3) := by decide +kernel
theorem dL_law_1022 : decode cL_law 1022 = .ok (.istore 6, 2) := by decide +kernel
theorem dL_law_1024 : decode cL_law 1024 = .ok (.aload_n 2, 1) := by decide +kernel
theorem dL_law_1025 : decode cL_law 1025 = .ok (.invokevirtual 87, 3) := by decide +kernel
theorem dL_law_1028 : decode cL_law 1028 = .ok (.iload 5, 2) := by decide +kernel
theorem dL_law_1030 : decode cL_law 1030 = .ok (.if_icmp .eq 5, 3) := by decide +kernel
theorem dL_law_1033 : decode cL_law 1033 = .ok (.iconst 0, 1) := by decide +kernel
theorem dL_law_1034 : decode cL_law 1034 = .ok (.ireturn, 1) := by decide +kernel
theorem dL_law_1035 : decode cL_law 1035 = .ok (.iload 5, 2) := by decide +kernel
theorem dL_law_1037 : decode cL_law 1037 = .ok (.ifCond .ne 15, 3) := by decide +kernel
theorem dL_law_1040 : decode cL_law 1040 = .ok (.aload_n 3, 1) := by decide +kernel
theorem dL_law_1041 : decode cL_law 1041 = .ok (.iconst 0, 1) := by decide +kernel
theorem dL_law_1042 : decode cL_law 1042 = .ok (.laload, 1) := by decide +kernel
theorem dL_law_1043 : decode cL_law 1043 = .ok (.iload 6, 2) := by decide +kernel
theorem dL_law_1045 : decode cL_law 1045 = .ok (.i2l, 1) := by decide +kernel
theorem dL_law_1046 : decode cL_law 1046 = .ok (.lcmp, 1) := by decide +kernel
theorem dL_law_1047 : decode cL_law 1047 = .ok (.ifCond .eq 5, 3) := by decide +kernel
theorem dL_law_1050 : decode cL_law 1050 = .ok (.iconst 0, 1) := by decide +kernel
theorem dL_law_1051 : decode cL_law 1051 = .ok (.ireturn, 1) := by decide +kernel
theorem dL_law_1052 : decode cL_law 1052 = .ok (.goto 479, 3) := by decide +kernel
theorem dL_law_1055 : decode cL_law 1055 = .ok (.aload_n 1, 1) := by decide +kernel
theorem dL_law_1056 : decode cL_law 1056 = .ok (.aload_n 0, 1) := by decide +kernel
theorem dL_law_1057 : decode cL_law 1057 = .ok (.iload 4, 2) := by decide +kernel
theorem dL_law_1059 : decode cL_law 1059 = .ok (.iconst 1, 1) := by decide +kernel
theorem dL_law_1060 : decode cL_law 1060 = .ok (.iadd, 1) := by decide +kernel
theorem dL_law_1061 : decode cL_law 1061 = .ok (.iaload, 1) := by decide +kernel
theorem dL_law_1062 : decode cL_law 1062 = .ok (.aload_n 0, 1) := by decide +kernel
theorem dL_law_1063 : decode cL_law 1063 = .ok (.iload 4, 2) := by decide +kernel
theorem dL_law_1065 : decode cL_law 1065 = .ok (.iconst 2, 1) := by decide +kernel
theorem dL_law_1066 : decode cL_law 1066 = .ok (.iadd, 1) := by decide +kernel
theorem dL_law_1067 : decode cL_law 1067 = .ok (.iaload, 1) := by decide +kernel
theorem dL_law_1068 : decode cL_law 1068 = .ok (.aload_n 0, 1) := by decide +kernel
theorem dL_law_1069 : decode cL_law 1069 = .ok (.iload 4, 2) := by decide +kernel
theorem dL_law_1071 : decode cL_law 1071 = .ok (.iconst 3, 1) := by decide +kernel
theorem dL_law_1072 : decode cL_law 1072 = .ok (.iadd, 1) := by decide +kernel
theorem dL_law_1073 : decode cL_law 1073 = .ok (.iaload, 1) := by decide +kernel
theorem dL_law_1074 : decode cL_law 1074 = .ok (.aload_n 3, 1) := by decide +kernel
theorem dL_law_1075 : decode cL_law 1075 = .ok (.invokestatic 143, 3) := by decide +kernel
theorem dL_law_1078 : decode cL_law 1078 = .ok (.istore 5, 2) := by decide +kernel
theorem dL_law_1080 : decode cL_law 1080 = .ok (.aload_n 2, 1) := by decide +kernel
theorem dL_law_1081 : decode cL_law 1081 = .ok (.aload_n 0, 1) := by decide +kernel
theorem dL_law_1082 : decode cL_law 1082 = .ok (.iload 4, 2) := by decide +kernel
theorem dL_law_1084 : decode cL_law 1084 = .ok (.iconst 1, 1) := by decide +kernel
theorem dL_law_1085 : decode cL_law 1085 = .ok (.iadd, 1) := by decide +kernel
theorem dL_law_1086 : decode cL_law 1086 = .ok (.iaload, 1) := by decide +kernel
theorem dL_law_1087 : decode cL_law 1087 = .ok (.aload_n 0, 1) := by decide +kernel
theorem dL_law_1088 : decode cL_law 1088 = .ok (.iload 4, 2) := by decide +kernel
theorem dL_law_1090 : decode cL_law 1090 = .ok (.iconst 2, 1) := by decide +kernel
theorem dL_law_1091 : decode cL_law 1091 = .ok (.iadd, 1) := by decide +kernel
theorem dL_law_1092 : decode cL_law 1092 = .ok (.iaload, 1) := by decide +kernel
theorem dL_law_1093 : decode cL_law 1093 = .ok (.aload_n 0, 1) := by decide +kernel
theorem dL_law_1094 : decode cL_law 1094 = .ok (.iload 4, 2) := by decide +kernel
theorem dL_law_1096 : decode cL_law 1096 = .ok (.iconst 3, 1) := by decide +kernel
theorem dL_law_1097 : decode cL_law 1097 = .ok (.iadd, 1) := by decide +kernel
theorem dL_law_1098 : decode cL_law 1098 = .ok (.iaload, 1) := by decide +kernel
theorem dL_law_1099 : decode cL_law 1099 = .ok (.invokevirtual 145, 3) := by decide +kernel
theorem dL_law_1102 : decode cL_law 1102 = .ok (.istore 6, 2) := by decide +kernel
theorem dL_law_1104 : decode cL_law 1104 = .ok (.aload_n 2, 1) := by decide +kernel
theorem dL_law_1105 : decode cL_law 1105 = .ok (.invokevirtual 87, 3) := by decide +kernel
theorem dL_law_1108 : decode cL_law 1108 = .ok (.iload 5, 2) := by decide +kernel
theorem dL_law_1110 : decode cL_law 1110 = .ok (.if_icmp .eq 5, 3) := by decide +kernel
theorem dL_law_1113 : decode cL_law 1113 = .ok (.iconst 0, 1) := by decide +kernel
theorem dL_law_1114 : decode cL_law 1114 = .ok (.ireturn, 1) := by decide +kernel
theorem dL_law_1115 : decode cL_law 1115 = .ok (.iload 5, 2) := by decide +kernel
theorem dL_law_1117 : decode cL_law 1117 = .ok (.ifCond .ne 15, 3) := by decide +kernel
theorem dL_law_1120 : decode cL_law 1120 = .ok (.aload_n 3, 1) := by decide +kernel
theorem dL_law_1121 : decode cL_law 1121 = .ok (.iconst 0, 1) := by decide +kernel
theorem dL_law_1122 : decode cL_law 1122 = .ok (.laload, 1) := by decide +kernel
theorem dL_law_1123 : decode cL_law 1123 = .ok (.iload 6, 2) := by decide +kernel
theorem dL_law_1125 : decode cL_law 1125 = .ok (.i2l, 1) := by decide +kernel
theorem dL_law_1126 : decode cL_law 1126 = .ok (.lcmp, 1) := by decide +kernel
theorem dL_law_1127 : decode cL_law 1127 = .ok (.ifCond .eq 5, 3) := by decide +kernel
theorem dL_law_1130 : decode cL_law 1130 = .ok (.iconst 0, 1) := by decide +kernel
theorem dL_law_1131 : decode cL_law 1131 = .ok (.ireturn, 1) := by decide +kernel
theorem dL_law_1132 : decode cL_law 1132 = .ok (.goto 399, 3) := by decide +kernel
theorem dL_law_1135 : decode cL_law 1135 = .ok (.aload_n 1, 1) := by decide +kernel
theorem dL_law_1136 : decode cL_law 1136 = .ok (.aload_n 0, 1) := by decide +kernel
theorem dL_law_1137 : decode cL_law 1137 = .ok (.iload 4, 2) := by decide +kernel
theorem dL_law_1139 : decode cL_law 1139 = .ok (.iconst 1, 1) := by decide +kernel
theorem dL_law_1140 : decode cL_law 1140 = .ok (.iadd, 1) := by decide +kernel
theorem dL_law_1141 : decode cL_law 1141 = .ok (.iaload, 1) := by decide +kernel
theorem dL_law_1142 : decode cL_law 1142 = .ok (.aload_n 0, 1) := by decide +kernel
theorem dL_law_1143 : decode cL_law 1143 = .ok (.iload 4, 2) := by decide +kernel
theorem dL_law_1145 : decode cL_law 1145 = .ok (.iconst 2, 1) := by decide +kernel
theorem dL_law_1146 : decode cL_law 1146 = .ok (.iadd, 1) := by decide +kernel
theorem dL_law_1147 : decode cL_law 1147 = .ok (.iaload, 1) := by decide +kernel
theorem dL_law_1148 : decode cL_law 1148 = .ok (.aload_n 3, 1) := by decide +kernel
theorem dL_law_1149 : decode cL_law 1149 = .ok (.invokestatic 146, 3) := by decide +kernel
theorem dL_law_1152 : decode cL_law 1152 = .ok (.istore 5, 2) := by decide +kernel
theorem dL_law_1154 : decode cL_law 1154 = .ok (.aload_n 2, 1) := by decide +kernel
theorem dL_law_1155 : decode cL_law 1155 = .ok (.aload_n 0, 1) := by decide +kernel
theorem dL_law_1156 : decode cL_law 1156 = .ok (.iload 4, 2) := by decide +kernel
theorem dL_law_1158 : decode cL_law 1158 = .ok (.iconst 1, 1) := by decide +kernel
theorem dL_law_1159 : decode cL_law 1159 = .ok (.iadd, 1) := by decide +kernel
theorem dL_law_1160 : decode cL_law 1160 = .ok (.iaload, 1) := by decide +kernel
theorem dL_law_1161 : decode cL_law 1161 = .ok (.aload_n 0, 1) := by decide +kernel
theorem dL_law_1162 : decode cL_law 1162 = .ok (.iload 4, 2) := by decide +kernel
theorem dL_law_1164 : decode cL_law 1164 = .ok (.iconst 2, 1) := by decide +kernel
theorem dL_law_1165 : decode cL_law 1165 = .ok (.iadd, 1) := by decide +kernel
theorem dL_law_1166 : decode cL_law 1166 = .ok (.iaload, 1) := by decide +kernel
theorem dL_law_1167 : decode cL_law 1167 = .ok (.invokevirtual 148, 3) := by decide +kernel
theorem dL_law_1170 : decode cL_law 1170 = .ok (.istore 6, 2) := by decide +kernel
theorem dL_law_1172 : decode cL_law 1172 = .ok (.aload_n 2, 1) := by decide +kernel
theorem dL_law_1173 : decode cL_law 1173 = .ok (.invokevirtual 87, 3) := by decide +kernel
theorem dL_law_1176 : decode cL_law 1176 = .ok (.iload 5, 2) := by decide +kernel
theorem dL_law_1178 : decode cL_law 1178 = .ok (.if_icmp .eq 5, 3) := by decide +kernel
theorem dL_law_1181 : decode cL_law 1181 = .ok (.iconst 0, 1) := by decide +kernel
theorem dL_law_1182 : decode cL_law 1182 = .ok (.ireturn, 1) := by decide +kernel
theorem dL_law_1183 : decode cL_law 1183 = .ok (.iload 5, 2) := by decide +kernel
theorem dL_law_1185 : decode cL_law 1185 = .ok (.ifCond .ne 15, 3) := by decide +kernel
theorem dL_law_1188 : decode cL_law 1188 = .ok (.aload_n 3, 1) := by decide +kernel
theorem dL_law_1189 : decode cL_law 1189 = .ok (.iconst 0, 1) := by decide +kernel
theorem dL_law_1190 : decode cL_law 1190 = .ok (.laload, 1) := by decide +kernel
theorem dL_law_1191 : decode cL_law 1191 = .ok (.iload 6, 2) := by decide +kernel
theorem dL_law_1193 : decode cL_law 1193 = .ok (.i2l, 1) := by decide +kernel
theorem dL_law_1194 : decode cL_law 1194 = .ok (.lcmp, 1) := by decide +kernel
theorem dL_law_1195 : decode cL_law 1195 = .ok (.ifCond .eq 5, 3) := by decide +kernel
theorem dL_law_1198 : decode cL_law 1198 = .ok (.iconst 0, 1) := by decide +kernel
theorem dL_law_1199 : decode cL_law 1199 = .ok (.ireturn, 1) := by decide +kernel
theorem dL_law_1200 : decode cL_law 1200 = .ok (.goto 331, 3) := by decide +kernel
theorem dL_law_1203 : decode cL_law 1203 = .ok (.aload_n 1, 1) := by decide +kernel
theorem dL_law_1204 : decode cL_law 1204 = .ok (.aload_n 0, 1) := by decide +kernel
theorem dL_law_1205 : decode cL_law 1205 = .ok (.iload 4, 2) := by decide +kernel
theorem dL_law_1207 : decode cL_law 1207 = .ok (.iconst 1, 1) := by decide +kernel
theorem dL_law_1208 : decode cL_law 1208 = .ok (.iadd, 1) := by decide +kernel
theorem dL_law_1209 : decode cL_law 1209 = .ok (.iaload, 1) := by decide +kernel
theorem dL_law_1210 : decode cL_law 1210 = .ok (.aload_n 0, 1) := by decide +kernel
theorem dL_law_1211 : decode cL_law 1211 = .ok (.iload 4, 2) := by decide +kernel
theorem dL_law_1213 : decode cL_law 1213 = .ok (.iconst 2, 1) := by decide +kernel
theorem dL_law_1214 : decode cL_law 1214 = .ok (.iadd, 1) := by decide +kernel
theorem dL_law_1215 : decode cL_law 1215 = .ok (.iaload, 1) := by decide +kernel
theorem dL_law_1216 : decode cL_law 1216 = .ok (.aload_n 3, 1) := by decide +kernel
theorem dL_law_1217 : decode cL_law 1217 = .ok (.invokestatic 149, 3) := by decide +kernel
theorem dL_law_1220 : decode cL_law 1220 = .ok (.istore 5, 2) := by decide +kernel
theorem dL_law_1222 : decode cL_law 1222 = .ok (.aload_n 2, 1) := by decide +kernel
theorem dL_law_1223 : decode cL_law 1223 = .ok (.aload_n 0, 1) := by decide +kernel
theorem dL_law_1224 : decode cL_law 1224 = .ok (.iload 4, 2) := by decide +kernel
theorem dL_law_1226 : decode cL_law 1226 = .ok (.iconst 1, 1) := by decide +kernel
theorem dL_law_1227 : decode cL_law 1227 = .ok (.iadd, 1) := by decide +kernel
theorem dL_law_1228 : decode cL_law 1228 = .ok (.iaload, 1) := by decide +kernel
theorem dL_law_1229 : decode cL_law 1229 = .ok (.aload_n 0, 1) := by decide +kernel
theorem dL_law_1230 : decode cL_law 1230 = .ok (.iload 4, 2) := by decide +kernel
theorem dL_law_1232 : decode cL_law 1232 = .ok (.iconst 2, 1) := by decide +kernel
theorem dL_law_1233 : decode cL_law 1233 = .ok (.iadd, 1) := by decide +kernel
theorem dL_law_1234 : decode cL_law 1234 = .ok (.iaload, 1) := by decide +kernel
theorem dL_law_1235 : decode cL_law 1235 = .ok (.invokevirtual 151, 3) := by decide +kernel
theorem dL_law_1238 : decode cL_law 1238 = .ok (.istore 6, 2) := by decide +kernel
theorem dL_law_1240 : decode cL_law 1240 = .ok (.aload_n 2, 1) := by decide +kernel
theorem dL_law_1241 : decode cL_law 1241 = .ok (.invokevirtual 87, 3) := by decide +kernel
theorem dL_law_1244 : decode cL_law 1244 = .ok (.iload 5, 2) := by decide +kernel
theorem dL_law_1246 : decode cL_law 1246 = .ok (.if_icmp .eq 5, 3) := by decide +kernel
theorem dL_law_1249 : decode cL_law 1249 = .ok (.iconst 0, 1) := by decide +kernel
theorem dL_law_1250 : decode cL_law 1250 = .ok (.ireturn, 1) := by decide +kernel
theorem dL_law_1251 : decode cL_law 1251 = .ok (.iload 5, 2) := by decide +kernel
theorem dL_law_1253 : decode cL_law 1253 = .ok (.ifCond .ne 15, 3) := by decide +kernel
theorem dL_law_1256 : decode cL_law 1256 = .ok (.aload_n 3, 1) := by decide +kernel
theorem dL_law_1257 : decode cL_law 1257 = .ok (.iconst 0, 1) := by decide +kernel
theorem dL_law_1258 : decode cL_law 1258 = .ok (.laload, 1) := by decide +kernel
theorem dL_law_1259 : decode cL_law 1259 = .ok (.iload 6, 2) := by decide +kernel
theorem dL_law_1261 : decode cL_law 1261 = .ok (.i2l, 1) := by decide +kernel
theorem dL_law_1262 : decode cL_law 1262 = .ok (.lcmp, 1) := by decide +kernel
theorem dL_law_1263 : decode cL_law 1263 = .ok (.ifCond .eq 5, 3) := by decide +kernel
theorem dL_law_1266 : decode cL_law 1266 = .ok (.iconst 0, 1) := by decide +kernel
theorem dL_law_1267 : decode cL_law 1267 = .ok (.ireturn, 1) := by decide +kernel
theorem dL_law_1268 : decode cL_law 1268 = .ok (.goto 263, 3) := by decide +kernel
theorem dL_law_1271 : decode cL_law 1271 = .ok (.aload_n 1, 1) := by decide +kernel
theorem dL_law_1272 : decode cL_law 1272 = .ok (.aload_n 0, 1) := by decide +kernel
theorem dL_law_1273 : decode cL_law 1273 = .ok (.iload 4, 2) := by decide +kernel
theorem dL_law_1275 : decode cL_law 1275 = .ok (.iconst 1, 1) := by decide +kernel
theorem dL_law_1276 : decode cL_law 1276 = .ok (.iadd, 1) := by decide +kernel
theorem dL_law_1277 : decode cL_law 1277 = .ok (.iaload, 1) := by decide +kernel
theorem dL_law_1278 : decode cL_law 1278 = .ok (.aload_n 0, 1) := by decide +kernel
theorem dL_law_1279 : decode cL_law 1279 = .ok (.iload 4, 2) := by decide +kernel
theorem dL_law_1281 : decode cL_law 1281 = .ok (.iconst 2, 1) := by decide +kernel
theorem dL_law_1282 : decode cL_law 1282 = .ok (.iadd, 1) := by decide +kernel
theorem dL_law_1283 : decode cL_law 1283 = .ok (.iaload, 1) := by decide +kernel
theorem dL_law_1284 : decode cL_law 1284 = .ok (.aload_n 0, 1) := by decide +kernel
theorem dL_law_1285 : decode cL_law 1285 = .ok (.iload 4, 2) := by decide +kernel
theorem dL_law_1287 : decode cL_law 1287 = .ok (.iconst 3, 1) := by decide +kernel
theorem dL_law_1288 : decode cL_law 1288 = .ok (.iadd, 1) := by decide +kernel
theorem dL_law_1289 : decode cL_law 1289 = .ok (.iaload, 1) := by decide +kernel
theorem dL_law_1290 : decode cL_law 1290 = .ok (.aload_n 3, 1) := by decide +kernel
theorem dL_law_1291 : decode cL_law 1291 = .ok (.invokestatic 152, 3) := by decide +kernel
theorem dL_law_1294 : decode cL_law 1294 = .ok (.istore 5, 2) := by decide +kernel
theorem dL_law_1296 : decode cL_law 1296 = .ok (.aload_n 2, 1) := by decide +kernel
theorem dL_law_1297 : decode cL_law 1297 = .ok (.aload_n 0, 1) := by decide +kernel
theorem dL_law_1298 : decode cL_law 1298 = .ok (.iload 4, 2) := by decide +kernel
theorem dL_law_1300 : decode cL_law 1300 = .ok (.iconst 1, 1) := by decide +kernel
theorem dL_law_1301 : decode cL_law 1301 = .ok (.iadd, 1) := by decide +kernel
theorem dL_law_1302 : decode cL_law 1302 = .ok (.iaload, 1) := by decide +kernel
theorem dL_law_1303 : decode cL_law 1303 = .ok (.aload_n 0, 1) := by decide +kernel
theorem dL_law_1304 : decode cL_law 1304 = .ok (.iload 4, 2) := by decide +kernel
theorem dL_law_1306 : decode cL_law 1306 = .ok (.iconst 2, 1) := by decide +kernel
theorem dL_law_1307 : decode cL_law 1307 = .ok (.iadd, 1) := by decide +kernel
theorem dL_law_1308 : decode cL_law 1308 = .ok (.iaload, 1) := by decide +kernel
theorem dL_law_1309 : decode cL_law 1309 = .ok (.aload_n 0, 1) := by decide +kernel
theorem dL_law_1310 : decode cL_law 1310 = .ok (.iload 4, 2) := by decide +kernel
theorem dL_law_1312 : decode cL_law 1312 = .ok (.iconst 3, 1) := by decide +kernel
theorem dL_law_1313 : decode cL_law 1313 = .ok (.iadd, 1) := by decide +kernel
theorem dL_law_1314 : decode cL_law 1314 = .ok (.iaload, 1) := by decide +kernel
theorem dL_law_1315 : decode cL_law 1315 = .ok (.invokevirtual 154, 3) := by decide +kernel
theorem dL_law_1318 : decode cL_law 1318 = .ok (.istore 6, 2) := by decide +kernel
theorem dL_law_1320 : decode cL_law 1320 = .ok (.aload_n 2, 1) := by decide +kernel
theorem dL_law_1321 : decode cL_law 1321 = .ok (.invokevirtual 87, 3) := by decide +kernel
theorem dL_law_1324 : decode cL_law 1324 = .ok (.iload 5, 2) := by decide +kernel
theorem dL_law_1326 : decode cL_law 1326 = .ok (.if_icmp .eq 5, 3) := by decide +kernel
theorem dL_law_1329 : decode cL_law 1329 = .ok (.iconst 0, 1) := by decide +kernel
theorem dL_law_1330 : decode cL_law 1330 = .ok (.ireturn, 1) := by decide +kernel
theorem dL_law_1331 : decode cL_law 1331 = .ok (.iload 5, 2) := by decide +kernel
theorem dL_law_1333 : decode cL_law 1333 = .ok (.ifCond .ne 15, 3) := by decide +kernel
theorem dL_law_1336 : decode cL_law 1336 = .ok (.aload_n 3, 1) := by decide +kernel
theorem dL_law_1337 : decode cL_law 1337 = .ok (.iconst 0, 1) := by decide +kernel
theorem dL_law_1338 : decode cL_law 1338 = .ok (.laload, 1) := by decide +kernel
theorem dL_law_1339 : decode cL_law 1339 = .ok (.iload 6, 2) := by decide +kernel
theorem dL_law_1341 : decode cL_law 1341 = .ok (.i2l, 1) := by decide +kernel
theorem dL_law_1342 : decode cL_law 1342 = .ok (.lcmp, 1) := by decide +kernel
theorem dL_law_1343 : decode cL_law 1343 = .ok (.ifCond .eq 5, 3) := by decide +kernel
theorem dL_law_1346 : decode cL_law 1346 = .ok (.iconst 0, 1) := by decide +kernel
theorem dL_law_1347 : decode cL_law 1347 = .ok (.ireturn, 1) := by decide +kernel
theorem dL_law_1348 : decode cL_law 1348 = .ok (.goto 183, 3) := by decide +kernel
theorem dL_law_1351 : decode cL_law 1351 = .ok (.aload_n 1, 1) := by decide +kernel
theorem dL_law_1352 : decode cL_law 1352 = .ok (.aload_n 0, 1) := by decide +kernel
theorem dL_law_1353 : decode cL_law 1353 = .ok (.iload 4, 2) := by decide +kernel
theorem dL_law_1355 : decode cL_law 1355 = .ok (.iconst 1, 1) := by decide +kernel
theorem dL_law_1356 : decode cL_law 1356 = .ok (.iadd, 1) := by decide +kernel
theorem dL_law_1357 : decode cL_law 1357 = .ok (.iaload, 1) := by decide +kernel
theorem dL_law_1358 : decode cL_law 1358 = .ok (.aload_n 3, 1) := by decide +kernel
theorem dL_law_1359 : decode cL_law 1359 = .ok (.invokestatic 155, 3) := by decide +kernel
theorem dL_law_1362 : decode cL_law 1362 = .ok (.istore 5, 2) := by decide +kernel
theorem dL_law_1364 : decode cL_law 1364 = .ok (.aload_n 2, 1) := by decide +kernel
theorem dL_law_1365 : decode cL_law 1365 = .ok (.aload_n 0, 1) := by decide +kernel
theorem dL_law_1366 : decode cL_law 1366 = .ok (.iload 4, 2) := by decide +kernel
theorem dL_law_1368 : decode cL_law 1368 = .ok (.iconst 1, 1) := by decide +kernel
theorem dL_law_1369 : decode cL_law 1369 = .ok (.iadd, 1) := by decide +kernel
theorem dL_law_1370 : decode cL_law 1370 = .ok (.iaload, 1) := by decide +kernel
theorem dL_law_1371 : decode cL_law 1371 = .ok (.invokevirtual 157, 3) := by decide +kernel
theorem dL_law_1374 : decode cL_law 1374 = .ok (.istore 6, 2) := by decide +kernel
theorem dL_law_1376 : decode cL_law 1376 = .ok (.aload_n 2, 1) := by decide +kernel
theorem dL_law_1377 : decode cL_law 1377 = .ok (.invokevirtual 87, 3) := by decide +kernel
theorem dL_law_1380 : decode cL_law 1380 = .ok (.iload 5, 2) := by decide +kernel
theorem dL_law_1382 : decode cL_law 1382 = .ok (.if_icmp .eq 5, 3) := by decide +kernel
theorem dL_law_1385 : decode cL_law 1385 = .ok (.iconst 0, 1) := by decide +kernel
theorem dL_law_1386 : decode cL_law 1386 = .ok (.ireturn, 1) := by decide +kernel
theorem dL_law_1387 : decode cL_law 1387 = .ok (.iload 5, 2) := by decide +kernel
theorem dL_law_1389 : decode cL_law 1389 = .ok (.ifCond .ne 15, 3) := by decide +kernel
theorem dL_law_1392 : decode cL_law 1392 = .ok (.aload_n 3, 1) := by decide +kernel
theorem dL_law_1393 : decode cL_law 1393 = .ok (.iconst 0, 1) := by decide +kernel
theorem dL_law_1394 : decode cL_law 1394 = .ok (.laload, 1) := by decide +kernel
theorem dL_law_1395 : decode cL_law 1395 = .ok (.iload 6, 2) := by decide +kernel
theorem dL_law_1397 : decode cL_law 1397 = .ok (.i2l, 1) := by decide +kernel
theorem dL_law_1398 : decode cL_law 1398 = .ok (.lcmp, 1) := by decide +kernel
theorem dL_law_1399 : decode cL_law 1399 = .ok (.ifCond .eq 5, 3) := by decide +kernel
theorem dL_law_1402 : decode cL_law 1402 = .ok (.iconst 0, 1) := by decide +kernel
theorem dL_law_1403 : decode cL_law 1403 = .ok (.ireturn, 1) := by decide +kernel
theorem dL_law_1404 : decode cL_law 1404 = .ok (.goto 127, 3) := by decide +kernel
theorem dL_law_1407 : decode cL_law 1407 = .ok (.aload_n 1, 1) := by decide +kernel
theorem dL_law_1408 : decode cL_law 1408 = .ok (.aload_n 0, 1) := by decide +kernel
theorem dL_law_1409 : decode cL_law 1409 = .ok (.iload 4, 2) := by decide +kernel
theorem dL_law_1411 : decode cL_law 1411 = .ok (.iconst 1, 1) := by decide +kernel
theorem dL_law_1412 : decode cL_law 1412 = .ok (.iadd, 1) := by decide +kernel
theorem dL_law_1413 : decode cL_law 1413 = .ok (.iaload, 1) := by decide +kernel
theorem dL_law_1414 : decode cL_law 1414 = .ok (.aload_n 3, 1) := by decide +kernel
theorem dL_law_1415 : decode cL_law 1415 = .ok (.invokestatic 158, 3) := by decide +kernel
theorem dL_law_1418 : decode cL_law 1418 = .ok (.istore 5, 2) := by decide +kernel
theorem dL_law_1420 : decode cL_law 1420 = .ok (.aload_n 2, 1) := by decide +kernel
theorem dL_law_1421 : decode cL_law 1421 = .ok (.aload_n 0, 1) := by decide +kernel
theorem dL_law_1422 : decode cL_law 1422 = .ok (.iload 4, 2) := by decide +kernel
theorem dL_law_1424 : decode cL_law 1424 = .ok (.iconst 1, 1) := by decide +kernel
theorem dL_law_1425 : decode cL_law 1425 = .ok (.iadd, 1) := by decide +kernel
theorem dL_law_1426 : decode cL_law 1426 = .ok (.iaload, 1) := by decide +kernel
theorem dL_law_1427 : decode cL_law 1427 = .ok (.invokevirtual 160, 3) := by decide +kernel
theorem dL_law_1430 : decode cL_law 1430 = .ok (.istore 6, 2) := by decide +kernel
theorem dL_law_1432 : decode cL_law 1432 = .ok (.aload_n 2, 1) := by decide +kernel
theorem dL_law_1433 : decode cL_law 1433 = .ok (.invokevirtual 87, 3) := by decide +kernel
theorem dL_law_1436 : decode cL_law 1436 = .ok (.iload 5, 2) := by decide +kernel
theorem dL_law_1438 : decode cL_law 1438 = .ok (.if_icmp .eq 5, 3) := by decide +kernel
theorem dL_law_1441 : decode cL_law 1441 = .ok (.iconst 0, 1) := by decide +kernel
theorem dL_law_1442 : decode cL_law 1442 = .ok (.ireturn, 1) := by decide +kernel
theorem dL_law_1443 : decode cL_law 1443 = .ok (.iload 5, 2) := by decide +kernel
theorem dL_law_1445 : decode cL_law 1445 = .ok (.ifCond .ne 15, 3) := by decide +kernel
theorem dL_law_1448 : decode cL_law 1448 = .ok (.aload_n 3, 1) := by decide +kernel
theorem dL_law_1449 : decode cL_law 1449 = .ok (.iconst 0, 1) := by decide +kernel
theorem dL_law_1450 : decode cL_law 1450 = .ok (.laload, 1) := by decide +kernel
theorem dL_law_1451 : decode cL_law 1451 = .ok (.iload 6, 2) := by decide +kernel
theorem dL_law_1453 : decode cL_law 1453 = .ok (.i2l, 1) := by decide +kernel
theorem dL_law_1454 : decode cL_law 1454 = .ok (.lcmp, 1) := by decide +kernel
theorem dL_law_1455 : decode cL_law 1455 = .ok (.ifCond .eq 5, 3) := by decide +kernel
theorem dL_law_1458 : decode cL_law 1458 = .ok (.iconst 0, 1) := by decide +kernel
theorem dL_law_1459 : decode cL_law 1459 = .ok (.ireturn, 1) := by decide +kernel
theorem dL_law_1460 : decode cL_law 1460 = .ok (.goto 71, 3) := by decide +kernel
theorem dL_law_1463 : decode cL_law 1463 = .ok (.aload_n 1, 1) := by decide +kernel
theorem dL_law_1464 : decode cL_law 1464 = .ok (.invokevirtual 161, 3) := by decide +kernel
theorem dL_law_1467 : decode cL_law 1467 = .ok (.aload_n 2, 1) := by decide +kernel
theorem dL_law_1468 : decode cL_law 1468 = .ok (.invokevirtual 164, 3) := by decide +kernel
theorem dL_law_1471 : decode cL_law 1471 = .ok (.if_icmp .eq 60, 3) := by decide +kernel
theorem dL_law_1474 : decode cL_law 1474 = .ok (.iconst 0, 1) := by decide +kernel
theorem dL_law_1475 : decode cL_law 1475 = .ok (.ireturn, 1) := by decide +kernel
theorem dL_law_1476 : decode cL_law 1476 = .ok (.aload_n 1, 1) := by decide +kernel
theorem dL_law_1477 : decode cL_law 1477 = .ok (.invokevirtual 165, 3) := by decide +kernel
theorem dL_law_1480 : decode cL_law 1480 = .ok (.dstore 5, 2) := by decide +kernel
theorem dL_law_1482 : decode cL_law 1482 = .ok (.aload_n 2, 1) := by decide +kernel
theorem dL_law_1483 : decode cL_law 1483 = .ok (.invokevirtual 169, 3) := by decide +kernel
theorem dL_law_1486 : decode cL_law 1486 = .ok (.dstore 7, 2) := by decide +kernel
theorem dL_law_1488 : decode cL_law 1488 = .ok (.dload 5, 2) := by decide +kernel
theorem dL_law_1490 : decode cL_law 1490 = .ok (.dload 7, 2) := by decide +kernel
theorem dL_law_1492 : decode cL_law 1492 = .ok (.dcmp .l, 1) := by decide +kernel
theorem dL_law_1493 : decode cL_law 1493 = .ok (.ifCond .eq 21, 3) := by decide +kernel
theorem dL_law_1496 : decode cL_law 1496 = .ok (.dload 5, 2) := by decide +kernel
theorem dL_law_1498 : decode cL_law 1498 = .ok (.dload 5, 2) := by decide +kernel
theorem dL_law_1500 : decode cL_law 1500 = .ok (.dcmp .l, 1) := by decide +kernel
theorem dL_law_1501 : decode cL_law 1501 = .ok (.ifCond .eq 11, 3) := by decide +kernel
theorem dL_law_1504 : decode cL_law 1504 = .ok (.dload 7, 2) := by decide +kernel
theorem dL_law_1506 : decode cL_law 1506 = .ok (.dload 7, 2) := by decide +kernel
theorem dL_law_1508 : decode cL_law 1508 = .ok (.dcmp .l, 1) := by decide +kernel
theorem dL_law_1509 : decode cL_law 1509 = .ok (.ifCond .ne 5, 3) := by decide +kernel
theorem dL_law_1512 : decode cL_law 1512 = .ok (.iconst 0, 1) := by decide +kernel
theorem dL_law_1513 : decode cL_law 1513 = .ok (.ireturn, 1) := by decide +kernel
theorem dL_law_1514 : decode cL_law 1514 = .ok (.goto 17, 3) := by decide +kernel
theorem dL_law_1517 : decode cL_law 1517 = .ok (.aload_n 1, 1) := by decide +kernel
theorem dL_law_1518 : decode cL_law 1518 = .ok (.invokevirtual 170, 3) := by decide +kernel
theorem dL_law_1521 : decode cL_law 1521 = .ok (.aload_n 2, 1) := by decide +kernel
theorem dL_law_1522 : decode cL_law 1522 = .ok (.invokevirtual 174, 3) := by decide +kernel
theorem dL_law_1525 : decode cL_law 1525 = .ok (.lcmp, 1) := by decide +kernel
theorem dL_law_1526 : decode cL_law 1526 = .ok (.ifCond .eq 5, 3) := by decide +kernel
theorem dL_law_1529 : decode cL_law 1529 = .ok (.iconst 0, 1) := by decide +kernel
theorem dL_law_1530 : decode cL_law 1530 = .ok (.ireturn, 1) := by decide +kernel
theorem dL_law_1531 : decode cL_law 1531 = .ok (.iinc 4 5, 3) := by decide +kernel
theorem dL_law_1534 : decode cL_law 1534 = .ok (.goto (-1511), 3) := by decide +kernel
theorem dL_law_1537 : decode cL_law 1537 = .ok (.iconst 1, 1) := by decide +kernel
theorem dL_law_1538 : decode cL_law 1538 = .ok (.ireturn, 1) := by decide +kernel
