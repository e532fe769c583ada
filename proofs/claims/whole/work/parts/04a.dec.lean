theorem dX0_init_0 : decode cX0_init 0 = .ok (.aload_n 0, 1) := by decide +kernel
theorem dX0_init_1 : decode cX0_init 1 = .ok (.invokespecial 3, 3) := by decide +kernel
theorem dX0_init_4 : decode cX0_init 4 = .ok (.aload_n 0, 1) := by decide +kernel
theorem dX0_init_5 : decode cX0_init 5 = .ok (.iconst (-1), 1) := by decide +kernel
theorem dX0_init_6 : decode cX0_init 6 = .ok (.putfield 9, 3) := by decide +kernel
theorem dX0_init_9 : decode cX0_init 9 = .ok (.aload_n 0, 1) := by decide +kernel
theorem dX0_init_10 : decode cX0_init 10 = .ok (.iconst (-1), 1) := by decide +kernel
theorem dX0_init_11 : decode cX0_init 11 = .ok (.putfield 15, 3) := by decide +kernel
theorem dX0_init_14 : decode cX0_init 14 = .ok (.return_, 1) := by decide +kernel
theorem dX0_reset_0 : decode cX0_reset 0 = .ok (.aload_n 0, 1) := by decide +kernel
theorem dX0_reset_1 : decode cX0_reset 1 = .ok (.iconst (-1), 1) := by decide +kernel
theorem dX0_reset_2 : decode cX0_reset 2 = .ok (.putfield 9, 3) := by decide +kernel
theorem dX0_reset_5 : decode cX0_reset 5 = .ok (.aload_n 0, 1) := by decide +kernel
theorem dX0_reset_6 : decode cX0_reset 6 = .ok (.iconst (-1), 1) := by decide +kernel
theorem dX0_reset_7 : decode cX0_reset 7 = .ok (.putfield 15, 3) := by decide +kernel
theorem dX0_reset_10 : decode cX0_reset 10 = .ok (.aload_n 0, 1) := by decide +kernel
theorem dX0_reset_11 : decode cX0_reset 11 = .ok (.iconst 0, 1) := by decide +kernel
theorem dX0_reset_12 : decode cX0_reset 12 = .ok (.putfield 18, 3) := by decide +kernel
theorem dX0_reset_15 : decode cX0_reset 15 = .ok (.aload_n 0, 1) := by decide +kernel
theorem dX0_reset_16 : decode cX0_reset 16 = .ok (.iconst 0, 1) := by decide +kernel
theorem dX0_reset_17 : decode cX0_reset 17 = .ok (.putfield 21, 3) := by decide +kernel
theorem dX0_reset_20 : decode cX0_reset 20 = .ok (.return_, 1) := by decide +kernel
theorem dX0_isMade_0 : decode cX0_isMade 0 = .ok (.aload_n 0, 1) := by decide +kernel
theorem dX0_isMade_1 : decode cX0_isMade 1 = .ok (.getfield 18, 3) := by decide +kernel
theorem dX0_isMade_4 : decode cX0_isMade 4 = .ok (.ifCond .le 7, 3) := by decide +kernel
theorem dX0_isMade_7 : decode cX0_isMade 7 = .ok (.iconst 1, 1) := by decide +kernel
theorem dX0_isMade_8 : decode cX0_isMade 8 = .ok (.goto 4, 3) := by decide +kernel
theorem dX0_isMade_11 : decode cX0_isMade 11 = .ok (.iconst 0, 1) := by decide +kernel
theorem dX0_isMade_12 : decode cX0_isMade 12 = .ok (.ireturn, 1) := by decide +kernel
theorem dX0_decide_0 : decode cX0_decide 0 = .ok (.aload_n 0, 1) := by decide +kernel
theorem dX0_decide_1 : decode cX0_decide 1 = .ok (.invokevirtual 25, 3) := by decide +kernel
theorem dX0_decide_4 : decode cX0_decide 4 = .ok (.ifCond .ne 16, 3) := by decide +kernel
theorem dX0_decide_7 : decode cX0_decide 7 = .ok (.aload_n 0, 1) := by decide +kernel
theorem dX0_decide_8 : decode cX0_decide 8 = .ok (.iload_n 1, 1) := by decide +kernel
theorem dX0_decide_9 : decode cX0_decide 9 = .ok (.putfield 9, 3) := by decide +kernel
theorem dX0_decide_12 : decode cX0_decide 12 = .ok (.aload_n 0, 1) := by decide +kernel
theorem dX0_decide_13 : decode cX0_decide 13 = .ok (.iload_n 2, 1) := by decide +kernel
theorem dX0_decide_14 : decode cX0_decide 14 = .ok (.putfield 15, 3) := by decide +kernel
theorem dX0_decide_17 : decode cX0_decide 17 = .ok (.goto 16, 3) := by decide +kernel
theorem dX0_decide_20 : decode cX0_decide 20 = .ok (.iload_n 2, 1) := by decide +kernel
theorem dX0_decide_21 : decode cX0_decide 21 = .ok (.aload_n 0, 1) := by decide +kernel
theorem dX0_decide_22 : decode cX0_decide 22 = .ok (.getfield 15, 3) := by decide +kernel
theorem dX0_decide_25 : decode cX0_decide 25 = .ok (.if_icmp .eq 8, 3) := by decide +kernel
theorem dX0_decide_28 : decode cX0_decide 28 = .ok (.aload_n 0, 1) := by decide +kernel
theorem dX0_decide_29 : decode cX0_decide 29 = .ok (.iconst 1, 1) := by decide +kernel
theorem dX0_decide_30 : decode cX0_decide 30 = .ok (.putfield 21, 3) := by decide +kernel
theorem dX0_decide_33 : decode cX0_decide 33 = .ok (.aload_n 0, 1) := by decide +kernel
theorem dX0_decide_34 : decode cX0_decide 34 = .ok (.dup, 1) := by decide +kernel
theorem dX0_decide_35 : decode cX0_decide 35 = .ok (.getfield 18, 3) := by decide +kernel
theorem dX0_decide_38 : decode cX0_decide 38 = .ok (.iconst 1, 1) := by decide +kernel
theorem dX0_decide_39 : decode cX0_decide 39 = .ok (.iadd, 1) := by decide +kernel
theorem dX0_decide_40 : decode cX0_decide 40 = .ok (.putfield 18, 3) := by decide +kernel
theorem dX0_decide_43 : decode cX0_decide 43 = .ok (.return_, 1) := by decide +kernel
theorem dX0_isHeldBy_0 : decode cX0_isHeldBy 0 = .ok (.aload_n 0, 1) := by decide +kernel
theorem dX0_isHeldBy_1 : decode cX0_isHeldBy 1 = .ok (.getfield 18, 3) := by decide +kernel
theorem dX0_isHeldBy_4 : decode cX0_isHeldBy 4 = .ok (.ifCond .le 23, 3) := by decide +kernel
theorem dX0_isHeldBy_7 : decode cX0_isHeldBy 7 = .ok (.iload_n 2, 1) := by decide +kernel
theorem dX0_isHeldBy_8 : decode cX0_isHeldBy 8 = .ok (.aload_n 0, 1) := by decide +kernel
theorem dX0_isHeldBy_9 : decode cX0_isHeldBy 9 = .ok (.getfield 15, 3) := by decide +kernel
theorem dX0_isHeldBy_12 : decode cX0_isHeldBy 12 = .ok (.if_icmp .ne 15, 3) := by decide +kernel
theorem dX0_isHeldBy_15 : decode cX0_isHeldBy 15 = .ok (.iload_n 1, 1) := by decide +kernel
theorem dX0_isHeldBy_16 : decode cX0_isHeldBy 16 = .ok (.aload_n 0, 1) := by decide +kernel
theorem dX0_isHeldBy_17 : decode cX0_isHeldBy 17 = .ok (.getfield 9, 3) := by decide +kernel
theorem dX0_isHeldBy_20 : decode cX0_isHeldBy 20 = .ok (.if_icmp .lt 7, 3) := by decide +kernel
theorem dX0_isHeldBy_23 : decode cX0_isHeldBy 23 = .ok (.iconst 1, 1) := by decide +kernel
theorem dX0_isHeldBy_24 : decode cX0_isHeldBy 24 = .ok (.goto 4, 3) := by decide +kernel
theorem dX0_isHeldBy_27 : decode cX0_isHeldBy 27 = .ok (.iconst 0, 1) := by decide +kernel
theorem dX0_isHeldBy_28 : decode cX0_isHeldBy 28 = .ok (.ireturn, 1) := by decide +kernel
theorem dX1_init_0 : decode cX1_init 0 = .ok (.aload_n 0, 1) := by decide +kernel
theorem dX1_init_1 : decode cX1_init 1 = .ok (.invokespecial 3, 3) := by decide +kernel
theorem dX1_init_4 : decode cX1_init 4 = .ok (.aload_n 0, 1) := by decide +kernel
theorem dX1_init_5 : decode cX1_init 5 = .ok (.iconst 4, 1) := by decide +kernel
theorem dX1_init_6 : decode cX1_init 6 = .ok (.newarray .int, 2) := by decide +kernel
theorem dX1_init_8 : decode cX1_init 8 = .ok (.putfield 9, 3) := by decide +kernel
theorem dX1_init_11 : decode cX1_init 11 = .ok (.aload_n 0, 1) := by decide +kernel
theorem dX1_init_12 : decode cX1_init 12 = .ok (.iconst 4, 1) := by decide +kernel
theorem dX1_init_13 : decode cX1_init 13 = .ok (.newarray .int, 2) := by decide +kernel
theorem dX1_init_15 : decode cX1_init 15 = .ok (.putfield 15, 3) := by decide +kernel
theorem dX1_init_18 : decode cX1_init 18 = .ok (.aload_n 0, 1) := by decide +kernel
theorem dX1_init_19 : decode cX1_init 19 = .ok (.getfield 15, 3) := by decide +kernel
theorem dX1_init_22 : decode cX1_init 22 = .ok (.iconst (-1), 1) := by decide +kernel
theorem dX1_init_23 : decode cX1_init 23 = .ok (.invokestatic 18, 3) := by decide +kernel
theorem dX1_init_26 : decode cX1_init 26 = .ok (.return_, 1) := by decide +kernel
theorem dX1_reset_0 : decode cX1_reset 0 = .ok (.aload_n 0, 1) := by decide +kernel
theorem dX1_reset_1 : decode cX1_reset 1 = .ok (.iconst 0, 1) := by decide +kernel
theorem dX1_reset_2 : decode cX1_reset 2 = .ok (.putfield 24, 3) := by decide +kernel
theorem dX1_reset_5 : decode cX1_reset 5 = .ok (.aload_n 0, 1) := by decide +kernel
theorem dX1_reset_6 : decode cX1_reset 6 = .ok (.getfield 9, 3) := by decide +kernel
theorem dX1_reset_9 : decode cX1_reset 9 = .ok (.iconst 0, 1) := by decide +kernel
theorem dX1_reset_10 : decode cX1_reset 10 = .ok (.invokestatic 18, 3) := by decide +kernel
theorem dX1_reset_13 : decode cX1_reset 13 = .ok (.aload_n 0, 1) := by decide +kernel
theorem dX1_reset_14 : decode cX1_reset 14 = .ok (.getfield 15, 3) := by decide +kernel
theorem dX1_reset_17 : decode cX1_reset 17 = .ok (.iconst (-1), 1) := by decide +kernel
theorem dX1_reset_18 : decode cX1_reset 18 = .ok (.invokestatic 18, 3) := by decide +kernel
theorem dX1_reset_21 : decode cX1_reset 21 = .ok (.return_, 1) := by decide +kernel
theorem dX1_copyFrom_0 : decode cX1_copyFrom 0 = .ok (.aload_n 0, 1) := by decide +kernel
theorem dX1_copyFrom_1 : decode cX1_copyFrom 1 = .ok (.aload_n 1, 1) := by decide +kernel
theorem dX1_copyFrom_2 : decode cX1_copyFrom 2 = .ok (.getfield 24, 3) := by decide +kernel
theorem dX1_copyFrom_5 : decode cX1_copyFrom 5 = .ok (.putfield 24, 3) := by decide +kernel
theorem dX1_copyFrom_8 : decode cX1_copyFrom 8 = .ok (.aload_n 1, 1) := by decide +kernel
theorem dX1_copyFrom_9 : decode cX1_copyFrom 9 = .ok (.getfield 9, 3) := by decide +kernel
theorem dX1_copyFrom_12 : decode cX1_copyFrom 12 = .ok (.iconst 0, 1) := by decide +kernel
theorem dX1_copyFrom_13 : decode cX1_copyFrom 13 = .ok (.aload_n 0, 1) := by decide +kernel
theorem dX1_copyFrom_14 : decode cX1_copyFrom 14 = .ok (.getfield 9, 3) := by decide +kernel
theorem dX1_copyFrom_17 : decode cX1_copyFrom 17 = .ok (.iconst 0, 1) := by decide +kernel
theorem dX1_copyFrom_18 : decode cX1_copyFrom 18 = .ok (.iconst 4, 1) := by decide +kernel
theorem dX1_copyFrom_19 : decode cX1_copyFrom 19 = .ok (.invokestatic 28, 3) := by decide +kernel
theorem dX1_copyFrom_22 : decode cX1_copyFrom 22 = .ok (.aload_n 1, 1) := by decide +kernel
theorem dX1_copyFrom_23 : decode cX1_copyFrom 23 = .ok (.getfield 15, 3) := by decide +kernel
theorem dX1_copyFrom_26 : decode cX1_copyFrom 26 = .ok (.iconst 0, 1) := by decide +kernel
theorem dX1_copyFrom_27 : decode cX1_copyFrom 27 = .ok (.aload_n 0, 1) := by decide +kernel
theorem dX1_copyFrom_28 : decode cX1_copyFrom 28 = .ok (.getfield 15, 3) := by decide +kernel
theorem dX1_copyFrom_31 : decode cX1_copyFrom 31 = .ok (.iconst 0, 1) := by decide +kernel
theorem dX1_copyFrom_32 : decode cX1_copyFrom 32 = .ok (.iconst 4, 1) := by decide +kernel
theorem dX1_copyFrom_33 : decode cX1_copyFrom 33 = .ok (.invokestatic 28, 3) := by decide +kernel
theorem dX1_copyFrom_36 : decode cX1_copyFrom 36 = .ok (.return_, 1) := by decide +kernel
theorem dX1_carryOut_0 : decode cX1_carryOut 0 = .ok (.aload_n 0, 1) := by decide +kernel
theorem dX1_carryOut_1 : decode cX1_carryOut 1 = .ok (.iload_n 2, 1) := by decide +kernel
theorem dX1_carryOut_2 : decode cX1_carryOut 2 = .ok (.putfield 24, 3) := by decide +kernel
theorem dX1_carryOut_5 : decode cX1_carryOut 5 = .ok (.iload_n 1, 1) := by decide +kernel
theorem dX1_carryOut_6 : decode cX1_carryOut 6 = .ok (.ifCond .lt 22, 3) := by decide +kernel
theorem dX1_carryOut_9 : decode cX1_carryOut 9 = .ok (.iload_n 1, 1) := by decide +kernel
theorem dX1_carryOut_10 : decode cX1_carryOut 10 = .ok (.iconst 4, 1) := by decide +kernel
theorem dX1_carryOut_11 : decode cX1_carryOut 11 = .ok (.if_icmp .ge 17, 3) := by decide +kernel
theorem dX1_carryOut_14 : decode cX1_carryOut 14 = .ok (.aload_n 0, 1) := by decide +kernel
theorem dX1_carryOut_15 : decode cX1_carryOut 15 = .ok (.getfield 9, 3) := by decide +kernel
theorem dX1_carryOut_18 : decode cX1_carryOut 18 = .ok (.iload_n 1, 1) := by decide +kernel
theorem dX1_carryOut_19 : decode cX1_carryOut 19 = .ok (.iload_n 2, 1) := by decide +kernel
theorem dX1_carryOut_20 : decode cX1_carryOut 20 = .ok (.iastore, 1) := by decide +kernel
theorem dX1_carryOut_21 : decode cX1_carryOut 21 = .ok (.aload_n 0, 1) := by decide +kernel
theorem dX1_carryOut_22 : decode cX1_carryOut 22 = .ok (.getfield 15, 3) := by decide +kernel
theorem dX1_carryOut_25 : decode cX1_carryOut 25 = .ok (.iload_n 1, 1) := by decide +kernel
theorem dX1_carryOut_26 : decode cX1_carryOut 26 = .ok (.iload_n 3, 1) := by decide +kernel
theorem dX1_carryOut_27 : decode cX1_carryOut 27 = .ok (.iastore, 1) := by decide +kernel
theorem dX1_carryOut_28 : decode cX1_carryOut 28 = .ok (.return_, 1) := by decide +kernel
theorem dX1_takeNewer_0 : decode cX1_takeNewer 0 = .ok (.iconst 0, 1) := by decide +kernel
theorem dX1_takeNewer_1 : decode cX1_takeNewer 1 = .ok (.istore_n 2, 1) := by decide +kernel
theorem dX1_takeNewer_2 : decode cX1_takeNewer 2 = .ok (.iload_n 2, 1) := by decide +kernel
theorem dX1_takeNewer_3 : decode cX1_takeNewer 3 = .ok (.iconst 4, 1) := by decide +kernel
theorem dX1_takeNewer_4 : decode cX1_takeNewer 4 = .ok (.if_icmp .ge 48, 3) := by decide +kernel
theorem dX1_takeNewer_7 : decode cX1_takeNewer 7 = .ok (.aload_n 1, 1) := by decide +kernel
theorem dX1_takeNewer_8 : decode cX1_takeNewer 8 = .ok (.getfield 9, 3) := by decide +kernel
theorem dX1_takeNewer_11 : decode cX1_takeNewer 11 = .ok (.iload_n 2, 1) := by decide +kernel
theorem dX1_takeNewer_12 : decode cX1_takeNewer 12 = .ok (.iaload, 1) := by decide +kernel
theorem dX1_takeNewer_13 : decode cX1_takeNewer 13 = .ok (.aload_n 0, 1) := by decide +kernel
theorem dX1_takeNewer_14 : decode cX1_takeNewer 14 = .ok (.getfield 9, 3) := by decide +kernel
theorem dX1_takeNewer_17 : decode cX1_takeNewer 17 = .ok (.iload_n 2, 1) := by decide +kernel
theorem dX1_takeNewer_18 : decode cX1_takeNewer 18 = .ok (.iaload, 1) := by decide +kernel
theorem dX1_takeNewer_19 : decode cX1_takeNewer 19 = .ok (.if_icmp .le 27, 3) := by decide +kernel
theorem dX1_takeNewer_22 : decode cX1_takeNewer 22 = .ok (.aload_n 0, 1) := by decide +kernel
theorem dX1_takeNewer_23 : decode cX1_takeNewer 23 = .ok (.getfield 9, 3) := by decide +kernel
theorem dX1_takeNewer_26 : decode cX1_takeNewer 26 = .ok (.iload_n 2, 1) := by decide +kernel
theorem dX1_takeNewer_27 : decode cX1_takeNewer 27 = .ok (.aload_n 1, 1) := by decide +kernel
theorem dX1_takeNewer_28 : decode cX1_takeNewer 28 = .ok (.getfield 9, 3) := by decide +kernel
theorem dX1_takeNewer_31 : decode cX1_takeNewer 31 = .ok (.iload_n 2, 1) := by decide +kernel
theorem dX1_takeNewer_32 : decode cX1_takeNewer 32 = .ok (.iaload, 1) := by decide +kernel
theorem dX1_takeNewer_33 : decode cX1_takeNewer 33 = .ok (.iastore, 1) := by decide +kernel
theorem dX1_takeNewer_34 : decode cX1_takeNewer 34 = .ok (.aload_n 0, 1) := by decide +kernel
theorem dX1_takeNewer_35 : decode cX1_takeNewer 35 = .ok (.getfield 15, 3) := by decide +kernel
theorem dX1_takeNewer_38 : decode cX1_takeNewer 38 = .ok (.iload_n 2, 1) := by decide +kernel
theorem dX1_takeNewer_39 : decode cX1_takeNewer 39 = .ok (.aload_n 1, 1) := by decide +kernel
theorem dX1_takeNewer_40 : decode cX1_takeNewer 40 = .ok (.getfield 15, 3) := by decide +kernel
theorem dX1_takeNewer_43 : decode cX1_takeNewer 43 = .ok (.iload_n 2, 1) := by decide +kernel
theorem dX1_takeNewer_44 : decode cX1_takeNewer 44 = .ok (.iaload, 1) := by decide +kernel
theorem dX1_takeNewer_45 : decode cX1_takeNewer 45 = .ok (.iastore, 1) := by decide +kernel
theorem dX1_takeNewer_46 : decode cX1_takeNewer 46 = .ok (.iinc 2 1, 3) := by decide +kernel
theorem dX1_takeNewer_49 : decode cX1_takeNewer 49 = .ok (.goto (-47), 3) := by decide +kernel
theorem dX1_takeNewer_52 : decode cX1_takeNewer 52 = .ok (.return_, 1) := by decide +kernel
theorem dX1_acceptedSlots_0 : decode cX1_acceptedSlots 0 = .ok (.iconst 0, 1) := by decide +kernel
theorem dX1_acceptedSlots_1 : decode cX1_acceptedSlots 1 = .ok (.istore_n 1, 1) := by decide +kernel
theorem dX1_acceptedSlots_2 : decode cX1_acceptedSlots 2 = .ok (.iconst 0, 1) := by decide +kernel
theorem dX1_acceptedSlots_3 : decode cX1_acceptedSlots 3 = .ok (.istore_n 2, 1) := by decide +kernel
theorem dX1_acceptedSlots_4 : decode cX1_acceptedSlots 4 = .ok (.iload_n 2, 1) := by decide +kernel
theorem dX1_acceptedSlots_5 : decode cX1_acceptedSlots 5 = .ok (.iconst 4, 1) := by decide +kernel
theorem dX1_acceptedSlots_6 : decode cX1_acceptedSlots 6 = .ok (.if_icmp .ge 30, 3) := by decide +kernel
theorem dX1_acceptedSlots_9 : decode cX1_acceptedSlots 9 = .ok (.iload_n 1, 1) := by decide +kernel
theorem dX1_acceptedSlots_10 : decode cX1_acceptedSlots 10 = .ok (.aload_n 0, 1) := by decide +kernel
theorem dX1_acceptedSlots_11 : decode cX1_acceptedSlots 11 = .ok (.getfield 15, 3) := by decide +kernel
theorem dX1_acceptedSlots_14 : decode cX1_acceptedSlots 14 = .ok (.iload_n 2, 1) := by decide +kernel
theorem dX1_acceptedSlots_15 : decode cX1_acceptedSlots 15 = .ok (.iaload, 1) := by decide +kernel
theorem dX1_acceptedSlots_16 : decode cX1_acceptedSlots 16 = .ok (.iconst (-1), 1) := by decide +kernel
theorem dX1_acceptedSlots_17 : decode cX1_acceptedSlots 17 = .ok (.if_icmp .eq 7, 3) := by decide +kernel
theorem dX1_acceptedSlots_20 : decode cX1_acceptedSlots 20 = .ok (.iconst 1, 1) := by decide +kernel
theorem dX1_acceptedSlots_21 : decode cX1_acceptedSlots 21 = .ok (.goto 4, 3) := by decide +kernel
theorem dX1_acceptedSlots_24 : decode cX1_acceptedSlots 24 = .ok (.iconst 0, 1) := by decide +kernel
theorem dX1_acceptedSlots_25 : decode cX1_acceptedSlots 25 = .ok (.invokestatic 34, 3) := by decide +kernel
theorem dX1_acceptedSlots_28 : decode cX1_acceptedSlots 28 = .ok (.iadd, 1) := by decide +kernel
theorem dX1_acceptedSlots_29 : decode cX1_acceptedSlots 29 = .ok (.istore_n 1, 1) := by decide +kernel
theorem dX1_acceptedSlots_30 : decode cX1_acceptedSlots 30 = .ok (.iinc 2 1, 3) := by decide +kernel
theorem dX1_acceptedSlots_33 : decode cX1_acceptedSlots 33 = .ok (.goto (-29), 3) := by decide +kernel
theorem dX1_acceptedSlots_36 : decode cX1_acceptedSlots 36 = .ok (.iload_n 1, 1) := by decide +kernel
theorem dX1_acceptedSlots_37 : decode cX1_acceptedSlots 37 = .ok (.ireturn, 1) := by decide +kernel
theorem dX2_init_0 : decode cX2_init 0 = .ok (.aload_n 0, 1) := by decide +kernel
theorem dX2_init_1 : decode cX2_init 1 = .ok (.invokespecial 3, 3) := by decide +kernel
theorem dX2_init_4 : decode cX2_init 4 = .ok (.return_, 1) := by decide +kernel
theorem dX2_reset_0 : decode cX2_reset 0 = .ok (.aload_n 0, 1) := by decide +kernel
theorem dX2_reset_1 : decode cX2_reset 1 = .ok (.iconst 0, 1) := by decide +kernel
theorem dX2_reset_2 : decode cX2_reset 2 = .ok (.putfield 11, 3) := by decide +kernel
theorem dX2_reset_5 : decode cX2_reset 5 = .ok (.return_, 1) := by decide +kernel
theorem dX2_isComplete_0 : decode cX2_isComplete 0 = .ok (.aload_n 0, 1) := by decide +kernel
theorem dX2_isComplete_1 : decode cX2_isComplete 1 = .ok (.getfield 11, 3) := by decide +kernel
theorem dX2_isComplete_4 : decode cX2_isComplete 4 = .ok (.bipush 11, 2) := by decide +kernel
theorem dX2_isComplete_6 : decode cX2_isComplete 6 = .ok (.if_icmp .eq 12, 3) := by decide +kernel
theorem dX2_isComplete_9 : decode cX2_isComplete 9 = .ok (.aload_n 0, 1) := by decide +kernel
theorem dX2_isComplete_10 : decode cX2_isComplete 10 = .ok (.getfield 11, 3) := by decide +kernel
theorem dX2_isComplete_13 : decode cX2_isComplete 13 = .ok (.bipush 8, 2) := by decide +kernel
theorem dX2_isComplete_15 : decode cX2_isComplete 15 = .ok (.if_icmp .ne 7, 3) := by decide +kernel
theorem dX2_isComplete_18 : decode cX2_isComplete 18 = .ok (.iconst 1, 1) := by decide +kernel
theorem dX2_isComplete_19 : decode cX2_isComplete 19 = .ok (.goto 4, 3) := by decide +kernel
theorem dX2_isComplete_22 : decode cX2_isComplete 22 = .ok (.iconst 0, 1) := by decide +kernel
theorem dX2_isComplete_23 : decode cX2_isComplete 23 = .ok (.ireturn, 1) := by decide +kernel
theorem dX2_takes_0 : decode cX2_takes 0 = .ok (.aload_n 0, 1) := by decide +kernel
theorem dX2_takes_1 : decode cX2_takes 1 = .ok (.getfield 11, 3) := by decide +kernel
theorem dX2_takes_4 : decode cX2_takes 4 = .ok (.tableswitch 302 0 10 #[60, 66, 97, 114, 142, 159, 189, 207, 217, 254, 272], 60) := by decide +kernel
theorem dX2_takes_64 : decode cX2_takes 64 = .ok (.aload_n 0, 1) := by decide +kernel
theorem dX2_takes_65 : decode cX2_takes 65 = .ok (.iload_n 1, 1) := by decide +kernel
theorem dX2_takes_66 : decode cX2_takes 66 = .ok (.invokevirtual 15, 3) := by decide +kernel
theorem dX2_takes_69 : decode cX2_takes 69 = .ok (.ireturn, 1) := by decide +kernel
theorem dX2_takes_70 : decode cX2_takes 70 = .ok (.aload_n 0, 1) := by decide +kernel
theorem dX2_takes_71 : decode cX2_takes 71 = .ok (.iload_n 1, 1) := by decide +kernel
theorem dX2_takes_72 : decode cX2_takes 72 = .ok (.iload_n 2, 1) := by decide +kernel
theorem dX2_takes_73 : decode cX2_takes 73 = .ok (.invokestatic 19, 3) := by decide +kernel
theorem dX2_takes_76 : decode cX2_takes 76 = .ok (.putfield 23, 3) := by decide +kernel
theorem dX2_takes_79 : decode cX2_takes 79 = .ok (.aload_n 0, 1) := by decide +kernel
theorem dX2_takes_80 : decode cX2_takes 80 = .ok (.aload_n 0, 1) := by decide +kernel
theorem dX2_takes_81 : decode cX2_takes 81 = .ok (.getfield 23, 3) := by decide +kernel
theorem dX2_takes_84 : decode cX2_takes 84 = .ok (.iconst (-1), 1) := by decide +kernel
theorem dX2_takes_85 : decode cX2_takes 85 = .ok (.if_icmp .eq 7, 3) := by decide +kernel
theorem dX2_takes_88 : decode cX2_takes 88 = .ok (.iconst 1, 1) := by decide +kernel
theorem dX2_takes_89 : decode cX2_takes 89 = .ok (.goto 4, 3) := by decide +kernel
theorem dX2_takes_92 : decode cX2_takes 92 = .ok (.iconst 0, 1) := by decide +kernel
theorem dX2_takes_93 : decode cX2_takes 93 = .ok (.aload_n 0, 1) := by decide +kernel
theorem dX2_takes_94 : decode cX2_takes 94 = .ok (.invokevirtual 26, 3) := by decide +kernel
theorem dX2_takes_97 : decode cX2_takes 97 = .ok (.invokevirtual 30, 3) := by decide +kernel
theorem dX2_takes_100 : decode cX2_takes 100 = .ok (.ireturn, 1) := by decide +kernel
theorem dX2_takes_101 : decode cX2_takes 101 = .ok (.aload_n 0, 1) := by decide +kernel
theorem dX2_takes_102 : decode cX2_takes 102 = .ok (.iload_n 1, 1) := by decide +kernel
theorem dX2_takes_103 : decode cX2_takes 103 = .ok (.bipush 115, 2) := by decide +kernel
theorem dX2_takes_105 : decode cX2_takes 105 = .ok (.if_icmp .ne 7, 3) := by decide +kernel
theorem dX2_takes_108 : decode cX2_takes 108 = .ok (.iconst 1, 1) := by decide +kernel
theorem dX2_takes_109 : decode cX2_takes 109 = .ok (.goto 4, 3) := by decide +kernel
theorem dX2_takes_112 : decode cX2_takes 112 = .ok (.iconst 0, 1) := by decide +kernel
theorem dX2_takes_113 : decode cX2_takes 113 = .ok (.iconst 3, 1) := by decide +kernel
theorem dX2_takes_114 : decode cX2_takes 114 = .ok (.invokevirtual 30, 3) := by decide +kernel
theorem dX2_takes_117 : decode cX2_takes 117 = .ok (.ireturn, 1) := by decide +kernel
theorem dX2_takes_118 : decode cX2_takes 118 = .ok (.aload_n 0, 1) := by decide +kernel
theorem dX2_takes_119 : decode cX2_takes 119 = .ok (.iload_n 1, 1) := by decide +kernel
theorem dX2_takes_120 : decode cX2_takes 120 = .ok (.iload_n 3, 1) := by decide +kernel
theorem dX2_takes_121 : decode cX2_takes 121 = .ok (.invokestatic 19, 3) := by decide +kernel
theorem dX2_takes_124 : decode cX2_takes 124 = .ok (.putfield 34, 3) := by decide +kernel
theorem dX2_takes_127 : decode cX2_takes 127 = .ok (.aload_n 0, 1) := by decide +kernel
theorem dX2_takes_128 : decode cX2_takes 128 = .ok (.aload_n 0, 1) := by decide +kernel
theorem dX2_takes_129 : decode cX2_takes 129 = .ok (.getfield 34, 3) := by decide +kernel
theorem dX2_takes_132 : decode cX2_takes 132 = .ok (.iconst (-1), 1) := by decide +kernel
theorem dX2_takes_133 : decode cX2_takes 133 = .ok (.if_icmp .eq 7, 3) := by decide +kernel
theorem dX2_takes_136 : decode cX2_takes 136 = .ok (.iconst 1, 1) := by decide +kernel
theorem dX2_takes_137 : decode cX2_takes 137 = .ok (.goto 4, 3) := by decide +kernel
theorem dX2_takes_140 : decode cX2_takes 140 = .ok (.iconst 0, 1) := by decide +kernel
theorem dX2_takes_141 : decode cX2_takes 141 = .ok (.iconst 4, 1) := by decide +kernel
theorem dX2_takes_142 : decode cX2_takes 142 = .ok (.invokevirtual 30, 3) := by decide +kernel
theorem dX2_takes_145 : decode cX2_takes 145 = .ok (.ireturn, 1) := by decide +kernel
theorem dX2_takes_146 : decode cX2_takes 146 = .ok (.aload_n 0, 1) := by decide +kernel
theorem dX2_takes_147 : decode cX2_takes 147 = .ok (.iload_n 1, 1) := by decide +kernel
theorem dX2_takes_148 : decode cX2_takes 148 = .ok (.bipush 61, 2) := by decide +kernel
theorem dX2_takes_150 : decode cX2_takes 150 = .ok (.if_icmp .ne 7, 3) := by decide +kernel
theorem dX2_takes_153 : decode cX2_takes 153 = .ok (.iconst 1, 1) := by decide +kernel
theorem dX2_takes_154 : decode cX2_takes 154 = .ok (.goto 4, 3) := by decide +kernel
theorem dX2_takes_157 : decode cX2_takes 157 = .ok (.iconst 0, 1) := by decide +kernel
theorem dX2_takes_158 : decode cX2_takes 158 = .ok (.iconst 5, 1) := by decide +kernel
theorem dX2_takes_159 : decode cX2_takes 159 = .ok (.invokevirtual 30, 3) := by decide +kernel
theorem dX2_takes_162 : decode cX2_takes 162 = .ok (.ireturn, 1) := by decide +kernel
theorem dX2_takes_163 : decode cX2_takes 163 = .ok (.aload_n 0, 1) := by decide +kernel
theorem dX2_takes_164 : decode cX2_takes 164 = .ok (.iload_n 1, 1) := by decide +kernel
theorem dX2_takes_165 : decode cX2_takes 165 = .ok (.bipush 10, 2) := by decide +kernel
theorem dX2_takes_167 : decode cX2_takes 167 = .ok (.invokestatic 19, 3) := by decide +kernel
theorem dX2_takes_170 : decode cX2_takes 170 = .ok (.putfield 37, 3) := by decide +kernel
theorem dX2_takes_173 : decode cX2_takes 173 = .ok (.aload_n 0, 1) := by decide +kernel
theorem dX2_takes_174 : decode cX2_takes 174 = .ok (.aload_n 0, 1) := by decide +kernel
theorem dX2_takes_175 : decode cX2_takes 175 = .ok (.getfield 37, 3) := by decide +kernel
theorem dX2_takes_178 : decode cX2_takes 178 = .ok (.iconst (-1), 1) := by decide +kernel
theorem dX2_takes_179 : decode cX2_takes 179 = .ok (.if_icmp .eq 7, 3) := by decide +kernel
theorem dX2_takes_182 : decode cX2_takes 182 = .ok (.iconst 1, 1) := by decide +kernel
theorem dX2_takes_183 : decode cX2_takes 183 = .ok (.goto 4, 3) := by decide +kernel
theorem dX2_takes_186 : decode cX2_takes 186 = .ok (.iconst 0, 1) := by decide +kernel
theorem dX2_takes_187 : decode cX2_takes 187 = .ok (.bipush 6, 2) := by decide +kernel
theorem dX2_takes_189 : decode cX2_takes 189 = .ok (.invokevirtual 30, 3) := by decide +kernel
theorem dX2_takes_192 : decode cX2_takes 192 = .ok (.ireturn, 1) := by decide +kernel
theorem dX2_takes_193 : decode cX2_takes 193 = .ok (.aload_n 0, 1) := by decide +kernel
theorem dX2_takes_194 : decode cX2_takes 194 = .ok (.iload_n 1, 1) := by decide +kernel
theorem dX2_takes_195 : decode cX2_takes 195 = .ok (.bipush 62, 2) := by decide +kernel
theorem dX2_takes_197 : decode cX2_takes 197 = .ok (.if_icmp .ne 7, 3) := by decide +kernel
theorem dX2_takes_200 : decode cX2_takes 200 = .ok (.iconst 1, 1) := by decide +kernel
theorem dX2_takes_201 : decode cX2_takes 201 = .ok (.goto 4, 3) := by decide +kernel
theorem dX2_takes_204 : decode cX2_takes 204 = .ok (.iconst 0, 1) := by decide +kernel
theorem dX2_takes_205 : decode cX2_takes 205 = .ok (.bipush 7, 2) := by decide +kernel
theorem dX2_takes_207 : decode cX2_takes 207 = .ok (.invokevirtual 30, 3) := by decide +kernel
theorem dX2_takes_210 : decode cX2_takes 210 = .ok (.ireturn, 1) := by decide +kernel
theorem dX2_takes_211 : decode cX2_takes 211 = .ok (.aload_n 0, 1) := by decide +kernel
theorem dX2_takes_212 : decode cX2_takes 212 = .ok (.iload_n 1, 1) := by decide +kernel
theorem dX2_takes_213 : decode cX2_takes 213 = .ok (.iload_n 2, 1) := by decide +kernel
theorem dX2_takes_214 : decode cX2_takes 214 = .ok (.invokestatic 19, 3) := by decide +kernel
theorem dX2_takes_217 : decode cX2_takes 217 = .ok (.invokevirtual 40, 3) := by decide +kernel
theorem dX2_takes_220 : decode cX2_takes 220 = .ok (.ireturn, 1) := by decide +kernel
theorem dX2_takes_221 : decode cX2_takes 221 = .ok (.aload_n 0, 1) := by decide +kernel
theorem dX2_takes_222 : decode cX2_takes 222 = .ok (.iload_n 1, 1) := by decide +kernel
theorem dX2_takes_223 : decode cX2_takes 223 = .ok (.bipush 59, 2) := by decide +kernel
theorem dX2_takes_225 : decode cX2_takes 225 = .ok (.if_icmp .ne 7, 3) := by decide +kernel
theorem dX2_takes_228 : decode cX2_takes 228 = .ok (.iconst 1, 1) := by decide +kernel
theorem dX2_takes_229 : decode cX2_takes 229 = .ok (.goto 4, 3) := by decide +kernel
theorem dX2_takes_232 : decode cX2_takes 232 = .ok (.iconst 0, 1) := by decide +kernel
theorem dX2_takes_233 : decode cX2_takes 233 = .ok (.iconst 0, 1) := by decide +kernel
theorem dX2_takes_234 : decode cX2_takes 234 = .ok (.invokevirtual 30, 3) := by decide +kernel
theorem dX2_takes_237 : decode cX2_takes 237 = .ok (.ifCond .ne 15, 3) := by decide +kernel
theorem dX2_takes_240 : decode cX2_takes 240 = .ok (.aload_n 0, 1) := by decide +kernel
theorem dX2_takes_241 : decode cX2_takes 241 = .ok (.iload_n 1, 1) := by decide +kernel
theorem dX2_takes_242 : decode cX2_takes 242 = .ok (.iload_n 2, 1) := by decide +kernel
theorem dX2_takes_243 : decode cX2_takes 243 = .ok (.invokestatic 19, 3) := by decide +kernel
theorem dX2_takes_246 : decode cX2_takes 246 = .ok (.invokevirtual 40, 3) := by decide +kernel
theorem dX2_takes_249 : decode cX2_takes 249 = .ok (.ifCond .eq 7, 3) := by decide +kernel
theorem dX2_takes_252 : decode cX2_takes 252 = .ok (.iconst 1, 1) := by decide +kernel
theorem dX2_takes_253 : decode cX2_takes 253 = .ok (.goto 4, 3) := by decide +kernel
theorem dX2_takes_256 : decode cX2_takes 256 = .ok (.iconst 0, 1) := by decide +kernel
theorem dX2_takes_257 : decode cX2_takes 257 = .ok (.ireturn, 1) := by decide +kernel
theorem dX2_takes_258 : decode cX2_takes 258 = .ok (.aload_n 0, 1) := by decide +kernel
theorem dX2_takes_259 : decode cX2_takes 259 = .ok (.iload_n 1, 1) := by decide +kernel
theorem dX2_takes_260 : decode cX2_takes 260 = .ok (.bipush 45, 2) := by decide +kernel
theorem dX2_takes_262 : decode cX2_takes 262 = .ok (.if_icmp .ne 7, 3) := by decide +kernel
theorem dX2_takes_265 : decode cX2_takes 265 = .ok (.iconst 1, 1) := by decide +kernel
theorem dX2_takes_266 : decode cX2_takes 266 = .ok (.goto 4, 3) := by decide +kernel
theorem dX2_takes_269 : decode cX2_takes 269 = .ok (.iconst 0, 1) := by decide +kernel
theorem dX2_takes_270 : decode cX2_takes 270 = .ok (.bipush 10, 2) := by decide +kernel
theorem dX2_takes_272 : decode cX2_takes 272 = .ok (.invokevirtual 30, 3) := by decide +kernel
theorem dX2_takes_275 : decode cX2_takes 275 = .ok (.ireturn, 1) := by decide +kernel
theorem dX2_takes_276 : decode cX2_takes 276 = .ok (.aload_n 0, 1) := by decide +kernel
theorem dX2_takes_277 : decode cX2_takes 277 = .ok (.iload_n 1, 1) := by decide +kernel
theorem dX2_takes_278 : decode cX2_takes 278 = .ok (.bipush 10, 2) := by decide +kernel
theorem dX2_takes_280 : decode cX2_takes 280 = .ok (.invokestatic 19, 3) := by decide +kernel
theorem dX2_takes_283 : decode cX2_takes 283 = .ok (.putfield 43, 3) := by decide +kernel
theorem dX2_takes_286 : decode cX2_takes 286 = .ok (.aload_n 0, 1) := by decide +kernel
theorem dX2_takes_287 : decode cX2_takes 287 = .ok (.aload_n 0, 1) := by decide +kernel
theorem dX2_takes_288 : decode cX2_takes 288 = .ok (.getfield 43, 3) := by decide +kernel
theorem dX2_takes_291 : decode cX2_takes 291 = .ok (.iconst (-1), 1) := by decide +kernel
theorem dX2_takes_292 : decode cX2_takes 292 = .ok (.if_icmp .eq 7, 3) := by decide +kernel
theorem dX2_takes_295 : decode cX2_takes 295 = .ok (.iconst 1, 1) := by decide +kernel
theorem dX2_takes_296 : decode cX2_takes 296 = .ok (.goto 4, 3) := by decide +kernel
theorem dX2_takes_299 : decode cX2_takes 299 = .ok (.iconst 0, 1) := by decide +kernel
theorem dX2_takes_300 : decode cX2_takes 300 = .ok (.bipush 11, 2) := by decide +kernel
theorem dX2_takes_302 : decode cX2_takes 302 = .ok (.invokevirtual 30, 3) := by decide +kernel
theorem dX2_takes_305 : decode cX2_takes 305 = .ok (.ireturn, 1) := by decide +kernel
theorem dX2_takes_306 : decode cX2_takes 306 = .ok (.aload_n 0, 1) := by decide +kernel
theorem dX2_takes_307 : decode cX2_takes 307 = .ok (.iload_n 1, 1) := by decide +kernel
theorem dX2_takes_308 : decode cX2_takes 308 = .ok (.bipush 59, 2) := by decide +kernel
theorem dX2_takes_310 : decode cX2_takes 310 = .ok (.if_icmp .ne 7, 3) := by decide +kernel
theorem dX2_takes_313 : decode cX2_takes 313 = .ok (.iconst 1, 1) := by decide +kernel
theorem dX2_takes_314 : decode cX2_takes 314 = .ok (.goto 4, 3) := by decide +kernel
theorem dX2_takes_317 : decode cX2_takes 317 = .ok (.iconst 0, 1) := by decide +kernel
theorem dX2_takes_318 : decode cX2_takes 318 = .ok (.iconst 0, 1) := by decide +kernel
theorem dX2_takes_319 : decode cX2_takes 319 = .ok (.invokevirtual 30, 3) := by decide +kernel
theorem dX2_takes_322 : decode cX2_takes 322 = .ok (.ireturn, 1) := by decide +kernel
theorem dX2_digit_0 : decode cX2_digit 0 = .ok (.iload_n 0, 1) := by decide +kernel
theorem dX2_digit_1 : decode cX2_digit 1 = .ok (.bipush 48, 2) := by decide +kernel
theorem dX2_digit_3 : decode cX2_digit 3 = .ok (.isub, 1) := by decide +kernel
theorem dX2_digit_4 : decode cX2_digit 4 = .ok (.istore_n 2, 1) := by decide +kernel
theorem dX2_digit_5 : decode cX2_digit 5 = .ok (.iload_n 2, 1) := by decide +kernel
theorem dX2_digit_6 : decode cX2_digit 6 = .ok (.ifCond .lt 12, 3) := by decide +kernel
theorem dX2_digit_9 : decode cX2_digit 9 = .ok (.iload_n 2, 1) := by decide +kernel
theorem dX2_digit_10 : decode cX2_digit 10 = .ok (.iload_n 1, 1) := by decide +kernel
theorem dX2_digit_11 : decode cX2_digit 11 = .ok (.if_icmp .ge 7, 3) := by decide +kernel
theorem dX2_digit_14 : decode cX2_digit 14 = .ok (.iload_n 2, 1) := by decide +kernel
theorem dX2_digit_15 : decode cX2_digit 15 = .ok (.goto 4, 3) := by decide +kernel
theorem dX2_digit_18 : decode cX2_digit 18 = .ok (.iconst (-1), 1) := by decide +kernel
theorem dX2_digit_19 : decode cX2_digit 19 = .ok (.ireturn, 1) := by decide +kernel
theorem dX2_goesOn_0 : decode cX2_goesOn 0 = .ok (.iload_n 1, 1) := by decide +kernel
theorem dX2_goesOn_1 : decode cX2_goesOn 1 = .ok (.ifCond .eq 8, 3) := by decide +kernel
theorem dX2_goesOn_4 : decode cX2_goesOn 4 = .ok (.aload_n 0, 1) := by decide +kernel
theorem dX2_goesOn_5 : decode cX2_goesOn 5 = .ok (.iload_n 2, 1) := by decide +kernel
theorem dX2_goesOn_6 : decode cX2_goesOn 6 = .ok (.putfield 11, 3) := by decide +kernel
theorem dX2_goesOn_9 : decode cX2_goesOn 9 = .ok (.iload_n 1, 1) := by decide +kernel
theorem dX2_goesOn_10 : decode cX2_goesOn 10 = .ok (.ireturn, 1) := by decide +kernel
theorem dX2_takesLetter_0 : decode cX2_takesLetter 0 = .ok (.aload_n 0, 1) := by decide +kernel
theorem dX2_takesLetter_1 : decode cX2_takesLetter 1 = .ok (.iload_n 1, 1) := by decide +kernel
theorem dX2_takesLetter_2 : decode cX2_takesLetter 2 = .ok (.putfield 46, 3) := by decide +kernel
theorem dX2_takesLetter_5 : decode cX2_takesLetter 5 = .ok (.aload_n 0, 1) := by decide +kernel
theorem dX2_takesLetter_6 : decode cX2_takesLetter 6 = .ok (.iconst 0, 1) := by decide +kernel
theorem dX2_takesLetter_7 : decode cX2_takesLetter 7 = .ok (.putfield 49, 3) := by decide +kernel
theorem dX2_takesLetter_10 : decode cX2_takesLetter 10 = .ok (.aload_n 0, 1) := by decide +kernel
theorem dX2_takesLetter_11 : decode cX2_takesLetter 11 = .ok (.iload_n 1, 1) := by decide +kernel
theorem dX2_takesLetter_12 : decode cX2_takesLetter 12 = .ok (.invokestatic 52, 3) := by decide +kernel
theorem dX2_takesLetter_15 : decode cX2_takesLetter 15 = .ok (.iconst 1, 1) := by decide +kernel
theorem dX2_takesLetter_16 : decode cX2_takesLetter 16 = .ok (.invokevirtual 30, 3) := by decide +kernel
theorem dX2_takesLetter_19 : decode cX2_takesLetter 19 = .ok (.ireturn, 1) := by decide +kernel
theorem dX2_isLetter_0 : decode cX2_isLetter 0 = .ok (.iload_n 0, 1) := by decide +kernel
theorem dX2_isLetter_1 : decode cX2_isLetter 1 = .ok (.tableswitch 109 97 119 #[107, 109, 107, 109, 109, 107, 109, 109, 109, 107, 109, 109, 109, 109, 109, 107, 109, 107, 109, 109, 109, 109, 107], 107) := by decide +kernel
theorem dX2_isLetter_108 : decode cX2_isLetter 108 = .ok (.iconst 1, 1) := by decide +kernel
theorem dX2_isLetter_109 : decode cX2_isLetter 109 = .ok (.ireturn, 1) := by decide +kernel
theorem dX2_isLetter_110 : decode cX2_isLetter 110 = .ok (.iconst 0, 1) := by decide +kernel
theorem dX2_isLetter_111 : decode cX2_isLetter 111 = .ok (.ireturn, 1) := by decide +kernel
theorem dX2_placeBehindNode_0 : decode cX2_placeBehindNode 0 = .ok (.aload_n 0, 1) := by decide +kernel
theorem dX2_placeBehindNode_1 : decode cX2_placeBehindNode 1 = .ok (.getfield 46, 3) := by decide +kernel
theorem dX2_placeBehindNode_4 : decode cX2_placeBehindNode 4 = .ok (.lookupswitch 52 #[(97, 47), (99, 49), (106, 44), (112, 44)], 44) := by decide +kernel
theorem dX2_placeBehindNode_48 : decode cX2_placeBehindNode 48 = .ok (.bipush 6, 2) := by decide +kernel
theorem dX2_placeBehindNode_50 : decode cX2_placeBehindNode 50 = .ok (.ireturn, 1) := by decide +kernel
theorem dX2_placeBehindNode_51 : decode cX2_placeBehindNode 51 = .ok (.iconst 2, 1) := by decide +kernel
theorem dX2_placeBehindNode_52 : decode cX2_placeBehindNode 52 = .ok (.ireturn, 1) := by decide +kernel
theorem dX2_placeBehindNode_53 : decode cX2_placeBehindNode 53 = .ok (.bipush 9, 2) := by decide +kernel
theorem dX2_placeBehindNode_55 : decode cX2_placeBehindNode 55 = .ok (.ireturn, 1) := by decide +kernel
theorem dX2_placeBehindNode_56 : decode cX2_placeBehindNode 56 = .ok (.bipush 11, 2) := by decide +kernel
theorem dX2_placeBehindNode_58 : decode cX2_placeBehindNode 58 = .ok (.ireturn, 1) := by decide +kernel
theorem dX2_takesReached_0 : decode cX2_takesReached 0 = .ok (.iload_n 1, 1) := by decide +kernel
theorem dX2_takesReached_1 : decode cX2_takesReached 1 = .ok (.iconst (-1), 1) := by decide +kernel
theorem dX2_takesReached_2 : decode cX2_takesReached 2 = .ok (.if_icmp .eq 12, 3) := by decide +kernel
theorem dX2_takesReached_5 : decode cX2_takesReached 5 = .ok (.aload_n 0, 1) := by decide +kernel
theorem dX2_takesReached_6 : decode cX2_takesReached 6 = .ok (.getfield 49, 3) := by decide +kernel
theorem dX2_takesReached_9 : decode cX2_takesReached 9 = .ok (.iload_n 1, 1) := by decide +kernel
theorem dX2_takesReached_10 : decode cX2_takesReached 10 = .ok (.ishr, 1) := by decide +kernel
theorem dX2_takesReached_11 : decode cX2_takesReached 11 = .ok (.ifCond .eq 5, 3) := by decide +kernel
theorem dX2_takesReached_14 : decode cX2_takesReached 14 = .ok (.iconst 0, 1) := by decide +kernel
theorem dX2_takesReached_15 : decode cX2_takesReached 15 = .ok (.ireturn, 1) := by decide +kernel
theorem dX2_takesReached_16 : decode cX2_takesReached 16 = .ok (.aload_n 0, 1) := by decide +kernel
theorem dX2_takesReached_17 : decode cX2_takesReached 17 = .ok (.dup, 1) := by decide +kernel
theorem dX2_takesReached_18 : decode cX2_takesReached 18 = .ok (.getfield 49, 3) := by decide +kernel
theorem dX2_takesReached_21 : decode cX2_takesReached 21 = .ok (.iconst 1, 1) := by decide +kernel
theorem dX2_takesReached_22 : decode cX2_takesReached 22 = .ok (.iload_n 1, 1) := by decide +kernel
theorem dX2_takesReached_23 : decode cX2_takesReached 23 = .ok (.ishl, 1) := by decide +kernel
theorem dX2_takesReached_24 : decode cX2_takesReached 24 = .ok (.ior, 1) := by decide +kernel
theorem dX2_takesReached_25 : decode cX2_takesReached 25 = .ok (.putfield 49, 3) := by decide +kernel
theorem dX2_takesReached_28 : decode cX2_takesReached 28 = .ok (.aload_n 0, 1) := by decide +kernel
theorem dX2_takesReached_29 : decode cX2_takesReached 29 = .ok (.bipush 8, 2) := by decide +kernel
theorem dX2_takesReached_31 : decode cX2_takesReached 31 = .ok (.putfield 11, 3) := by decide +kernel
theorem dX2_takesReached_34 : decode cX2_takesReached 34 = .ok (.iconst 1, 1) := by decide +kernel
theorem dX2_takesReached_35 : decode cX2_takesReached 35 = .ok (.ireturn, 1) := by decide +kernel
theorem dX3_init_0 : decode cX3_init 0 = .ok (.aload_n 0, 1) := by decide +kernel
theorem dX3_init_1 : decode cX3_init 1 = .ok (.invokespecial 3, 3) := by decide +kernel
theorem dX3_init_4 : decode cX3_init 4 = .ok (.aload_n 0, 1) := by decide +kernel
theorem dX3_init_5 : decode cX3_init 5 = .ok (.new 9, 3) := by decide +kernel
theorem dX3_init_8 : decode cX3_init 8 = .ok (.dup, 1) := by decide +kernel
theorem dX3_init_9 : decode cX3_init 9 = .ok (.invokespecial 11, 3) := by decide +kernel
theorem dX3_init_12 : decode cX3_init 12 = .ok (.putfield 12, 3) := by decide +kernel
theorem dX3_init_15 : decode cX3_init 15 = .ok (.aload_n 0, 1) := by decide +kernel
theorem dX3_init_16 : decode cX3_init 16 = .ok (.new 9, 3) := by decide +kernel
theorem dX3_init_19 : decode cX3_init 19 = .ok (.dup, 1) := by decide +kernel
theorem dX3_init_20 : decode cX3_init 20 = .ok (.invokespecial 11, 3) := by decide +kernel
theorem dX3_init_23 : decode cX3_init 23 = .ok (.putfield 18, 3) := by decide +kernel
theorem dX3_init_26 : decode cX3_init 26 = .ok (.aload_n 0, 1) := by decide +kernel
theorem dX3_init_27 : decode cX3_init 27 = .ok (.new 21, 3) := by decide +kernel
theorem dX3_init_30 : decode cX3_init 30 = .ok (.dup, 1) := by decide +kernel
theorem dX3_init_31 : decode cX3_init 31 = .ok (.invokespecial 23, 3) := by decide +kernel
theorem dX3_init_34 : decode cX3_init 34 = .ok (.putfield 24, 3) := by decide +kernel
theorem dX3_init_37 : decode cX3_init 37 = .ok (.aload_n 0, 1) := by decide +kernel
theorem dX3_init_38 : decode cX3_init 38 = .ok (.iconst 4, 1) := by decide +kernel
theorem dX3_init_39 : decode cX3_init 39 = .ok (.newarray .int, 2) := by decide +kernel
theorem dX3_init_41 : decode cX3_init 41 = .ok (.putfield 28, 3) := by decide +kernel
theorem dX3_init_44 : decode cX3_init 44 = .ok (.aload_n 0, 1) := by decide +kernel
theorem dX3_init_45 : decode cX3_init 45 = .ok (.iconst 1, 1) := by decide +kernel
theorem dX3_init_46 : decode cX3_init 46 = .ok (.putfield 32, 3) := by decide +kernel
theorem dX3_init_49 : decode cX3_init 49 = .ok (.aload_n 0, 1) := by decide +kernel
theorem dX3_init_50 : decode cX3_init 50 = .ok (.iconst 1, 1) := by decide +kernel
theorem dX3_init_51 : decode cX3_init 51 = .ok (.putfield 36, 3) := by decide +kernel
theorem dX3_init_54 : decode cX3_init 54 = .ok (.aload_n 0, 1) := by decide +kernel
theorem dX3_init_55 : decode cX3_init 55 = .ok (.iconst (-1), 1) := by decide +kernel
theorem dX3_init_56 : decode cX3_init 56 = .ok (.putfield 39, 3) := by decide +kernel
theorem dX3_init_59 : decode cX3_init 59 = .ok (.aload_n 0, 1) := by decide +kernel
theorem dX3_init_60 : decode cX3_init 60 = .ok (.iload_n 1, 1) := by decide +kernel
theorem dX3_init_61 : decode cX3_init 61 = .ok (.putfield 43, 3) := by decide +kernel
theorem dX3_init_64 : decode cX3_init 64 = .ok (.return_, 1) := by decide +kernel
theorem dX3_reset_0 : decode cX3_reset 0 = .ok (.aload_n 0, 1) := by decide +kernel
theorem dX3_reset_1 : decode cX3_reset 1 = .ok (.getfield 12, 3) := by decide +kernel
theorem dX3_reset_4 : decode cX3_reset 4 = .ok (.invokevirtual 46, 3) := by decide +kernel
theorem dX3_reset_7 : decode cX3_reset 7 = .ok (.aload_n 0, 1) := by decide +kernel
theorem dX3_reset_8 : decode cX3_reset 8 = .ok (.getfield 18, 3) := by decide +kernel
theorem dX3_reset_11 : decode cX3_reset 11 = .ok (.invokevirtual 46, 3) := by decide +kernel
theorem dX3_reset_14 : decode cX3_reset 14 = .ok (.aload_n 0, 1) := by decide +kernel
theorem dX3_reset_15 : decode cX3_reset 15 = .ok (.getfield 24, 3) := by decide +kernel
theorem dX3_reset_18 : decode cX3_reset 18 = .ok (.iconst 0, 1) := by decide +kernel
theorem dX3_reset_19 : decode cX3_reset 19 = .ok (.putfield 49, 3) := by decide +kernel
theorem dX3_reset_22 : decode cX3_reset 22 = .ok (.aload_n 0, 1) := by decide +kernel
theorem dX3_reset_23 : decode cX3_reset 23 = .ok (.iconst 1, 1) := by decide +kernel
theorem dX3_reset_24 : decode cX3_reset 24 = .ok (.putfield 32, 3) := by decide +kernel
theorem dX3_reset_27 : decode cX3_reset 27 = .ok (.aload_n 0, 1) := by decide +kernel
theorem dX3_reset_28 : decode cX3_reset 28 = .ok (.iconst 1, 1) := by decide +kernel
theorem dX3_reset_29 : decode cX3_reset 29 = .ok (.putfield 36, 3) := by decide +kernel
theorem dX3_reset_32 : decode cX3_reset 32 = .ok (.aload_n 0, 1) := by decide +kernel
theorem dX3_reset_33 : decode cX3_reset 33 = .ok (.iconst 0, 1) := by decide +kernel
theorem dX3_reset_34 : decode cX3_reset 34 = .ok (.putfield 52, 3) := by decide +kernel
theorem dX3_reset_37 : decode cX3_reset 37 = .ok (.aload_n 0, 1) := by decide +kernel
theorem dX3_reset_38 : decode cX3_reset 38 = .ok (.iconst 0, 1) := by decide +kernel
theorem dX3_reset_39 : decode cX3_reset 39 = .ok (.putfield 55, 3) := by decide +kernel
theorem dX3_reset_42 : decode cX3_reset 42 = .ok (.aload_n 0, 1) := by decide +kernel
theorem dX3_reset_43 : decode cX3_reset 43 = .ok (.iconst (-1), 1) := by decide +kernel
theorem dX3_reset_44 : decode cX3_reset 44 = .ok (.putfield 39, 3) := by decide +kernel
theorem dX3_reset_47 : decode cX3_reset 47 = .ok (.return_, 1) := by decide +kernel
theorem dX3_takesPart_0 : decode cX3_takesPart 0 = .ok (.aload_n 0, 1) := by decide +kernel
theorem dX3_takesPart_1 : decode cX3_takesPart 1 = .ok (.getfield 32, 3) := by decide +kernel
theorem dX3_takesPart_4 : decode cX3_takesPart 4 = .ok (.ifCond .eq 14, 3) := by decide +kernel
theorem dX3_takesPart_7 : decode cX3_takesPart 7 = .ok (.aload_n 0, 1) := by decide +kernel
theorem dX3_takesPart_8 : decode cX3_takesPart 8 = .ok (.getfield 36, 3) := by decide +kernel
theorem dX3_takesPart_11 : decode cX3_takesPart 11 = .ok (.ifCond .eq 7, 3) := by decide +kernel
theorem dX3_takesPart_14 : decode cX3_takesPart 14 = .ok (.iconst 1, 1) := by decide +kernel
theorem dX3_takesPart_15 : decode cX3_takesPart 15 = .ok (.goto 4, 3) := by decide +kernel
theorem dX3_takesPart_18 : decode cX3_takesPart 18 = .ok (.iconst 0, 1) := by decide +kernel
theorem dX3_takesPart_19 : decode cX3_takesPart 19 = .ok (.ireturn, 1) := by decide +kernel
theorem dX3_canRejoin_0 : decode cX3_canRejoin 0 = .ok (.aload_n 0, 1) := by decide +kernel
theorem dX3_canRejoin_1 : decode cX3_canRejoin 1 = .ok (.getfield 32, 3) := by decide +kernel
theorem dX3_canRejoin_4 : decode cX3_canRejoin 4 = .ok (.ifCond .eq 14, 3) := by decide +kernel
theorem dX3_canRejoin_7 : decode cX3_canRejoin 7 = .ok (.aload_n 0, 1) := by decide +kernel
theorem dX3_canRejoin_8 : decode cX3_canRejoin 8 = .ok (.getfield 36, 3) := by decide +kernel
theorem dX3_canRejoin_11 : decode cX3_canRejoin 11 = .ok (.ifCond .ne 7, 3) := by decide +kernel
theorem dX3_canRejoin_14 : decode cX3_canRejoin 14 = .ok (.iconst 1, 1) := by decide +kernel
theorem dX3_canRejoin_15 : decode cX3_canRejoin 15 = .ok (.goto 4, 3) := by decide +kernel
theorem dX3_canRejoin_18 : decode cX3_canRejoin 18 = .ok (.iconst 0, 1) := by decide +kernel
theorem dX3_canRejoin_19 : decode cX3_canRejoin 19 = .ok (.ireturn, 1) := by decide +kernel
theorem dX3_hasRound_0 : decode cX3_hasRound 0 = .ok (.aload_n 0, 1) := by decide +kernel
theorem dX3_hasRound_1 : decode cX3_hasRound 1 = .ok (.getfield 39, 3) := by decide +kernel
theorem dX3_hasRound_4 : decode cX3_hasRound 4 = .ok (.iconst (-1), 1) := by decide +kernel
theorem dX3_hasRound_5 : decode cX3_hasRound 5 = .ok (.if_icmp .eq 7, 3) := by decide +kernel
theorem dX3_hasRound_8 : decode cX3_hasRound 8 = .ok (.iconst 1, 1) := by decide +kernel
theorem dX3_hasRound_9 : decode cX3_hasRound 9 = .ok (.goto 4, 3) := by decide +kernel
theorem dX3_hasRound_12 : decode cX3_hasRound 12 = .ok (.iconst 0, 1) := by decide +kernel
theorem dX3_hasRound_13 : decode cX3_hasRound 13 = .ok (.ireturn, 1) := by decide +kernel
theorem dX3_nextBallot_0 : decode cX3_nextBallot 0 = .ok (.aload_n 0, 1) := by decide +kernel
theorem dX3_nextBallot_1 : decode cX3_nextBallot 1 = .ok (.getfield 55, 3) := by decide +kernel
theorem dX3_nextBallot_4 : decode cX3_nextBallot 4 = .ok (.aload_n 0, 1) := by decide +kernel
theorem dX3_nextBallot_5 : decode cX3_nextBallot 5 = .ok (.getfield 18, 3) := by decide +kernel
theorem dX3_nextBallot_8 : decode cX3_nextBallot 8 = .ok (.getfield 58, 3) := by decide +kernel
theorem dX3_nextBallot_11 : decode cX3_nextBallot 11 = .ok (.invokestatic 61, 3) := by decide +kernel
theorem dX3_nextBallot_14 : decode cX3_nextBallot 14 = .ok (.istore_n 1, 1) := by decide +kernel
theorem dX3_nextBallot_15 : decode cX3_nextBallot 15 = .ok (.iload_n 1, 1) := by decide +kernel
theorem dX3_nextBallot_16 : decode cX3_nextBallot 16 = .ok (.aload_n 0, 1) := by decide +kernel
theorem dX3_nextBallot_17 : decode cX3_nextBallot 17 = .ok (.getfield 43, 3) := by decide +kernel
theorem dX3_nextBallot_20 : decode cX3_nextBallot 20 = .ok (.isub, 1) := by decide +kernel
theorem dX3_nextBallot_21 : decode cX3_nextBallot 21 = .ok (.bipush 8, 2) := by decide +kernel
theorem dX3_nextBallot_23 : decode cX3_nextBallot 23 = .ok (.invokestatic 67, 3) := by decide +kernel
theorem dX3_nextBallot_26 : decode cX3_nextBallot 26 = .ok (.iconst 1, 1) := by decide +kernel
theorem dX3_nextBallot_27 : decode cX3_nextBallot 27 = .ok (.iadd, 1) := by decide +kernel
theorem dX3_nextBallot_28 : decode cX3_nextBallot 28 = .ok (.istore_n 2, 1) := by decide +kernel
theorem dX3_nextBallot_29 : decode cX3_nextBallot 29 = .ok (.bipush 8, 2) := by decide +kernel
theorem dX3_nextBallot_31 : decode cX3_nextBallot 31 = .ok (.iload_n 2, 1) := by decide +kernel
theorem dX3_nextBallot_32 : decode cX3_nextBallot 32 = .ok (.iconst 1, 1) := by decide +kernel
theorem dX3_nextBallot_33 : decode cX3_nextBallot 33 = .ok (.invokestatic 61, 3) := by decide +kernel
theorem dX3_nextBallot_36 : decode cX3_nextBallot 36 = .ok (.imul, 1) := by decide +kernel
theorem dX3_nextBallot_37 : decode cX3_nextBallot 37 = .ok (.aload_n 0, 1) := by decide +kernel
theorem dX3_nextBallot_38 : decode cX3_nextBallot 38 = .ok (.getfield 43, 3) := by decide +kernel
theorem dX3_nextBallot_41 : decode cX3_nextBallot 41 = .ok (.iadd, 1) := by decide +kernel
theorem dX3_nextBallot_42 : decode cX3_nextBallot 42 = .ok (.ireturn, 1) := by decide +kernel
theorem dX3_tell_0 : decode cX3_tell 0 = .ok (.aload_n 0, 1) := by decide +kernel
theorem dX3_tell_1 : decode cX3_tell 1 = .ok (.aload_n 0, 1) := by decide +kernel
theorem dX3_tell_2 : decode cX3_tell 2 = .ok (.getfield 55, 3) := by decide +kernel
theorem dX3_tell_5 : decode cX3_tell 5 = .ok (.iload_n 1, 1) := by decide +kernel
theorem dX3_tell_6 : decode cX3_tell 6 = .ok (.invokestatic 61, 3) := by decide +kernel
theorem dX3_tell_9 : decode cX3_tell 9 = .ok (.putfield 55, 3) := by decide +kernel
theorem dX3_tell_12 : decode cX3_tell 12 = .ok (.return_, 1) := by decide +kernel
theorem dX3_openRound_0 : decode cX3_openRound 0 = .ok (.aload_n 0, 1) := by decide +kernel
theorem dX3_openRound_1 : decode cX3_openRound 1 = .ok (.iload_n 1, 1) := by decide +kernel
theorem dX3_openRound_2 : decode cX3_openRound 2 = .ok (.putfield 39, 3) := by decide +kernel
theorem dX3_openRound_5 : decode cX3_openRound 5 = .ok (.aload_n 2, 1) := by decide +kernel
theorem dX3_openRound_6 : decode cX3_openRound 6 = .ok (.iconst 0, 1) := by decide +kernel
theorem dX3_openRound_7 : decode cX3_openRound 7 = .ok (.aload_n 0, 1) := by decide +kernel
theorem dX3_openRound_8 : decode cX3_openRound 8 = .ok (.getfield 28, 3) := by decide +kernel
theorem dX3_openRound_11 : decode cX3_openRound 11 = .ok (.iconst 0, 1) := by decide +kernel
theorem dX3_openRound_12 : decode cX3_openRound 12 = .ok (.iconst 4, 1) := by decide +kernel
theorem dX3_openRound_13 : decode cX3_openRound 13 = .ok (.invokestatic 70, 3) := by decide +kernel
theorem dX3_openRound_16 : decode cX3_openRound 16 = .ok (.return_, 1) := by decide +kernel
theorem dX3_write_0 : decode cX3_write 0 = .ok (.aload_n 0, 1) := by decide +kernel
theorem dX3_write_1 : decode cX3_write 1 = .ok (.getfield 24, 3) := by decide +kernel
theorem dX3_write_4 : decode cX3_write 4 = .ok (.iload_n 1, 1) := by decide +kernel
theorem dX3_write_5 : decode cX3_write 5 = .ok (.iload_n 2, 1) := by decide +kernel
theorem dX3_write_6 : decode cX3_write 6 = .ok (.iload_n 3, 1) := by decide +kernel
theorem dX3_write_7 : decode cX3_write 7 = .ok (.invokevirtual 76, 3) := by decide +kernel
theorem dX3_write_10 : decode cX3_write 10 = .ok (.aload_n 0, 1) := by decide +kernel
theorem dX3_write_11 : decode cX3_write 11 = .ok (.getfield 18, 3) := by decide +kernel
theorem dX3_write_14 : decode cX3_write 14 = .ok (.iload_n 1, 1) := by decide +kernel
theorem dX3_write_15 : decode cX3_write 15 = .ok (.iload_n 2, 1) := by decide +kernel
theorem dX3_write_16 : decode cX3_write 16 = .ok (.iload_n 3, 1) := by decide +kernel
theorem dX3_write_17 : decode cX3_write 17 = .ok (.invokevirtual 80, 3) := by decide +kernel
theorem dX3_write_20 : decode cX3_write 20 = .ok (.return_, 1) := by decide +kernel
theorem dX3_carryOutAll_0 : decode cX3_carryOutAll 0 = .ok (.aload_n 0, 1) := by decide +kernel
theorem dX3_carryOutAll_1 : decode cX3_carryOutAll 1 = .ok (.getfield 24, 3) := by decide +kernel
theorem dX3_carryOutAll_4 : decode cX3_carryOutAll 4 = .ok (.getfield 49, 3) := by decide +kernel
theorem dX3_carryOutAll_7 : decode cX3_carryOutAll 7 = .ok (.istore_n 1, 1) := by decide +kernel
theorem dX3_carryOutAll_8 : decode cX3_carryOutAll 8 = .ok (.aload_n 0, 1) := by decide +kernel
theorem dX3_carryOutAll_9 : decode cX3_carryOutAll 9 = .ok (.getfield 24, 3) := by decide +kernel
theorem dX3_carryOutAll_12 : decode cX3_carryOutAll 12 = .ok (.aload_n 0, 1) := by decide +kernel
theorem dX3_carryOutAll_13 : decode cX3_carryOutAll 13 = .ok (.getfield 12, 3) := by decide +kernel
theorem dX3_carryOutAll_16 : decode cX3_carryOutAll 16 = .ok (.iload_n 1, 1) := by decide +kernel
theorem dX3_carryOutAll_17 : decode cX3_carryOutAll 17 = .ok (.invokevirtual 83, 3) := by decide +kernel
theorem dX3_carryOutAll_20 : decode cX3_carryOutAll 20 = .ok (.aload_n 0, 1) := by decide +kernel
theorem dX3_carryOutAll_21 : decode cX3_carryOutAll 21 = .ok (.getfield 24, 3) := by decide +kernel
theorem dX3_carryOutAll_24 : decode cX3_carryOutAll 24 = .ok (.iconst 0, 1) := by decide +kernel
theorem dX3_carryOutAll_25 : decode cX3_carryOutAll 25 = .ok (.putfield 49, 3) := by decide +kernel
theorem dX3_carryOutAll_28 : decode cX3_carryOutAll 28 = .ok (.iload_n 1, 1) := by decide +kernel
theorem dX3_carryOutAll_29 : decode cX3_carryOutAll 29 = .ok (.ireturn, 1) := by decide +kernel
theorem dX3_fall_0 : decode cX3_fall 0 = .ok (.aload_n 0, 1) := by decide +kernel
theorem dX3_fall_1 : decode cX3_fall 1 = .ok (.getfield 24, 3) := by decide +kernel
theorem dX3_fall_4 : decode cX3_fall 4 = .ok (.getfield 49, 3) := by decide +kernel
theorem dX3_fall_7 : decode cX3_fall 7 = .ok (.istore_n 2, 1) := by decide +kernel
theorem dX3_fall_8 : decode cX3_fall 8 = .ok (.aload_n 0, 1) := by decide +kernel
theorem dX3_fall_9 : decode cX3_fall 9 = .ok (.getfield 24, 3) := by decide +kernel
theorem dX3_fall_12 : decode cX3_fall 12 = .ok (.iload_n 1, 1) := by decide +kernel
theorem dX3_fall_13 : decode cX3_fall 13 = .ok (.invokevirtual 87, 3) := by decide +kernel
theorem dX3_fall_16 : decode cX3_fall 16 = .ok (.istore_n 3, 1) := by decide +kernel
theorem dX3_fall_17 : decode cX3_fall 17 = .ok (.aload_n 0, 1) := by decide +kernel
theorem dX3_fall_18 : decode cX3_fall 18 = .ok (.getfield 24, 3) := by decide +kernel
theorem dX3_fall_21 : decode cX3_fall 21 = .ok (.aload_n 0, 1) := by decide +kernel
theorem dX3_fall_22 : decode cX3_fall 22 = .ok (.getfield 12, 3) := by decide +kernel
theorem dX3_fall_25 : decode cX3_fall 25 = .ok (.iload_n 3, 1) := by decide +kernel
theorem dX3_fall_26 : decode cX3_fall 26 = .ok (.invokevirtual 83, 3) := by decide +kernel
theorem dX3_fall_29 : decode cX3_fall 29 = .ok (.aload_n 0, 1) := by decide +kernel
theorem dX3_fall_30 : decode cX3_fall 30 = .ok (.getfield 24, 3) := by decide +kernel
theorem dX3_fall_33 : decode cX3_fall 33 = .ok (.iconst 0, 1) := by decide +kernel
theorem dX3_fall_34 : decode cX3_fall 34 = .ok (.putfield 49, 3) := by decide +kernel
theorem dX3_fall_37 : decode cX3_fall 37 = .ok (.aload_n 0, 1) := by decide +kernel
theorem dX3_fall_38 : decode cX3_fall 38 = .ok (.getfield 18, 3) := by decide +kernel
theorem dX3_fall_41 : decode cX3_fall 41 = .ok (.aload_n 0, 1) := by decide +kernel
theorem dX3_fall_42 : decode cX3_fall 42 = .ok (.getfield 12, 3) := by decide +kernel
theorem dX3_fall_45 : decode cX3_fall 45 = .ok (.invokevirtual 91, 3) := by decide +kernel
theorem dX3_fall_48 : decode cX3_fall 48 = .ok (.aload_n 0, 1) := by decide +kernel
theorem dX3_fall_49 : decode cX3_fall 49 = .ok (.iconst 0, 1) := by decide +kernel
theorem dX3_fall_50 : decode cX3_fall 50 = .ok (.putfield 32, 3) := by decide +kernel
theorem dX3_fall_53 : decode cX3_fall 53 = .ok (.aload_n 0, 1) := by decide +kernel
theorem dX3_fall_54 : decode cX3_fall 54 = .ok (.iconst (-1), 1) := by decide +kernel
theorem dX3_fall_55 : decode cX3_fall 55 = .ok (.putfield 39, 3) := by decide +kernel
theorem dX3_fall_58 : decode cX3_fall 58 = .ok (.aload_n 0, 1) := by decide +kernel
theorem dX3_fall_59 : decode cX3_fall 59 = .ok (.iconst 0, 1) := by decide +kernel
theorem dX3_fall_60 : decode cX3_fall 60 = .ok (.putfield 55, 3) := by decide +kernel
theorem dX3_fall_63 : decode cX3_fall 63 = .ok (.iload_n 2, 1) := by decide +kernel
theorem dX3_fall_64 : decode cX3_fall 64 = .ok (.iload_n 3, 1) := by decide +kernel
theorem dX3_fall_65 : decode cX3_fall 65 = .ok (.isub, 1) := by decide +kernel
theorem dX3_fall_66 : decode cX3_fall 66 = .ok (.ireturn, 1) := by decide +kernel
theorem dX3_loseDisk_0 : decode cX3_loseDisk 0 = .ok (.aload_n 0, 1) := by decide +kernel
theorem dX3_loseDisk_1 : decode cX3_loseDisk 1 = .ok (.getfield 12, 3) := by decide +kernel
theorem dX3_loseDisk_4 : decode cX3_loseDisk 4 = .ok (.invokevirtual 95, 3) := by decide +kernel
theorem dX3_loseDisk_7 : decode cX3_loseDisk 7 = .ok (.istore_n 1, 1) := by decide +kernel
theorem dX3_loseDisk_8 : decode cX3_loseDisk 8 = .ok (.aload_n 0, 1) := by decide +kernel
theorem dX3_loseDisk_9 : decode cX3_loseDisk 9 = .ok (.getfield 12, 3) := by decide +kernel
theorem dX3_loseDisk_12 : decode cX3_loseDisk 12 = .ok (.invokevirtual 46, 3) := by decide +kernel
theorem dX3_loseDisk_15 : decode cX3_loseDisk 15 = .ok (.aload_n 0, 1) := by decide +kernel
theorem dX3_loseDisk_16 : decode cX3_loseDisk 16 = .ok (.getfield 18, 3) := by decide +kernel
theorem dX3_loseDisk_19 : decode cX3_loseDisk 19 = .ok (.invokevirtual 46, 3) := by decide +kernel
theorem dX3_loseDisk_22 : decode cX3_loseDisk 22 = .ok (.aload_n 0, 1) := by decide +kernel
theorem dX3_loseDisk_23 : decode cX3_loseDisk 23 = .ok (.iconst 0, 1) := by decide +kernel
theorem dX3_loseDisk_24 : decode cX3_loseDisk 24 = .ok (.putfield 36, 3) := by decide +kernel
theorem dX3_loseDisk_27 : decode cX3_loseDisk 27 = .ok (.iload_n 1, 1) := by decide +kernel
theorem dX3_loseDisk_28 : decode cX3_loseDisk 28 = .ok (.ireturn, 1) := by decide +kernel
theorem dX3_bringUp_0 : decode cX3_bringUp 0 = .ok (.aload_n 0, 1) := by decide +kernel
theorem dX3_bringUp_1 : decode cX3_bringUp 1 = .ok (.iconst 1, 1) := by decide +kernel
theorem dX3_bringUp_2 : decode cX3_bringUp 2 = .ok (.putfield 32, 3) := by decide +kernel
theorem dX3_bringUp_5 : decode cX3_bringUp 5 = .ok (.aload_n 0, 1) := by decide +kernel
theorem dX3_bringUp_6 : decode cX3_bringUp 6 = .ok (.dup, 1) := by decide +kernel
theorem dX3_bringUp_7 : decode cX3_bringUp 7 = .ok (.getfield 52, 3) := by decide +kernel
theorem dX3_bringUp_10 : decode cX3_bringUp 10 = .ok (.iconst 1, 1) := by decide +kernel
theorem dX3_bringUp_11 : decode cX3_bringUp 11 = .ok (.iadd, 1) := by decide +kernel
theorem dX3_bringUp_12 : decode cX3_bringUp 12 = .ok (.putfield 52, 3) := by decide +kernel
theorem dX3_bringUp_15 : decode cX3_bringUp 15 = .ok (.aload_n 0, 1) := by decide +kernel
theorem dX3_bringUp_16 : decode cX3_bringUp 16 = .ok (.getfield 52, 3) := by decide +kernel
theorem dX3_bringUp_19 : decode cX3_bringUp 19 = .ok (.ireturn, 1) := by decide +kernel
theorem dX3_join_0 : decode cX3_join 0 = .ok (.aload_n 0, 1) := by decide +kernel
theorem dX3_join_1 : decode cX3_join 1 = .ok (.getfield 12, 3) := by decide +kernel
theorem dX3_join_4 : decode cX3_join 4 = .ok (.aload_n 1, 1) := by decide +kernel
theorem dX3_join_5 : decode cX3_join 5 = .ok (.invokevirtual 91, 3) := by decide +kernel
theorem dX3_join_8 : decode cX3_join 8 = .ok (.aload_n 0, 1) := by decide +kernel
theorem dX3_join_9 : decode cX3_join 9 = .ok (.getfield 18, 3) := by decide +kernel
theorem dX3_join_12 : decode cX3_join 12 = .ok (.aload_n 1, 1) := by decide +kernel
theorem dX3_join_13 : decode cX3_join 13 = .ok (.invokevirtual 91, 3) := by decide +kernel
theorem dX3_join_16 : decode cX3_join 16 = .ok (.aload_n 0, 1) := by decide +kernel
theorem dX3_join_17 : decode cX3_join 17 = .ok (.iconst 1, 1) := by decide +kernel
theorem dX3_join_18 : decode cX3_join 18 = .ok (.putfield 36, 3) := by decide +kernel
theorem dX3_join_21 : decode cX3_join 21 = .ok (.aload_n 0, 1) := by decide +kernel
theorem dX3_join_22 : decode cX3_join 22 = .ok (.aload_n 1, 1) := by decide +kernel
theorem dX3_join_23 : decode cX3_join 23 = .ok (.getfield 58, 3) := by decide +kernel
theorem dX3_join_26 : decode cX3_join 26 = .ok (.invokevirtual 99, 3) := by decide +kernel
theorem dX3_join_29 : decode cX3_join 29 = .ok (.return_, 1) := by decide +kernel
theorem dX4_init_0 : decode cX4_init 0 = .ok (.aload_n 0, 1) := by decide +kernel
theorem dX4_init_1 : decode cX4_init 1 = .ok (.invokespecial 3, 3) := by decide +kernel
theorem dX4_init_4 : decode cX4_init 4 = .ok (.aload_n 0, 1) := by decide +kernel
theorem dX4_init_5 : decode cX4_init 5 = .ok (.bipush 8, 2) := by decide +kernel
theorem dX4_init_7 : decode cX4_init 7 = .ok (.newarray .int, 2) := by decide +kernel
theorem dX4_init_9 : decode cX4_init 9 = .ok (.putfield 9, 3) := by decide +kernel
theorem dX4_init_12 : decode cX4_init 12 = .ok (.aload_n 0, 1) := by decide +kernel
theorem dX4_init_13 : decode cX4_init 13 = .ok (.bipush 8, 2) := by decide +kernel
theorem dX4_init_15 : decode cX4_init 15 = .ok (.newarray .int, 2) := by decide +kernel
theorem dX4_init_17 : decode cX4_init 17 = .ok (.putfield 15, 3) := by decide +kernel
theorem dX4_init_20 : decode cX4_init 20 = .ok (.aload_n 0, 1) := by decide +kernel
theorem dX4_init_21 : decode cX4_init 21 = .ok (.bipush 8, 2) := by decide +kernel
theorem dX4_init_23 : decode cX4_init 23 = .ok (.newarray .int, 2) := by decide +kernel
theorem dX4_init_25 : decode cX4_init 25 = .ok (.putfield 18, 3) := by decide +kernel
theorem dX4_init_28 : decode cX4_init 28 = .ok (.return_, 1) := by decide +kernel
theorem dX4_add_0 : decode cX4_add 0 = .ok (.aload_n 0, 1) := by decide +kernel
theorem dX4_add_1 : decode cX4_add 1 = .ok (.getfield 21, 3) := by decide +kernel
theorem dX4_add_4 : decode cX4_add 4 = .ok (.sipush 512, 3) := by decide +kernel
theorem dX4_add_7 : decode cX4_add 7 = .ok (.if_icmp .lt 4, 3) := by decide +kernel
theorem dX4_add_10 : decode cX4_add 10 = .ok (.return_, 1) := by decide +kernel
theorem dX4_add_11 : decode cX4_add 11 = .ok (.aload_n 0, 1) := by decide +kernel
theorem dX4_add_12 : decode cX4_add 12 = .ok (.getfield 21, 3) := by decide +kernel
theorem dX4_add_15 : decode cX4_add 15 = .ok (.aload_n 0, 1) := by decide +kernel
theorem dX4_add_16 : decode cX4_add 16 = .ok (.getfield 9, 3) := by decide +kernel
theorem dX4_add_19 : decode cX4_add 19 = .ok (.arraylength, 1) := by decide +kernel
theorem dX4_add_20 : decode cX4_add 20 = .ok (.if_icmp .lt 7, 3) := by decide +kernel
theorem dX4_add_23 : decode cX4_add 23 = .ok (.aload_n 0, 1) := by decide +kernel
theorem dX4_add_24 : decode cX4_add 24 = .ok (.invokevirtual 25, 3) := by decide +kernel
theorem dX4_add_27 : decode cX4_add 27 = .ok (.aload_n 0, 1) := by decide +kernel
theorem dX4_add_28 : decode cX4_add 28 = .ok (.getfield 9, 3) := by decide +kernel
theorem dX4_add_31 : decode cX4_add 31 = .ok (.aload_n 0, 1) := by decide +kernel
theorem dX4_add_32 : decode cX4_add 32 = .ok (.getfield 21, 3) := by decide +kernel
theorem dX4_add_35 : decode cX4_add 35 = .ok (.iload_n 1, 1) := by decide +kernel
theorem dX4_add_36 : decode cX4_add 36 = .ok (.iastore, 1) := by decide +kernel
theorem dX4_add_37 : decode cX4_add 37 = .ok (.aload_n 0, 1) := by decide +kernel
theorem dX4_add_38 : decode cX4_add 38 = .ok (.getfield 15, 3) := by decide +kernel
theorem dX4_add_41 : decode cX4_add 41 = .ok (.aload_n 0, 1) := by decide +kernel
theorem dX4_add_42 : decode cX4_add 42 = .ok (.getfield 21, 3) := by decide +kernel
theorem dX4_add_45 : decode cX4_add 45 = .ok (.iload_n 2, 1) := by decide +kernel
theorem dX4_add_46 : decode cX4_add 46 = .ok (.iastore, 1) := by decide +kernel
theorem dX4_add_47 : decode cX4_add 47 = .ok (.aload_n 0, 1) := by decide +kernel
theorem dX4_add_48 : decode cX4_add 48 = .ok (.getfield 18, 3) := by decide +kernel
theorem dX4_add_51 : decode cX4_add 51 = .ok (.aload_n 0, 1) := by decide +kernel
theorem dX4_add_52 : decode cX4_add 52 = .ok (.getfield 21, 3) := by decide +kernel
theorem dX4_add_55 : decode cX4_add 55 = .ok (.iload_n 3, 1) := by decide +kernel
theorem dX4_add_56 : decode cX4_add 56 = .ok (.iastore, 1) := by decide +kernel
theorem dX4_add_57 : decode cX4_add 57 = .ok (.aload_n 0, 1) := by decide +kernel
theorem dX4_add_58 : decode cX4_add 58 = .ok (.dup, 1) := by decide +kernel
theorem dX4_add_59 : decode cX4_add 59 = .ok (.getfield 21, 3) := by decide +kernel
theorem dX4_add_62 : decode cX4_add 62 = .ok (.iconst 1, 1) := by decide +kernel
theorem dX4_add_63 : decode cX4_add 63 = .ok (.iadd, 1) := by decide +kernel
theorem dX4_add_64 : decode cX4_add 64 = .ok (.putfield 21, 3) := by decide +kernel
theorem dX4_add_67 : decode cX4_add 67 = .ok (.return_, 1) := by decide +kernel
theorem dX4_grow_0 : decode cX4_grow 0 = .ok (.aload_n 0, 1) := by decide +kernel
theorem dX4_grow_1 : decode cX4_grow 1 = .ok (.getfield 9, 3) := by decide +kernel
theorem dX4_grow_4 : decode cX4_grow 4 = .ok (.arraylength, 1) := by decide +kernel
theorem dX4_grow_5 : decode cX4_grow 5 = .ok (.iconst 2, 1) := by decide +kernel
theorem dX4_grow_6 : decode cX4_grow 6 = .ok (.imul, 1) := by decide +kernel
theorem dX4_grow_7 : decode cX4_grow 7 = .ok (.istore_n 1, 1) := by decide +kernel
theorem dX4_grow_8 : decode cX4_grow 8 = .ok (.aload_n 0, 1) := by decide +kernel
theorem dX4_grow_9 : decode cX4_grow 9 = .ok (.aload_n 0, 1) := by decide +kernel
theorem dX4_grow_10 : decode cX4_grow 10 = .ok (.getfield 9, 3) := by decide +kernel
theorem dX4_grow_13 : decode cX4_grow 13 = .ok (.iload_n 1, 1) := by decide +kernel
theorem dX4_grow_14 : decode cX4_grow 14 = .ok (.invokestatic 28, 3) := by decide +kernel
theorem dX4_grow_17 : decode cX4_grow 17 = .ok (.putfield 9, 3) := by decide +kernel
theorem dX4_grow_20 : decode cX4_grow 20 = .ok (.aload_n 0, 1) := by decide +kernel
theorem dX4_grow_21 : decode cX4_grow 21 = .ok (.aload_n 0, 1) := by decide +kernel
theorem dX4_grow_22 : decode cX4_grow 22 = .ok (.getfield 15, 3) := by decide +kernel
theorem dX4_grow_25 : decode cX4_grow 25 = .ok (.iload_n 1, 1) := by decide +kernel
theorem dX4_grow_26 : decode cX4_grow 26 = .ok (.invokestatic 28, 3) := by decide +kernel
theorem dX4_grow_29 : decode cX4_grow 29 = .ok (.putfield 15, 3) := by decide +kernel
theorem dX4_grow_32 : decode cX4_grow 32 = .ok (.aload_n 0, 1) := by decide +kernel
theorem dX4_grow_33 : decode cX4_grow 33 = .ok (.aload_n 0, 1) := by decide +kernel
theorem dX4_grow_34 : decode cX4_grow 34 = .ok (.getfield 18, 3) := by decide +kernel
theorem dX4_grow_37 : decode cX4_grow 37 = .ok (.iload_n 1, 1) := by decide +kernel
theorem dX4_grow_38 : decode cX4_grow 38 = .ok (.invokestatic 28, 3) := by decide +kernel
theorem dX4_grow_41 : decode cX4_grow 41 = .ok (.putfield 18, 3) := by decide +kernel
theorem dX4_grow_44 : decode cX4_grow 44 = .ok (.return_, 1) := by decide +kernel
theorem dX4_keptOf_0 : decode cX4_keptOf 0 = .ok (.aload_n 0, 1) := by decide +kernel
theorem dX4_keptOf_1 : decode cX4_keptOf 1 = .ok (.getfield 21, 3) := by decide +kernel
theorem dX4_keptOf_4 : decode cX4_keptOf 4 = .ok (.iload_n 1, 1) := by decide +kernel
theorem dX4_keptOf_5 : decode cX4_keptOf 5 = .ok (.aload_n 0, 1) := by decide +kernel
theorem dX4_keptOf_6 : decode cX4_keptOf 6 = .ok (.getfield 21, 3) := by decide +kernel
theorem dX4_keptOf_9 : decode cX4_keptOf 9 = .ok (.invokestatic 34, 3) := by decide +kernel
theorem dX4_keptOf_12 : decode cX4_keptOf 12 = .ok (.isub, 1) := by decide +kernel
theorem dX4_keptOf_13 : decode cX4_keptOf 13 = .ok (.ireturn, 1) := by decide +kernel
theorem dX4_carryOutOn_0 : decode cX4_carryOutOn 0 = .ok (.iconst 0, 1) := by decide +kernel
theorem dX4_carryOutOn_1 : decode cX4_carryOutOn 1 = .ok (.istore_n 3, 1) := by decide +kernel
theorem dX4_carryOutOn_2 : decode cX4_carryOutOn 2 = .ok (.iload_n 3, 1) := by decide +kernel
theorem dX4_carryOutOn_3 : decode cX4_carryOutOn 3 = .ok (.iload_n 2, 1) := by decide +kernel
theorem dX4_carryOutOn_4 : decode cX4_carryOutOn 4 = .ok (.if_icmp .ge 39, 3) := by decide +kernel
theorem dX4_carryOutOn_7 : decode cX4_carryOutOn 7 = .ok (.iload_n 3, 1) := by decide +kernel
theorem dX4_carryOutOn_8 : decode cX4_carryOutOn 8 = .ok (.aload_n 0, 1) := by decide +kernel
theorem dX4_carryOutOn_9 : decode cX4_carryOutOn 9 = .ok (.getfield 21, 3) := by decide +kernel
theorem dX4_carryOutOn_12 : decode cX4_carryOutOn 12 = .ok (.if_icmp .ge 31, 3) := by decide +kernel
theorem dX4_carryOutOn_15 : decode cX4_carryOutOn 15 = .ok (.aload_n 1, 1) := by decide +kernel
theorem dX4_carryOutOn_16 : decode cX4_carryOutOn 16 = .ok (.aload_n 0, 1) := by decide +kernel
theorem dX4_carryOutOn_17 : decode cX4_carryOutOn 17 = .ok (.getfield 9, 3) := by decide +kernel
theorem dX4_carryOutOn_20 : decode cX4_carryOutOn 20 = .ok (.iload_n 3, 1) := by decide +kernel
theorem dX4_carryOutOn_21 : decode cX4_carryOutOn 21 = .ok (.iaload, 1) := by decide +kernel
theorem dX4_carryOutOn_22 : decode cX4_carryOutOn 22 = .ok (.aload_n 0, 1) := by decide +kernel
theorem dX4_carryOutOn_23 : decode cX4_carryOutOn 23 = .ok (.getfield 15, 3) := by decide +kernel
theorem dX4_carryOutOn_26 : decode cX4_carryOutOn 26 = .ok (.iload_n 3, 1) := by decide +kernel
theorem dX4_carryOutOn_27 : decode cX4_carryOutOn 27 = .ok (.iaload, 1) := by decide +kernel
theorem dX4_carryOutOn_28 : decode cX4_carryOutOn 28 = .ok (.aload_n 0, 1) := by decide +kernel
theorem dX4_carryOutOn_29 : decode cX4_carryOutOn 29 = .ok (.getfield 18, 3) := by decide +kernel
theorem dX4_carryOutOn_32 : decode cX4_carryOutOn 32 = .ok (.iload_n 3, 1) := by decide +kernel
theorem dX4_carryOutOn_33 : decode cX4_carryOutOn 33 = .ok (.iaload, 1) := by decide +kernel
theorem dX4_carryOutOn_34 : decode cX4_carryOutOn 34 = .ok (.invokevirtual 40, 3) := by decide +kernel
theorem dX4_carryOutOn_37 : decode cX4_carryOutOn 37 = .ok (.iinc 3 1, 3) := by decide +kernel
theorem dX4_carryOutOn_40 : decode cX4_carryOutOn 40 = .ok (.goto (-38), 3) := by decide +kernel
theorem dX4_carryOutOn_43 : decode cX4_carryOutOn 43 = .ok (.return_, 1) := by decide +kernel
theorem dX5_init_0 : decode cX5_init 0 = .ok (.aload_n 0, 1) := by decide +kernel
theorem dX5_init_1 : decode cX5_init 1 = .ok (.invokespecial 1, 3) := by decide +kernel
theorem dX5_init_4 : decode cX5_init 4 = .ok (.aload_n 0, 1) := by decide +kernel
theorem dX5_init_5 : decode cX5_init 5 = .ok (.bipush 7, 2) := by decide +kernel
theorem dX5_init_7 : decode cX5_init 7 = .ok (.anewarray 9, 3) := by decide +kernel
theorem dX5_init_10 : decode cX5_init 10 = .ok (.putfield 11, 3) := by decide +kernel
theorem dX5_init_13 : decode cX5_init 13 = .ok (.aload_n 0, 1) := by decide +kernel
theorem dX5_init_14 : decode cX5_init 14 = .ok (.iconst 4, 1) := by decide +kernel
theorem dX5_init_15 : decode cX5_init 15 = .ok (.anewarray 15, 3) := by decide +kernel
theorem dX5_init_18 : decode cX5_init 18 = .ok (.putfield 17, 3) := by decide +kernel
theorem dX5_init_21 : decode cX5_init 21 = .ok (.aload_n 0, 1) := by decide +kernel
theorem dX5_init_22 : decode cX5_init 22 = .ok (.new 21, 3) := by decide +kernel
theorem dX5_init_25 : decode cX5_init 25 = .ok (.dup, 1) := by decide +kernel
theorem dX5_init_26 : decode cX5_init 26 = .ok (.invokespecial 23, 3) := by decide +kernel
theorem dX5_init_29 : decode cX5_init 29 = .ok (.putfield 24, 3) := by decide +kernel
theorem dX5_init_32 : decode cX5_init 32 = .ok (.aload_n 0, 1) := by decide +kernel
theorem dX5_init_33 : decode cX5_init 33 = .ok (.new 28, 3) := by decide +kernel
theorem dX5_init_36 : decode cX5_init 36 = .ok (.dup, 1) := by decide +kernel
theorem dX5_init_37 : decode cX5_init 37 = .ok (.invokespecial 30, 3) := by decide +kernel
theorem dX5_init_40 : decode cX5_init 40 = .ok (.putfield 31, 3) := by decide +kernel
theorem dX5_init_43 : decode cX5_init 43 = .ok (.aload_n 0, 1) := by decide +kernel
theorem dX5_init_44 : decode cX5_init 44 = .ok (.bipush 60, 2) := by decide +kernel
theorem dX5_init_46 : decode cX5_init 46 = .ok (.newarray .int, 2) := by decide +kernel
theorem dX5_init_48 : decode cX5_init 48 = .ok (.putfield 35, 3) := by decide +kernel
theorem dX5_init_51 : decode cX5_init 51 = .ok (.iconst 0, 1) := by decide +kernel
theorem dX5_init_52 : decode cX5_init 52 = .ok (.istore_n 1, 1) := by decide +kernel
theorem dX5_init_53 : decode cX5_init 53 = .ok (.iload_n 1, 1) := by decide +kernel
theorem dX5_init_54 : decode cX5_init 54 = .ok (.bipush 7, 2) := by decide +kernel
theorem dX5_init_56 : decode cX5_init 56 = .ok (.if_icmp .ge 23, 3) := by decide +kernel
theorem dX5_init_59 : decode cX5_init 59 = .ok (.aload_n 0, 1) := by decide +kernel
theorem dX5_init_60 : decode cX5_init 60 = .ok (.getfield 11, 3) := by decide +kernel
theorem dX5_init_63 : decode cX5_init 63 = .ok (.iload_n 1, 1) := by decide +kernel
theorem dX5_init_64 : decode cX5_init 64 = .ok (.new 9, 3) := by decide +kernel
theorem dX5_init_67 : decode cX5_init 67 = .ok (.dup, 1) := by decide +kernel
theorem dX5_init_68 : decode cX5_init 68 = .ok (.iload_n 1, 1) := by decide +kernel
theorem dX5_init_69 : decode cX5_init 69 = .ok (.invokespecial 39, 3) := by decide +kernel
theorem dX5_init_72 : decode cX5_init 72 = .ok (.aastore, 1) := by decide +kernel
theorem dX5_init_73 : decode cX5_init 73 = .ok (.iinc 1 1, 3) := by decide +kernel
theorem dX5_init_76 : decode cX5_init 76 = .ok (.goto (-23), 3) := by decide +kernel
theorem dX5_init_79 : decode cX5_init 79 = .ok (.iconst 0, 1) := by decide +kernel
theorem dX5_init_80 : decode cX5_init 80 = .ok (.istore_n 1, 1) := by decide +kernel
theorem dX5_init_81 : decode cX5_init 81 = .ok (.iload_n 1, 1) := by decide +kernel
theorem dX5_init_82 : decode cX5_init 82 = .ok (.iconst 4, 1) := by decide +kernel
theorem dX5_init_83 : decode cX5_init 83 = .ok (.if_icmp .ge 22, 3) := by decide +kernel
theorem dX5_init_86 : decode cX5_init 86 = .ok (.aload_n 0, 1) := by decide +kernel
theorem dX5_init_87 : decode cX5_init 87 = .ok (.getfield 17, 3) := by decide +kernel
theorem dX5_init_90 : decode cX5_init 90 = .ok (.iload_n 1, 1) := by decide +kernel
theorem dX5_init_91 : decode cX5_init 91 = .ok (.new 15, 3) := by decide +kernel
theorem dX5_init_94 : decode cX5_init 94 = .ok (.dup, 1) := by decide +kernel
theorem dX5_init_95 : decode cX5_init 95 = .ok (.invokespecial 42, 3) := by decide +kernel
theorem dX5_init_98 : decode cX5_init 98 = .ok (.aastore, 1) := by decide +kernel
theorem dX5_init_99 : decode cX5_init 99 = .ok (.iinc 1 1, 3) := by decide +kernel
theorem dX5_init_102 : decode cX5_init 102 = .ok (.goto (-21), 3) := by decide +kernel
theorem dX5_init_105 : decode cX5_init 105 = .ok (.aload_n 0, 1) := by decide +kernel
theorem dX5_init_106 : decode cX5_init 106 = .ok (.iconst 3, 1) := by decide +kernel
theorem dX5_init_107 : decode cX5_init 107 = .ok (.putfield 43, 3) := by decide +kernel
theorem dX5_init_110 : decode cX5_init 110 = .ok (.aload_n 0, 1) := by decide +kernel
theorem dX5_init_111 : decode cX5_init 111 = .ok (.iconst 1, 1) := by decide +kernel
theorem dX5_init_112 : decode cX5_init 112 = .ok (.putfield 47, 3) := by decide +kernel
theorem dX5_init_115 : decode cX5_init 115 = .ok (.aload_n 0, 1) := by decide +kernel
theorem dX5_init_116 : decode cX5_init 116 = .ok (.iconst 1, 1) := by decide +kernel
theorem dX5_init_117 : decode cX5_init 117 = .ok (.putfield 50, 3) := by decide +kernel
theorem dX5_init_120 : decode cX5_init 120 = .ok (.return_, 1) := by decide +kernel
theorem dX5_begin_0 : decode cX5_begin 0 = .ok (.iload_n 1, 1) := by decide +kernel
theorem dX5_begin_1 : decode cX5_begin 1 = .ok (.iconst 3, 1) := by decide +kernel
theorem dX5_begin_2 : decode cX5_begin 2 = .ok (.if_icmp .lt 9, 3) := by decide +kernel
theorem dX5_begin_5 : decode cX5_begin 5 = .ok (.iload_n 1, 1) := by decide +kernel
theorem dX5_begin_6 : decode cX5_begin 6 = .ok (.bipush 7, 2) := by decide +kernel
theorem dX5_begin_8 : decode cX5_begin 8 = .ok (.if_icmp .le 13, 3) := by decide +kernel
theorem dX5_begin_11 : decode cX5_begin 11 = .ok (.new 54, 3) := by decide +kernel
theorem dX5_begin_14 : decode cX5_begin 14 = .ok (.dup, 1) := by decide +kernel
theorem dX5_begin_15 : decode cX5_begin 15 = .ok (.ldc 56, 2) := by decide +kernel
theorem dX5_begin_17 : decode cX5_begin 17 = .ok (.invokespecial 58, 3) := by decide +kernel
theorem dX5_begin_20 : decode cX5_begin 20 = .ok (.athrow, 1) := by decide +kernel
theorem dX5_begin_21 : decode cX5_begin 21 = .ok (.iload_n 2, 1) := by decide +kernel
theorem dX5_begin_22 : decode cX5_begin 22 = .ok (.iconst 1, 1) := by decide +kernel
theorem dX5_begin_23 : decode cX5_begin 23 = .ok (.if_icmp .lt 8, 3) := by decide +kernel
theorem dX5_begin_26 : decode cX5_begin 26 = .ok (.iload_n 2, 1) := by decide +kernel
theorem dX5_begin_27 : decode cX5_begin 27 = .ok (.iconst 4, 1) := by decide +kernel
theorem dX5_begin_28 : decode cX5_begin 28 = .ok (.if_icmp .le 13, 3) := by decide +kernel
theorem dX5_begin_31 : decode cX5_begin 31 = .ok (.new 54, 3) := by decide +kernel
theorem dX5_begin_34 : decode cX5_begin 34 = .ok (.dup, 1) := by decide +kernel
theorem dX5_begin_35 : decode cX5_begin 35 = .ok (.ldc 61, 2) := by decide +kernel
theorem dX5_begin_37 : decode cX5_begin 37 = .ok (.invokespecial 58, 3) := by decide +kernel
theorem dX5_begin_40 : decode cX5_begin 40 = .ok (.athrow, 1) := by decide +kernel
theorem dX5_begin_41 : decode cX5_begin 41 = .ok (.aload_n 0, 1) := by decide +kernel
theorem dX5_begin_42 : decode cX5_begin 42 = .ok (.getfield 43, 3) := by decide +kernel
theorem dX5_begin_45 : decode cX5_begin 45 = .ok (.istore_n 3, 1) := by decide +kernel
theorem dX5_begin_46 : decode cX5_begin 46 = .ok (.aload_n 0, 1) := by decide +kernel
theorem dX5_begin_47 : decode cX5_begin 47 = .ok (.iload_n 1, 1) := by decide +kernel
theorem dX5_begin_48 : decode cX5_begin 48 = .ok (.putfield 43, 3) := by decide +kernel
theorem dX5_begin_51 : decode cX5_begin 51 = .ok (.aload_n 0, 1) := by decide +kernel
theorem dX5_begin_52 : decode cX5_begin 52 = .ok (.iload_n 2, 1) := by decide +kernel
theorem dX5_begin_53 : decode cX5_begin 53 = .ok (.putfield 47, 3) := by decide +kernel
theorem dX5_begin_56 : decode cX5_begin 56 = .ok (.aload_n 0, 1) := by decide +kernel
theorem dX5_begin_57 : decode cX5_begin 57 = .ok (.invokevirtual 63, 3) := by decide +kernel
theorem dX5_begin_60 : decode cX5_begin 60 = .ok (.iload_n 3, 1) := by decide +kernel
theorem dX5_begin_61 : decode cX5_begin 61 = .ok (.ireturn, 1) := by decide +kernel
theorem dX5_setBarriers_0 : decode cX5_setBarriers 0 = .ok (.aload_n 0, 1) := by decide +kernel
theorem dX5_setBarriers_1 : decode cX5_setBarriers 1 = .ok (.getfield 50, 3) := by decide +kernel
theorem dX5_setBarriers_4 : decode cX5_setBarriers 4 = .ok (.invokestatic 66, 3) := by decide +kernel
theorem dX5_setBarriers_7 : decode cX5_setBarriers 7 = .ok (.istore_n 2, 1) := by decide +kernel
theorem dX5_setBarriers_8 : decode cX5_setBarriers 8 = .ok (.aload_n 0, 1) := by decide +kernel
theorem dX5_setBarriers_9 : decode cX5_setBarriers 9 = .ok (.iload_n 1, 1) := by decide +kernel
theorem dX5_setBarriers_10 : decode cX5_setBarriers 10 = .ok (.putfield 50, 3) := by decide +kernel
theorem dX5_setBarriers_13 : decode cX5_setBarriers 13 = .ok (.iload_n 2, 1) := by decide +kernel
theorem dX5_setBarriers_14 : decode cX5_setBarriers 14 = .ok (.ireturn, 1) := by decide +kernel
theorem dX5_prepare_0 : decode cX5_prepare 0 = .ok (.aload_n 0, 1) := by decide +kernel
theorem dX5_prepare_1 : decode cX5_prepare 1 = .ok (.iload_n 1, 1) := by decide +kernel
theorem dX5_prepare_2 : decode cX5_prepare 2 = .ok (.invokevirtual 70, 3) := by decide +kernel
theorem dX5_prepare_5 : decode cX5_prepare 5 = .ok (.aload_n 0, 1) := by decide +kernel
theorem dX5_prepare_6 : decode cX5_prepare 6 = .ok (.iload_n 2, 1) := by decide +kernel
theorem dX5_prepare_7 : decode cX5_prepare 7 = .ok (.invokevirtual 73, 3) := by decide +kernel
theorem dX5_prepare_10 : decode cX5_prepare 10 = .ok (.aload_n 0, 1) := by decide +kernel
theorem dX5_prepare_11 : decode cX5_prepare 11 = .ok (.getfield 11, 3) := by decide +kernel
theorem dX5_prepare_14 : decode cX5_prepare 14 = .ok (.iload_n 1, 1) := by decide +kernel
theorem dX5_prepare_15 : decode cX5_prepare 15 = .ok (.aaload, 1) := by decide +kernel
theorem dX5_prepare_16 : decode cX5_prepare 16 = .ok (.invokevirtual 76, 3) := by decide +kernel
theorem dX5_prepare_19 : decode cX5_prepare 19 = .ok (.ifCond .ne 13, 3) := by decide +kernel
theorem dX5_prepare_22 : decode cX5_prepare 22 = .ok (.new 80, 3) := by decide +kernel
theorem dX5_prepare_25 : decode cX5_prepare 25 = .ok (.dup, 1) := by decide +kernel
theorem dX5_prepare_26 : decode cX5_prepare 26 = .ok (.ldc 82, 2) := by decide +kernel
theorem dX5_prepare_28 : decode cX5_prepare 28 = .ok (.invokespecial 84, 3) := by decide +kernel
theorem dX5_prepare_31 : decode cX5_prepare 31 = .ok (.athrow, 1) := by decide +kernel
theorem dX5_prepare_32 : decode cX5_prepare 32 = .ok (.aload_n 0, 1) := by decide +kernel
theorem dX5_prepare_33 : decode cX5_prepare 33 = .ok (.aload_n 0, 1) := by decide +kernel
theorem dX5_prepare_34 : decode cX5_prepare 34 = .ok (.getfield 11, 3) := by decide +kernel
theorem dX5_prepare_37 : decode cX5_prepare 37 = .ok (.iload_n 1, 1) := by decide +kernel
theorem dX5_prepare_38 : decode cX5_prepare 38 = .ok (.aaload, 1) := by decide +kernel
theorem dX5_prepare_39 : decode cX5_prepare 39 = .ok (.iload_n 2, 1) := by decide +kernel
theorem dX5_prepare_40 : decode cX5_prepare 40 = .ok (.invokevirtual 85, 3) := by decide +kernel
theorem dX5_prepare_43 : decode cX5_prepare 43 = .ok (.ireturn, 1) := by decide +kernel
theorem dX5_accept_0 : decode cX5_accept 0 = .ok (.aload_n 0, 1) := by decide +kernel
theorem dX5_accept_1 : decode cX5_accept 1 = .ok (.iload_n 1, 1) := by decide +kernel
theorem dX5_accept_2 : decode cX5_accept 2 = .ok (.invokevirtual 70, 3) := by decide +kernel
theorem dX5_accept_5 : decode cX5_accept 5 = .ok (.aload_n 0, 1) := by decide +kernel
theorem dX5_accept_6 : decode cX5_accept 6 = .ok (.iload_n 2, 1) := by decide +kernel
theorem dX5_accept_7 : decode cX5_accept 7 = .ok (.invokevirtual 89, 3) := by decide +kernel
theorem dX5_accept_10 : decode cX5_accept 10 = .ok (.iload_n 3, 1) := by decide +kernel
theorem dX5_accept_11 : decode cX5_accept 11 = .ok (.ifCond .lt 9, 3) := by decide +kernel
theorem dX5_accept_14 : decode cX5_accept 14 = .ok (.iload_n 3, 1) := by decide +kernel
theorem dX5_accept_15 : decode cX5_accept 15 = .ok (.bipush 9, 2) := by decide +kernel
theorem dX5_accept_17 : decode cX5_accept 17 = .ok (.if_icmp .le 13, 3) := by decide +kernel
theorem dX5_accept_20 : decode cX5_accept 20 = .ok (.new 54, 3) := by decide +kernel
theorem dX5_accept_23 : decode cX5_accept 23 = .ok (.dup, 1) := by decide +kernel
theorem dX5_accept_24 : decode cX5_accept 24 = .ok (.ldc 92, 2) := by decide +kernel
theorem dX5_accept_26 : decode cX5_accept 26 = .ok (.invokespecial 58, 3) := by decide +kernel
theorem dX5_accept_29 : decode cX5_accept 29 = .ok (.athrow, 1) := by decide +kernel
theorem dX5_accept_30 : decode cX5_accept 30 = .ok (.aload_n 0, 1) := by decide +kernel
theorem dX5_accept_31 : decode cX5_accept 31 = .ok (.iload 4, 2) := by decide +kernel
theorem dX5_accept_33 : decode cX5_accept 33 = .ok (.invokevirtual 73, 3) := by decide +kernel
theorem dX5_accept_36 : decode cX5_accept 36 = .ok (.aload_n 0, 1) := by decide +kernel
theorem dX5_accept_37 : decode cX5_accept 37 = .ok (.iload_n 1, 1) := by decide +kernel
theorem dX5_accept_38 : decode cX5_accept 38 = .ok (.invokevirtual 94, 3) := by decide +kernel
theorem dX5_accept_41 : decode cX5_accept 41 = .ok (.aload_n 0, 1) := by decide +kernel
theorem dX5_accept_42 : decode cX5_accept 42 = .ok (.aload_n 0, 1) := by decide +kernel
theorem dX5_accept_43 : decode cX5_accept 43 = .ok (.getfield 11, 3) := by decide +kernel
theorem dX5_accept_46 : decode cX5_accept 46 = .ok (.iload_n 1, 1) := by decide +kernel
theorem dX5_accept_47 : decode cX5_accept 47 = .ok (.aaload, 1) := by decide +kernel
theorem dX5_accept_48 : decode cX5_accept 48 = .ok (.iload_n 2, 1) := by decide +kernel
theorem dX5_accept_49 : decode cX5_accept 49 = .ok (.iload_n 3, 1) := by decide +kernel
theorem dX5_accept_50 : decode cX5_accept 50 = .ok (.iload 4, 2) := by decide +kernel
theorem dX5_accept_52 : decode cX5_accept 52 = .ok (.invokevirtual 97, 3) := by decide +kernel
theorem dX5_accept_55 : decode cX5_accept 55 = .ok (.ireturn, 1) := by decide +kernel
theorem dX5_barrier_0 : decode cX5_barrier 0 = .ok (.aload_n 0, 1) := by decide +kernel
theorem dX5_barrier_1 : decode cX5_barrier 1 = .ok (.iload_n 1, 1) := by decide +kernel
theorem dX5_barrier_2 : decode cX5_barrier 2 = .ok (.invokevirtual 70, 3) := by decide +kernel
theorem dX5_barrier_5 : decode cX5_barrier 5 = .ok (.aload_n 0, 1) := by decide +kernel
theorem dX5_barrier_6 : decode cX5_barrier 6 = .ok (.iload_n 1, 1) := by decide +kernel
theorem dX5_barrier_7 : decode cX5_barrier 7 = .ok (.invokevirtual 101, 3) := by decide +kernel
theorem dX5_barrier_10 : decode cX5_barrier 10 = .ok (.aload_n 0, 1) := by decide +kernel
theorem dX5_barrier_11 : decode cX5_barrier 11 = .ok (.getfield 11, 3) := by decide +kernel
theorem dX5_barrier_14 : decode cX5_barrier 14 = .ok (.iload_n 1, 1) := by decide +kernel
theorem dX5_barrier_15 : decode cX5_barrier 15 = .ok (.aaload, 1) := by decide +kernel
theorem dX5_barrier_16 : decode cX5_barrier 16 = .ok (.invokevirtual 104, 3) := by decide +kernel
theorem dX5_barrier_19 : decode cX5_barrier 19 = .ok (.ireturn, 1) := by decide +kernel
theorem dX5_crash_0 : decode cX5_crash 0 = .ok (.aload_n 0, 1) := by decide +kernel
theorem dX5_crash_1 : decode cX5_crash 1 = .ok (.iload_n 1, 1) := by decide +kernel
theorem dX5_crash_2 : decode cX5_crash 2 = .ok (.invokevirtual 70, 3) := by decide +kernel
theorem dX5_crash_5 : decode cX5_crash 5 = .ok (.iload_n 2, 1) := by decide +kernel
theorem dX5_crash_6 : decode cX5_crash 6 = .ok (.invokestatic 108, 3) := by decide +kernel
theorem dX5_crash_9 : decode cX5_crash 9 = .ok (.aload_n 0, 1) := by decide +kernel
theorem dX5_crash_10 : decode cX5_crash 10 = .ok (.iload_n 1, 1) := by decide +kernel
theorem dX5_crash_11 : decode cX5_crash 11 = .ok (.invokevirtual 101, 3) := by decide +kernel
theorem dX5_crash_14 : decode cX5_crash 14 = .ok (.aload_n 0, 1) := by decide +kernel
theorem dX5_crash_15 : decode cX5_crash 15 = .ok (.aload_n 0, 1) := by decide +kernel
theorem dX5_crash_16 : decode cX5_crash 16 = .ok (.getfield 11, 3) := by decide +kernel
theorem dX5_crash_19 : decode cX5_crash 19 = .ok (.iload_n 1, 1) := by decide +kernel
theorem dX5_crash_20 : decode cX5_crash 20 = .ok (.aaload, 1) := by decide +kernel
theorem dX5_crash_21 : decode cX5_crash 21 = .ok (.iload_n 2, 1) := by decide +kernel
theorem dX5_crash_22 : decode cX5_crash 22 = .ok (.invokevirtual 111, 3) := by decide +kernel
theorem dX5_crash_25 : decode cX5_crash 25 = .ok (.ireturn, 1) := by decide +kernel
theorem dX5_wipe_0 : decode cX5_wipe 0 = .ok (.aload_n 0, 1) := by decide +kernel
theorem dX5_wipe_1 : decode cX5_wipe 1 = .ok (.iload_n 1, 1) := by decide +kernel
theorem dX5_wipe_2 : decode cX5_wipe 2 = .ok (.invokevirtual 70, 3) := by decide +kernel
theorem dX5_wipe_5 : decode cX5_wipe 5 = .ok (.aload_n 0, 1) := by decide +kernel
theorem dX5_wipe_6 : decode cX5_wipe 6 = .ok (.iload_n 1, 1) := by decide +kernel
theorem dX5_wipe_7 : decode cX5_wipe 7 = .ok (.invokevirtual 114, 3) := by decide +kernel
theorem dX5_wipe_10 : decode cX5_wipe 10 = .ok (.aload_n 0, 1) := by decide +kernel
theorem dX5_wipe_11 : decode cX5_wipe 11 = .ok (.getfield 11, 3) := by decide +kernel
theorem dX5_wipe_14 : decode cX5_wipe 14 = .ok (.iload_n 1, 1) := by decide +kernel
theorem dX5_wipe_15 : decode cX5_wipe 15 = .ok (.aaload, 1) := by decide +kernel
theorem dX5_wipe_16 : decode cX5_wipe 16 = .ok (.invokevirtual 117, 3) := by decide +kernel
theorem dX5_wipe_19 : decode cX5_wipe 19 = .ok (.ireturn, 1) := by decide +kernel
theorem dX5_restart_0 : decode cX5_restart 0 = .ok (.aload_n 0, 1) := by decide +kernel
theorem dX5_restart_1 : decode cX5_restart 1 = .ok (.iload_n 1, 1) := by decide +kernel
theorem dX5_restart_2 : decode cX5_restart 2 = .ok (.invokevirtual 70, 3) := by decide +kernel
theorem dX5_restart_5 : decode cX5_restart 5 = .ok (.aload_n 0, 1) := by decide +kernel
theorem dX5_restart_6 : decode cX5_restart 6 = .ok (.iload_n 1, 1) := by decide +kernel
theorem dX5_restart_7 : decode cX5_restart 7 = .ok (.invokevirtual 114, 3) := by decide +kernel
theorem dX5_restart_10 : decode cX5_restart 10 = .ok (.aload_n 0, 1) := by decide +kernel
theorem dX5_restart_11 : decode cX5_restart 11 = .ok (.getfield 11, 3) := by decide +kernel
theorem dX5_restart_14 : decode cX5_restart 14 = .ok (.iload_n 1, 1) := by decide +kernel
theorem dX5_restart_15 : decode cX5_restart 15 = .ok (.aaload, 1) := by decide +kernel
theorem dX5_restart_16 : decode cX5_restart 16 = .ok (.invokevirtual 120, 3) := by decide +kernel
theorem dX5_restart_19 : decode cX5_restart 19 = .ok (.ireturn, 1) := by decide +kernel
theorem dX5_rejoin_0 : decode cX5_rejoin 0 = .ok (.aload_n 0, 1) := by decide +kernel
theorem dX5_rejoin_1 : decode cX5_rejoin 1 = .ok (.iload_n 1, 1) := by decide +kernel
theorem dX5_rejoin_2 : decode cX5_rejoin 2 = .ok (.invokevirtual 70, 3) := by decide +kernel
theorem dX5_rejoin_5 : decode cX5_rejoin 5 = .ok (.aload_n 0, 1) := by decide +kernel
theorem dX5_rejoin_6 : decode cX5_rejoin 6 = .ok (.iload_n 2, 1) := by decide +kernel
theorem dX5_rejoin_7 : decode cX5_rejoin 7 = .ok (.invokevirtual 73, 3) := by decide +kernel
theorem dX5_rejoin_10 : decode cX5_rejoin 10 = .ok (.aload_n 0, 1) := by decide +kernel
theorem dX5_rejoin_11 : decode cX5_rejoin 11 = .ok (.getfield 11, 3) := by decide +kernel
theorem dX5_rejoin_14 : decode cX5_rejoin 14 = .ok (.iload_n 1, 1) := by decide +kernel
theorem dX5_rejoin_15 : decode cX5_rejoin 15 = .ok (.aaload, 1) := by decide +kernel
theorem dX5_rejoin_16 : decode cX5_rejoin 16 = .ok (.invokevirtual 123, 3) := by decide +kernel
theorem dX5_rejoin_19 : decode cX5_rejoin 19 = .ok (.ifCond .ne 13, 3) := by decide +kernel
theorem dX5_rejoin_22 : decode cX5_rejoin 22 = .ok (.new 80, 3) := by decide +kernel
theorem dX5_rejoin_25 : decode cX5_rejoin 25 = .ok (.dup, 1) := by decide +kernel
theorem dX5_rejoin_26 : decode cX5_rejoin 26 = .ok (.ldc 126, 2) := by decide +kernel
theorem dX5_rejoin_28 : decode cX5_rejoin 28 = .ok (.invokespecial 84, 3) := by decide +kernel
theorem dX5_rejoin_31 : decode cX5_rejoin 31 = .ok (.athrow, 1) := by decide +kernel
theorem dX5_rejoin_32 : decode cX5_rejoin 32 = .ok (.aload_n 0, 1) := by decide +kernel
theorem dX5_rejoin_33 : decode cX5_rejoin 33 = .ok (.aload_n 0, 1) := by decide +kernel
theorem dX5_rejoin_34 : decode cX5_rejoin 34 = .ok (.getfield 11, 3) := by decide +kernel
theorem dX5_rejoin_37 : decode cX5_rejoin 37 = .ok (.iload_n 1, 1) := by decide +kernel
theorem dX5_rejoin_38 : decode cX5_rejoin 38 = .ok (.aaload, 1) := by decide +kernel
theorem dX5_rejoin_39 : decode cX5_rejoin 39 = .ok (.iload_n 2, 1) := by decide +kernel
theorem dX5_rejoin_40 : decode cX5_rejoin 40 = .ok (.invokevirtual 128, 3) := by decide +kernel
theorem dX5_rejoin_43 : decode cX5_rejoin 43 = .ok (.ireturn, 1) := by decide +kernel
theorem dX5_append_0 : decode cX5_append 0 = .ok (.iload_n 1, 1) := by decide +kernel
theorem dX5_append_1 : decode cX5_append 1 = .ok (.bipush 32, 2) := by decide +kernel
theorem dX5_append_3 : decode cX5_append 3 = .ok (.if_icmp .lt 9, 3) := by decide +kernel
theorem dX5_append_6 : decode cX5_append 6 = .ok (.iload_n 1, 1) := by decide +kernel
theorem dX5_append_7 : decode cX5_append 7 = .ok (.bipush 126, 2) := by decide +kernel
theorem dX5_append_9 : decode cX5_append 9 = .ok (.if_icmp .le 13, 3) := by decide +kernel
theorem dX5_append_12 : decode cX5_append 12 = .ok (.new 54, 3) := by decide +kernel
theorem dX5_append_15 : decode cX5_append 15 = .ok (.dup, 1) := by decide +kernel
theorem dX5_append_16 : decode cX5_append 16 = .ok (.ldc 131, 2) := by decide +kernel
theorem dX5_append_18 : decode cX5_append 18 = .ok (.invokespecial 58, 3) := by decide +kernel
theorem dX5_append_21 : decode cX5_append 21 = .ok (.athrow, 1) := by decide +kernel
theorem dX5_append_22 : decode cX5_append 22 = .ok (.aload_n 0, 1) := by decide +kernel
theorem dX5_append_23 : decode cX5_append 23 = .ok (.getfield 133, 3) := by decide +kernel
theorem dX5_append_26 : decode cX5_append 26 = .ok (.bipush 60, 2) := by decide +kernel
theorem dX5_append_28 : decode cX5_append 28 = .ok (.if_icmp .lt 13, 3) := by decide +kernel
theorem dX5_append_31 : decode cX5_append 31 = .ok (.new 80, 3) := by decide +kernel
theorem dX5_append_34 : decode cX5_append 34 = .ok (.dup, 1) := by decide +kernel
theorem dX5_append_35 : decode cX5_append 35 = .ok (.ldc 136, 2) := by decide +kernel
theorem dX5_append_37 : decode cX5_append 37 = .ok (.invokespecial 84, 3) := by decide +kernel
theorem dX5_append_40 : decode cX5_append 40 = .ok (.athrow, 1) := by decide +kernel
theorem dX5_append_41 : decode cX5_append 41 = .ok (.aload_n 0, 1) := by decide +kernel
theorem dX5_append_42 : decode cX5_append 42 = .ok (.getfield 35, 3) := by decide +kernel
theorem dX5_append_45 : decode cX5_append 45 = .ok (.aload_n 0, 1) := by decide +kernel
theorem dX5_append_46 : decode cX5_append 46 = .ok (.getfield 133, 3) := by decide +kernel
theorem dX5_append_49 : decode cX5_append 49 = .ok (.iload_n 1, 1) := by decide +kernel
theorem dX5_append_50 : decode cX5_append 50 = .ok (.iastore, 1) := by decide +kernel
theorem dX5_append_51 : decode cX5_append 51 = .ok (.aload_n 0, 1) := by decide +kernel
theorem dX5_append_52 : decode cX5_append 52 = .ok (.dup, 1) := by decide +kernel
theorem dX5_append_53 : decode cX5_append 53 = .ok (.getfield 133, 3) := by decide +kernel
theorem dX5_append_56 : decode cX5_append 56 = .ok (.iconst 1, 1) := by decide +kernel
theorem dX5_append_57 : decode cX5_append 57 = .ok (.iadd, 1) := by decide +kernel
theorem dX5_append_58 : decode cX5_append 58 = .ok (.putfield 133, 3) := by decide +kernel
theorem dX5_append_61 : decode cX5_append 61 = .ok (.aload_n 0, 1) := by decide +kernel
theorem dX5_append_62 : decode cX5_append 62 = .ok (.getfield 133, 3) := by decide +kernel
theorem dX5_append_65 : decode cX5_append 65 = .ok (.ireturn, 1) := by decide +kernel
theorem dX5_clearInput_0 : decode cX5_clearInput 0 = .ok (.aload_n 0, 1) := by decide +kernel
theorem dX5_clearInput_1 : decode cX5_clearInput 1 = .ok (.getfield 133, 3) := by decide +kernel
theorem dX5_clearInput_4 : decode cX5_clearInput 4 = .ok (.istore_n 1, 1) := by decide +kernel
theorem dX5_clearInput_5 : decode cX5_clearInput 5 = .ok (.aload_n 0, 1) := by decide +kernel
theorem dX5_clearInput_6 : decode cX5_clearInput 6 = .ok (.iconst 0, 1) := by decide +kernel
theorem dX5_clearInput_7 : decode cX5_clearInput 7 = .ok (.putfield 133, 3) := by decide +kernel
theorem dX5_clearInput_10 : decode cX5_clearInput 10 = .ok (.iload_n 1, 1) := by decide +kernel
theorem dX5_clearInput_11 : decode cX5_clearInput 11 = .ok (.ireturn, 1) := by decide +kernel
theorem dX5_firstError_0 : decode cX5_firstError 0 = .ok (.aload_n 0, 1) := by decide +kernel
theorem dX5_firstError_1 : decode cX5_firstError 1 = .ok (.invokevirtual 138, 3) := by decide +kernel
theorem dX5_firstError_4 : decode cX5_firstError 4 = .ok (.ireturn, 1) := by decide +kernel
theorem dX5_load_0 : decode cX5_load 0 = .ok (.aload_n 0, 1) := by decide +kernel
theorem dX5_load_1 : decode cX5_load 1 = .ok (.invokevirtual 138, 3) := by decide +kernel
theorem dX5_load_4 : decode cX5_load 4 = .ok (.aload_n 0, 1) := by decide +kernel
theorem dX5_load_5 : decode cX5_load 5 = .ok (.getfield 133, 3) := by decide +kernel
theorem dX5_load_8 : decode cX5_load 8 = .ok (.if_icmp .lt 13, 3) := by decide +kernel
theorem dX5_load_11 : decode cX5_load 11 = .ok (.aload_n 0, 1) := by decide +kernel
theorem dX5_load_12 : decode cX5_load 12 = .ok (.getfield 31, 3) := by decide +kernel
theorem dX5_load_15 : decode cX5_load 15 = .ok (.invokevirtual 141, 3) := by decide +kernel
theorem dX5_load_18 : decode cX5_load 18 = .ok (.ifCond .ne 13, 3) := by decide +kernel
theorem dX5_load_21 : decode cX5_load 21 = .ok (.new 54, 3) := by decide +kernel
theorem dX5_load_24 : decode cX5_load 24 = .ok (.dup, 1) := by decide +kernel
theorem dX5_load_25 : decode cX5_load 25 = .ok (.ldc 144, 2) := by decide +kernel
theorem dX5_load_27 : decode cX5_load 27 = .ok (.invokespecial 58, 3) := by decide +kernel
theorem dX5_load_30 : decode cX5_load 30 = .ok (.athrow, 1) := by decide +kernel
theorem dX5_load_31 : decode cX5_load 31 = .ok (.iconst 0, 1) := by decide +kernel
theorem dX5_load_32 : decode cX5_load 32 = .ok (.istore_n 1, 1) := by decide +kernel
theorem dX5_load_33 : decode cX5_load 33 = .ok (.aload_n 0, 1) := by decide +kernel
theorem dX5_load_34 : decode cX5_load 34 = .ok (.getfield 31, 3) := by decide +kernel
theorem dX5_load_37 : decode cX5_load 37 = .ok (.invokevirtual 146, 3) := by decide +kernel
theorem dX5_load_40 : decode cX5_load 40 = .ok (.iconst 0, 1) := by decide +kernel
theorem dX5_load_41 : decode cX5_load 41 = .ok (.istore_n 2, 1) := by decide +kernel
theorem dX5_load_42 : decode cX5_load 42 = .ok (.iload_n 2, 1) := by decide +kernel
theorem dX5_load_43 : decode cX5_load 43 = .ok (.aload_n 0, 1) := by decide +kernel
theorem dX5_load_44 : decode cX5_load 44 = .ok (.getfield 133, 3) := by decide +kernel
theorem dX5_load_47 : decode cX5_load 47 = .ok (.if_icmp .ge 64, 3) := by decide +kernel
theorem dX5_load_50 : decode cX5_load 50 = .ok (.aload_n 0, 1) := by decide +kernel
theorem dX5_load_51 : decode cX5_load 51 = .ok (.getfield 31, 3) := by decide +kernel
theorem dX5_load_54 : decode cX5_load 54 = .ok (.aload_n 0, 1) := by decide +kernel
theorem dX5_load_55 : decode cX5_load 55 = .ok (.getfield 35, 3) := by decide +kernel
theorem dX5_load_58 : decode cX5_load 58 = .ok (.iload_n 2, 1) := by decide +kernel
theorem dX5_load_59 : decode cX5_load 59 = .ok (.iaload, 1) := by decide +kernel
theorem dX5_load_60 : decode cX5_load 60 = .ok (.aload_n 0, 1) := by decide +kernel
theorem dX5_load_61 : decode cX5_load 61 = .ok (.getfield 43, 3) := by decide +kernel
theorem dX5_load_64 : decode cX5_load 64 = .ok (.aload_n 0, 1) := by decide +kernel
theorem dX5_load_65 : decode cX5_load 65 = .ok (.getfield 47, 3) := by decide +kernel
theorem dX5_load_68 : decode cX5_load 68 = .ok (.invokevirtual 149, 3) := by decide +kernel
theorem dX5_load_71 : decode cX5_load 71 = .ok (.pop, 1) := by decide +kernel
theorem dX5_load_72 : decode cX5_load 72 = .ok (.iload_n 2, 1) := by decide +kernel
theorem dX5_load_73 : decode cX5_load 73 = .ok (.iconst 1, 1) := by decide +kernel
theorem dX5_load_74 : decode cX5_load 74 = .ok (.iadd, 1) := by decide +kernel
theorem dX5_load_75 : decode cX5_load 75 = .ok (.aload_n 0, 1) := by decide +kernel
theorem dX5_load_76 : decode cX5_load 76 = .ok (.getfield 133, 3) := by decide +kernel
theorem dX5_load_79 : decode cX5_load 79 = .ok (.if_icmp .eq 16, 3) := by decide +kernel
theorem dX5_load_82 : decode cX5_load 82 = .ok (.aload_n 0, 1) := by decide +kernel
theorem dX5_load_83 : decode cX5_load 83 = .ok (.getfield 35, 3) := by decide +kernel
theorem dX5_load_86 : decode cX5_load 86 = .ok (.iload_n 2, 1) := by decide +kernel
theorem dX5_load_87 : decode cX5_load 87 = .ok (.iconst 1, 1) := by decide +kernel
theorem dX5_load_88 : decode cX5_load 88 = .ok (.iadd, 1) := by decide +kernel
theorem dX5_load_89 : decode cX5_load 89 = .ok (.iaload, 1) := by decide +kernel
theorem dX5_load_90 : decode cX5_load 90 = .ok (.bipush 59, 2) := by decide +kernel
theorem dX5_load_92 : decode cX5_load 92 = .ok (.if_icmp .ne 13, 3) := by decide +kernel
theorem dX5_load_95 : decode cX5_load 95 = .ok (.iload_n 1, 1) := by decide +kernel
theorem dX5_load_96 : decode cX5_load 96 = .ok (.aload_n 0, 1) := by decide +kernel
theorem dX5_load_97 : decode cX5_load 97 = .ok (.invokevirtual 153, 3) := by decide +kernel
theorem dX5_load_100 : decode cX5_load 100 = .ok (.invokestatic 66, 3) := by decide +kernel
theorem dX5_load_103 : decode cX5_load 103 = .ok (.iadd, 1) := by decide +kernel
theorem dX5_load_104 : decode cX5_load 104 = .ok (.istore_n 1, 1) := by decide +kernel
theorem dX5_load_105 : decode cX5_load 105 = .ok (.iinc 2 1, 3) := by decide +kernel
theorem dX5_load_108 : decode cX5_load 108 = .ok (.goto (-66), 3) := by decide +kernel
theorem dX5_load_111 : decode cX5_load 111 = .ok (.aload_n 0, 1) := by decide +kernel
theorem dX5_load_112 : decode cX5_load 112 = .ok (.iconst 0, 1) := by decide +kernel
theorem dX5_load_113 : decode cX5_load 113 = .ok (.putfield 133, 3) := by decide +kernel
theorem dX5_load_116 : decode cX5_load 116 = .ok (.iload_n 1, 1) := by decide +kernel
theorem dX5_load_117 : decode cX5_load 117 = .ok (.ireturn, 1) := by decide +kernel
theorem dX5_count_0 : decode cX5_count 0 = .ok (.iload_n 1, 1) := by decide +kernel
theorem dX5_count_1 : decode cX5_count 1 = .ok (.tableswitch 126 0 11 #[63, 68, 73, 78, 86, 91, 96, 101, 106, 111, 116, 121], 63) := by decide +kernel
theorem dX5_count_64 : decode cX5_count 64 = .ok (.aload_n 0, 1) := by decide +kernel
theorem dX5_count_65 : decode cX5_count 65 = .ok (.getfield 43, 3) := by decide +kernel
theorem dX5_count_68 : decode cX5_count 68 = .ok (.ireturn, 1) := by decide +kernel
theorem dX5_count_69 : decode cX5_count 69 = .ok (.aload_n 0, 1) := by decide +kernel
theorem dX5_count_70 : decode cX5_count 70 = .ok (.getfield 47, 3) := by decide +kernel
theorem dX5_count_73 : decode cX5_count 73 = .ok (.ireturn, 1) := by decide +kernel
theorem dX5_count_74 : decode cX5_count 74 = .ok (.aload_n 0, 1) := by decide +kernel
theorem dX5_count_75 : decode cX5_count 75 = .ok (.invokevirtual 156, 3) := by decide +kernel
theorem dX5_count_78 : decode cX5_count 78 = .ok (.ireturn, 1) := by decide +kernel
theorem dX5_count_79 : decode cX5_count 79 = .ok (.aload_n 0, 1) := by decide +kernel
theorem dX5_count_80 : decode cX5_count 80 = .ok (.getfield 50, 3) := by decide +kernel
theorem dX5_count_83 : decode cX5_count 83 = .ok (.invokestatic 66, 3) := by decide +kernel
theorem dX5_count_86 : decode cX5_count 86 = .ok (.ireturn, 1) := by decide +kernel
theorem dX5_count_87 : decode cX5_count 87 = .ok (.aload_n 0, 1) := by decide +kernel
theorem dX5_count_88 : decode cX5_count 88 = .ok (.invokevirtual 159, 3) := by decide +kernel
theorem dX5_count_91 : decode cX5_count 91 = .ok (.ireturn, 1) := by decide +kernel
theorem dX5_count_92 : decode cX5_count 92 = .ok (.aload_n 0, 1) := by decide +kernel
theorem dX5_count_93 : decode cX5_count 93 = .ok (.invokevirtual 162, 3) := by decide +kernel
theorem dX5_count_96 : decode cX5_count 96 = .ok (.ireturn, 1) := by decide +kernel
theorem dX5_count_97 : decode cX5_count 97 = .ok (.aload_n 0, 1) := by decide +kernel
theorem dX5_count_98 : decode cX5_count 98 = .ok (.invokevirtual 165, 3) := by decide +kernel
theorem dX5_count_101 : decode cX5_count 101 = .ok (.ireturn, 1) := by decide +kernel
theorem dX5_count_102 : decode cX5_count 102 = .ok (.aload_n 0, 1) := by decide +kernel
theorem dX5_count_103 : decode cX5_count 103 = .ok (.invokevirtual 168, 3) := by decide +kernel
theorem dX5_count_106 : decode cX5_count 106 = .ok (.ireturn, 1) := by decide +kernel
theorem dX5_count_107 : decode cX5_count 107 = .ok (.aload_n 0, 1) := by decide +kernel
theorem dX5_count_108 : decode cX5_count 108 = .ok (.getfield 171, 3) := by decide +kernel
theorem dX5_count_111 : decode cX5_count 111 = .ok (.ireturn, 1) := by decide +kernel
theorem dX5_count_112 : decode cX5_count 112 = .ok (.aload_n 0, 1) := by decide +kernel
theorem dX5_count_113 : decode cX5_count 113 = .ok (.getfield 174, 3) := by decide +kernel
theorem dX5_count_116 : decode cX5_count 116 = .ok (.ireturn, 1) := by decide +kernel
theorem dX5_count_117 : decode cX5_count 117 = .ok (.aload_n 0, 1) := by decide +kernel
theorem dX5_count_118 : decode cX5_count 118 = .ok (.invokevirtual 177, 3) := by decide +kernel
theorem dX5_count_121 : decode cX5_count 121 = .ok (.ireturn, 1) := by decide +kernel
theorem dX5_count_122 : decode cX5_count 122 = .ok (.aload_n 0, 1) := by decide +kernel
theorem dX5_count_123 : decode cX5_count 123 = .ok (.getfield 180, 3) := by decide +kernel
theorem dX5_count_126 : decode cX5_count 126 = .ok (.ireturn, 1) := by decide +kernel
theorem dX5_count_127 : decode cX5_count 127 = .ok (.new 54, 3) := by decide +kernel
theorem dX5_count_130 : decode cX5_count 130 = .ok (.dup, 1) := by decide +kernel
theorem dX5_count_131 : decode cX5_count 131 = .ok (.ldc 183, 2) := by decide +kernel
theorem dX5_count_133 : decode cX5_count 133 = .ok (.invokespecial 58, 3) := by decide +kernel
theorem dX5_count_136 : decode cX5_count 136 = .ok (.athrow, 1) := by decide +kernel
theorem dX5_node_0 : decode cX5_node 0 = .ok (.aload_n 0, 1) := by decide +kernel
theorem dX5_node_1 : decode cX5_node 1 = .ok (.iload_n 1, 1) := by decide +kernel
theorem dX5_node_2 : decode cX5_node 2 = .ok (.invokevirtual 70, 3) := by decide +kernel
theorem dX5_node_5 : decode cX5_node 5 = .ok (.aload_n 0, 1) := by decide +kernel
theorem dX5_node_6 : decode cX5_node 6 = .ok (.getfield 11, 3) := by decide +kernel
theorem dX5_node_9 : decode cX5_node 9 = .ok (.iload_n 1, 1) := by decide +kernel
theorem dX5_node_10 : decode cX5_node 10 = .ok (.aaload, 1) := by decide +kernel
theorem dX5_node_11 : decode cX5_node 11 = .ok (.astore_n 3, 1) := by decide +kernel
theorem dX5_node_12 : decode cX5_node 12 = .ok (.iload_n 2, 1) := by decide +kernel
theorem dX5_node_13 : decode cX5_node 13 = .ok (.tableswitch 111 0 8 #[51, 59, 67, 72, 80, 88, 96, 101, 106], 51) := by decide +kernel
theorem dX5_node_64 : decode cX5_node 64 = .ok (.aload_n 3, 1) := by decide +kernel
theorem dX5_node_65 : decode cX5_node 65 = .ok (.getfield 185, 3) := by decide +kernel
theorem dX5_node_68 : decode cX5_node 68 = .ok (.invokestatic 66, 3) := by decide +kernel
theorem dX5_node_71 : decode cX5_node 71 = .ok (.ireturn, 1) := by decide +kernel
theorem dX5_node_72 : decode cX5_node 72 = .ok (.aload_n 3, 1) := by decide +kernel
theorem dX5_node_73 : decode cX5_node 73 = .ok (.getfield 188, 3) := by decide +kernel
theorem dX5_node_76 : decode cX5_node 76 = .ok (.invokestatic 66, 3) := by decide +kernel
theorem dX5_node_79 : decode cX5_node 79 = .ok (.ireturn, 1) := by decide +kernel
theorem dX5_node_80 : decode cX5_node 80 = .ok (.aload_n 3, 1) := by decide +kernel
theorem dX5_node_81 : decode cX5_node 81 = .ok (.getfield 191, 3) := by decide +kernel
theorem dX5_node_84 : decode cX5_node 84 = .ok (.ireturn, 1) := by decide +kernel
theorem dX5_node_85 : decode cX5_node 85 = .ok (.aload_n 3, 1) := by decide +kernel
theorem dX5_node_86 : decode cX5_node 86 = .ok (.getfield 194, 3) := by decide +kernel
theorem dX5_node_89 : decode cX5_node 89 = .ok (.getfield 197, 3) := by decide +kernel
theorem dX5_node_92 : decode cX5_node 92 = .ok (.ireturn, 1) := by decide +kernel
theorem dX5_node_93 : decode cX5_node 93 = .ok (.aload_n 3, 1) := by decide +kernel
theorem dX5_node_94 : decode cX5_node 94 = .ok (.getfield 200, 3) := by decide +kernel
theorem dX5_node_97 : decode cX5_node 97 = .ok (.getfield 197, 3) := by decide +kernel
theorem dX5_node_100 : decode cX5_node 100 = .ok (.ireturn, 1) := by decide +kernel
theorem dX5_node_101 : decode cX5_node 101 = .ok (.aload_n 3, 1) := by decide +kernel
theorem dX5_node_102 : decode cX5_node 102 = .ok (.getfield 203, 3) := by decide +kernel
theorem dX5_node_105 : decode cX5_node 105 = .ok (.getfield 207, 3) := by decide +kernel
theorem dX5_node_108 : decode cX5_node 108 = .ok (.ireturn, 1) := by decide +kernel
theorem dX5_node_109 : decode cX5_node 109 = .ok (.aload_n 3, 1) := by decide +kernel
theorem dX5_node_110 : decode cX5_node 110 = .ok (.getfield 212, 3) := by decide +kernel
theorem dX5_node_113 : decode cX5_node 113 = .ok (.ireturn, 1) := by decide +kernel
theorem dX5_node_114 : decode cX5_node 114 = .ok (.aload_n 3, 1) := by decide +kernel
theorem dX5_node_115 : decode cX5_node 115 = .ok (.getfield 215, 3) := by decide +kernel
theorem dX5_node_118 : decode cX5_node 118 = .ok (.ireturn, 1) := by decide +kernel
theorem dX5_node_119 : decode cX5_node 119 = .ok (.aload_n 3, 1) := by decide +kernel
theorem dX5_node_120 : decode cX5_node 120 = .ok (.invokevirtual 218, 3) := by decide +kernel
theorem dX5_node_123 : decode cX5_node 123 = .ok (.ireturn, 1) := by decide +kernel
theorem dX5_node_124 : decode cX5_node 124 = .ok (.new 54, 3) := by decide +kernel
theorem dX5_node_127 : decode cX5_node 127 = .ok (.dup, 1) := by decide +kernel
theorem dX5_node_128 : decode cX5_node 128 = .ok (.ldc 221, 2) := by decide +kernel
theorem dX5_node_130 : decode cX5_node 130 = .ok (.invokespecial 58, 3) := by decide +kernel
theorem dX5_node_133 : decode cX5_node 133 = .ok (.athrow, 1) := by decide +kernel
theorem dX5_accepted_0 : decode cX5_accepted 0 = .ok (.aload_n 0, 1) := by decide +kernel
theorem dX5_accepted_1 : decode cX5_accepted 1 = .ok (.iload_n 1, 1) := by decide +kernel
theorem dX5_accepted_2 : decode cX5_accepted 2 = .ok (.invokevirtual 70, 3) := by decide +kernel
theorem dX5_accepted_5 : decode cX5_accepted 5 = .ok (.aload_n 0, 1) := by decide +kernel
theorem dX5_accepted_6 : decode cX5_accepted 6 = .ok (.iload_n 2, 1) := by decide +kernel
theorem dX5_accepted_7 : decode cX5_accepted 7 = .ok (.invokevirtual 89, 3) := by decide +kernel
theorem dX5_accepted_10 : decode cX5_accepted 10 = .ok (.aload_n 0, 1) := by decide +kernel
theorem dX5_accepted_11 : decode cX5_accepted 11 = .ok (.getfield 11, 3) := by decide +kernel
theorem dX5_accepted_14 : decode cX5_accepted 14 = .ok (.iload_n 1, 1) := by decide +kernel
theorem dX5_accepted_15 : decode cX5_accepted 15 = .ok (.aaload, 1) := by decide +kernel
theorem dX5_accepted_16 : decode cX5_accepted 16 = .ok (.astore 4, 2) := by decide +kernel
theorem dX5_accepted_18 : decode cX5_accepted 18 = .ok (.iload_n 3, 1) := by decide +kernel
theorem dX5_accepted_19 : decode cX5_accepted 19 = .ok (.tableswitch 73 0 3 #[29, 40, 51, 62], 29) := by decide +kernel
theorem dX5_accepted_48 : decode cX5_accepted 48 = .ok (.aload 4, 2) := by decide +kernel
theorem dX5_accepted_50 : decode cX5_accepted 50 = .ok (.getfield 194, 3) := by decide +kernel
theorem dX5_accepted_53 : decode cX5_accepted 53 = .ok (.getfield 223, 3) := by decide +kernel
theorem dX5_accepted_56 : decode cX5_accepted 56 = .ok (.iload_n 2, 1) := by decide +kernel
theorem dX5_accepted_57 : decode cX5_accepted 57 = .ok (.iaload, 1) := by decide +kernel
theorem dX5_accepted_58 : decode cX5_accepted 58 = .ok (.ireturn, 1) := by decide +kernel
theorem dX5_accepted_59 : decode cX5_accepted 59 = .ok (.aload 4, 2) := by decide +kernel
theorem dX5_accepted_61 : decode cX5_accepted 61 = .ok (.getfield 194, 3) := by decide +kernel
theorem dX5_accepted_64 : decode cX5_accepted 64 = .ok (.getfield 226, 3) := by decide +kernel
theorem dX5_accepted_67 : decode cX5_accepted 67 = .ok (.iload_n 2, 1) := by decide +kernel
theorem dX5_accepted_68 : decode cX5_accepted 68 = .ok (.iaload, 1) := by decide +kernel
theorem dX5_accepted_69 : decode cX5_accepted 69 = .ok (.ireturn, 1) := by decide +kernel
theorem dX5_accepted_70 : decode cX5_accepted 70 = .ok (.aload 4, 2) := by decide +kernel
theorem dX5_accepted_72 : decode cX5_accepted 72 = .ok (.getfield 200, 3) := by decide +kernel
theorem dX5_accepted_75 : decode cX5_accepted 75 = .ok (.getfield 223, 3) := by decide +kernel
theorem dX5_accepted_78 : decode cX5_accepted 78 = .ok (.iload_n 2, 1) := by decide +kernel
theorem dX5_accepted_79 : decode cX5_accepted 79 = .ok (.iaload, 1) := by decide +kernel
theorem dX5_accepted_80 : decode cX5_accepted 80 = .ok (.ireturn, 1) := by decide +kernel
theorem dX5_accepted_81 : decode cX5_accepted 81 = .ok (.aload 4, 2) := by decide +kernel
theorem dX5_accepted_83 : decode cX5_accepted 83 = .ok (.getfield 200, 3) := by decide +kernel
theorem dX5_accepted_86 : decode cX5_accepted 86 = .ok (.getfield 226, 3) := by decide +kernel
theorem dX5_accepted_89 : decode cX5_accepted 89 = .ok (.iload_n 2, 1) := by decide +kernel
theorem dX5_accepted_90 : decode cX5_accepted 90 = .ok (.iaload, 1) := by decide +kernel
theorem dX5_accepted_91 : decode cX5_accepted 91 = .ok (.ireturn, 1) := by decide +kernel
theorem dX5_accepted_92 : decode cX5_accepted 92 = .ok (.new 54, 3) := by decide +kernel
theorem dX5_accepted_95 : decode cX5_accepted 95 = .ok (.dup, 1) := by decide +kernel
theorem dX5_accepted_96 : decode cX5_accepted 96 = .ok (.ldc 229, 2) := by decide +kernel
theorem dX5_accepted_98 : decode cX5_accepted 98 = .ok (.invokespecial 58, 3) := by decide +kernel
theorem dX5_accepted_101 : decode cX5_accepted 101 = .ok (.athrow, 1) := by decide +kernel
theorem dX5_waiting_0 : decode cX5_waiting 0 = .ok (.aload_n 0, 1) := by decide +kernel
theorem dX5_waiting_1 : decode cX5_waiting 1 = .ok (.iload_n 1, 1) := by decide +kernel
theorem dX5_waiting_2 : decode cX5_waiting 2 = .ok (.invokevirtual 70, 3) := by decide +kernel
theorem dX5_waiting_5 : decode cX5_waiting 5 = .ok (.aload_n 0, 1) := by decide +kernel
theorem dX5_waiting_6 : decode cX5_waiting 6 = .ok (.getfield 11, 3) := by decide +kernel
theorem dX5_waiting_9 : decode cX5_waiting 9 = .ok (.iload_n 1, 1) := by decide +kernel
theorem dX5_waiting_10 : decode cX5_waiting 10 = .ok (.aaload, 1) := by decide +kernel
theorem dX5_waiting_11 : decode cX5_waiting 11 = .ok (.getfield 203, 3) := by decide +kernel
theorem dX5_waiting_14 : decode cX5_waiting 14 = .ok (.astore 4, 2) := by decide +kernel
theorem dX5_waiting_16 : decode cX5_waiting 16 = .ok (.iload_n 2, 1) := by decide +kernel
theorem dX5_waiting_17 : decode cX5_waiting 17 = .ok (.ifCond .lt 12, 3) := by decide +kernel
theorem dX5_waiting_20 : decode cX5_waiting 20 = .ok (.iload_n 2, 1) := by decide +kernel
theorem dX5_waiting_21 : decode cX5_waiting 21 = .ok (.aload 4, 2) := by decide +kernel
theorem dX5_waiting_23 : decode cX5_waiting 23 = .ok (.getfield 207, 3) := by decide +kernel
theorem dX5_waiting_26 : decode cX5_waiting 26 = .ok (.if_icmp .lt 13, 3) := by decide +kernel
theorem dX5_waiting_29 : decode cX5_waiting 29 = .ok (.new 231, 3) := by decide +kernel
theorem dX5_waiting_32 : decode cX5_waiting 32 = .ok (.dup, 1) := by decide +kernel
theorem dX5_waiting_33 : decode cX5_waiting 33 = .ok (.ldc 233, 2) := by decide +kernel
theorem dX5_waiting_35 : decode cX5_waiting 35 = .ok (.invokespecial 235, 3) := by decide +kernel
theorem dX5_waiting_38 : decode cX5_waiting 38 = .ok (.athrow, 1) := by decide +kernel
theorem dX5_waiting_39 : decode cX5_waiting 39 = .ok (.iload_n 3, 1) := by decide +kernel
theorem dX5_waiting_40 : decode cX5_waiting 40 = .ok (.tableswitch 52 0 2 #[28, 36, 44], 28) := by decide +kernel
theorem dX5_waiting_68 : decode cX5_waiting 68 = .ok (.aload 4, 2) := by decide +kernel
theorem dX5_waiting_70 : decode cX5_waiting 70 = .ok (.getfield 236, 3) := by decide +kernel
theorem dX5_waiting_73 : decode cX5_waiting 73 = .ok (.iload_n 2, 1) := by decide +kernel
theorem dX5_waiting_74 : decode cX5_waiting 74 = .ok (.iaload, 1) := by decide +kernel
theorem dX5_waiting_75 : decode cX5_waiting 75 = .ok (.ireturn, 1) := by decide +kernel
theorem dX5_waiting_76 : decode cX5_waiting 76 = .ok (.aload 4, 2) := by decide +kernel
theorem dX5_waiting_78 : decode cX5_waiting 78 = .ok (.getfield 239, 3) := by decide +kernel
theorem dX5_waiting_81 : decode cX5_waiting 81 = .ok (.iload_n 2, 1) := by decide +kernel
theorem dX5_waiting_82 : decode cX5_waiting 82 = .ok (.iaload, 1) := by decide +kernel
theorem dX5_waiting_83 : decode cX5_waiting 83 = .ok (.ireturn, 1) := by decide +kernel
theorem dX5_waiting_84 : decode cX5_waiting 84 = .ok (.aload 4, 2) := by decide +kernel
theorem dX5_waiting_86 : decode cX5_waiting 86 = .ok (.getfield 240, 3) := by decide +kernel
theorem dX5_waiting_89 : decode cX5_waiting 89 = .ok (.iload_n 2, 1) := by decide +kernel
theorem dX5_waiting_90 : decode cX5_waiting 90 = .ok (.iaload, 1) := by decide +kernel
theorem dX5_waiting_91 : decode cX5_waiting 91 = .ok (.ireturn, 1) := by decide +kernel
theorem dX5_waiting_92 : decode cX5_waiting 92 = .ok (.new 54, 3) := by decide +kernel
theorem dX5_waiting_95 : decode cX5_waiting 95 = .ok (.dup, 1) := by decide +kernel
theorem dX5_waiting_96 : decode cX5_waiting 96 = .ok (.ldc 241, 2) := by decide +kernel
theorem dX5_waiting_98 : decode cX5_waiting 98 = .ok (.invokespecial 58, 3) := by decide +kernel
theorem dX5_waiting_101 : decode cX5_waiting 101 = .ok (.athrow, 1) := by decide +kernel
theorem dX5_slot_0 : decode cX5_slot 0 = .ok (.aload_n 0, 1) := by decide +kernel
theorem dX5_slot_1 : decode cX5_slot 1 = .ok (.iload_n 1, 1) := by decide +kernel
theorem dX5_slot_2 : decode cX5_slot 2 = .ok (.invokevirtual 89, 3) := by decide +kernel
theorem dX5_slot_5 : decode cX5_slot 5 = .ok (.aload_n 0, 1) := by decide +kernel
theorem dX5_slot_6 : decode cX5_slot 6 = .ok (.getfield 17, 3) := by decide +kernel
theorem dX5_slot_9 : decode cX5_slot 9 = .ok (.iload_n 1, 1) := by decide +kernel
theorem dX5_slot_10 : decode cX5_slot 10 = .ok (.aaload, 1) := by decide +kernel
theorem dX5_slot_11 : decode cX5_slot 11 = .ok (.astore_n 3, 1) := by decide +kernel
theorem dX5_slot_12 : decode cX5_slot 12 = .ok (.iload_n 2, 1) := by decide +kernel
theorem dX5_slot_13 : decode cX5_slot 13 = .ok (.tableswitch 87 0 6 #[43, 48, 53, 58, 64, 70, 79], 43) := by decide +kernel
theorem dX5_slot_56 : decode cX5_slot 56 = .ok (.aload_n 3, 1) := by decide +kernel
theorem dX5_slot_57 : decode cX5_slot 57 = .ok (.getfield 243, 3) := by decide +kernel
theorem dX5_slot_60 : decode cX5_slot 60 = .ok (.ireturn, 1) := by decide +kernel
theorem dX5_slot_61 : decode cX5_slot 61 = .ok (.aload_n 3, 1) := by decide +kernel
theorem dX5_slot_62 : decode cX5_slot 62 = .ok (.getfield 246, 3) := by decide +kernel
theorem dX5_slot_65 : decode cX5_slot 65 = .ok (.ireturn, 1) := by decide +kernel
theorem dX5_slot_66 : decode cX5_slot 66 = .ok (.aload_n 3, 1) := by decide +kernel
theorem dX5_slot_67 : decode cX5_slot 67 = .ok (.getfield 249, 3) := by decide +kernel
theorem dX5_slot_70 : decode cX5_slot 70 = .ok (.ireturn, 1) := by decide +kernel
theorem dX5_slot_71 : decode cX5_slot 71 = .ok (.aload_n 0, 1) := by decide +kernel
theorem dX5_slot_72 : decode cX5_slot 72 = .ok (.iload_n 1, 1) := by decide +kernel
theorem dX5_slot_73 : decode cX5_slot 73 = .ok (.invokevirtual 252, 3) := by decide +kernel
theorem dX5_slot_76 : decode cX5_slot 76 = .ok (.ireturn, 1) := by decide +kernel
theorem dX5_slot_77 : decode cX5_slot 77 = .ok (.aload_n 0, 1) := by decide +kernel
theorem dX5_slot_78 : decode cX5_slot 78 = .ok (.iload_n 1, 1) := by decide +kernel
theorem dX5_slot_79 : decode cX5_slot 79 = .ok (.invokevirtual 256, 3) := by decide +kernel
theorem dX5_slot_82 : decode cX5_slot 82 = .ok (.ireturn, 1) := by decide +kernel
theorem dX5_slot_83 : decode cX5_slot 83 = .ok (.aload_n 0, 1) := by decide +kernel
theorem dX5_slot_84 : decode cX5_slot 84 = .ok (.iload_n 1, 1) := by decide +kernel
theorem dX5_slot_85 : decode cX5_slot 85 = .ok (.invokevirtual 259, 3) := by decide +kernel
theorem dX5_slot_88 : decode cX5_slot 88 = .ok (.invokestatic 66, 3) := by decide +kernel
theorem dX5_slot_91 : decode cX5_slot 91 = .ok (.ireturn, 1) := by decide +kernel
theorem dX5_slot_92 : decode cX5_slot 92 = .ok (.aload_n 3, 1) := by decide +kernel
theorem dX5_slot_93 : decode cX5_slot 93 = .ok (.getfield 263, 3) := by decide +kernel
theorem dX5_slot_96 : decode cX5_slot 96 = .ok (.invokestatic 66, 3) := by decide +kernel
theorem dX5_slot_99 : decode cX5_slot 99 = .ok (.ireturn, 1) := by decide +kernel
theorem dX5_slot_100 : decode cX5_slot 100 = .ok (.new 54, 3) := by decide +kernel
theorem dX5_slot_103 : decode cX5_slot 103 = .ok (.dup, 1) := by decide +kernel
theorem dX5_slot_104 : decode cX5_slot 104 = .ok (.ldc_w 266, 3) := by decide +kernel
theorem dX5_slot_107 : decode cX5_slot 107 = .ok (.invokespecial 58, 3) := by decide +kernel
theorem dX5_slot_110 : decode cX5_slot 110 = .ok (.athrow, 1) := by decide +kernel
theorem dX5_roundValue_0 : decode cX5_roundValue 0 = .ok (.aload_n 0, 1) := by decide +kernel
theorem dX5_roundValue_1 : decode cX5_roundValue 1 = .ok (.iload_n 1, 1) := by decide +kernel
theorem dX5_roundValue_2 : decode cX5_roundValue 2 = .ok (.invokevirtual 70, 3) := by decide +kernel
theorem dX5_roundValue_5 : decode cX5_roundValue 5 = .ok (.aload_n 0, 1) := by decide +kernel
theorem dX5_roundValue_6 : decode cX5_roundValue 6 = .ok (.iload_n 2, 1) := by decide +kernel
theorem dX5_roundValue_7 : decode cX5_roundValue 7 = .ok (.invokevirtual 89, 3) := by decide +kernel
theorem dX5_roundValue_10 : decode cX5_roundValue 10 = .ok (.aload_n 0, 1) := by decide +kernel
theorem dX5_roundValue_11 : decode cX5_roundValue 11 = .ok (.iload_n 1, 1) := by decide +kernel
theorem dX5_roundValue_12 : decode cX5_roundValue 12 = .ok (.invokevirtual 94, 3) := by decide +kernel
theorem dX5_roundValue_15 : decode cX5_roundValue 15 = .ok (.aload_n 0, 1) := by decide +kernel
theorem dX5_roundValue_16 : decode cX5_roundValue 16 = .ok (.getfield 11, 3) := by decide +kernel
theorem dX5_roundValue_19 : decode cX5_roundValue 19 = .ok (.iload_n 1, 1) := by decide +kernel
theorem dX5_roundValue_20 : decode cX5_roundValue 20 = .ok (.aaload, 1) := by decide +kernel
theorem dX5_roundValue_21 : decode cX5_roundValue 21 = .ok (.getfield 268, 3) := by decide +kernel
theorem dX5_roundValue_24 : decode cX5_roundValue 24 = .ok (.iload_n 2, 1) := by decide +kernel
theorem dX5_roundValue_25 : decode cX5_roundValue 25 = .ok (.iaload, 1) := by decide +kernel
theorem dX5_roundValue_26 : decode cX5_roundValue 26 = .ok (.ireturn, 1) := by decide +kernel
theorem dX5_ifCrashed_0 : decode cX5_ifCrashed 0 = .ok (.aload_n 0, 1) := by decide +kernel
theorem dX5_ifCrashed_1 : decode cX5_ifCrashed 1 = .ok (.iload_n 1, 1) := by decide +kernel
theorem dX5_ifCrashed_2 : decode cX5_ifCrashed 2 = .ok (.invokevirtual 70, 3) := by decide +kernel
theorem dX5_ifCrashed_5 : decode cX5_ifCrashed 5 = .ok (.aload_n 0, 1) := by decide +kernel
theorem dX5_ifCrashed_6 : decode cX5_ifCrashed 6 = .ok (.iload_n 3, 1) := by decide +kernel
theorem dX5_ifCrashed_7 : decode cX5_ifCrashed 7 = .ok (.invokevirtual 89, 3) := by decide +kernel
theorem dX5_ifCrashed_10 : decode cX5_ifCrashed 10 = .ok (.iload_n 2, 1) := by decide +kernel
theorem dX5_ifCrashed_11 : decode cX5_ifCrashed 11 = .ok (.invokestatic 108, 3) := by decide +kernel
theorem dX5_ifCrashed_14 : decode cX5_ifCrashed 14 = .ok (.aload_n 0, 1) := by decide +kernel
theorem dX5_ifCrashed_15 : decode cX5_ifCrashed 15 = .ok (.aload_n 0, 1) := by decide +kernel
theorem dX5_ifCrashed_16 : decode cX5_ifCrashed 16 = .ok (.getfield 11, 3) := by decide +kernel
theorem dX5_ifCrashed_19 : decode cX5_ifCrashed 19 = .ok (.iload_n 1, 1) := by decide +kernel
theorem dX5_ifCrashed_20 : decode cX5_ifCrashed 20 = .ok (.aaload, 1) := by decide +kernel
theorem dX5_ifCrashed_21 : decode cX5_ifCrashed 21 = .ok (.iload_n 2, 1) := by decide +kernel
theorem dX5_ifCrashed_22 : decode cX5_ifCrashed 22 = .ok (.iload_n 3, 1) := by decide +kernel
theorem dX5_ifCrashed_23 : decode cX5_ifCrashed 23 = .ok (.invokevirtual 271, 3) := by decide +kernel
theorem dX5_ifCrashed_26 : decode cX5_ifCrashed 26 = .ok (.ireturn, 1) := by decide +kernel
theorem dX5_harmless_0 : decode cX5_harmless 0 = .ok (.aload_n 0, 1) := by decide +kernel
theorem dX5_harmless_1 : decode cX5_harmless 1 = .ok (.iload_n 1, 1) := by decide +kernel
theorem dX5_harmless_2 : decode cX5_harmless 2 = .ok (.invokevirtual 70, 3) := by decide +kernel
theorem dX5_harmless_5 : decode cX5_harmless 5 = .ok (.aload_n 0, 1) := by decide +kernel
theorem dX5_harmless_6 : decode cX5_harmless 6 = .ok (.aload_n 0, 1) := by decide +kernel
theorem dX5_harmless_7 : decode cX5_harmless 7 = .ok (.getfield 11, 3) := by decide +kernel
theorem dX5_harmless_10 : decode cX5_harmless 10 = .ok (.iload_n 1, 1) := by decide +kernel
theorem dX5_harmless_11 : decode cX5_harmless 11 = .ok (.aaload, 1) := by decide +kernel
theorem dX5_harmless_12 : decode cX5_harmless 12 = .ok (.invokevirtual 275, 3) := by decide +kernel
theorem dX5_harmless_15 : decode cX5_harmless 15 = .ok (.ireturn, 1) := by decide +kernel
theorem dX5_leastLosses_0 : decode cX5_leastLosses 0 = .ok (.aload_n 0, 1) := by decide +kernel
theorem dX5_leastLosses_1 : decode cX5_leastLosses 1 = .ok (.iload_n 1, 1) := by decide +kernel
theorem dX5_leastLosses_2 : decode cX5_leastLosses 2 = .ok (.invokevirtual 89, 3) := by decide +kernel
theorem dX5_leastLosses_5 : decode cX5_leastLosses 5 = .ok (.aload_n 0, 1) := by decide +kernel
theorem dX5_leastLosses_6 : decode cX5_leastLosses 6 = .ok (.getfield 17, 3) := by decide +kernel
theorem dX5_leastLosses_9 : decode cX5_leastLosses 9 = .ok (.iload_n 1, 1) := by decide +kernel
theorem dX5_leastLosses_10 : decode cX5_leastLosses 10 = .ok (.aaload, 1) := by decide +kernel
theorem dX5_leastLosses_11 : decode cX5_leastLosses 11 = .ok (.invokevirtual 279, 3) := by decide +kernel
theorem dX5_leastLosses_14 : decode cX5_leastLosses 14 = .ok (.ifCond .ne 14, 3) := by decide +kernel
theorem dX5_leastLosses_17 : decode cX5_leastLosses 17 = .ok (.new 80, 3) := by decide +kernel
theorem dX5_leastLosses_20 : decode cX5_leastLosses 20 = .ok (.dup, 1) := by decide +kernel
theorem dX5_leastLosses_21 : decode cX5_leastLosses 21 = .ok (.ldc_w 282, 3) := by decide +kernel
theorem dX5_leastLosses_24 : decode cX5_leastLosses 24 = .ok (.invokespecial 84, 3) := by decide +kernel
theorem dX5_leastLosses_27 : decode cX5_leastLosses 27 = .ok (.athrow, 1) := by decide +kernel
theorem dX5_leastLosses_28 : decode cX5_leastLosses 28 = .ok (.aload_n 0, 1) := by decide +kernel
theorem dX5_leastLosses_29 : decode cX5_leastLosses 29 = .ok (.iload_n 1, 1) := by decide +kernel
theorem dX5_leastLosses_30 : decode cX5_leastLosses 30 = .ok (.invokevirtual 284, 3) := by decide +kernel
theorem dX5_leastLosses_33 : decode cX5_leastLosses 33 = .ok (.ireturn, 1) := by decide +kernel
theorem dX5_answered_0 : decode cX5_answered 0 = .ok (.aload_n 0, 1) := by decide +kernel
theorem dX5_answered_1 : decode cX5_answered 1 = .ok (.invokevirtual 287, 3) := by decide +kernel
theorem dX5_answered_4 : decode cX5_answered 4 = .ok (.invokestatic 291, 3) := by decide +kernel
theorem dX5_answered_7 : decode cX5_answered 7 = .ok (.ireturn, 1) := by decide +kernel
theorem dX5_onDisks_0 : decode cX5_onDisks 0 = .ok (.aload_n 0, 1) := by decide +kernel
theorem dX5_onDisks_1 : decode cX5_onDisks 1 = .ok (.invokevirtual 165, 3) := by decide +kernel
theorem dX5_onDisks_4 : decode cX5_onDisks 4 = .ok (.istore_n 1, 1) := by decide +kernel
theorem dX5_onDisks_5 : decode cX5_onDisks 5 = .ok (.iload_n 1, 1) := by decide +kernel
theorem dX5_onDisks_6 : decode cX5_onDisks 6 = .ok (.ifCond .le 10, 3) := by decide +kernel
theorem dX5_onDisks_9 : decode cX5_onDisks 9 = .ok (.aload_n 0, 1) := by decide +kernel
theorem dX5_onDisks_10 : decode cX5_onDisks 10 = .ok (.getfield 43, 3) := by decide +kernel
theorem dX5_onDisks_13 : decode cX5_onDisks 13 = .ok (.ifCond .gt 5, 3) := by decide +kernel
theorem dX5_onDisks_16 : decode cX5_onDisks 16 = .ok (.dconst 0, 1) := by decide +kernel
theorem dX5_onDisks_17 : decode cX5_onDisks 17 = .ok (.dreturn, 1) := by decide +kernel
theorem dX5_onDisks_18 : decode cX5_onDisks 18 = .ok (.iconst 0, 1) := by decide +kernel
theorem dX5_onDisks_19 : decode cX5_onDisks 19 = .ok (.istore_n 2, 1) := by decide +kernel
theorem dX5_onDisks_20 : decode cX5_onDisks 20 = .ok (.iconst 0, 1) := by decide +kernel
theorem dX5_onDisks_21 : decode cX5_onDisks 21 = .ok (.istore_n 3, 1) := by decide +kernel
theorem dX5_onDisks_22 : decode cX5_onDisks 22 = .ok (.iload_n 3, 1) := by decide +kernel
theorem dX5_onDisks_23 : decode cX5_onDisks 23 = .ok (.aload_n 0, 1) := by decide +kernel
theorem dX5_onDisks_24 : decode cX5_onDisks 24 = .ok (.getfield 47, 3) := by decide +kernel
theorem dX5_onDisks_27 : decode cX5_onDisks 27 = .ok (.if_icmp .ge 17, 3) := by decide +kernel
theorem dX5_onDisks_30 : decode cX5_onDisks 30 = .ok (.iload_n 2, 1) := by decide +kernel
theorem dX5_onDisks_31 : decode cX5_onDisks 31 = .ok (.aload_n 0, 1) := by decide +kernel
theorem dX5_onDisks_32 : decode cX5_onDisks 32 = .ok (.iload_n 3, 1) := by decide +kernel
theorem dX5_onDisks_33 : decode cX5_onDisks 33 = .ok (.invokevirtual 256, 3) := by decide +kernel
theorem dX5_onDisks_36 : decode cX5_onDisks 36 = .ok (.iadd, 1) := by decide +kernel
theorem dX5_onDisks_37 : decode cX5_onDisks 37 = .ok (.istore_n 2, 1) := by decide +kernel
theorem dX5_onDisks_38 : decode cX5_onDisks 38 = .ok (.iinc 3 1, 3) := by decide +kernel
theorem dX5_onDisks_41 : decode cX5_onDisks 41 = .ok (.goto (-19), 3) := by decide +kernel
theorem dX5_onDisks_44 : decode cX5_onDisks 44 = .ok (.iload_n 2, 1) := by decide +kernel
theorem dX5_onDisks_45 : decode cX5_onDisks 45 = .ok (.i2d, 1) := by decide +kernel
theorem dX5_onDisks_46 : decode cX5_onDisks 46 = .ok (.iload_n 1, 1) := by decide +kernel
theorem dX5_onDisks_47 : decode cX5_onDisks 47 = .ok (.aload_n 0, 1) := by decide +kernel
theorem dX5_onDisks_48 : decode cX5_onDisks 48 = .ok (.getfield 43, 3) := by decide +kernel
theorem dX5_onDisks_51 : decode cX5_onDisks 51 = .ok (.imul, 1) := by decide +kernel
theorem dX5_onDisks_52 : decode cX5_onDisks 52 = .ok (.i2d, 1) := by decide +kernel
theorem dX5_onDisks_53 : decode cX5_onDisks 53 = .ok (.ddiv, 1) := by decide +kernel
theorem dX5_onDisks_54 : decode cX5_onDisks 54 = .ok (.dreturn, 1) := by decide +kernel
theorem dX5_digest_0 : decode cX5_digest 0 = .ok (.ldc2_w 295, 3) := by decide +kernel
theorem dX5_digest_3 : decode cX5_digest 3 = .ok (.lstore_n 1, 1) := by decide +kernel
theorem dX5_digest_4 : decode cX5_digest 4 = .ok (.iconst 0, 1) := by decide +kernel
theorem dX5_digest_5 : decode cX5_digest 5 = .ok (.istore_n 3, 1) := by decide +kernel
theorem dX5_digest_6 : decode cX5_digest 6 = .ok (.iload_n 3, 1) := by decide +kernel
theorem dX5_digest_7 : decode cX5_digest 7 = .ok (.bipush 12, 2) := by decide +kernel
theorem dX5_digest_9 : decode cX5_digest 9 = .ok (.if_icmp .ge 22, 3) := by decide +kernel
theorem dX5_digest_12 : decode cX5_digest 12 = .ok (.ldc2_w 297, 3) := by decide +kernel
theorem dX5_digest_15 : decode cX5_digest 15 = .ok (.lload_n 1, 1) := by decide +kernel
theorem dX5_digest_16 : decode cX5_digest 16 = .ok (.lmul, 1) := by decide +kernel
theorem dX5_digest_17 : decode cX5_digest 17 = .ok (.aload_n 0, 1) := by decide +kernel
theorem dX5_digest_18 : decode cX5_digest 18 = .ok (.iload_n 3, 1) := by decide +kernel
theorem dX5_digest_19 : decode cX5_digest 19 = .ok (.invokevirtual 299, 3) := by decide +kernel
theorem dX5_digest_22 : decode cX5_digest 22 = .ok (.i2l, 1) := by decide +kernel
theorem dX5_digest_23 : decode cX5_digest 23 = .ok (.ladd, 1) := by decide +kernel
theorem dX5_digest_24 : decode cX5_digest 24 = .ok (.lstore_n 1, 1) := by decide +kernel
theorem dX5_digest_25 : decode cX5_digest 25 = .ok (.iinc 3 1, 3) := by decide +kernel
theorem dX5_digest_28 : decode cX5_digest 28 = .ok (.goto (-22), 3) := by decide +kernel
theorem dX5_digest_31 : decode cX5_digest 31 = .ok (.iconst 0, 1) := by decide +kernel
theorem dX5_digest_32 : decode cX5_digest 32 = .ok (.istore_n 3, 1) := by decide +kernel
theorem dX5_digest_33 : decode cX5_digest 33 = .ok (.iload_n 3, 1) := by decide +kernel
theorem dX5_digest_34 : decode cX5_digest 34 = .ok (.aload_n 0, 1) := by decide +kernel
theorem dX5_digest_35 : decode cX5_digest 35 = .ok (.getfield 43, 3) := by decide +kernel
theorem dX5_digest_38 : decode cX5_digest 38 = .ok (.if_icmp .ge 16, 3) := by decide +kernel
theorem dX5_digest_41 : decode cX5_digest 41 = .ok (.aload_n 0, 1) := by decide +kernel
theorem dX5_digest_42 : decode cX5_digest 42 = .ok (.lload_n 1, 1) := by decide +kernel
theorem dX5_digest_43 : decode cX5_digest 43 = .ok (.iload_n 3, 1) := by decide +kernel
theorem dX5_digest_44 : decode cX5_digest 44 = .ok (.invokevirtual 302, 3) := by decide +kernel
theorem dX5_digest_47 : decode cX5_digest 47 = .ok (.lstore_n 1, 1) := by decide +kernel
theorem dX5_digest_48 : decode cX5_digest 48 = .ok (.iinc 3 1, 3) := by decide +kernel
theorem dX5_digest_51 : decode cX5_digest 51 = .ok (.goto (-18), 3) := by decide +kernel
theorem dX5_digest_54 : decode cX5_digest 54 = .ok (.iconst 0, 1) := by decide +kernel
theorem dX5_digest_55 : decode cX5_digest 55 = .ok (.istore_n 3, 1) := by decide +kernel
theorem dX5_digest_56 : decode cX5_digest 56 = .ok (.iload_n 3, 1) := by decide +kernel
theorem dX5_digest_57 : decode cX5_digest 57 = .ok (.aload_n 0, 1) := by decide +kernel
theorem dX5_digest_58 : decode cX5_digest 58 = .ok (.getfield 47, 3) := by decide +kernel
theorem dX5_digest_61 : decode cX5_digest 61 = .ok (.if_icmp .ge 40, 3) := by decide +kernel
theorem dX5_digest_64 : decode cX5_digest 64 = .ok (.iconst 0, 1) := by decide +kernel
theorem dX5_digest_65 : decode cX5_digest 65 = .ok (.istore 4, 2) := by decide +kernel
theorem dX5_digest_67 : decode cX5_digest 67 = .ok (.iload 4, 2) := by decide +kernel
theorem dX5_digest_69 : decode cX5_digest 69 = .ok (.bipush 7, 2) := by decide +kernel
theorem dX5_digest_71 : decode cX5_digest 71 = .ok (.if_icmp .ge 24, 3) := by decide +kernel
theorem dX5_digest_74 : decode cX5_digest 74 = .ok (.ldc2_w 297, 3) := by decide +kernel
theorem dX5_digest_77 : decode cX5_digest 77 = .ok (.lload_n 1, 1) := by decide +kernel
theorem dX5_digest_78 : decode cX5_digest 78 = .ok (.lmul, 1) := by decide +kernel
theorem dX5_digest_79 : decode cX5_digest 79 = .ok (.aload_n 0, 1) := by decide +kernel
theorem dX5_digest_80 : decode cX5_digest 80 = .ok (.iload_n 3, 1) := by decide +kernel
theorem dX5_digest_81 : decode cX5_digest 81 = .ok (.iload 4, 2) := by decide +kernel
theorem dX5_digest_83 : decode cX5_digest 83 = .ok (.invokevirtual 306, 3) := by decide +kernel
theorem dX5_digest_86 : decode cX5_digest 86 = .ok (.i2l, 1) := by decide +kernel
theorem dX5_digest_87 : decode cX5_digest 87 = .ok (.ladd, 1) := by decide +kernel
theorem dX5_digest_88 : decode cX5_digest 88 = .ok (.lstore_n 1, 1) := by decide +kernel
theorem dX5_digest_89 : decode cX5_digest 89 = .ok (.iinc 4 1, 3) := by decide +kernel
theorem dX5_digest_92 : decode cX5_digest 92 = .ok (.goto (-25), 3) := by decide +kernel
theorem dX5_digest_95 : decode cX5_digest 95 = .ok (.iinc 3 1, 3) := by decide +kernel
theorem dX5_digest_98 : decode cX5_digest 98 = .ok (.goto (-42), 3) := by decide +kernel
theorem dX5_digest_101 : decode cX5_digest 101 = .ok (.ldc2_w 297, 3) := by decide +kernel
theorem dX5_digest_104 : decode cX5_digest 104 = .ok (.lload_n 1, 1) := by decide +kernel
theorem dX5_digest_105 : decode cX5_digest 105 = .ok (.lmul, 1) := by decide +kernel
theorem dX5_digest_106 : decode cX5_digest 106 = .ok (.aload_n 0, 1) := by decide +kernel
theorem dX5_digest_107 : decode cX5_digest 107 = .ok (.invokevirtual 310, 3) := by decide +kernel
theorem dX5_digest_110 : decode cX5_digest 110 = .ok (.i2l, 1) := by decide +kernel
theorem dX5_digest_111 : decode cX5_digest 111 = .ok (.ladd, 1) := by decide +kernel
theorem dX5_digest_112 : decode cX5_digest 112 = .ok (.lstore_n 1, 1) := by decide +kernel
theorem dX5_digest_113 : decode cX5_digest 113 = .ok (.ldc2_w 297, 3) := by decide +kernel
theorem dX5_digest_116 : decode cX5_digest 116 = .ok (.lload_n 1, 1) := by decide +kernel
theorem dX5_digest_117 : decode cX5_digest 117 = .ok (.lmul, 1) := by decide +kernel
theorem dX5_digest_118 : decode cX5_digest 118 = .ok (.aload_n 0, 1) := by decide +kernel
theorem dX5_digest_119 : decode cX5_digest 119 = .ok (.invokevirtual 313, 3) := by decide +kernel
theorem dX5_digest_122 : decode cX5_digest 122 = .ok (.invokestatic 317, 3) := by decide +kernel
theorem dX5_digest_125 : decode cX5_digest 125 = .ok (.ladd, 1) := by decide +kernel
theorem dX5_digest_126 : decode cX5_digest 126 = .ok (.lstore_n 1, 1) := by decide +kernel
theorem dX5_digest_127 : decode cX5_digest 127 = .ok (.ldc2_w 297, 3) := by decide +kernel
theorem dX5_digest_130 : decode cX5_digest 130 = .ok (.lload_n 1, 1) := by decide +kernel
theorem dX5_digest_131 : decode cX5_digest 131 = .ok (.lmul, 1) := by decide +kernel
theorem dX5_digest_132 : decode cX5_digest 132 = .ok (.aload_n 0, 1) := by decide +kernel
theorem dX5_digest_133 : decode cX5_digest 133 = .ok (.getfield 133, 3) := by decide +kernel
theorem dX5_digest_136 : decode cX5_digest 136 = .ok (.i2l, 1) := by decide +kernel
theorem dX5_digest_137 : decode cX5_digest 137 = .ok (.ladd, 1) := by decide +kernel
theorem dX5_digest_138 : decode cX5_digest 138 = .ok (.lstore_n 1, 1) := by decide +kernel
theorem dX5_digest_139 : decode cX5_digest 139 = .ok (.iconst 0, 1) := by decide +kernel
theorem dX5_digest_140 : decode cX5_digest 140 = .ok (.istore_n 3, 1) := by decide +kernel
theorem dX5_digest_141 : decode cX5_digest 141 = .ok (.iload_n 3, 1) := by decide +kernel
theorem dX5_digest_142 : decode cX5_digest 142 = .ok (.aload_n 0, 1) := by decide +kernel
theorem dX5_digest_143 : decode cX5_digest 143 = .ok (.getfield 133, 3) := by decide +kernel
theorem dX5_digest_146 : decode cX5_digest 146 = .ok (.if_icmp .ge 23, 3) := by decide +kernel
theorem dX5_digest_149 : decode cX5_digest 149 = .ok (.ldc2_w 297, 3) := by decide +kernel
theorem dX5_digest_152 : decode cX5_digest 152 = .ok (.lload_n 1, 1) := by decide +kernel
theorem dX5_digest_153 : decode cX5_digest 153 = .ok (.lmul, 1) := by decide +kernel
theorem dX5_digest_154 : decode cX5_digest 154 = .ok (.aload_n 0, 1) := by decide +kernel
theorem dX5_digest_155 : decode cX5_digest 155 = .ok (.getfield 35, 3) := by decide +kernel
theorem dX5_digest_158 : decode cX5_digest 158 = .ok (.iload_n 3, 1) := by decide +kernel
theorem dX5_digest_159 : decode cX5_digest 159 = .ok (.iaload, 1) := by decide +kernel
theorem dX5_digest_160 : decode cX5_digest 160 = .ok (.i2l, 1) := by decide +kernel
theorem dX5_digest_161 : decode cX5_digest 161 = .ok (.ladd, 1) := by decide +kernel
theorem dX5_digest_162 : decode cX5_digest 162 = .ok (.lstore_n 1, 1) := by decide +kernel
theorem dX5_digest_163 : decode cX5_digest 163 = .ok (.iinc 3 1, 3) := by decide +kernel
theorem dX5_digest_166 : decode cX5_digest 166 = .ok (.goto (-25), 3) := by decide +kernel
theorem dX5_digest_169 : decode cX5_digest 169 = .ok (.lload_n 1, 1) := by decide +kernel
theorem dX5_digest_170 : decode cX5_digest 170 = .ok (.lreturn, 1) := by decide +kernel
theorem dX5_isNode_0 : decode cX5_isNode 0 = .ok (.iload_n 1, 1) := by decide +kernel
theorem dX5_isNode_1 : decode cX5_isNode 1 = .ok (.ifCond .lt 15, 3) := by decide +kernel
theorem dX5_isNode_4 : decode cX5_isNode 4 = .ok (.iload_n 1, 1) := by decide +kernel
theorem dX5_isNode_5 : decode cX5_isNode 5 = .ok (.aload_n 0, 1) := by decide +kernel
theorem dX5_isNode_6 : decode cX5_isNode 6 = .ok (.getfield 43, 3) := by decide +kernel
theorem dX5_isNode_9 : decode cX5_isNode 9 = .ok (.if_icmp .ge 7, 3) := by decide +kernel
theorem dX5_isNode_12 : decode cX5_isNode 12 = .ok (.iconst 1, 1) := by decide +kernel
theorem dX5_isNode_13 : decode cX5_isNode 13 = .ok (.goto 4, 3) := by decide +kernel
theorem dX5_isNode_16 : decode cX5_isNode 16 = .ok (.iconst 0, 1) := by decide +kernel
theorem dX5_isNode_17 : decode cX5_isNode 17 = .ok (.ireturn, 1) := by decide +kernel
theorem dX5_isSlot_0 : decode cX5_isSlot 0 = .ok (.iload_n 1, 1) := by decide +kernel
theorem dX5_isSlot_1 : decode cX5_isSlot 1 = .ok (.ifCond .lt 15, 3) := by decide +kernel
theorem dX5_isSlot_4 : decode cX5_isSlot 4 = .ok (.iload_n 1, 1) := by decide +kernel
theorem dX5_isSlot_5 : decode cX5_isSlot 5 = .ok (.aload_n 0, 1) := by decide +kernel
theorem dX5_isSlot_6 : decode cX5_isSlot 6 = .ok (.getfield 47, 3) := by decide +kernel
theorem dX5_isSlot_9 : decode cX5_isSlot 9 = .ok (.if_icmp .ge 7, 3) := by decide +kernel
theorem dX5_isSlot_12 : decode cX5_isSlot 12 = .ok (.iconst 1, 1) := by decide +kernel
theorem dX5_isSlot_13 : decode cX5_isSlot 13 = .ok (.goto 4, 3) := by decide +kernel
theorem dX5_isSlot_16 : decode cX5_isSlot 16 = .ok (.iconst 0, 1) := by decide +kernel
theorem dX5_isSlot_17 : decode cX5_isSlot 17 = .ok (.ireturn, 1) := by decide +kernel
theorem dX5_requireNode_0 : decode cX5_requireNode 0 = .ok (.aload_n 0, 1) := by decide +kernel
theorem dX5_requireNode_1 : decode cX5_requireNode 1 = .ok (.iload_n 1, 1) := by decide +kernel
theorem dX5_requireNode_2 : decode cX5_requireNode 2 = .ok (.invokevirtual 321, 3) := by decide +kernel
theorem dX5_requireNode_5 : decode cX5_requireNode 5 = .ok (.ifCond .ne 14, 3) := by decide +kernel
theorem dX5_requireNode_8 : decode cX5_requireNode 8 = .ok (.new 231, 3) := by decide +kernel
theorem dX5_requireNode_11 : decode cX5_requireNode 11 = .ok (.dup, 1) := by decide +kernel
theorem dX5_requireNode_12 : decode cX5_requireNode 12 = .ok (.ldc_w 324, 3) := by decide +kernel
theorem dX5_requireNode_15 : decode cX5_requireNode 15 = .ok (.invokespecial 235, 3) := by decide +kernel
theorem dX5_requireNode_18 : decode cX5_requireNode 18 = .ok (.athrow, 1) := by decide +kernel
theorem dX5_requireNode_19 : decode cX5_requireNode 19 = .ok (.return_, 1) := by decide +kernel
theorem dX5_requireSlot_0 : decode cX5_requireSlot 0 = .ok (.aload_n 0, 1) := by decide +kernel
theorem dX5_requireSlot_1 : decode cX5_requireSlot 1 = .ok (.iload_n 1, 1) := by decide +kernel
theorem dX5_requireSlot_2 : decode cX5_requireSlot 2 = .ok (.invokevirtual 326, 3) := by decide +kernel
theorem dX5_requireSlot_5 : decode cX5_requireSlot 5 = .ok (.ifCond .ne 14, 3) := by decide +kernel
theorem dX5_requireSlot_8 : decode cX5_requireSlot 8 = .ok (.new 231, 3) := by decide +kernel
theorem dX5_requireSlot_11 : decode cX5_requireSlot 11 = .ok (.dup, 1) := by decide +kernel
theorem dX5_requireSlot_12 : decode cX5_requireSlot 12 = .ok (.ldc_w 329, 3) := by decide +kernel
theorem dX5_requireSlot_15 : decode cX5_requireSlot 15 = .ok (.invokespecial 235, 3) := by decide +kernel
theorem dX5_requireSlot_18 : decode cX5_requireSlot 18 = .ok (.athrow, 1) := by decide +kernel
theorem dX5_requireSlot_19 : decode cX5_requireSlot 19 = .ok (.return_, 1) := by decide +kernel
theorem dX5_requireReached_0 : decode cX5_requireReached 0 = .ok (.iload_n 1, 1) := by decide +kernel
theorem dX5_requireReached_1 : decode cX5_requireReached 1 = .ok (.iconst 1, 1) := by decide +kernel
theorem dX5_requireReached_2 : decode cX5_requireReached 2 = .ok (.if_icmp .lt 13, 3) := by decide +kernel
theorem dX5_requireReached_5 : decode cX5_requireReached 5 = .ok (.iload_n 1, 1) := by decide +kernel
theorem dX5_requireReached_6 : decode cX5_requireReached 6 = .ok (.iconst 1, 1) := by decide +kernel
theorem dX5_requireReached_7 : decode cX5_requireReached 7 = .ok (.aload_n 0, 1) := by decide +kernel
theorem dX5_requireReached_8 : decode cX5_requireReached 8 = .ok (.getfield 43, 3) := by decide +kernel
theorem dX5_requireReached_11 : decode cX5_requireReached 11 = .ok (.ishl, 1) := by decide +kernel
theorem dX5_requireReached_12 : decode cX5_requireReached 12 = .ok (.if_icmp .lt 14, 3) := by decide +kernel
theorem dX5_requireReached_15 : decode cX5_requireReached 15 = .ok (.new 54, 3) := by decide +kernel
theorem dX5_requireReached_18 : decode cX5_requireReached 18 = .ok (.dup, 1) := by decide +kernel
theorem dX5_requireReached_19 : decode cX5_requireReached 19 = .ok (.ldc_w 331, 3) := by decide +kernel
theorem dX5_requireReached_22 : decode cX5_requireReached 22 = .ok (.invokespecial 58, 3) := by decide +kernel
theorem dX5_requireReached_25 : decode cX5_requireReached 25 = .ok (.athrow, 1) := by decide +kernel
theorem dX5_requireReached_26 : decode cX5_requireReached 26 = .ok (.return_, 1) := by decide +kernel
theorem dX5_requireLost_0 : decode cX5_requireLost 0 = .ok (.iload_n 0, 1) := by decide +kernel
theorem dX5_requireLost_1 : decode cX5_requireLost 1 = .ok (.ifCond .ge 14, 3) := by decide +kernel
theorem dX5_requireLost_4 : decode cX5_requireLost 4 = .ok (.new 54, 3) := by decide +kernel
theorem dX5_requireLost_7 : decode cX5_requireLost 7 = .ok (.dup, 1) := by decide +kernel
theorem dX5_requireLost_8 : decode cX5_requireLost 8 = .ok (.ldc_w 333, 3) := by decide +kernel
theorem dX5_requireLost_11 : decode cX5_requireLost 11 = .ok (.invokespecial 58, 3) := by decide +kernel
theorem dX5_requireLost_14 : decode cX5_requireLost 14 = .ok (.athrow, 1) := by decide +kernel
theorem dX5_requireLost_15 : decode cX5_requireLost 15 = .ok (.return_, 1) := by decide +kernel
theorem dX5_requireUp_0 : decode cX5_requireUp 0 = .ok (.aload_n 0, 1) := by decide +kernel
theorem dX5_requireUp_1 : decode cX5_requireUp 1 = .ok (.getfield 11, 3) := by decide +kernel
theorem dX5_requireUp_4 : decode cX5_requireUp 4 = .ok (.iload_n 1, 1) := by decide +kernel
theorem dX5_requireUp_5 : decode cX5_requireUp 5 = .ok (.aaload, 1) := by decide +kernel
theorem dX5_requireUp_6 : decode cX5_requireUp 6 = .ok (.getfield 185, 3) := by decide +kernel
theorem dX5_requireUp_9 : decode cX5_requireUp 9 = .ok (.ifCond .ne 14, 3) := by decide +kernel
theorem dX5_requireUp_12 : decode cX5_requireUp 12 = .ok (.new 80, 3) := by decide +kernel
theorem dX5_requireUp_15 : decode cX5_requireUp 15 = .ok (.dup, 1) := by decide +kernel
theorem dX5_requireUp_16 : decode cX5_requireUp 16 = .ok (.ldc_w 335, 3) := by decide +kernel
theorem dX5_requireUp_19 : decode cX5_requireUp 19 = .ok (.invokespecial 84, 3) := by decide +kernel
theorem dX5_requireUp_22 : decode cX5_requireUp 22 = .ok (.athrow, 1) := by decide +kernel
theorem dX5_requireUp_23 : decode cX5_requireUp 23 = .ok (.return_, 1) := by decide +kernel
theorem dX5_requireDown_0 : decode cX5_requireDown 0 = .ok (.aload_n 0, 1) := by decide +kernel
theorem dX5_requireDown_1 : decode cX5_requireDown 1 = .ok (.getfield 11, 3) := by decide +kernel
theorem dX5_requireDown_4 : decode cX5_requireDown 4 = .ok (.iload_n 1, 1) := by decide +kernel
theorem dX5_requireDown_5 : decode cX5_requireDown 5 = .ok (.aaload, 1) := by decide +kernel
theorem dX5_requireDown_6 : decode cX5_requireDown 6 = .ok (.getfield 185, 3) := by decide +kernel
theorem dX5_requireDown_9 : decode cX5_requireDown 9 = .ok (.ifCond .eq 14, 3) := by decide +kernel
theorem dX5_requireDown_12 : decode cX5_requireDown 12 = .ok (.new 80, 3) := by decide +kernel
theorem dX5_requireDown_15 : decode cX5_requireDown 15 = .ok (.dup, 1) := by decide +kernel
theorem dX5_requireDown_16 : decode cX5_requireDown 16 = .ok (.ldc_w 337, 3) := by decide +kernel
theorem dX5_requireDown_19 : decode cX5_requireDown 19 = .ok (.invokespecial 84, 3) := by decide +kernel
theorem dX5_requireDown_22 : decode cX5_requireDown 22 = .ok (.athrow, 1) := by decide +kernel
theorem dX5_requireDown_23 : decode cX5_requireDown 23 = .ok (.return_, 1) := by decide +kernel
theorem dX5_requireRound_0 : decode cX5_requireRound 0 = .ok (.aload_n 0, 1) := by decide +kernel
theorem dX5_requireRound_1 : decode cX5_requireRound 1 = .ok (.getfield 11, 3) := by decide +kernel
theorem dX5_requireRound_4 : decode cX5_requireRound 4 = .ok (.iload_n 1, 1) := by decide +kernel
theorem dX5_requireRound_5 : decode cX5_requireRound 5 = .ok (.aaload, 1) := by decide +kernel
theorem dX5_requireRound_6 : decode cX5_requireRound 6 = .ok (.invokevirtual 339, 3) := by decide +kernel
theorem dX5_requireRound_9 : decode cX5_requireRound 9 = .ok (.ifCond .ne 14, 3) := by decide +kernel
theorem dX5_requireRound_12 : decode cX5_requireRound 12 = .ok (.new 80, 3) := by decide +kernel
theorem dX5_requireRound_15 : decode cX5_requireRound 15 = .ok (.dup, 1) := by decide +kernel
theorem dX5_requireRound_16 : decode cX5_requireRound 16 = .ok (.ldc_w 342, 3) := by decide +kernel
theorem dX5_requireRound_19 : decode cX5_requireRound 19 = .ok (.invokespecial 84, 3) := by decide +kernel
theorem dX5_requireRound_22 : decode cX5_requireRound 22 = .ok (.athrow, 1) := by decide +kernel
theorem dX5_requireRound_23 : decode cX5_requireRound 23 = .ok (.return_, 1) := by decide +kernel
theorem dX5_forgetAll_0 : decode cX5_forgetAll 0 = .ok (.iconst 0, 1) := by decide +kernel
theorem dX5_forgetAll_1 : decode cX5_forgetAll 1 = .ok (.istore_n 1, 1) := by decide +kernel
theorem dX5_forgetAll_2 : decode cX5_forgetAll 2 = .ok (.iload_n 1, 1) := by decide +kernel
theorem dX5_forgetAll_3 : decode cX5_forgetAll 3 = .ok (.bipush 7, 2) := by decide +kernel
theorem dX5_forgetAll_5 : decode cX5_forgetAll 5 = .ok (.if_icmp .ge 18, 3) := by decide +kernel
theorem dX5_forgetAll_8 : decode cX5_forgetAll 8 = .ok (.aload_n 0, 1) := by decide +kernel
theorem dX5_forgetAll_9 : decode cX5_forgetAll 9 = .ok (.getfield 11, 3) := by decide +kernel
theorem dX5_forgetAll_12 : decode cX5_forgetAll 12 = .ok (.iload_n 1, 1) := by decide +kernel
theorem dX5_forgetAll_13 : decode cX5_forgetAll 13 = .ok (.aaload, 1) := by decide +kernel
theorem dX5_forgetAll_14 : decode cX5_forgetAll 14 = .ok (.invokevirtual 344, 3) := by decide +kernel
theorem dX5_forgetAll_17 : decode cX5_forgetAll 17 = .ok (.iinc 1 1, 3) := by decide +kernel
theorem dX5_forgetAll_20 : decode cX5_forgetAll 20 = .ok (.goto (-18), 3) := by decide +kernel
theorem dX5_forgetAll_23 : decode cX5_forgetAll 23 = .ok (.iconst 0, 1) := by decide +kernel
theorem dX5_forgetAll_24 : decode cX5_forgetAll 24 = .ok (.istore_n 1, 1) := by decide +kernel
theorem dX5_forgetAll_25 : decode cX5_forgetAll 25 = .ok (.iload_n 1, 1) := by decide +kernel
theorem dX5_forgetAll_26 : decode cX5_forgetAll 26 = .ok (.iconst 4, 1) := by decide +kernel
theorem dX5_forgetAll_27 : decode cX5_forgetAll 27 = .ok (.if_icmp .ge 18, 3) := by decide +kernel
theorem dX5_forgetAll_30 : decode cX5_forgetAll 30 = .ok (.aload_n 0, 1) := by decide +kernel
theorem dX5_forgetAll_31 : decode cX5_forgetAll 31 = .ok (.getfield 17, 3) := by decide +kernel
theorem dX5_forgetAll_34 : decode cX5_forgetAll 34 = .ok (.iload_n 1, 1) := by decide +kernel
theorem dX5_forgetAll_35 : decode cX5_forgetAll 35 = .ok (.aaload, 1) := by decide +kernel
theorem dX5_forgetAll_36 : decode cX5_forgetAll 36 = .ok (.invokevirtual 345, 3) := by decide +kernel
theorem dX5_forgetAll_39 : decode cX5_forgetAll 39 = .ok (.iinc 1 1, 3) := by decide +kernel
theorem dX5_forgetAll_42 : decode cX5_forgetAll 42 = .ok (.goto (-17), 3) := by decide +kernel
theorem dX5_forgetAll_45 : decode cX5_forgetAll 45 = .ok (.aload_n 0, 1) := by decide +kernel
theorem dX5_forgetAll_46 : decode cX5_forgetAll 46 = .ok (.iconst 0, 1) := by decide +kernel
theorem dX5_forgetAll_47 : decode cX5_forgetAll 47 = .ok (.putfield 171, 3) := by decide +kernel
theorem dX5_forgetAll_50 : decode cX5_forgetAll 50 = .ok (.aload_n 0, 1) := by decide +kernel
theorem dX5_forgetAll_51 : decode cX5_forgetAll 51 = .ok (.iconst 0, 1) := by decide +kernel
theorem dX5_forgetAll_52 : decode cX5_forgetAll 52 = .ok (.putfield 174, 3) := by decide +kernel
theorem dX5_forgetAll_55 : decode cX5_forgetAll 55 = .ok (.aload_n 0, 1) := by decide +kernel
theorem dX5_forgetAll_56 : decode cX5_forgetAll 56 = .ok (.iconst 0, 1) := by decide +kernel
theorem dX5_forgetAll_57 : decode cX5_forgetAll 57 = .ok (.putfield 180, 3) := by decide +kernel
theorem dX5_forgetAll_60 : decode cX5_forgetAll 60 = .ok (.return_, 1) := by decide +kernel
theorem dX5_quorum_0 : decode cX5_quorum 0 = .ok (.aload_n 0, 1) := by decide +kernel
theorem dX5_quorum_1 : decode cX5_quorum 1 = .ok (.getfield 43, 3) := by decide +kernel
theorem dX5_quorum_4 : decode cX5_quorum 4 = .ok (.iconst 2, 1) := by decide +kernel
theorem dX5_quorum_5 : decode cX5_quorum 5 = .ok (.idiv, 1) := by decide +kernel
theorem dX5_quorum_6 : decode cX5_quorum 6 = .ok (.iconst 1, 1) := by decide +kernel
theorem dX5_quorum_7 : decode cX5_quorum 7 = .ok (.iadd, 1) := by decide +kernel
theorem dX5_quorum_8 : decode cX5_quorum 8 = .ok (.ireturn, 1) := by decide +kernel
theorem dX5_isIn_0 : decode cX5_isIn 0 = .ok (.iload_n 0, 1) := by decide +kernel
theorem dX5_isIn_1 : decode cX5_isIn 1 = .ok (.iload_n 1, 1) := by decide +kernel
theorem dX5_isIn_2 : decode cX5_isIn 2 = .ok (.ishr, 1) := by decide +kernel
theorem dX5_isIn_3 : decode cX5_isIn 3 = .ok (.iconst 1, 1) := by decide +kernel
theorem dX5_isIn_4 : decode cX5_isIn 4 = .ok (.iand, 1) := by decide +kernel
theorem dX5_isIn_5 : decode cX5_isIn 5 = .ok (.iconst 1, 1) := by decide +kernel
theorem dX5_isIn_6 : decode cX5_isIn 6 = .ok (.if_icmp .ne 7, 3) := by decide +kernel
theorem dX5_isIn_9 : decode cX5_isIn 9 = .ok (.iconst 1, 1) := by decide +kernel
theorem dX5_isIn_10 : decode cX5_isIn 10 = .ok (.goto 4, 3) := by decide +kernel
theorem dX5_isIn_13 : decode cX5_isIn 13 = .ok (.iconst 0, 1) := by decide +kernel
theorem dX5_isIn_14 : decode cX5_isIn 14 = .ok (.ireturn, 1) := by decide +kernel
theorem dX5_gets_0 : decode cX5_gets 0 = .ok (.iload_n 2, 1) := by decide +kernel
theorem dX5_gets_1 : decode cX5_gets 1 = .ok (.iload_n 1, 1) := by decide +kernel
theorem dX5_gets_2 : decode cX5_gets 2 = .ok (.invokestatic 346, 3) := by decide +kernel
theorem dX5_gets_5 : decode cX5_gets 5 = .ok (.ifCond .eq 19, 3) := by decide +kernel
theorem dX5_gets_8 : decode cX5_gets 8 = .ok (.aload_n 0, 1) := by decide +kernel
theorem dX5_gets_9 : decode cX5_gets 9 = .ok (.getfield 11, 3) := by decide +kernel
theorem dX5_gets_12 : decode cX5_gets 12 = .ok (.iload_n 1, 1) := by decide +kernel
theorem dX5_gets_13 : decode cX5_gets 13 = .ok (.aaload, 1) := by decide +kernel
theorem dX5_gets_14 : decode cX5_gets 14 = .ok (.invokevirtual 76, 3) := by decide +kernel
theorem dX5_gets_17 : decode cX5_gets 17 = .ok (.ifCond .eq 7, 3) := by decide +kernel
theorem dX5_gets_20 : decode cX5_gets 20 = .ok (.iconst 1, 1) := by decide +kernel
theorem dX5_gets_21 : decode cX5_gets 21 = .ok (.goto 4, 3) := by decide +kernel
theorem dX5_gets_24 : decode cX5_gets 24 = .ok (.iconst 0, 1) := by decide +kernel
theorem dX5_gets_25 : decode cX5_gets 25 = .ok (.ireturn, 1) := by decide +kernel
theorem dX5_sendPrepare_0 : decode cX5_sendPrepare 0 = .ok (.aload_n 1, 1) := by decide +kernel
theorem dX5_sendPrepare_1 : decode cX5_sendPrepare 1 = .ok (.invokevirtual 218, 3) := by decide +kernel
theorem dX5_sendPrepare_4 : decode cX5_sendPrepare 4 = .ok (.istore_n 3, 1) := by decide +kernel
theorem dX5_sendPrepare_5 : decode cX5_sendPrepare 5 = .ok (.aload_n 1, 1) := by decide +kernel
theorem dX5_sendPrepare_6 : decode cX5_sendPrepare 6 = .ok (.iconst (-1), 1) := by decide +kernel
theorem dX5_sendPrepare_7 : decode cX5_sendPrepare 7 = .ok (.putfield 215, 3) := by decide +kernel
theorem dX5_sendPrepare_10 : decode cX5_sendPrepare 10 = .ok (.aload_n 1, 1) := by decide +kernel
theorem dX5_sendPrepare_11 : decode cX5_sendPrepare 11 = .ok (.iload_n 3, 1) := by decide +kernel
theorem dX5_sendPrepare_12 : decode cX5_sendPrepare 12 = .ok (.invokevirtual 350, 3) := by decide +kernel
theorem dX5_sendPrepare_15 : decode cX5_sendPrepare 15 = .ok (.aload_n 0, 1) := by decide +kernel
theorem dX5_sendPrepare_16 : decode cX5_sendPrepare 16 = .ok (.getfield 24, 3) := by decide +kernel
theorem dX5_sendPrepare_19 : decode cX5_sendPrepare 19 = .ok (.invokevirtual 353, 3) := by decide +kernel
theorem dX5_sendPrepare_22 : decode cX5_sendPrepare 22 = .ok (.iconst 0, 1) := by decide +kernel
theorem dX5_sendPrepare_23 : decode cX5_sendPrepare 23 = .ok (.istore 4, 2) := by decide +kernel
theorem dX5_sendPrepare_25 : decode cX5_sendPrepare 25 = .ok (.iconst 0, 1) := by decide +kernel
theorem dX5_sendPrepare_26 : decode cX5_sendPrepare 26 = .ok (.istore 5, 2) := by decide +kernel
theorem dX5_sendPrepare_28 : decode cX5_sendPrepare 28 = .ok (.iload 5, 2) := by decide +kernel
theorem dX5_sendPrepare_30 : decode cX5_sendPrepare 30 = .ok (.aload_n 0, 1) := by decide +kernel
theorem dX5_sendPrepare_31 : decode cX5_sendPrepare 31 = .ok (.getfield 43, 3) := by decide +kernel
theorem dX5_sendPrepare_34 : decode cX5_sendPrepare 34 = .ok (.if_icmp .ge 57, 3) := by decide +kernel
theorem dX5_sendPrepare_37 : decode cX5_sendPrepare 37 = .ok (.aload_n 0, 1) := by decide +kernel
theorem dX5_sendPrepare_38 : decode cX5_sendPrepare 38 = .ok (.iload 5, 2) := by decide +kernel
theorem dX5_sendPrepare_40 : decode cX5_sendPrepare 40 = .ok (.iload_n 2, 1) := by decide +kernel
theorem dX5_sendPrepare_41 : decode cX5_sendPrepare 41 = .ok (.invokevirtual 354, 3) := by decide +kernel
theorem dX5_sendPrepare_44 : decode cX5_sendPrepare 44 = .ok (.ifCond .eq 41, 3) := by decide +kernel
theorem dX5_sendPrepare_47 : decode cX5_sendPrepare 47 = .ok (.aload_n 0, 1) := by decide +kernel
theorem dX5_sendPrepare_48 : decode cX5_sendPrepare 48 = .ok (.aload_n 0, 1) := by decide +kernel
theorem dX5_sendPrepare_49 : decode cX5_sendPrepare 49 = .ok (.getfield 11, 3) := by decide +kernel
theorem dX5_sendPrepare_52 : decode cX5_sendPrepare 52 = .ok (.iload 5, 2) := by decide +kernel
theorem dX5_sendPrepare_54 : decode cX5_sendPrepare 54 = .ok (.aaload, 1) := by decide +kernel
theorem dX5_sendPrepare_55 : decode cX5_sendPrepare 55 = .ok (.aload_n 1, 1) := by decide +kernel
theorem dX5_sendPrepare_56 : decode cX5_sendPrepare 56 = .ok (.iconst (-1), 1) := by decide +kernel
theorem dX5_sendPrepare_57 : decode cX5_sendPrepare 57 = .ok (.iload_n 3, 1) := by decide +kernel
theorem dX5_sendPrepare_58 : decode cX5_sendPrepare 58 = .ok (.iconst (-1), 1) := by decide +kernel
theorem dX5_sendPrepare_59 : decode cX5_sendPrepare 59 = .ok (.invokevirtual 357, 3) := by decide +kernel
theorem dX5_sendPrepare_62 : decode cX5_sendPrepare 62 = .ok (.ifCond .eq 23, 3) := by decide +kernel
theorem dX5_sendPrepare_65 : decode cX5_sendPrepare 65 = .ok (.aload_n 0, 1) := by decide +kernel
theorem dX5_sendPrepare_66 : decode cX5_sendPrepare 66 = .ok (.getfield 24, 3) := by decide +kernel
theorem dX5_sendPrepare_69 : decode cX5_sendPrepare 69 = .ok (.aload_n 0, 1) := by decide +kernel
theorem dX5_sendPrepare_70 : decode cX5_sendPrepare 70 = .ok (.getfield 11, 3) := by decide +kernel
theorem dX5_sendPrepare_73 : decode cX5_sendPrepare 73 = .ok (.iload 5, 2) := by decide +kernel
theorem dX5_sendPrepare_75 : decode cX5_sendPrepare 75 = .ok (.aaload, 1) := by decide +kernel
theorem dX5_sendPrepare_76 : decode cX5_sendPrepare 76 = .ok (.getfield 194, 3) := by decide +kernel
theorem dX5_sendPrepare_79 : decode cX5_sendPrepare 79 = .ok (.invokevirtual 361, 3) := by decide +kernel
theorem dX5_sendPrepare_82 : decode cX5_sendPrepare 82 = .ok (.iinc 4 1, 3) := by decide +kernel
theorem dX5_sendPrepare_85 : decode cX5_sendPrepare 85 = .ok (.iinc 5 1, 3) := by decide +kernel
theorem dX5_sendPrepare_88 : decode cX5_sendPrepare 88 = .ok (.goto (-60), 3) := by decide +kernel
theorem dX5_sendPrepare_91 : decode cX5_sendPrepare 91 = .ok (.iload 4, 2) := by decide +kernel
theorem dX5_sendPrepare_93 : decode cX5_sendPrepare 93 = .ok (.aload_n 0, 1) := by decide +kernel
theorem dX5_sendPrepare_94 : decode cX5_sendPrepare 94 = .ok (.invokevirtual 156, 3) := by decide +kernel
theorem dX5_sendPrepare_97 : decode cX5_sendPrepare 97 = .ok (.if_icmp .lt 15, 3) := by decide +kernel
theorem dX5_sendPrepare_100 : decode cX5_sendPrepare 100 = .ok (.aload_n 1, 1) := by decide +kernel
theorem dX5_sendPrepare_101 : decode cX5_sendPrepare 101 = .ok (.iload_n 3, 1) := by decide +kernel
theorem dX5_sendPrepare_102 : decode cX5_sendPrepare 102 = .ok (.aload_n 0, 1) := by decide +kernel
theorem dX5_sendPrepare_103 : decode cX5_sendPrepare 103 = .ok (.getfield 24, 3) := by decide +kernel
theorem dX5_sendPrepare_106 : decode cX5_sendPrepare 106 = .ok (.getfield 226, 3) := by decide +kernel
theorem dX5_sendPrepare_109 : decode cX5_sendPrepare 109 = .ok (.invokevirtual 365, 3) := by decide +kernel
theorem dX5_sendPrepare_112 : decode cX5_sendPrepare 112 = .ok (.iload 4, 2) := by decide +kernel
theorem dX5_sendPrepare_114 : decode cX5_sendPrepare 114 = .ok (.ireturn, 1) := by decide +kernel
theorem dX5_sendAccept_0 : decode cX5_sendAccept 0 = .ok (.aload_n 1, 1) := by decide +kernel
theorem dX5_sendAccept_1 : decode cX5_sendAccept 1 = .ok (.getfield 215, 3) := by decide +kernel
theorem dX5_sendAccept_4 : decode cX5_sendAccept 4 = .ok (.istore 5, 2) := by decide +kernel
theorem dX5_sendAccept_6 : decode cX5_sendAccept 6 = .ok (.aload_n 1, 1) := by decide +kernel
theorem dX5_sendAccept_7 : decode cX5_sendAccept 7 = .ok (.getfield 268, 3) := by decide +kernel
theorem dX5_sendAccept_10 : decode cX5_sendAccept 10 = .ok (.iload_n 2, 1) := by decide +kernel
theorem dX5_sendAccept_11 : decode cX5_sendAccept 11 = .ok (.iaload, 1) := by decide +kernel
theorem dX5_sendAccept_12 : decode cX5_sendAccept 12 = .ok (.iconst (-1), 1) := by decide +kernel
theorem dX5_sendAccept_13 : decode cX5_sendAccept 13 = .ok (.if_icmp .ne 10, 3) := by decide +kernel
theorem dX5_sendAccept_16 : decode cX5_sendAccept 16 = .ok (.aload_n 1, 1) := by decide +kernel
theorem dX5_sendAccept_17 : decode cX5_sendAccept 17 = .ok (.getfield 268, 3) := by decide +kernel
theorem dX5_sendAccept_20 : decode cX5_sendAccept 20 = .ok (.iload_n 2, 1) := by decide +kernel
theorem dX5_sendAccept_21 : decode cX5_sendAccept 21 = .ok (.iload_n 3, 1) := by decide +kernel
theorem dX5_sendAccept_22 : decode cX5_sendAccept 22 = .ok (.iastore, 1) := by decide +kernel
theorem dX5_sendAccept_23 : decode cX5_sendAccept 23 = .ok (.aload_n 1, 1) := by decide +kernel
theorem dX5_sendAccept_24 : decode cX5_sendAccept 24 = .ok (.getfield 268, 3) := by decide +kernel
theorem dX5_sendAccept_27 : decode cX5_sendAccept 27 = .ok (.iload_n 2, 1) := by decide +kernel
theorem dX5_sendAccept_28 : decode cX5_sendAccept 28 = .ok (.iaload, 1) := by decide +kernel
theorem dX5_sendAccept_29 : decode cX5_sendAccept 29 = .ok (.istore 6, 2) := by decide +kernel
theorem dX5_sendAccept_31 : decode cX5_sendAccept 31 = .ok (.iconst 0, 1) := by decide +kernel
theorem dX5_sendAccept_32 : decode cX5_sendAccept 32 = .ok (.istore 7, 2) := by decide +kernel
theorem dX5_sendAccept_34 : decode cX5_sendAccept 34 = .ok (.iconst 0, 1) := by decide +kernel
theorem dX5_sendAccept_35 : decode cX5_sendAccept 35 = .ok (.istore 8, 2) := by decide +kernel
theorem dX5_sendAccept_37 : decode cX5_sendAccept 37 = .ok (.iconst 0, 1) := by decide +kernel
theorem dX5_sendAccept_38 : decode cX5_sendAccept 38 = .ok (.istore 9, 2) := by decide +kernel
theorem dX5_sendAccept_40 : decode cX5_sendAccept 40 = .ok (.iload 9, 2) := by decide +kernel
theorem dX5_sendAccept_42 : decode cX5_sendAccept 42 = .ok (.aload_n 0, 1) := by decide +kernel
theorem dX5_sendAccept_43 : decode cX5_sendAccept 43 = .ok (.getfield 43, 3) := by decide +kernel
theorem dX5_sendAccept_46 : decode cX5_sendAccept 46 = .ok (.if_icmp .ge 48, 3) := by decide +kernel
theorem dX5_sendAccept_49 : decode cX5_sendAccept 49 = .ok (.aload_n 0, 1) := by decide +kernel
theorem dX5_sendAccept_50 : decode cX5_sendAccept 50 = .ok (.iload 9, 2) := by decide +kernel
theorem dX5_sendAccept_52 : decode cX5_sendAccept 52 = .ok (.iload 4, 2) := by decide +kernel
theorem dX5_sendAccept_54 : decode cX5_sendAccept 54 = .ok (.invokevirtual 354, 3) := by decide +kernel
theorem dX5_sendAccept_57 : decode cX5_sendAccept 57 = .ok (.ifCond .eq 31, 3) := by decide +kernel
theorem dX5_sendAccept_60 : decode cX5_sendAccept 60 = .ok (.iinc 7 1, 3) := by decide +kernel
theorem dX5_sendAccept_63 : decode cX5_sendAccept 63 = .ok (.iload 8, 2) := by decide +kernel
theorem dX5_sendAccept_65 : decode cX5_sendAccept 65 = .ok (.aload_n 0, 1) := by decide +kernel
theorem dX5_sendAccept_66 : decode cX5_sendAccept 66 = .ok (.aload_n 0, 1) := by decide +kernel
theorem dX5_sendAccept_67 : decode cX5_sendAccept 67 = .ok (.getfield 11, 3) := by decide +kernel
theorem dX5_sendAccept_70 : decode cX5_sendAccept 70 = .ok (.iload 9, 2) := by decide +kernel
theorem dX5_sendAccept_72 : decode cX5_sendAccept 72 = .ok (.aaload, 1) := by decide +kernel
theorem dX5_sendAccept_73 : decode cX5_sendAccept 73 = .ok (.aload_n 1, 1) := by decide +kernel
theorem dX5_sendAccept_74 : decode cX5_sendAccept 74 = .ok (.iload_n 2, 1) := by decide +kernel
theorem dX5_sendAccept_75 : decode cX5_sendAccept 75 = .ok (.iload 5, 2) := by decide +kernel
theorem dX5_sendAccept_77 : decode cX5_sendAccept 77 = .ok (.iload 6, 2) := by decide +kernel
theorem dX5_sendAccept_79 : decode cX5_sendAccept 79 = .ok (.invokevirtual 357, 3) := by decide +kernel
theorem dX5_sendAccept_82 : decode cX5_sendAccept 82 = .ok (.invokestatic 66, 3) := by decide +kernel
theorem dX5_sendAccept_85 : decode cX5_sendAccept 85 = .ok (.iadd, 1) := by decide +kernel
theorem dX5_sendAccept_86 : decode cX5_sendAccept 86 = .ok (.istore 8, 2) := by decide +kernel
theorem dX5_sendAccept_88 : decode cX5_sendAccept 88 = .ok (.iinc 9 1, 3) := by decide +kernel
theorem dX5_sendAccept_91 : decode cX5_sendAccept 91 = .ok (.goto (-51), 3) := by decide +kernel
theorem dX5_sendAccept_94 : decode cX5_sendAccept 94 = .ok (.iload 8, 2) := by decide +kernel
theorem dX5_sendAccept_96 : decode cX5_sendAccept 96 = .ok (.aload_n 0, 1) := by decide +kernel
theorem dX5_sendAccept_97 : decode cX5_sendAccept 97 = .ok (.invokevirtual 156, 3) := by decide +kernel
theorem dX5_sendAccept_100 : decode cX5_sendAccept 100 = .ok (.if_icmp .lt 16, 3) := by decide +kernel
theorem dX5_sendAccept_103 : decode cX5_sendAccept 103 = .ok (.aload_n 0, 1) := by decide +kernel
theorem dX5_sendAccept_104 : decode cX5_sendAccept 104 = .ok (.getfield 17, 3) := by decide +kernel
theorem dX5_sendAccept_107 : decode cX5_sendAccept 107 = .ok (.iload_n 2, 1) := by decide +kernel
theorem dX5_sendAccept_108 : decode cX5_sendAccept 108 = .ok (.aaload, 1) := by decide +kernel
theorem dX5_sendAccept_109 : decode cX5_sendAccept 109 = .ok (.iload 5, 2) := by decide +kernel
theorem dX5_sendAccept_111 : decode cX5_sendAccept 111 = .ok (.iload 6, 2) := by decide +kernel
theorem dX5_sendAccept_113 : decode cX5_sendAccept 113 = .ok (.invokevirtual 369, 3) := by decide +kernel
theorem dX5_sendAccept_116 : decode cX5_sendAccept 116 = .ok (.iload 8, 2) := by decide +kernel
theorem dX5_sendAccept_118 : decode cX5_sendAccept 118 = .ok (.iload 7, 2) := by decide +kernel
theorem dX5_sendAccept_120 : decode cX5_sendAccept 120 = .ok (.if_icmp .ge 8, 3) := by decide +kernel
theorem dX5_sendAccept_123 : decode cX5_sendAccept 123 = .ok (.aload_n 1, 1) := by decide +kernel
theorem dX5_sendAccept_124 : decode cX5_sendAccept 124 = .ok (.iconst (-1), 1) := by decide +kernel
theorem dX5_sendAccept_125 : decode cX5_sendAccept 125 = .ok (.putfield 215, 3) := by decide +kernel
theorem dX5_sendAccept_128 : decode cX5_sendAccept 128 = .ok (.iload 8, 2) := by decide +kernel
theorem dX5_sendAccept_130 : decode cX5_sendAccept 130 = .ok (.ireturn, 1) := by decide +kernel
theorem dX5_agrees_0 : decode cX5_agrees 0 = .ok (.aload_n 1, 1) := by decide +kernel
theorem dX5_agrees_1 : decode cX5_agrees 1 = .ok (.getfield 194, 3) := by decide +kernel
theorem dX5_agrees_4 : decode cX5_agrees 4 = .ok (.getfield 197, 3) := by decide +kernel
theorem dX5_agrees_7 : decode cX5_agrees 7 = .ok (.istore 6, 2) := by decide +kernel
theorem dX5_agrees_9 : decode cX5_agrees 9 = .ok (.iload_n 3, 1) := by decide +kernel
theorem dX5_agrees_10 : decode cX5_agrees 10 = .ok (.iconst (-1), 1) := by decide +kernel
theorem dX5_agrees_11 : decode cX5_agrees 11 = .ok (.if_icmp .ne 18, 3) := by decide +kernel
theorem dX5_agrees_14 : decode cX5_agrees 14 = .ok (.iload 4, 2) := by decide +kernel
theorem dX5_agrees_16 : decode cX5_agrees 16 = .ok (.iload 6, 2) := by decide +kernel
theorem dX5_agrees_18 : decode cX5_agrees 18 = .ok (.if_icmp .le 7, 3) := by decide +kernel
theorem dX5_agrees_21 : decode cX5_agrees 21 = .ok (.iconst 1, 1) := by decide +kernel
theorem dX5_agrees_22 : decode cX5_agrees 22 = .ok (.goto 19, 3) := by decide +kernel
theorem dX5_agrees_25 : decode cX5_agrees 25 = .ok (.iconst 0, 1) := by decide +kernel
theorem dX5_agrees_26 : decode cX5_agrees 26 = .ok (.goto 15, 3) := by decide +kernel
theorem dX5_agrees_29 : decode cX5_agrees 29 = .ok (.iload 4, 2) := by decide +kernel
theorem dX5_agrees_31 : decode cX5_agrees 31 = .ok (.iload 6, 2) := by decide +kernel
theorem dX5_agrees_33 : decode cX5_agrees 33 = .ok (.if_icmp .lt 7, 3) := by decide +kernel
theorem dX5_agrees_36 : decode cX5_agrees 36 = .ok (.iconst 1, 1) := by decide +kernel
theorem dX5_agrees_37 : decode cX5_agrees 37 = .ok (.goto 4, 3) := by decide +kernel
theorem dX5_agrees_40 : decode cX5_agrees 40 = .ok (.iconst 0, 1) := by decide +kernel
theorem dX5_agrees_41 : decode cX5_agrees 41 = .ok (.istore 7, 2) := by decide +kernel
theorem dX5_agrees_43 : decode cX5_agrees 43 = .ok (.aload_n 0, 1) := by decide +kernel
theorem dX5_agrees_44 : decode cX5_agrees 44 = .ok (.dup, 1) := by decide +kernel
theorem dX5_agrees_45 : decode cX5_agrees 45 = .ok (.getfield 171, 3) := by decide +kernel
theorem dX5_agrees_48 : decode cX5_agrees 48 = .ok (.iconst 1, 1) := by decide +kernel
theorem dX5_agrees_49 : decode cX5_agrees 49 = .ok (.iadd, 1) := by decide +kernel
theorem dX5_agrees_50 : decode cX5_agrees 50 = .ok (.putfield 171, 3) := by decide +kernel
theorem dX5_agrees_53 : decode cX5_agrees 53 = .ok (.iload 7, 2) := by decide +kernel
theorem dX5_agrees_55 : decode cX5_agrees 55 = .ok (.ifCond .eq 25, 3) := by decide +kernel
theorem dX5_agrees_58 : decode cX5_agrees 58 = .ok (.aload_n 0, 1) := by decide +kernel
theorem dX5_agrees_59 : decode cX5_agrees 59 = .ok (.dup, 1) := by decide +kernel
theorem dX5_agrees_60 : decode cX5_agrees 60 = .ok (.getfield 174, 3) := by decide +kernel
theorem dX5_agrees_63 : decode cX5_agrees 63 = .ok (.iconst 1, 1) := by decide +kernel
theorem dX5_agrees_64 : decode cX5_agrees 64 = .ok (.iadd, 1) := by decide +kernel
theorem dX5_agrees_65 : decode cX5_agrees 65 = .ok (.putfield 174, 3) := by decide +kernel
theorem dX5_agrees_68 : decode cX5_agrees 68 = .ok (.aload_n 1, 1) := by decide +kernel
theorem dX5_agrees_69 : decode cX5_agrees 69 = .ok (.iload_n 3, 1) := by decide +kernel
theorem dX5_agrees_70 : decode cX5_agrees 70 = .ok (.iload 4, 2) := by decide +kernel
theorem dX5_agrees_72 : decode cX5_agrees 72 = .ok (.iload 5, 2) := by decide +kernel
theorem dX5_agrees_74 : decode cX5_agrees 74 = .ok (.invokevirtual 373, 3) := by decide +kernel
theorem dX5_agrees_77 : decode cX5_agrees 77 = .ok (.goto 9, 3) := by decide +kernel
theorem dX5_agrees_80 : decode cX5_agrees 80 = .ok (.aload_n 2, 1) := by decide +kernel
theorem dX5_agrees_81 : decode cX5_agrees 81 = .ok (.iload 6, 2) := by decide +kernel
theorem dX5_agrees_83 : decode cX5_agrees 83 = .ok (.invokevirtual 350, 3) := by decide +kernel
theorem dX5_agrees_86 : decode cX5_agrees 86 = .ok (.aload_n 0, 1) := by decide +kernel
theorem dX5_agrees_87 : decode cX5_agrees 87 = .ok (.getfield 50, 3) := by decide +kernel
theorem dX5_agrees_90 : decode cX5_agrees 90 = .ok (.ifCond .eq 8, 3) := by decide +kernel
theorem dX5_agrees_93 : decode cX5_agrees 93 = .ok (.aload_n 1, 1) := by decide +kernel
theorem dX5_agrees_94 : decode cX5_agrees 94 = .ok (.invokevirtual 104, 3) := by decide +kernel
theorem dX5_agrees_97 : decode cX5_agrees 97 = .ok (.pop, 1) := by decide +kernel
theorem dX5_agrees_98 : decode cX5_agrees 98 = .ok (.iload 7, 2) := by decide +kernel
theorem dX5_agrees_100 : decode cX5_agrees 100 = .ok (.ireturn, 1) := by decide +kernel
theorem dX5_bringDown_0 : decode cX5_bringDown 0 = .ok (.aload_n 1, 1) := by decide +kernel
theorem dX5_bringDown_1 : decode cX5_bringDown 1 = .ok (.iload_n 2, 1) := by decide +kernel
theorem dX5_bringDown_2 : decode cX5_bringDown 2 = .ok (.invokevirtual 377, 3) := by decide +kernel
theorem dX5_bringDown_5 : decode cX5_bringDown 5 = .ok (.istore_n 3, 1) := by decide +kernel
theorem dX5_bringDown_6 : decode cX5_bringDown 6 = .ok (.aload_n 0, 1) := by decide +kernel
theorem dX5_bringDown_7 : decode cX5_bringDown 7 = .ok (.dup, 1) := by decide +kernel
theorem dX5_bringDown_8 : decode cX5_bringDown 8 = .ok (.getfield 180, 3) := by decide +kernel
theorem dX5_bringDown_11 : decode cX5_bringDown 11 = .ok (.iload_n 3, 1) := by decide +kernel
theorem dX5_bringDown_12 : decode cX5_bringDown 12 = .ok (.iadd, 1) := by decide +kernel
theorem dX5_bringDown_13 : decode cX5_bringDown 13 = .ok (.putfield 180, 3) := by decide +kernel
theorem dX5_bringDown_16 : decode cX5_bringDown 16 = .ok (.iload_n 3, 1) := by decide +kernel
theorem dX5_bringDown_17 : decode cX5_bringDown 17 = .ok (.ireturn, 1) := by decide +kernel
theorem dX5_readFromOthers_0 : decode cX5_readFromOthers 0 = .ok (.aload_n 0, 1) := by decide +kernel
theorem dX5_readFromOthers_1 : decode cX5_readFromOthers 1 = .ok (.getfield 24, 3) := by decide +kernel
theorem dX5_readFromOthers_4 : decode cX5_readFromOthers 4 = .ok (.invokevirtual 353, 3) := by decide +kernel
theorem dX5_readFromOthers_7 : decode cX5_readFromOthers 7 = .ok (.iconst 0, 1) := by decide +kernel
theorem dX5_readFromOthers_8 : decode cX5_readFromOthers 8 = .ok (.istore_n 3, 1) := by decide +kernel
theorem dX5_readFromOthers_9 : decode cX5_readFromOthers 9 = .ok (.iconst 0, 1) := by decide +kernel
theorem dX5_readFromOthers_10 : decode cX5_readFromOthers 10 = .ok (.istore 4, 2) := by decide +kernel
theorem dX5_readFromOthers_12 : decode cX5_readFromOthers 12 = .ok (.iload 4, 2) := by decide +kernel
theorem dX5_readFromOthers_14 : decode cX5_readFromOthers 14 = .ok (.aload_n 0, 1) := by decide +kernel
theorem dX5_readFromOthers_15 : decode cX5_readFromOthers 15 = .ok (.getfield 43, 3) := by decide +kernel
theorem dX5_readFromOthers_18 : decode cX5_readFromOthers 18 = .ok (.if_icmp .ge 69, 3) := by decide +kernel
theorem dX5_readFromOthers_21 : decode cX5_readFromOthers 21 = .ok (.aload_n 0, 1) := by decide +kernel
theorem dX5_readFromOthers_22 : decode cX5_readFromOthers 22 = .ok (.iload 4, 2) := by decide +kernel
theorem dX5_readFromOthers_24 : decode cX5_readFromOthers 24 = .ok (.iload_n 2, 1) := by decide +kernel
theorem dX5_readFromOthers_25 : decode cX5_readFromOthers 25 = .ok (.invokevirtual 354, 3) := by decide +kernel
theorem dX5_readFromOthers_28 : decode cX5_readFromOthers 28 = .ok (.ifCond .eq 53, 3) := by decide +kernel
theorem dX5_readFromOthers_31 : decode cX5_readFromOthers 31 = .ok (.aload_n 0, 1) := by decide +kernel
theorem dX5_readFromOthers_32 : decode cX5_readFromOthers 32 = .ok (.getfield 24, 3) := by decide +kernel
theorem dX5_readFromOthers_35 : decode cX5_readFromOthers 35 = .ok (.aload_n 0, 1) := by decide +kernel
theorem dX5_readFromOthers_36 : decode cX5_readFromOthers 36 = .ok (.getfield 11, 3) := by decide +kernel
theorem dX5_readFromOthers_39 : decode cX5_readFromOthers 39 = .ok (.iload 4, 2) := by decide +kernel
theorem dX5_readFromOthers_41 : decode cX5_readFromOthers 41 = .ok (.aaload, 1) := by decide +kernel
theorem dX5_readFromOthers_42 : decode cX5_readFromOthers 42 = .ok (.getfield 194, 3) := by decide +kernel
theorem dX5_readFromOthers_45 : decode cX5_readFromOthers 45 = .ok (.invokevirtual 361, 3) := by decide +kernel
theorem dX5_readFromOthers_48 : decode cX5_readFromOthers 48 = .ok (.aload_n 0, 1) := by decide +kernel
theorem dX5_readFromOthers_49 : decode cX5_readFromOthers 49 = .ok (.getfield 24, 3) := by decide +kernel
theorem dX5_readFromOthers_52 : decode cX5_readFromOthers 52 = .ok (.aload_n 0, 1) := by decide +kernel
theorem dX5_readFromOthers_53 : decode cX5_readFromOthers 53 = .ok (.getfield 24, 3) := by decide +kernel
theorem dX5_readFromOthers_56 : decode cX5_readFromOthers 56 = .ok (.getfield 197, 3) := by decide +kernel
theorem dX5_readFromOthers_59 : decode cX5_readFromOthers 59 = .ok (.aload_n 0, 1) := by decide +kernel
theorem dX5_readFromOthers_60 : decode cX5_readFromOthers 60 = .ok (.getfield 11, 3) := by decide +kernel
theorem dX5_readFromOthers_63 : decode cX5_readFromOthers 63 = .ok (.iload 4, 2) := by decide +kernel
theorem dX5_readFromOthers_65 : decode cX5_readFromOthers 65 = .ok (.aaload, 1) := by decide +kernel
theorem dX5_readFromOthers_66 : decode cX5_readFromOthers 66 = .ok (.getfield 194, 3) := by decide +kernel
theorem dX5_readFromOthers_69 : decode cX5_readFromOthers 69 = .ok (.getfield 197, 3) := by decide +kernel
theorem dX5_readFromOthers_72 : decode cX5_readFromOthers 72 = .ok (.invokestatic 380, 3) := by decide +kernel
theorem dX5_readFromOthers_75 : decode cX5_readFromOthers 75 = .ok (.putfield 197, 3) := by decide +kernel
theorem dX5_readFromOthers_78 : decode cX5_readFromOthers 78 = .ok (.iinc 3 1, 3) := by decide +kernel
theorem dX5_readFromOthers_81 : decode cX5_readFromOthers 81 = .ok (.iinc 4 1, 3) := by decide +kernel
theorem dX5_readFromOthers_84 : decode cX5_readFromOthers 84 = .ok (.goto (-72), 3) := by decide +kernel
theorem dX5_readFromOthers_87 : decode cX5_readFromOthers 87 = .ok (.iload_n 3, 1) := by decide +kernel
theorem dX5_readFromOthers_88 : decode cX5_readFromOthers 88 = .ok (.aload_n 0, 1) := by decide +kernel
theorem dX5_readFromOthers_89 : decode cX5_readFromOthers 89 = .ok (.invokevirtual 156, 3) := by decide +kernel
theorem dX5_readFromOthers_92 : decode cX5_readFromOthers 92 = .ok (.if_icmp .lt 11, 3) := by decide +kernel
theorem dX5_readFromOthers_95 : decode cX5_readFromOthers 95 = .ok (.aload_n 1, 1) := by decide +kernel
theorem dX5_readFromOthers_96 : decode cX5_readFromOthers 96 = .ok (.aload_n 0, 1) := by decide +kernel
theorem dX5_readFromOthers_97 : decode cX5_readFromOthers 97 = .ok (.getfield 24, 3) := by decide +kernel
theorem dX5_readFromOthers_100 : decode cX5_readFromOthers 100 = .ok (.invokevirtual 385, 3) := by decide +kernel
theorem dX5_readFromOthers_103 : decode cX5_readFromOthers 103 = .ok (.iload_n 3, 1) := by decide +kernel
theorem dX5_readFromOthers_104 : decode cX5_readFromOthers 104 = .ok (.ireturn, 1) := by decide +kernel
theorem dX5_readUpToError_0 : decode cX5_readUpToError 0 = .ok (.aload_n 0, 1) := by decide +kernel
theorem dX5_readUpToError_1 : decode cX5_readUpToError 1 = .ok (.getfield 31, 3) := by decide +kernel
theorem dX5_readUpToError_4 : decode cX5_readUpToError 4 = .ok (.invokevirtual 146, 3) := by decide +kernel
theorem dX5_readUpToError_7 : decode cX5_readUpToError 7 = .ok (.iconst 0, 1) := by decide +kernel
theorem dX5_readUpToError_8 : decode cX5_readUpToError 8 = .ok (.istore_n 1, 1) := by decide +kernel
theorem dX5_readUpToError_9 : decode cX5_readUpToError 9 = .ok (.iload_n 1, 1) := by decide +kernel
theorem dX5_readUpToError_10 : decode cX5_readUpToError 10 = .ok (.aload_n 0, 1) := by decide +kernel
theorem dX5_readUpToError_11 : decode cX5_readUpToError 11 = .ok (.getfield 133, 3) := by decide +kernel
theorem dX5_readUpToError_14 : decode cX5_readUpToError 14 = .ok (.if_icmp .ge 35, 3) := by decide +kernel
theorem dX5_readUpToError_17 : decode cX5_readUpToError 17 = .ok (.aload_n 0, 1) := by decide +kernel
theorem dX5_readUpToError_18 : decode cX5_readUpToError 18 = .ok (.getfield 31, 3) := by decide +kernel
theorem dX5_readUpToError_21 : decode cX5_readUpToError 21 = .ok (.aload_n 0, 1) := by decide +kernel
theorem dX5_readUpToError_22 : decode cX5_readUpToError 22 = .ok (.getfield 35, 3) := by decide +kernel
theorem dX5_readUpToError_25 : decode cX5_readUpToError 25 = .ok (.iload_n 1, 1) := by decide +kernel
theorem dX5_readUpToError_26 : decode cX5_readUpToError 26 = .ok (.iaload, 1) := by decide +kernel
theorem dX5_readUpToError_27 : decode cX5_readUpToError 27 = .ok (.aload_n 0, 1) := by decide +kernel
theorem dX5_readUpToError_28 : decode cX5_readUpToError 28 = .ok (.getfield 43, 3) := by decide +kernel
theorem dX5_readUpToError_31 : decode cX5_readUpToError 31 = .ok (.aload_n 0, 1) := by decide +kernel
theorem dX5_readUpToError_32 : decode cX5_readUpToError 32 = .ok (.getfield 47, 3) := by decide +kernel
theorem dX5_readUpToError_35 : decode cX5_readUpToError 35 = .ok (.invokevirtual 149, 3) := by decide +kernel
theorem dX5_readUpToError_38 : decode cX5_readUpToError 38 = .ok (.ifCond .ne 5, 3) := by decide +kernel
theorem dX5_readUpToError_41 : decode cX5_readUpToError 41 = .ok (.iload_n 1, 1) := by decide +kernel
theorem dX5_readUpToError_42 : decode cX5_readUpToError 42 = .ok (.ireturn, 1) := by decide +kernel
theorem dX5_readUpToError_43 : decode cX5_readUpToError 43 = .ok (.iinc 1 1, 3) := by decide +kernel
theorem dX5_readUpToError_46 : decode cX5_readUpToError 46 = .ok (.goto (-37), 3) := by decide +kernel
theorem dX5_readUpToError_49 : decode cX5_readUpToError 49 = .ok (.aload_n 0, 1) := by decide +kernel
theorem dX5_readUpToError_50 : decode cX5_readUpToError 50 = .ok (.getfield 133, 3) := by decide +kernel
theorem dX5_readUpToError_53 : decode cX5_readUpToError 53 = .ok (.ireturn, 1) := by decide +kernel
theorem dX5_carriesOutEvent_0 : decode cX5_carriesOutEvent 0 = .ok (.aload_n 0, 1) := by decide +kernel
theorem dX5_carriesOutEvent_1 : decode cX5_carriesOutEvent 1 = .ok (.aload_n 0, 1) := by decide +kernel
theorem dX5_carriesOutEvent_2 : decode cX5_carriesOutEvent 2 = .ok (.getfield 31, 3) := by decide +kernel
theorem dX5_carriesOutEvent_5 : decode cX5_carriesOutEvent 5 = .ok (.getfield 388, 3) := by decide +kernel
theorem dX5_carriesOutEvent_8 : decode cX5_carriesOutEvent 8 = .ok (.invokevirtual 321, 3) := by decide +kernel
theorem dX5_carriesOutEvent_11 : decode cX5_carriesOutEvent 11 = .ok (.ifCond .eq 22, 3) := by decide +kernel
theorem dX5_carriesOutEvent_14 : decode cX5_carriesOutEvent 14 = .ok (.aload_n 0, 1) := by decide +kernel
theorem dX5_carriesOutEvent_15 : decode cX5_carriesOutEvent 15 = .ok (.aload_n 0, 1) := by decide +kernel
theorem dX5_carriesOutEvent_16 : decode cX5_carriesOutEvent 16 = .ok (.getfield 11, 3) := by decide +kernel
theorem dX5_carriesOutEvent_19 : decode cX5_carriesOutEvent 19 = .ok (.aload_n 0, 1) := by decide +kernel
theorem dX5_carriesOutEvent_20 : decode cX5_carriesOutEvent 20 = .ok (.getfield 31, 3) := by decide +kernel
theorem dX5_carriesOutEvent_23 : decode cX5_carriesOutEvent 23 = .ok (.getfield 388, 3) := by decide +kernel
theorem dX5_carriesOutEvent_26 : decode cX5_carriesOutEvent 26 = .ok (.aaload, 1) := by decide +kernel
theorem dX5_carriesOutEvent_27 : decode cX5_carriesOutEvent 27 = .ok (.invokevirtual 391, 3) := by decide +kernel
theorem dX5_carriesOutEvent_30 : decode cX5_carriesOutEvent 30 = .ok (.ifCond .ne 5, 3) := by decide +kernel
theorem dX5_carriesOutEvent_33 : decode cX5_carriesOutEvent 33 = .ok (.iconst 0, 1) := by decide +kernel
theorem dX5_carriesOutEvent_34 : decode cX5_carriesOutEvent 34 = .ok (.ireturn, 1) := by decide +kernel
theorem dX5_carriesOutEvent_35 : decode cX5_carriesOutEvent 35 = .ok (.aload_n 0, 1) := by decide +kernel
theorem dX5_carriesOutEvent_36 : decode cX5_carriesOutEvent 36 = .ok (.getfield 11, 3) := by decide +kernel
theorem dX5_carriesOutEvent_39 : decode cX5_carriesOutEvent 39 = .ok (.aload_n 0, 1) := by decide +kernel
theorem dX5_carriesOutEvent_40 : decode cX5_carriesOutEvent 40 = .ok (.getfield 31, 3) := by decide +kernel
theorem dX5_carriesOutEvent_43 : decode cX5_carriesOutEvent 43 = .ok (.getfield 388, 3) := by decide +kernel
theorem dX5_carriesOutEvent_46 : decode cX5_carriesOutEvent 46 = .ok (.aaload, 1) := by decide +kernel
theorem dX5_carriesOutEvent_47 : decode cX5_carriesOutEvent 47 = .ok (.astore_n 1, 1) := by decide +kernel
theorem dX5_carriesOutEvent_48 : decode cX5_carriesOutEvent 48 = .ok (.aload_n 0, 1) := by decide +kernel
theorem dX5_carriesOutEvent_49 : decode cX5_carriesOutEvent 49 = .ok (.getfield 31, 3) := by decide +kernel
theorem dX5_carriesOutEvent_52 : decode cX5_carriesOutEvent 52 = .ok (.getfield 395, 3) := by decide +kernel
theorem dX5_carriesOutEvent_55 : decode cX5_carriesOutEvent 55 = .ok (.lookupswitch 143 #[(97, 73), (99, 111), (102, 103), (112, 57), (114, 135), (119, 127)], 57) := by decide +kernel
theorem dX5_carriesOutEvent_112 : decode cX5_carriesOutEvent 112 = .ok (.aload_n 0, 1) := by decide +kernel
theorem dX5_carriesOutEvent_113 : decode cX5_carriesOutEvent 113 = .ok (.aload_n 1, 1) := by decide +kernel
theorem dX5_carriesOutEvent_114 : decode cX5_carriesOutEvent 114 = .ok (.aload_n 0, 1) := by decide +kernel
theorem dX5_carriesOutEvent_115 : decode cX5_carriesOutEvent 115 = .ok (.getfield 31, 3) := by decide +kernel
theorem dX5_carriesOutEvent_118 : decode cX5_carriesOutEvent 118 = .ok (.getfield 398, 3) := by decide +kernel
theorem dX5_carriesOutEvent_121 : decode cX5_carriesOutEvent 121 = .ok (.invokevirtual 85, 3) := by decide +kernel
theorem dX5_carriesOutEvent_124 : decode cX5_carriesOutEvent 124 = .ok (.pop, 1) := by decide +kernel
theorem dX5_carriesOutEvent_125 : decode cX5_carriesOutEvent 125 = .ok (.goto 86, 3) := by decide +kernel
theorem dX5_carriesOutEvent_128 : decode cX5_carriesOutEvent 128 = .ok (.aload_n 0, 1) := by decide +kernel
theorem dX5_carriesOutEvent_129 : decode cX5_carriesOutEvent 129 = .ok (.aload_n 1, 1) := by decide +kernel
theorem dX5_carriesOutEvent_130 : decode cX5_carriesOutEvent 130 = .ok (.aload_n 0, 1) := by decide +kernel
theorem dX5_carriesOutEvent_131 : decode cX5_carriesOutEvent 131 = .ok (.getfield 31, 3) := by decide +kernel
theorem dX5_carriesOutEvent_134 : decode cX5_carriesOutEvent 134 = .ok (.getfield 401, 3) := by decide +kernel
theorem dX5_carriesOutEvent_137 : decode cX5_carriesOutEvent 137 = .ok (.aload_n 0, 1) := by decide +kernel
theorem dX5_carriesOutEvent_138 : decode cX5_carriesOutEvent 138 = .ok (.getfield 31, 3) := by decide +kernel
theorem dX5_carriesOutEvent_141 : decode cX5_carriesOutEvent 141 = .ok (.getfield 403, 3) := by decide +kernel
theorem dX5_carriesOutEvent_144 : decode cX5_carriesOutEvent 144 = .ok (.aload_n 0, 1) := by decide +kernel
theorem dX5_carriesOutEvent_145 : decode cX5_carriesOutEvent 145 = .ok (.getfield 31, 3) := by decide +kernel
theorem dX5_carriesOutEvent_148 : decode cX5_carriesOutEvent 148 = .ok (.getfield 398, 3) := by decide +kernel
theorem dX5_carriesOutEvent_151 : decode cX5_carriesOutEvent 151 = .ok (.invokevirtual 97, 3) := by decide +kernel
theorem dX5_carriesOutEvent_154 : decode cX5_carriesOutEvent 154 = .ok (.pop, 1) := by decide +kernel
theorem dX5_carriesOutEvent_155 : decode cX5_carriesOutEvent 155 = .ok (.goto 56, 3) := by decide +kernel
theorem dX5_carriesOutEvent_158 : decode cX5_carriesOutEvent 158 = .ok (.aload_n 1, 1) := by decide +kernel
theorem dX5_carriesOutEvent_159 : decode cX5_carriesOutEvent 159 = .ok (.invokevirtual 104, 3) := by decide +kernel
theorem dX5_carriesOutEvent_162 : decode cX5_carriesOutEvent 162 = .ok (.pop, 1) := by decide +kernel
theorem dX5_carriesOutEvent_163 : decode cX5_carriesOutEvent 163 = .ok (.goto 48, 3) := by decide +kernel
theorem dX5_carriesOutEvent_166 : decode cX5_carriesOutEvent 166 = .ok (.aload_n 0, 1) := by decide +kernel
theorem dX5_carriesOutEvent_167 : decode cX5_carriesOutEvent 167 = .ok (.aload_n 1, 1) := by decide +kernel
theorem dX5_carriesOutEvent_168 : decode cX5_carriesOutEvent 168 = .ok (.aload_n 0, 1) := by decide +kernel
theorem dX5_carriesOutEvent_169 : decode cX5_carriesOutEvent 169 = .ok (.getfield 31, 3) := by decide +kernel
theorem dX5_carriesOutEvent_172 : decode cX5_carriesOutEvent 172 = .ok (.getfield 404, 3) := by decide +kernel
theorem dX5_carriesOutEvent_175 : decode cX5_carriesOutEvent 175 = .ok (.invokevirtual 111, 3) := by decide +kernel
theorem dX5_carriesOutEvent_178 : decode cX5_carriesOutEvent 178 = .ok (.pop, 1) := by decide +kernel
theorem dX5_carriesOutEvent_179 : decode cX5_carriesOutEvent 179 = .ok (.goto 32, 3) := by decide +kernel
theorem dX5_carriesOutEvent_182 : decode cX5_carriesOutEvent 182 = .ok (.aload_n 1, 1) := by decide +kernel
theorem dX5_carriesOutEvent_183 : decode cX5_carriesOutEvent 183 = .ok (.invokevirtual 117, 3) := by decide +kernel
theorem dX5_carriesOutEvent_186 : decode cX5_carriesOutEvent 186 = .ok (.pop, 1) := by decide +kernel
theorem dX5_carriesOutEvent_187 : decode cX5_carriesOutEvent 187 = .ok (.goto 24, 3) := by decide +kernel
theorem dX5_carriesOutEvent_190 : decode cX5_carriesOutEvent 190 = .ok (.aload_n 1, 1) := by decide +kernel
theorem dX5_carriesOutEvent_191 : decode cX5_carriesOutEvent 191 = .ok (.invokevirtual 120, 3) := by decide +kernel
theorem dX5_carriesOutEvent_194 : decode cX5_carriesOutEvent 194 = .ok (.pop, 1) := by decide +kernel
theorem dX5_carriesOutEvent_195 : decode cX5_carriesOutEvent 195 = .ok (.goto 16, 3) := by decide +kernel
theorem dX5_carriesOutEvent_198 : decode cX5_carriesOutEvent 198 = .ok (.aload_n 0, 1) := by decide +kernel
theorem dX5_carriesOutEvent_199 : decode cX5_carriesOutEvent 199 = .ok (.aload_n 1, 1) := by decide +kernel
theorem dX5_carriesOutEvent_200 : decode cX5_carriesOutEvent 200 = .ok (.aload_n 0, 1) := by decide +kernel
theorem dX5_carriesOutEvent_201 : decode cX5_carriesOutEvent 201 = .ok (.getfield 31, 3) := by decide +kernel
theorem dX5_carriesOutEvent_204 : decode cX5_carriesOutEvent 204 = .ok (.getfield 398, 3) := by decide +kernel
theorem dX5_carriesOutEvent_207 : decode cX5_carriesOutEvent 207 = .ok (.invokevirtual 128, 3) := by decide +kernel
theorem dX5_carriesOutEvent_210 : decode cX5_carriesOutEvent 210 = .ok (.pop, 1) := by decide +kernel
theorem dX5_carriesOutEvent_211 : decode cX5_carriesOutEvent 211 = .ok (.iconst 1, 1) := by decide +kernel
theorem dX5_carriesOutEvent_212 : decode cX5_carriesOutEvent 212 = .ok (.ireturn, 1) := by decide +kernel
theorem dX5_isPossible_0 : decode cX5_isPossible 0 = .ok (.aload_n 0, 1) := by decide +kernel
theorem dX5_isPossible_1 : decode cX5_isPossible 1 = .ok (.getfield 31, 3) := by decide +kernel
theorem dX5_isPossible_4 : decode cX5_isPossible 4 = .ok (.getfield 395, 3) := by decide +kernel
theorem dX5_isPossible_7 : decode cX5_isPossible 7 = .ok (.lookupswitch 107 #[(97, 62), (99, 89), (102, 89), (112, 57), (114, 94), (119, 94)], 57) := by decide +kernel
theorem dX5_isPossible_64 : decode cX5_isPossible 64 = .ok (.aload_n 1, 1) := by decide +kernel
theorem dX5_isPossible_65 : decode cX5_isPossible 65 = .ok (.invokevirtual 76, 3) := by decide +kernel
theorem dX5_isPossible_68 : decode cX5_isPossible 68 = .ok (.ireturn, 1) := by decide +kernel
theorem dX5_isPossible_69 : decode cX5_isPossible 69 = .ok (.aload_n 0, 1) := by decide +kernel
theorem dX5_isPossible_70 : decode cX5_isPossible 70 = .ok (.aload_n 0, 1) := by decide +kernel
theorem dX5_isPossible_71 : decode cX5_isPossible 71 = .ok (.getfield 31, 3) := by decide +kernel
theorem dX5_isPossible_74 : decode cX5_isPossible 74 = .ok (.getfield 401, 3) := by decide +kernel
theorem dX5_isPossible_77 : decode cX5_isPossible 77 = .ok (.invokevirtual 326, 3) := by decide +kernel
theorem dX5_isPossible_80 : decode cX5_isPossible 80 = .ok (.ifCond .eq 14, 3) := by decide +kernel
theorem dX5_isPossible_83 : decode cX5_isPossible 83 = .ok (.aload_n 1, 1) := by decide +kernel
theorem dX5_isPossible_84 : decode cX5_isPossible 84 = .ok (.invokevirtual 339, 3) := by decide +kernel
theorem dX5_isPossible_87 : decode cX5_isPossible 87 = .ok (.ifCond .eq 7, 3) := by decide +kernel
theorem dX5_isPossible_90 : decode cX5_isPossible 90 = .ok (.iconst 1, 1) := by decide +kernel
theorem dX5_isPossible_91 : decode cX5_isPossible 91 = .ok (.goto 4, 3) := by decide +kernel
theorem dX5_isPossible_94 : decode cX5_isPossible 94 = .ok (.iconst 0, 1) := by decide +kernel
theorem dX5_isPossible_95 : decode cX5_isPossible 95 = .ok (.ireturn, 1) := by decide +kernel
theorem dX5_isPossible_96 : decode cX5_isPossible 96 = .ok (.aload_n 1, 1) := by decide +kernel
theorem dX5_isPossible_97 : decode cX5_isPossible 97 = .ok (.getfield 185, 3) := by decide +kernel
theorem dX5_isPossible_100 : decode cX5_isPossible 100 = .ok (.ireturn, 1) := by decide +kernel
theorem dX5_isPossible_101 : decode cX5_isPossible 101 = .ok (.aload_n 1, 1) := by decide +kernel
theorem dX5_isPossible_102 : decode cX5_isPossible 102 = .ok (.getfield 185, 3) := by decide +kernel
theorem dX5_isPossible_105 : decode cX5_isPossible 105 = .ok (.ifCond .ne 7, 3) := by decide +kernel
theorem dX5_isPossible_108 : decode cX5_isPossible 108 = .ok (.iconst 1, 1) := by decide +kernel
theorem dX5_isPossible_109 : decode cX5_isPossible 109 = .ok (.goto 4, 3) := by decide +kernel
theorem dX5_isPossible_112 : decode cX5_isPossible 112 = .ok (.iconst 0, 1) := by decide +kernel
theorem dX5_isPossible_113 : decode cX5_isPossible 113 = .ok (.ireturn, 1) := by decide +kernel
theorem dX5_isPossible_114 : decode cX5_isPossible 114 = .ok (.aload_n 1, 1) := by decide +kernel
theorem dX5_isPossible_115 : decode cX5_isPossible 115 = .ok (.invokevirtual 123, 3) := by decide +kernel
theorem dX5_isPossible_118 : decode cX5_isPossible 118 = .ok (.ireturn, 1) := by decide +kernel
theorem dX5_asNumber_0 : decode cX5_asNumber 0 = .ok (.iload_n 0, 1) := by decide +kernel
theorem dX5_asNumber_1 : decode cX5_asNumber 1 = .ok (.ifCond .eq 7, 3) := by decide +kernel
theorem dX5_asNumber_4 : decode cX5_asNumber 4 = .ok (.iconst 1, 1) := by decide +kernel
theorem dX5_asNumber_5 : decode cX5_asNumber 5 = .ok (.goto 4, 3) := by decide +kernel
theorem dX5_asNumber_8 : decode cX5_asNumber 8 = .ok (.iconst 0, 1) := by decide +kernel
theorem dX5_asNumber_9 : decode cX5_asNumber 9 = .ok (.ireturn, 1) := by decide +kernel
theorem dX5_nodesUp_0 : decode cX5_nodesUp 0 = .ok (.iconst 0, 1) := by decide +kernel
theorem dX5_nodesUp_1 : decode cX5_nodesUp 1 = .ok (.istore_n 1, 1) := by decide +kernel
theorem dX5_nodesUp_2 : decode cX5_nodesUp 2 = .ok (.iconst 0, 1) := by decide +kernel
theorem dX5_nodesUp_3 : decode cX5_nodesUp 3 = .ok (.istore_n 2, 1) := by decide +kernel
theorem dX5_nodesUp_4 : decode cX5_nodesUp 4 = .ok (.iload_n 2, 1) := by decide +kernel
theorem dX5_nodesUp_5 : decode cX5_nodesUp 5 = .ok (.aload_n 0, 1) := by decide +kernel
theorem dX5_nodesUp_6 : decode cX5_nodesUp 6 = .ok (.getfield 43, 3) := by decide +kernel
theorem dX5_nodesUp_9 : decode cX5_nodesUp 9 = .ok (.if_icmp .ge 24, 3) := by decide +kernel
theorem dX5_nodesUp_12 : decode cX5_nodesUp 12 = .ok (.iload_n 1, 1) := by decide +kernel
theorem dX5_nodesUp_13 : decode cX5_nodesUp 13 = .ok (.aload_n 0, 1) := by decide +kernel
theorem dX5_nodesUp_14 : decode cX5_nodesUp 14 = .ok (.getfield 11, 3) := by decide +kernel
theorem dX5_nodesUp_17 : decode cX5_nodesUp 17 = .ok (.iload_n 2, 1) := by decide +kernel
theorem dX5_nodesUp_18 : decode cX5_nodesUp 18 = .ok (.aaload, 1) := by decide +kernel
theorem dX5_nodesUp_19 : decode cX5_nodesUp 19 = .ok (.getfield 185, 3) := by decide +kernel
theorem dX5_nodesUp_22 : decode cX5_nodesUp 22 = .ok (.invokestatic 66, 3) := by decide +kernel
theorem dX5_nodesUp_25 : decode cX5_nodesUp 25 = .ok (.iadd, 1) := by decide +kernel
theorem dX5_nodesUp_26 : decode cX5_nodesUp 26 = .ok (.istore_n 1, 1) := by decide +kernel
theorem dX5_nodesUp_27 : decode cX5_nodesUp 27 = .ok (.iinc 2 1, 3) := by decide +kernel
theorem dX5_nodesUp_30 : decode cX5_nodesUp 30 = .ok (.goto (-26), 3) := by decide +kernel
theorem dX5_nodesUp_33 : decode cX5_nodesUp 33 = .ok (.iload_n 1, 1) := by decide +kernel
theorem dX5_nodesUp_34 : decode cX5_nodesUp 34 = .ok (.ireturn, 1) := by decide +kernel
theorem dX5_nodesJoined_0 : decode cX5_nodesJoined 0 = .ok (.iconst 0, 1) := by decide +kernel
theorem dX5_nodesJoined_1 : decode cX5_nodesJoined 1 = .ok (.istore_n 1, 1) := by decide +kernel
theorem dX5_nodesJoined_2 : decode cX5_nodesJoined 2 = .ok (.iconst 0, 1) := by decide +kernel
theorem dX5_nodesJoined_3 : decode cX5_nodesJoined 3 = .ok (.istore_n 2, 1) := by decide +kernel
theorem dX5_nodesJoined_4 : decode cX5_nodesJoined 4 = .ok (.iload_n 2, 1) := by decide +kernel
theorem dX5_nodesJoined_5 : decode cX5_nodesJoined 5 = .ok (.aload_n 0, 1) := by decide +kernel
theorem dX5_nodesJoined_6 : decode cX5_nodesJoined 6 = .ok (.getfield 43, 3) := by decide +kernel
theorem dX5_nodesJoined_9 : decode cX5_nodesJoined 9 = .ok (.if_icmp .ge 24, 3) := by decide +kernel
theorem dX5_nodesJoined_12 : decode cX5_nodesJoined 12 = .ok (.iload_n 1, 1) := by decide +kernel
theorem dX5_nodesJoined_13 : decode cX5_nodesJoined 13 = .ok (.aload_n 0, 1) := by decide +kernel
theorem dX5_nodesJoined_14 : decode cX5_nodesJoined 14 = .ok (.getfield 11, 3) := by decide +kernel
theorem dX5_nodesJoined_17 : decode cX5_nodesJoined 17 = .ok (.iload_n 2, 1) := by decide +kernel
theorem dX5_nodesJoined_18 : decode cX5_nodesJoined 18 = .ok (.aaload, 1) := by decide +kernel
theorem dX5_nodesJoined_19 : decode cX5_nodesJoined 19 = .ok (.getfield 188, 3) := by decide +kernel
theorem dX5_nodesJoined_22 : decode cX5_nodesJoined 22 = .ok (.invokestatic 66, 3) := by decide +kernel
theorem dX5_nodesJoined_25 : decode cX5_nodesJoined 25 = .ok (.iadd, 1) := by decide +kernel
theorem dX5_nodesJoined_26 : decode cX5_nodesJoined 26 = .ok (.istore_n 1, 1) := by decide +kernel
theorem dX5_nodesJoined_27 : decode cX5_nodesJoined 27 = .ok (.iinc 2 1, 3) := by decide +kernel
theorem dX5_nodesJoined_30 : decode cX5_nodesJoined 30 = .ok (.goto (-26), 3) := by decide +kernel
theorem dX5_nodesJoined_33 : decode cX5_nodesJoined 33 = .ok (.iload_n 1, 1) := by decide +kernel
theorem dX5_nodesJoined_34 : decode cX5_nodesJoined 34 = .ok (.ireturn, 1) := by decide +kernel
theorem dX5_writesWaiting_0 : decode cX5_writesWaiting 0 = .ok (.iconst 0, 1) := by decide +kernel
theorem dX5_writesWaiting_1 : decode cX5_writesWaiting 1 = .ok (.istore_n 1, 1) := by decide +kernel
theorem dX5_writesWaiting_2 : decode cX5_writesWaiting 2 = .ok (.iconst 0, 1) := by decide +kernel
theorem dX5_writesWaiting_3 : decode cX5_writesWaiting 3 = .ok (.istore_n 2, 1) := by decide +kernel
theorem dX5_writesWaiting_4 : decode cX5_writesWaiting 4 = .ok (.iload_n 2, 1) := by decide +kernel
theorem dX5_writesWaiting_5 : decode cX5_writesWaiting 5 = .ok (.aload_n 0, 1) := by decide +kernel
theorem dX5_writesWaiting_6 : decode cX5_writesWaiting 6 = .ok (.getfield 43, 3) := by decide +kernel
theorem dX5_writesWaiting_9 : decode cX5_writesWaiting 9 = .ok (.if_icmp .ge 24, 3) := by decide +kernel
theorem dX5_writesWaiting_12 : decode cX5_writesWaiting 12 = .ok (.iload_n 1, 1) := by decide +kernel
theorem dX5_writesWaiting_13 : decode cX5_writesWaiting 13 = .ok (.aload_n 0, 1) := by decide +kernel
theorem dX5_writesWaiting_14 : decode cX5_writesWaiting 14 = .ok (.getfield 11, 3) := by decide +kernel
theorem dX5_writesWaiting_17 : decode cX5_writesWaiting 17 = .ok (.iload_n 2, 1) := by decide +kernel
theorem dX5_writesWaiting_18 : decode cX5_writesWaiting 18 = .ok (.aaload, 1) := by decide +kernel
theorem dX5_writesWaiting_19 : decode cX5_writesWaiting 19 = .ok (.getfield 203, 3) := by decide +kernel
theorem dX5_writesWaiting_22 : decode cX5_writesWaiting 22 = .ok (.getfield 207, 3) := by decide +kernel
theorem dX5_writesWaiting_25 : decode cX5_writesWaiting 25 = .ok (.iadd, 1) := by decide +kernel
theorem dX5_writesWaiting_26 : decode cX5_writesWaiting 26 = .ok (.istore_n 1, 1) := by decide +kernel
theorem dX5_writesWaiting_27 : decode cX5_writesWaiting 27 = .ok (.iinc 2 1, 3) := by decide +kernel
theorem dX5_writesWaiting_30 : decode cX5_writesWaiting 30 = .ok (.goto (-26), 3) := by decide +kernel
theorem dX5_writesWaiting_33 : decode cX5_writesWaiting 33 = .ok (.iload_n 1, 1) := by decide +kernel
theorem dX5_writesWaiting_34 : decode cX5_writesWaiting 34 = .ok (.ireturn, 1) := by decide +kernel
theorem dX5_decidedSlots_0 : decode cX5_decidedSlots 0 = .ok (.iconst 0, 1) := by decide +kernel
theorem dX5_decidedSlots_1 : decode cX5_decidedSlots 1 = .ok (.istore_n 1, 1) := by decide +kernel
theorem dX5_decidedSlots_2 : decode cX5_decidedSlots 2 = .ok (.iconst 0, 1) := by decide +kernel
theorem dX5_decidedSlots_3 : decode cX5_decidedSlots 3 = .ok (.istore_n 2, 1) := by decide +kernel
theorem dX5_decidedSlots_4 : decode cX5_decidedSlots 4 = .ok (.iload_n 2, 1) := by decide +kernel
theorem dX5_decidedSlots_5 : decode cX5_decidedSlots 5 = .ok (.aload_n 0, 1) := by decide +kernel
theorem dX5_decidedSlots_6 : decode cX5_decidedSlots 6 = .ok (.getfield 47, 3) := by decide +kernel
theorem dX5_decidedSlots_9 : decode cX5_decidedSlots 9 = .ok (.if_icmp .ge 24, 3) := by decide +kernel
theorem dX5_decidedSlots_12 : decode cX5_decidedSlots 12 = .ok (.iload_n 1, 1) := by decide +kernel
theorem dX5_decidedSlots_13 : decode cX5_decidedSlots 13 = .ok (.aload_n 0, 1) := by decide +kernel
theorem dX5_decidedSlots_14 : decode cX5_decidedSlots 14 = .ok (.getfield 17, 3) := by decide +kernel
theorem dX5_decidedSlots_17 : decode cX5_decidedSlots 17 = .ok (.iload_n 2, 1) := by decide +kernel
theorem dX5_decidedSlots_18 : decode cX5_decidedSlots 18 = .ok (.aaload, 1) := by decide +kernel
theorem dX5_decidedSlots_19 : decode cX5_decidedSlots 19 = .ok (.invokevirtual 279, 3) := by decide +kernel
theorem dX5_decidedSlots_22 : decode cX5_decidedSlots 22 = .ok (.invokestatic 66, 3) := by decide +kernel
theorem dX5_decidedSlots_25 : decode cX5_decidedSlots 25 = .ok (.iadd, 1) := by decide +kernel
theorem dX5_decidedSlots_26 : decode cX5_decidedSlots 26 = .ok (.istore_n 1, 1) := by decide +kernel
theorem dX5_decidedSlots_27 : decode cX5_decidedSlots 27 = .ok (.iinc 2 1, 3) := by decide +kernel
theorem dX5_decidedSlots_30 : decode cX5_decidedSlots 30 = .ok (.goto (-26), 3) := by decide +kernel
theorem dX5_decidedSlots_33 : decode cX5_decidedSlots 33 = .ok (.iload_n 1, 1) := by decide +kernel
theorem dX5_decidedSlots_34 : decode cX5_decidedSlots 34 = .ok (.ireturn, 1) := by decide +kernel
theorem dX5_slotsInConflict_0 : decode cX5_slotsInConflict 0 = .ok (.iconst 0, 1) := by decide +kernel
theorem dX5_slotsInConflict_1 : decode cX5_slotsInConflict 1 = .ok (.istore_n 1, 1) := by decide +kernel
theorem dX5_slotsInConflict_2 : decode cX5_slotsInConflict 2 = .ok (.iconst 0, 1) := by decide +kernel
theorem dX5_slotsInConflict_3 : decode cX5_slotsInConflict 3 = .ok (.istore_n 2, 1) := by decide +kernel
theorem dX5_slotsInConflict_4 : decode cX5_slotsInConflict 4 = .ok (.iload_n 2, 1) := by decide +kernel
theorem dX5_slotsInConflict_5 : decode cX5_slotsInConflict 5 = .ok (.aload_n 0, 1) := by decide +kernel
theorem dX5_slotsInConflict_6 : decode cX5_slotsInConflict 6 = .ok (.getfield 47, 3) := by decide +kernel
theorem dX5_slotsInConflict_9 : decode cX5_slotsInConflict 9 = .ok (.if_icmp .ge 24, 3) := by decide +kernel
theorem dX5_slotsInConflict_12 : decode cX5_slotsInConflict 12 = .ok (.iload_n 1, 1) := by decide +kernel
theorem dX5_slotsInConflict_13 : decode cX5_slotsInConflict 13 = .ok (.aload_n 0, 1) := by decide +kernel
theorem dX5_slotsInConflict_14 : decode cX5_slotsInConflict 14 = .ok (.getfield 17, 3) := by decide +kernel
theorem dX5_slotsInConflict_17 : decode cX5_slotsInConflict 17 = .ok (.iload_n 2, 1) := by decide +kernel
theorem dX5_slotsInConflict_18 : decode cX5_slotsInConflict 18 = .ok (.aaload, 1) := by decide +kernel
theorem dX5_slotsInConflict_19 : decode cX5_slotsInConflict 19 = .ok (.getfield 263, 3) := by decide +kernel
theorem dX5_slotsInConflict_22 : decode cX5_slotsInConflict 22 = .ok (.invokestatic 66, 3) := by decide +kernel
theorem dX5_slotsInConflict_25 : decode cX5_slotsInConflict 25 = .ok (.iadd, 1) := by decide +kernel
theorem dX5_slotsInConflict_26 : decode cX5_slotsInConflict 26 = .ok (.istore_n 1, 1) := by decide +kernel
theorem dX5_slotsInConflict_27 : decode cX5_slotsInConflict 27 = .ok (.iinc 2 1, 3) := by decide +kernel
theorem dX5_slotsInConflict_30 : decode cX5_slotsInConflict 30 = .ok (.goto (-26), 3) := by decide +kernel
theorem dX5_slotsInConflict_33 : decode cX5_slotsInConflict 33 = .ok (.iload_n 1, 1) := by decide +kernel
theorem dX5_slotsInConflict_34 : decode cX5_slotsInConflict 34 = .ok (.ireturn, 1) := by decide +kernel
theorem dX5_holders_0 : decode cX5_holders 0 = .ok (.iconst 0, 1) := by decide +kernel
theorem dX5_holders_1 : decode cX5_holders 1 = .ok (.istore_n 2, 1) := by decide +kernel
theorem dX5_holders_2 : decode cX5_holders 2 = .ok (.iconst 0, 1) := by decide +kernel
theorem dX5_holders_3 : decode cX5_holders 3 = .ok (.istore_n 3, 1) := by decide +kernel
theorem dX5_holders_4 : decode cX5_holders 4 = .ok (.iload_n 3, 1) := by decide +kernel
theorem dX5_holders_5 : decode cX5_holders 5 = .ok (.aload_n 0, 1) := by decide +kernel
theorem dX5_holders_6 : decode cX5_holders 6 = .ok (.getfield 43, 3) := by decide +kernel
theorem dX5_holders_9 : decode cX5_holders 9 = .ok (.if_icmp .ge 29, 3) := by decide +kernel
theorem dX5_holders_12 : decode cX5_holders 12 = .ok (.iload_n 2, 1) := by decide +kernel
theorem dX5_holders_13 : decode cX5_holders 13 = .ok (.aload_n 0, 1) := by decide +kernel
theorem dX5_holders_14 : decode cX5_holders 14 = .ok (.aload_n 0, 1) := by decide +kernel
theorem dX5_holders_15 : decode cX5_holders 15 = .ok (.getfield 11, 3) := by decide +kernel
theorem dX5_holders_18 : decode cX5_holders 18 = .ok (.iload_n 3, 1) := by decide +kernel
theorem dX5_holders_19 : decode cX5_holders 19 = .ok (.aaload, 1) := by decide +kernel
theorem dX5_holders_20 : decode cX5_holders 20 = .ok (.getfield 194, 3) := by decide +kernel
theorem dX5_holders_23 : decode cX5_holders 23 = .ok (.iload_n 1, 1) := by decide +kernel
theorem dX5_holders_24 : decode cX5_holders 24 = .ok (.invokevirtual 407, 3) := by decide +kernel
theorem dX5_holders_27 : decode cX5_holders 27 = .ok (.invokestatic 66, 3) := by decide +kernel
theorem dX5_holders_30 : decode cX5_holders 30 = .ok (.iadd, 1) := by decide +kernel
theorem dX5_holders_31 : decode cX5_holders 31 = .ok (.istore_n 2, 1) := by decide +kernel
theorem dX5_holders_32 : decode cX5_holders 32 = .ok (.iinc 3 1, 3) := by decide +kernel
theorem dX5_holders_35 : decode cX5_holders 35 = .ok (.goto (-31), 3) := by decide +kernel
theorem dX5_holders_38 : decode cX5_holders 38 = .ok (.iload_n 2, 1) := by decide +kernel
theorem dX5_holders_39 : decode cX5_holders 39 = .ok (.ireturn, 1) := by decide +kernel
theorem dX5_diskHolders_0 : decode cX5_diskHolders 0 = .ok (.iconst 0, 1) := by decide +kernel
theorem dX5_diskHolders_1 : decode cX5_diskHolders 1 = .ok (.istore_n 2, 1) := by decide +kernel
theorem dX5_diskHolders_2 : decode cX5_diskHolders 2 = .ok (.iconst 0, 1) := by decide +kernel
theorem dX5_diskHolders_3 : decode cX5_diskHolders 3 = .ok (.istore_n 3, 1) := by decide +kernel
theorem dX5_diskHolders_4 : decode cX5_diskHolders 4 = .ok (.iload_n 3, 1) := by decide +kernel
theorem dX5_diskHolders_5 : decode cX5_diskHolders 5 = .ok (.aload_n 0, 1) := by decide +kernel
theorem dX5_diskHolders_6 : decode cX5_diskHolders 6 = .ok (.getfield 43, 3) := by decide +kernel
theorem dX5_diskHolders_9 : decode cX5_diskHolders 9 = .ok (.if_icmp .ge 29, 3) := by decide +kernel
theorem dX5_diskHolders_12 : decode cX5_diskHolders 12 = .ok (.iload_n 2, 1) := by decide +kernel
theorem dX5_diskHolders_13 : decode cX5_diskHolders 13 = .ok (.aload_n 0, 1) := by decide +kernel
theorem dX5_diskHolders_14 : decode cX5_diskHolders 14 = .ok (.aload_n 0, 1) := by decide +kernel
theorem dX5_diskHolders_15 : decode cX5_diskHolders 15 = .ok (.getfield 11, 3) := by decide +kernel
theorem dX5_diskHolders_18 : decode cX5_diskHolders 18 = .ok (.iload_n 3, 1) := by decide +kernel
theorem dX5_diskHolders_19 : decode cX5_diskHolders 19 = .ok (.aaload, 1) := by decide +kernel
theorem dX5_diskHolders_20 : decode cX5_diskHolders 20 = .ok (.getfield 200, 3) := by decide +kernel
theorem dX5_diskHolders_23 : decode cX5_diskHolders 23 = .ok (.iload_n 1, 1) := by decide +kernel
theorem dX5_diskHolders_24 : decode cX5_diskHolders 24 = .ok (.invokevirtual 407, 3) := by decide +kernel
theorem dX5_diskHolders_27 : decode cX5_diskHolders 27 = .ok (.invokestatic 66, 3) := by decide +kernel
theorem dX5_diskHolders_30 : decode cX5_diskHolders 30 = .ok (.iadd, 1) := by decide +kernel
theorem dX5_diskHolders_31 : decode cX5_diskHolders 31 = .ok (.istore_n 2, 1) := by decide +kernel
theorem dX5_diskHolders_32 : decode cX5_diskHolders 32 = .ok (.iinc 3 1, 3) := by decide +kernel
theorem dX5_diskHolders_35 : decode cX5_diskHolders 35 = .ok (.goto (-31), 3) := by decide +kernel
theorem dX5_diskHolders_38 : decode cX5_diskHolders 38 = .ok (.iload_n 2, 1) := by decide +kernel
theorem dX5_diskHolders_39 : decode cX5_diskHolders 39 = .ok (.ireturn, 1) := by decide +kernel
theorem dX5_holds_0 : decode cX5_holds 0 = .ok (.aload_n 0, 1) := by decide +kernel
theorem dX5_holds_1 : decode cX5_holds 1 = .ok (.getfield 17, 3) := by decide +kernel
theorem dX5_holds_4 : decode cX5_holds 4 = .ok (.iload_n 2, 1) := by decide +kernel
theorem dX5_holds_5 : decode cX5_holds 5 = .ok (.aaload, 1) := by decide +kernel
theorem dX5_holds_6 : decode cX5_holds 6 = .ok (.aload_n 1, 1) := by decide +kernel
theorem dX5_holds_7 : decode cX5_holds 7 = .ok (.getfield 223, 3) := by decide +kernel
theorem dX5_holds_10 : decode cX5_holds 10 = .ok (.iload_n 2, 1) := by decide +kernel
theorem dX5_holds_11 : decode cX5_holds 11 = .ok (.iaload, 1) := by decide +kernel
theorem dX5_holds_12 : decode cX5_holds 12 = .ok (.aload_n 1, 1) := by decide +kernel
theorem dX5_holds_13 : decode cX5_holds 13 = .ok (.getfield 226, 3) := by decide +kernel
theorem dX5_holds_16 : decode cX5_holds 16 = .ok (.iload_n 2, 1) := by decide +kernel
theorem dX5_holds_17 : decode cX5_holds 17 = .ok (.iaload, 1) := by decide +kernel
theorem dX5_holds_18 : decode cX5_holds 18 = .ok (.invokevirtual 411, 3) := by decide +kernel
theorem dX5_holds_21 : decode cX5_holds 21 = .ok (.ireturn, 1) := by decide +kernel
theorem dX5_isProtectedNow_0 : decode cX5_isProtectedNow 0 = .ok (.aload_n 0, 1) := by decide +kernel
theorem dX5_isProtectedNow_1 : decode cX5_isProtectedNow 1 = .ok (.getfield 17, 3) := by decide +kernel
theorem dX5_isProtectedNow_4 : decode cX5_isProtectedNow 4 = .ok (.iload_n 1, 1) := by decide +kernel
theorem dX5_isProtectedNow_5 : decode cX5_isProtectedNow 5 = .ok (.aaload, 1) := by decide +kernel
theorem dX5_isProtectedNow_6 : decode cX5_isProtectedNow 6 = .ok (.invokevirtual 279, 3) := by decide +kernel
theorem dX5_isProtectedNow_9 : decode cX5_isProtectedNow 9 = .ok (.ifCond .eq 19, 3) := by decide +kernel
theorem dX5_isProtectedNow_12 : decode cX5_isProtectedNow 12 = .ok (.aload_n 0, 1) := by decide +kernel
theorem dX5_isProtectedNow_13 : decode cX5_isProtectedNow 13 = .ok (.aload_n 0, 1) := by decide +kernel
theorem dX5_isProtectedNow_14 : decode cX5_isProtectedNow 14 = .ok (.iload_n 1, 1) := by decide +kernel
theorem dX5_isProtectedNow_15 : decode cX5_isProtectedNow 15 = .ok (.invokevirtual 252, 3) := by decide +kernel
theorem dX5_isProtectedNow_18 : decode cX5_isProtectedNow 18 = .ok (.invokevirtual 414, 3) := by decide +kernel
theorem dX5_isProtectedNow_21 : decode cX5_isProtectedNow 21 = .ok (.ifCond .eq 7, 3) := by decide +kernel
theorem dX5_isProtectedNow_24 : decode cX5_isProtectedNow 24 = .ok (.iconst 1, 1) := by decide +kernel
theorem dX5_isProtectedNow_25 : decode cX5_isProtectedNow 25 = .ok (.goto 4, 3) := by decide +kernel
theorem dX5_isProtectedNow_28 : decode cX5_isProtectedNow 28 = .ok (.iconst 0, 1) := by decide +kernel
theorem dX5_isProtectedNow_29 : decode cX5_isProtectedNow 29 = .ok (.ireturn, 1) := by decide +kernel
theorem dX5_areEnough_0 : decode cX5_areEnough 0 = .ok (.aload_n 0, 1) := by decide +kernel
theorem dX5_areEnough_1 : decode cX5_areEnough 1 = .ok (.getfield 43, 3) := by decide +kernel
theorem dX5_areEnough_4 : decode cX5_areEnough 4 = .ok (.iload_n 1, 1) := by decide +kernel
theorem dX5_areEnough_5 : decode cX5_areEnough 5 = .ok (.isub, 1) := by decide +kernel
theorem dX5_areEnough_6 : decode cX5_areEnough 6 = .ok (.aload_n 0, 1) := by decide +kernel
theorem dX5_areEnough_7 : decode cX5_areEnough 7 = .ok (.invokevirtual 156, 3) := by decide +kernel
theorem dX5_areEnough_10 : decode cX5_areEnough 10 = .ok (.if_icmp .ge 7, 3) := by decide +kernel
theorem dX5_areEnough_13 : decode cX5_areEnough 13 = .ok (.iconst 1, 1) := by decide +kernel
theorem dX5_areEnough_14 : decode cX5_areEnough 14 = .ok (.goto 4, 3) := by decide +kernel
theorem dX5_areEnough_17 : decode cX5_areEnough 17 = .ok (.iconst 0, 1) := by decide +kernel
theorem dX5_areEnough_18 : decode cX5_areEnough 18 = .ok (.ireturn, 1) := by decide +kernel
theorem dX5_holdersAfterLoss_0 : decode cX5_holdersAfterLoss 0 = .ok (.aload_n 0, 1) := by decide +kernel
theorem dX5_holdersAfterLoss_1 : decode cX5_holdersAfterLoss 1 = .ok (.getfield 24, 3) := by decide +kernel
theorem dX5_holdersAfterLoss_4 : decode cX5_holdersAfterLoss 4 = .ok (.aload_n 1, 1) := by decide +kernel
theorem dX5_holdersAfterLoss_5 : decode cX5_holdersAfterLoss 5 = .ok (.getfield 200, 3) := by decide +kernel
theorem dX5_holdersAfterLoss_8 : decode cX5_holdersAfterLoss 8 = .ok (.invokevirtual 417, 3) := by decide +kernel
theorem dX5_holdersAfterLoss_11 : decode cX5_holdersAfterLoss 11 = .ok (.aload_n 1, 1) := by decide +kernel
theorem dX5_holdersAfterLoss_12 : decode cX5_holdersAfterLoss 12 = .ok (.getfield 203, 3) := by decide +kernel
theorem dX5_holdersAfterLoss_15 : decode cX5_holdersAfterLoss 15 = .ok (.aload_n 0, 1) := by decide +kernel
theorem dX5_holdersAfterLoss_16 : decode cX5_holdersAfterLoss 16 = .ok (.getfield 24, 3) := by decide +kernel
theorem dX5_holdersAfterLoss_19 : decode cX5_holdersAfterLoss 19 = .ok (.aload_n 1, 1) := by decide +kernel
theorem dX5_holdersAfterLoss_20 : decode cX5_holdersAfterLoss 20 = .ok (.getfield 203, 3) := by decide +kernel
theorem dX5_holdersAfterLoss_23 : decode cX5_holdersAfterLoss 23 = .ok (.iload_n 2, 1) := by decide +kernel
theorem dX5_holdersAfterLoss_24 : decode cX5_holdersAfterLoss 24 = .ok (.invokevirtual 420, 3) := by decide +kernel
theorem dX5_holdersAfterLoss_27 : decode cX5_holdersAfterLoss 27 = .ok (.invokevirtual 423, 3) := by decide +kernel
theorem dX5_holdersAfterLoss_30 : decode cX5_holdersAfterLoss 30 = .ok (.aload_n 0, 1) := by decide +kernel
theorem dX5_holdersAfterLoss_31 : decode cX5_holdersAfterLoss 31 = .ok (.iload_n 3, 1) := by decide +kernel
theorem dX5_holdersAfterLoss_32 : decode cX5_holdersAfterLoss 32 = .ok (.invokevirtual 252, 3) := by decide +kernel
theorem dX5_holdersAfterLoss_35 : decode cX5_holdersAfterLoss 35 = .ok (.aload_n 0, 1) := by decide +kernel
theorem dX5_holdersAfterLoss_36 : decode cX5_holdersAfterLoss 36 = .ok (.aload_n 1, 1) := by decide +kernel
theorem dX5_holdersAfterLoss_37 : decode cX5_holdersAfterLoss 37 = .ok (.getfield 194, 3) := by decide +kernel
theorem dX5_holdersAfterLoss_40 : decode cX5_holdersAfterLoss 40 = .ok (.iload_n 3, 1) := by decide +kernel
theorem dX5_holdersAfterLoss_41 : decode cX5_holdersAfterLoss 41 = .ok (.invokevirtual 407, 3) := by decide +kernel
theorem dX5_holdersAfterLoss_44 : decode cX5_holdersAfterLoss 44 = .ok (.invokestatic 66, 3) := by decide +kernel
theorem dX5_holdersAfterLoss_47 : decode cX5_holdersAfterLoss 47 = .ok (.isub, 1) := by decide +kernel
theorem dX5_holdersAfterLoss_48 : decode cX5_holdersAfterLoss 48 = .ok (.aload_n 0, 1) := by decide +kernel
theorem dX5_holdersAfterLoss_49 : decode cX5_holdersAfterLoss 49 = .ok (.aload_n 0, 1) := by decide +kernel
theorem dX5_holdersAfterLoss_50 : decode cX5_holdersAfterLoss 50 = .ok (.getfield 24, 3) := by decide +kernel
theorem dX5_holdersAfterLoss_53 : decode cX5_holdersAfterLoss 53 = .ok (.iload_n 3, 1) := by decide +kernel
theorem dX5_holdersAfterLoss_54 : decode cX5_holdersAfterLoss 54 = .ok (.invokevirtual 407, 3) := by decide +kernel
theorem dX5_holdersAfterLoss_57 : decode cX5_holdersAfterLoss 57 = .ok (.invokestatic 66, 3) := by decide +kernel
theorem dX5_holdersAfterLoss_60 : decode cX5_holdersAfterLoss 60 = .ok (.iadd, 1) := by decide +kernel
theorem dX5_holdersAfterLoss_61 : decode cX5_holdersAfterLoss 61 = .ok (.ireturn, 1) := by decide +kernel
theorem dX5_mostHarmlessLosses_0 : decode cX5_mostHarmlessLosses 0 = .ok (.aload_n 0, 1) := by decide +kernel
theorem dX5_mostHarmlessLosses_1 : decode cX5_mostHarmlessLosses 1 = .ok (.aload_n 1, 1) := by decide +kernel
theorem dX5_mostHarmlessLosses_2 : decode cX5_mostHarmlessLosses 2 = .ok (.invokevirtual 427, 3) := by decide +kernel
theorem dX5_mostHarmlessLosses_5 : decode cX5_mostHarmlessLosses 5 = .ok (.istore_n 2, 1) := by decide +kernel
theorem dX5_mostHarmlessLosses_6 : decode cX5_mostHarmlessLosses 6 = .ok (.aload_n 1, 1) := by decide +kernel
theorem dX5_mostHarmlessLosses_7 : decode cX5_mostHarmlessLosses 7 = .ok (.getfield 203, 3) := by decide +kernel
theorem dX5_mostHarmlessLosses_10 : decode cX5_mostHarmlessLosses 10 = .ok (.astore_n 3, 1) := by decide +kernel
theorem dX5_mostHarmlessLosses_11 : decode cX5_mostHarmlessLosses 11 = .ok (.aload_n 0, 1) := by decide +kernel
theorem dX5_mostHarmlessLosses_12 : decode cX5_mostHarmlessLosses 12 = .ok (.getfield 24, 3) := by decide +kernel
theorem dX5_mostHarmlessLosses_15 : decode cX5_mostHarmlessLosses 15 = .ok (.aload_n 1, 1) := by decide +kernel
theorem dX5_mostHarmlessLosses_16 : decode cX5_mostHarmlessLosses 16 = .ok (.getfield 200, 3) := by decide +kernel
theorem dX5_mostHarmlessLosses_19 : decode cX5_mostHarmlessLosses 19 = .ok (.invokevirtual 417, 3) := by decide +kernel
theorem dX5_mostHarmlessLosses_22 : decode cX5_mostHarmlessLosses 22 = .ok (.iconst 0, 1) := by decide +kernel
theorem dX5_mostHarmlessLosses_23 : decode cX5_mostHarmlessLosses 23 = .ok (.istore 4, 2) := by decide +kernel
theorem dX5_mostHarmlessLosses_25 : decode cX5_mostHarmlessLosses 25 = .ok (.iload 4, 2) := by decide +kernel
theorem dX5_mostHarmlessLosses_27 : decode cX5_mostHarmlessLosses 27 = .ok (.aload_n 3, 1) := by decide +kernel
theorem dX5_mostHarmlessLosses_28 : decode cX5_mostHarmlessLosses 28 = .ok (.getfield 207, 3) := by decide +kernel
theorem dX5_mostHarmlessLosses_31 : decode cX5_mostHarmlessLosses 31 = .ok (.if_icmp .ge 57, 3) := by decide +kernel
theorem dX5_mostHarmlessLosses_34 : decode cX5_mostHarmlessLosses 34 = .ok (.aload_n 0, 1) := by decide +kernel
theorem dX5_mostHarmlessLosses_35 : decode cX5_mostHarmlessLosses 35 = .ok (.aload_n 0, 1) := by decide +kernel
theorem dX5_mostHarmlessLosses_36 : decode cX5_mostHarmlessLosses 36 = .ok (.getfield 24, 3) := by decide +kernel
theorem dX5_mostHarmlessLosses_39 : decode cX5_mostHarmlessLosses 39 = .ok (.iload_n 2, 1) := by decide +kernel
theorem dX5_mostHarmlessLosses_40 : decode cX5_mostHarmlessLosses 40 = .ok (.invokevirtual 430, 3) := by decide +kernel
theorem dX5_mostHarmlessLosses_43 : decode cX5_mostHarmlessLosses 43 = .ok (.ifCond .eq 11, 3) := by decide +kernel
theorem dX5_mostHarmlessLosses_46 : decode cX5_mostHarmlessLosses 46 = .ok (.aload_n 3, 1) := by decide +kernel
theorem dX5_mostHarmlessLosses_47 : decode cX5_mostHarmlessLosses 47 = .ok (.getfield 207, 3) := by decide +kernel
theorem dX5_mostHarmlessLosses_50 : decode cX5_mostHarmlessLosses 50 = .ok (.iload 4, 2) := by decide +kernel
theorem dX5_mostHarmlessLosses_52 : decode cX5_mostHarmlessLosses 52 = .ok (.isub, 1) := by decide +kernel
theorem dX5_mostHarmlessLosses_53 : decode cX5_mostHarmlessLosses 53 = .ok (.ireturn, 1) := by decide +kernel
theorem dX5_mostHarmlessLosses_54 : decode cX5_mostHarmlessLosses 54 = .ok (.aload_n 0, 1) := by decide +kernel
theorem dX5_mostHarmlessLosses_55 : decode cX5_mostHarmlessLosses 55 = .ok (.getfield 24, 3) := by decide +kernel
theorem dX5_mostHarmlessLosses_58 : decode cX5_mostHarmlessLosses 58 = .ok (.aload_n 3, 1) := by decide +kernel
theorem dX5_mostHarmlessLosses_59 : decode cX5_mostHarmlessLosses 59 = .ok (.getfield 236, 3) := by decide +kernel
theorem dX5_mostHarmlessLosses_62 : decode cX5_mostHarmlessLosses 62 = .ok (.iload 4, 2) := by decide +kernel
theorem dX5_mostHarmlessLosses_64 : decode cX5_mostHarmlessLosses 64 = .ok (.iaload, 1) := by decide +kernel
theorem dX5_mostHarmlessLosses_65 : decode cX5_mostHarmlessLosses 65 = .ok (.aload_n 3, 1) := by decide +kernel
theorem dX5_mostHarmlessLosses_66 : decode cX5_mostHarmlessLosses 66 = .ok (.getfield 239, 3) := by decide +kernel
theorem dX5_mostHarmlessLosses_69 : decode cX5_mostHarmlessLosses 69 = .ok (.iload 4, 2) := by decide +kernel
theorem dX5_mostHarmlessLosses_71 : decode cX5_mostHarmlessLosses 71 = .ok (.iaload, 1) := by decide +kernel
theorem dX5_mostHarmlessLosses_72 : decode cX5_mostHarmlessLosses 72 = .ok (.aload_n 3, 1) := by decide +kernel
theorem dX5_mostHarmlessLosses_73 : decode cX5_mostHarmlessLosses 73 = .ok (.getfield 240, 3) := by decide +kernel
theorem dX5_mostHarmlessLosses_76 : decode cX5_mostHarmlessLosses 76 = .ok (.iload 4, 2) := by decide +kernel
theorem dX5_mostHarmlessLosses_78 : decode cX5_mostHarmlessLosses 78 = .ok (.iaload, 1) := by decide +kernel
theorem dX5_mostHarmlessLosses_79 : decode cX5_mostHarmlessLosses 79 = .ok (.invokevirtual 433, 3) := by decide +kernel
theorem dX5_mostHarmlessLosses_82 : decode cX5_mostHarmlessLosses 82 = .ok (.iinc 4 1, 3) := by decide +kernel
theorem dX5_mostHarmlessLosses_85 : decode cX5_mostHarmlessLosses 85 = .ok (.goto (-60), 3) := by decide +kernel
theorem dX5_mostHarmlessLosses_88 : decode cX5_mostHarmlessLosses 88 = .ok (.iconst 0, 1) := by decide +kernel
theorem dX5_mostHarmlessLosses_89 : decode cX5_mostHarmlessLosses 89 = .ok (.ireturn, 1) := by decide +kernel
theorem dX5_slotsThatNeed_0 : decode cX5_slotsThatNeed 0 = .ok (.iconst 0, 1) := by decide +kernel
theorem dX5_slotsThatNeed_1 : decode cX5_slotsThatNeed 1 = .ok (.istore_n 2, 1) := by decide +kernel
theorem dX5_slotsThatNeed_2 : decode cX5_slotsThatNeed 2 = .ok (.iconst 0, 1) := by decide +kernel
theorem dX5_slotsThatNeed_3 : decode cX5_slotsThatNeed 3 = .ok (.istore_n 3, 1) := by decide +kernel
theorem dX5_slotsThatNeed_4 : decode cX5_slotsThatNeed 4 = .ok (.iload_n 3, 1) := by decide +kernel
theorem dX5_slotsThatNeed_5 : decode cX5_slotsThatNeed 5 = .ok (.aload_n 0, 1) := by decide +kernel
theorem dX5_slotsThatNeed_6 : decode cX5_slotsThatNeed 6 = .ok (.getfield 47, 3) := by decide +kernel
theorem dX5_slotsThatNeed_9 : decode cX5_slotsThatNeed 9 = .ok (.if_icmp .ge 54, 3) := by decide +kernel
theorem dX5_slotsThatNeed_12 : decode cX5_slotsThatNeed 12 = .ok (.aload_n 0, 1) := by decide +kernel
theorem dX5_slotsThatNeed_13 : decode cX5_slotsThatNeed 13 = .ok (.iload_n 3, 1) := by decide +kernel
theorem dX5_slotsThatNeed_14 : decode cX5_slotsThatNeed 14 = .ok (.invokevirtual 252, 3) := by decide +kernel
theorem dX5_slotsThatNeed_17 : decode cX5_slotsThatNeed 17 = .ok (.istore 4, 2) := by decide +kernel
theorem dX5_slotsThatNeed_19 : decode cX5_slotsThatNeed 19 = .ok (.aload_n 0, 1) := by decide +kernel
theorem dX5_slotsThatNeed_20 : decode cX5_slotsThatNeed 20 = .ok (.aload_n 1, 1) := by decide +kernel
theorem dX5_slotsThatNeed_21 : decode cX5_slotsThatNeed 21 = .ok (.getfield 194, 3) := by decide +kernel
theorem dX5_slotsThatNeed_24 : decode cX5_slotsThatNeed 24 = .ok (.iload_n 3, 1) := by decide +kernel
theorem dX5_slotsThatNeed_25 : decode cX5_slotsThatNeed 25 = .ok (.invokevirtual 407, 3) := by decide +kernel
theorem dX5_slotsThatNeed_28 : decode cX5_slotsThatNeed 28 = .ok (.ifCond .eq 29, 3) := by decide +kernel
theorem dX5_slotsThatNeed_31 : decode cX5_slotsThatNeed 31 = .ok (.aload_n 0, 1) := by decide +kernel
theorem dX5_slotsThatNeed_32 : decode cX5_slotsThatNeed 32 = .ok (.iload 4, 2) := by decide +kernel
theorem dX5_slotsThatNeed_34 : decode cX5_slotsThatNeed 34 = .ok (.invokevirtual 414, 3) := by decide +kernel
theorem dX5_slotsThatNeed_37 : decode cX5_slotsThatNeed 37 = .ok (.ifCond .eq 20, 3) := by decide +kernel
theorem dX5_slotsThatNeed_40 : decode cX5_slotsThatNeed 40 = .ok (.aload_n 0, 1) := by decide +kernel
theorem dX5_slotsThatNeed_41 : decode cX5_slotsThatNeed 41 = .ok (.iload 4, 2) := by decide +kernel
theorem dX5_slotsThatNeed_43 : decode cX5_slotsThatNeed 43 = .ok (.iconst 1, 1) := by decide +kernel
theorem dX5_slotsThatNeed_44 : decode cX5_slotsThatNeed 44 = .ok (.isub, 1) := by decide +kernel
theorem dX5_slotsThatNeed_45 : decode cX5_slotsThatNeed 45 = .ok (.invokevirtual 414, 3) := by decide +kernel
theorem dX5_slotsThatNeed_48 : decode cX5_slotsThatNeed 48 = .ok (.ifCond .ne 9, 3) := by decide +kernel
theorem dX5_slotsThatNeed_51 : decode cX5_slotsThatNeed 51 = .ok (.iload_n 2, 1) := by decide +kernel
theorem dX5_slotsThatNeed_52 : decode cX5_slotsThatNeed 52 = .ok (.iconst 1, 1) := by decide +kernel
theorem dX5_slotsThatNeed_53 : decode cX5_slotsThatNeed 53 = .ok (.iload_n 3, 1) := by decide +kernel
theorem dX5_slotsThatNeed_54 : decode cX5_slotsThatNeed 54 = .ok (.ishl, 1) := by decide +kernel
theorem dX5_slotsThatNeed_55 : decode cX5_slotsThatNeed 55 = .ok (.ior, 1) := by decide +kernel
theorem dX5_slotsThatNeed_56 : decode cX5_slotsThatNeed 56 = .ok (.istore_n 2, 1) := by decide +kernel
theorem dX5_slotsThatNeed_57 : decode cX5_slotsThatNeed 57 = .ok (.iinc 3 1, 3) := by decide +kernel
theorem dX5_slotsThatNeed_60 : decode cX5_slotsThatNeed 60 = .ok (.goto (-56), 3) := by decide +kernel
theorem dX5_slotsThatNeed_63 : decode cX5_slotsThatNeed 63 = .ok (.iload_n 2, 1) := by decide +kernel
theorem dX5_slotsThatNeed_64 : decode cX5_slotsThatNeed 64 = .ok (.ireturn, 1) := by decide +kernel
theorem dX5_holdsAll_0 : decode cX5_holdsAll 0 = .ok (.iconst 0, 1) := by decide +kernel
theorem dX5_holdsAll_1 : decode cX5_holdsAll 1 = .ok (.istore_n 3, 1) := by decide +kernel
theorem dX5_holdsAll_2 : decode cX5_holdsAll 2 = .ok (.iload_n 3, 1) := by decide +kernel
theorem dX5_holdsAll_3 : decode cX5_holdsAll 3 = .ok (.aload_n 0, 1) := by decide +kernel
theorem dX5_holdsAll_4 : decode cX5_holdsAll 4 = .ok (.getfield 47, 3) := by decide +kernel
theorem dX5_holdsAll_7 : decode cX5_holdsAll 7 = .ok (.if_icmp .ge 28, 3) := by decide +kernel
theorem dX5_holdsAll_10 : decode cX5_holdsAll 10 = .ok (.iload_n 2, 1) := by decide +kernel
theorem dX5_holdsAll_11 : decode cX5_holdsAll 11 = .ok (.iload_n 3, 1) := by decide +kernel
theorem dX5_holdsAll_12 : decode cX5_holdsAll 12 = .ok (.invokestatic 346, 3) := by decide +kernel
theorem dX5_holdsAll_15 : decode cX5_holdsAll 15 = .ok (.ifCond .eq 14, 3) := by decide +kernel
theorem dX5_holdsAll_18 : decode cX5_holdsAll 18 = .ok (.aload_n 0, 1) := by decide +kernel
theorem dX5_holdsAll_19 : decode cX5_holdsAll 19 = .ok (.aload_n 1, 1) := by decide +kernel
theorem dX5_holdsAll_20 : decode cX5_holdsAll 20 = .ok (.iload_n 3, 1) := by decide +kernel
theorem dX5_holdsAll_21 : decode cX5_holdsAll 21 = .ok (.invokevirtual 407, 3) := by decide +kernel
theorem dX5_holdsAll_24 : decode cX5_holdsAll 24 = .ok (.ifCond .ne 5, 3) := by decide +kernel
theorem dX5_holdsAll_27 : decode cX5_holdsAll 27 = .ok (.iconst 0, 1) := by decide +kernel
theorem dX5_holdsAll_28 : decode cX5_holdsAll 28 = .ok (.ireturn, 1) := by decide +kernel
theorem dX5_holdsAll_29 : decode cX5_holdsAll 29 = .ok (.iinc 3 1, 3) := by decide +kernel
theorem dX5_holdsAll_32 : decode cX5_holdsAll 32 = .ok (.goto (-30), 3) := by decide +kernel
theorem dX5_holdsAll_35 : decode cX5_holdsAll 35 = .ok (.iconst 1, 1) := by decide +kernel
theorem dX5_holdsAll_36 : decode cX5_holdsAll 36 = .ok (.ireturn, 1) := by decide +kernel
theorem dX5_fewestLosers_0 : decode cX5_fewestLosers 0 = .ok (.iconst 0, 1) := by decide +kernel
theorem dX5_fewestLosers_1 : decode cX5_fewestLosers 1 = .ok (.istore_n 2, 1) := by decide +kernel
theorem dX5_fewestLosers_2 : decode cX5_fewestLosers 2 = .ok (.iconst 0, 1) := by decide +kernel
theorem dX5_fewestLosers_3 : decode cX5_fewestLosers 3 = .ok (.istore_n 3, 1) := by decide +kernel
theorem dX5_fewestLosers_4 : decode cX5_fewestLosers 4 = .ok (.iload_n 3, 1) := by decide +kernel
theorem dX5_fewestLosers_5 : decode cX5_fewestLosers 5 = .ok (.aload_n 0, 1) := by decide +kernel
theorem dX5_fewestLosers_6 : decode cX5_fewestLosers 6 = .ok (.getfield 43, 3) := by decide +kernel
theorem dX5_fewestLosers_9 : decode cX5_fewestLosers 9 = .ok (.if_icmp .ge 54, 3) := by decide +kernel
theorem dX5_fewestLosers_12 : decode cX5_fewestLosers 12 = .ok (.iload_n 2, 1) := by decide +kernel
theorem dX5_fewestLosers_13 : decode cX5_fewestLosers 13 = .ok (.aload_n 0, 1) := by decide +kernel
theorem dX5_fewestLosers_14 : decode cX5_fewestLosers 14 = .ok (.aload_n 0, 1) := by decide +kernel
theorem dX5_fewestLosers_15 : decode cX5_fewestLosers 15 = .ok (.getfield 11, 3) := by decide +kernel
theorem dX5_fewestLosers_18 : decode cX5_fewestLosers 18 = .ok (.iload_n 3, 1) := by decide +kernel
theorem dX5_fewestLosers_19 : decode cX5_fewestLosers 19 = .ok (.aaload, 1) := by decide +kernel
theorem dX5_fewestLosers_20 : decode cX5_fewestLosers 20 = .ok (.getfield 194, 3) := by decide +kernel
theorem dX5_fewestLosers_23 : decode cX5_fewestLosers 23 = .ok (.iload_n 1, 1) := by decide +kernel
theorem dX5_fewestLosers_24 : decode cX5_fewestLosers 24 = .ok (.invokevirtual 407, 3) := by decide +kernel
theorem dX5_fewestLosers_27 : decode cX5_fewestLosers 27 = .ok (.ifCond .eq 24, 3) := by decide +kernel
theorem dX5_fewestLosers_30 : decode cX5_fewestLosers 30 = .ok (.aload_n 0, 1) := by decide +kernel
theorem dX5_fewestLosers_31 : decode cX5_fewestLosers 31 = .ok (.aload_n 0, 1) := by decide +kernel
theorem dX5_fewestLosers_32 : decode cX5_fewestLosers 32 = .ok (.getfield 11, 3) := by decide +kernel
theorem dX5_fewestLosers_35 : decode cX5_fewestLosers 35 = .ok (.iload_n 3, 1) := by decide +kernel
theorem dX5_fewestLosers_36 : decode cX5_fewestLosers 36 = .ok (.aaload, 1) := by decide +kernel
theorem dX5_fewestLosers_37 : decode cX5_fewestLosers 37 = .ok (.getfield 200, 3) := by decide +kernel
theorem dX5_fewestLosers_40 : decode cX5_fewestLosers 40 = .ok (.iload_n 1, 1) := by decide +kernel
theorem dX5_fewestLosers_41 : decode cX5_fewestLosers 41 = .ok (.invokevirtual 407, 3) := by decide +kernel
theorem dX5_fewestLosers_44 : decode cX5_fewestLosers 44 = .ok (.ifCond .ne 7, 3) := by decide +kernel
theorem dX5_fewestLosers_47 : decode cX5_fewestLosers 47 = .ok (.iconst 1, 1) := by decide +kernel
theorem dX5_fewestLosers_48 : decode cX5_fewestLosers 48 = .ok (.goto 4, 3) := by decide +kernel
theorem dX5_fewestLosers_51 : decode cX5_fewestLosers 51 = .ok (.iconst 0, 1) := by decide +kernel
theorem dX5_fewestLosers_52 : decode cX5_fewestLosers 52 = .ok (.invokestatic 66, 3) := by decide +kernel
theorem dX5_fewestLosers_55 : decode cX5_fewestLosers 55 = .ok (.iadd, 1) := by decide +kernel
theorem dX5_fewestLosers_56 : decode cX5_fewestLosers 56 = .ok (.istore_n 2, 1) := by decide +kernel
theorem dX5_fewestLosers_57 : decode cX5_fewestLosers 57 = .ok (.iinc 3 1, 3) := by decide +kernel
theorem dX5_fewestLosers_60 : decode cX5_fewestLosers 60 = .ok (.goto (-56), 3) := by decide +kernel
theorem dX5_fewestLosers_63 : decode cX5_fewestLosers 63 = .ok (.aload_n 0, 1) := by decide +kernel
theorem dX5_fewestLosers_64 : decode cX5_fewestLosers 64 = .ok (.iload_n 1, 1) := by decide +kernel
theorem dX5_fewestLosers_65 : decode cX5_fewestLosers 65 = .ok (.invokevirtual 252, 3) := by decide +kernel
theorem dX5_fewestLosers_68 : decode cX5_fewestLosers 68 = .ok (.istore_n 3, 1) := by decide +kernel
theorem dX5_fewestLosers_69 : decode cX5_fewestLosers 69 = .ok (.iconst 0, 1) := by decide +kernel
theorem dX5_fewestLosers_70 : decode cX5_fewestLosers 70 = .ok (.istore 4, 2) := by decide +kernel
theorem dX5_fewestLosers_72 : decode cX5_fewestLosers 72 = .ok (.iload 4, 2) := by decide +kernel
theorem dX5_fewestLosers_74 : decode cX5_fewestLosers 74 = .ok (.iload_n 2, 1) := by decide +kernel
theorem dX5_fewestLosers_75 : decode cX5_fewestLosers 75 = .ok (.if_icmp .gt 23, 3) := by decide +kernel
theorem dX5_fewestLosers_78 : decode cX5_fewestLosers 78 = .ok (.aload_n 0, 1) := by decide +kernel
theorem dX5_fewestLosers_79 : decode cX5_fewestLosers 79 = .ok (.iload_n 3, 1) := by decide +kernel
theorem dX5_fewestLosers_80 : decode cX5_fewestLosers 80 = .ok (.iload 4, 2) := by decide +kernel
theorem dX5_fewestLosers_82 : decode cX5_fewestLosers 82 = .ok (.isub, 1) := by decide +kernel
theorem dX5_fewestLosers_83 : decode cX5_fewestLosers 83 = .ok (.invokevirtual 414, 3) := by decide +kernel
theorem dX5_fewestLosers_86 : decode cX5_fewestLosers 86 = .ok (.ifCond .ne 6, 3) := by decide +kernel
theorem dX5_fewestLosers_89 : decode cX5_fewestLosers 89 = .ok (.iload 4, 2) := by decide +kernel
theorem dX5_fewestLosers_91 : decode cX5_fewestLosers 91 = .ok (.ireturn, 1) := by decide +kernel
theorem dX5_fewestLosers_92 : decode cX5_fewestLosers 92 = .ok (.iinc 4 1, 3) := by decide +kernel
theorem dX5_fewestLosers_95 : decode cX5_fewestLosers 95 = .ok (.goto (-23), 3) := by decide +kernel
theorem dX5_fewestLosers_98 : decode cX5_fewestLosers 98 = .ok (.iconst (-1), 1) := by decide +kernel
theorem dX5_fewestLosers_99 : decode cX5_fewestLosers 99 = .ok (.ireturn, 1) := by decide +kernel
theorem dX5_shareAnswered_0 : decode cX5_shareAnswered 0 = .ok (.aload_n 0, 1) := by decide +kernel
theorem dX5_shareAnswered_1 : decode cX5_shareAnswered 1 = .ok (.getfield 171, 3) := by decide +kernel
theorem dX5_shareAnswered_4 : decode cX5_shareAnswered 4 = .ok (.ifCond .gt 5, 3) := by decide +kernel
theorem dX5_shareAnswered_7 : decode cX5_shareAnswered 7 = .ok (.fconst 1, 1) := by decide +kernel
theorem dX5_shareAnswered_8 : decode cX5_shareAnswered 8 = .ok (.freturn, 1) := by decide +kernel
theorem dX5_shareAnswered_9 : decode cX5_shareAnswered 9 = .ok (.aload_n 0, 1) := by decide +kernel
theorem dX5_shareAnswered_10 : decode cX5_shareAnswered 10 = .ok (.getfield 174, 3) := by decide +kernel
theorem dX5_shareAnswered_13 : decode cX5_shareAnswered 13 = .ok (.i2f, 1) := by decide +kernel
theorem dX5_shareAnswered_14 : decode cX5_shareAnswered 14 = .ok (.aload_n 0, 1) := by decide +kernel
theorem dX5_shareAnswered_15 : decode cX5_shareAnswered 15 = .ok (.getfield 171, 3) := by decide +kernel
theorem dX5_shareAnswered_18 : decode cX5_shareAnswered 18 = .ok (.i2f, 1) := by decide +kernel
theorem dX5_shareAnswered_19 : decode cX5_shareAnswered 19 = .ok (.fdiv, 1) := by decide +kernel
theorem dX5_shareAnswered_20 : decode cX5_shareAnswered 20 = .ok (.freturn, 1) := by decide +kernel
theorem dX5_hashOfNode_0 : decode cX5_hashOfNode 0 = .ok (.lload_n 1, 1) := by decide +kernel
theorem dX5_hashOfNode_1 : decode cX5_hashOfNode 1 = .ok (.lstore 4, 2) := by decide +kernel
theorem dX5_hashOfNode_3 : decode cX5_hashOfNode 3 = .ok (.iconst 0, 1) := by decide +kernel
theorem dX5_hashOfNode_4 : decode cX5_hashOfNode 4 = .ok (.istore 6, 2) := by decide +kernel
theorem dX5_hashOfNode_6 : decode cX5_hashOfNode 6 = .ok (.iload 6, 2) := by decide +kernel
theorem dX5_hashOfNode_8 : decode cX5_hashOfNode 8 = .ok (.bipush 9, 2) := by decide +kernel
theorem dX5_hashOfNode_10 : decode cX5_hashOfNode 10 = .ok (.if_icmp .ge 26, 3) := by decide +kernel
theorem dX5_hashOfNode_13 : decode cX5_hashOfNode 13 = .ok (.ldc2_w 297, 3) := by decide +kernel
theorem dX5_hashOfNode_16 : decode cX5_hashOfNode 16 = .ok (.lload 4, 2) := by decide +kernel
theorem dX5_hashOfNode_18 : decode cX5_hashOfNode 18 = .ok (.lmul, 1) := by decide +kernel
theorem dX5_hashOfNode_19 : decode cX5_hashOfNode 19 = .ok (.aload_n 0, 1) := by decide +kernel
theorem dX5_hashOfNode_20 : decode cX5_hashOfNode 20 = .ok (.iload_n 3, 1) := by decide +kernel
theorem dX5_hashOfNode_21 : decode cX5_hashOfNode 21 = .ok (.iload 6, 2) := by decide +kernel
theorem dX5_hashOfNode_23 : decode cX5_hashOfNode 23 = .ok (.invokevirtual 436, 3) := by decide +kernel
theorem dX5_hashOfNode_26 : decode cX5_hashOfNode 26 = .ok (.i2l, 1) := by decide +kernel
theorem dX5_hashOfNode_27 : decode cX5_hashOfNode 27 = .ok (.ladd, 1) := by decide +kernel
theorem dX5_hashOfNode_28 : decode cX5_hashOfNode 28 = .ok (.lstore 4, 2) := by decide +kernel
theorem dX5_hashOfNode_30 : decode cX5_hashOfNode 30 = .ok (.iinc 6 1, 3) := by decide +kernel
theorem dX5_hashOfNode_33 : decode cX5_hashOfNode 33 = .ok (.goto (-27), 3) := by decide +kernel
theorem dX5_hashOfNode_36 : decode cX5_hashOfNode 36 = .ok (.ldc2_w 297, 3) := by decide +kernel
theorem dX5_hashOfNode_39 : decode cX5_hashOfNode 39 = .ok (.lload 4, 2) := by decide +kernel
theorem dX5_hashOfNode_41 : decode cX5_hashOfNode 41 = .ok (.lmul, 1) := by decide +kernel
theorem dX5_hashOfNode_42 : decode cX5_hashOfNode 42 = .ok (.aload_n 0, 1) := by decide +kernel
theorem dX5_hashOfNode_43 : decode cX5_hashOfNode 43 = .ok (.aload_n 0, 1) := by decide +kernel
theorem dX5_hashOfNode_44 : decode cX5_hashOfNode 44 = .ok (.getfield 11, 3) := by decide +kernel
theorem dX5_hashOfNode_47 : decode cX5_hashOfNode 47 = .ok (.iload_n 3, 1) := by decide +kernel
theorem dX5_hashOfNode_48 : decode cX5_hashOfNode 48 = .ok (.aaload, 1) := by decide +kernel
theorem dX5_hashOfNode_49 : decode cX5_hashOfNode 49 = .ok (.invokevirtual 275, 3) := by decide +kernel
theorem dX5_hashOfNode_52 : decode cX5_hashOfNode 52 = .ok (.i2l, 1) := by decide +kernel
theorem dX5_hashOfNode_53 : decode cX5_hashOfNode 53 = .ok (.ladd, 1) := by decide +kernel
theorem dX5_hashOfNode_54 : decode cX5_hashOfNode 54 = .ok (.lstore 4, 2) := by decide +kernel
theorem dX5_hashOfNode_56 : decode cX5_hashOfNode 56 = .ok (.iconst 0, 1) := by decide +kernel
theorem dX5_hashOfNode_57 : decode cX5_hashOfNode 57 = .ok (.istore 6, 2) := by decide +kernel
theorem dX5_hashOfNode_59 : decode cX5_hashOfNode 59 = .ok (.iload 6, 2) := by decide +kernel
theorem dX5_hashOfNode_61 : decode cX5_hashOfNode 61 = .ok (.aload_n 0, 1) := by decide +kernel
theorem dX5_hashOfNode_62 : decode cX5_hashOfNode 62 = .ok (.getfield 47, 3) := by decide +kernel
theorem dX5_hashOfNode_65 : decode cX5_hashOfNode 65 = .ok (.if_icmp .ge 43, 3) := by decide +kernel
theorem dX5_hashOfNode_68 : decode cX5_hashOfNode 68 = .ok (.iconst 0, 1) := by decide +kernel
theorem dX5_hashOfNode_69 : decode cX5_hashOfNode 69 = .ok (.istore 7, 2) := by decide +kernel
theorem dX5_hashOfNode_71 : decode cX5_hashOfNode 71 = .ok (.iload 7, 2) := by decide +kernel
theorem dX5_hashOfNode_73 : decode cX5_hashOfNode 73 = .ok (.iconst 4, 1) := by decide +kernel
theorem dX5_hashOfNode_74 : decode cX5_hashOfNode 74 = .ok (.if_icmp .ge 28, 3) := by decide +kernel
theorem dX5_hashOfNode_77 : decode cX5_hashOfNode 77 = .ok (.ldc2_w 297, 3) := by decide +kernel
theorem dX5_hashOfNode_80 : decode cX5_hashOfNode 80 = .ok (.lload 4, 2) := by decide +kernel
theorem dX5_hashOfNode_82 : decode cX5_hashOfNode 82 = .ok (.lmul, 1) := by decide +kernel
theorem dX5_hashOfNode_83 : decode cX5_hashOfNode 83 = .ok (.aload_n 0, 1) := by decide +kernel
theorem dX5_hashOfNode_84 : decode cX5_hashOfNode 84 = .ok (.iload_n 3, 1) := by decide +kernel
theorem dX5_hashOfNode_85 : decode cX5_hashOfNode 85 = .ok (.iload 6, 2) := by decide +kernel
theorem dX5_hashOfNode_87 : decode cX5_hashOfNode 87 = .ok (.iload 7, 2) := by decide +kernel
theorem dX5_hashOfNode_89 : decode cX5_hashOfNode 89 = .ok (.invokevirtual 438, 3) := by decide +kernel
theorem dX5_hashOfNode_92 : decode cX5_hashOfNode 92 = .ok (.i2l, 1) := by decide +kernel
theorem dX5_hashOfNode_93 : decode cX5_hashOfNode 93 = .ok (.ladd, 1) := by decide +kernel
theorem dX5_hashOfNode_94 : decode cX5_hashOfNode 94 = .ok (.lstore 4, 2) := by decide +kernel
theorem dX5_hashOfNode_96 : decode cX5_hashOfNode 96 = .ok (.iinc 7 1, 3) := by decide +kernel
theorem dX5_hashOfNode_99 : decode cX5_hashOfNode 99 = .ok (.goto (-28), 3) := by decide +kernel
theorem dX5_hashOfNode_102 : decode cX5_hashOfNode 102 = .ok (.iinc 6 1, 3) := by decide +kernel
theorem dX5_hashOfNode_105 : decode cX5_hashOfNode 105 = .ok (.goto (-46), 3) := by decide +kernel
theorem dX5_hashOfNode_108 : decode cX5_hashOfNode 108 = .ok (.iconst 0, 1) := by decide +kernel
theorem dX5_hashOfNode_109 : decode cX5_hashOfNode 109 = .ok (.istore 6, 2) := by decide +kernel
theorem dX5_hashOfNode_111 : decode cX5_hashOfNode 111 = .ok (.iload 6, 2) := by decide +kernel
theorem dX5_hashOfNode_113 : decode cX5_hashOfNode 113 = .ok (.aload_n 0, 1) := by decide +kernel
theorem dX5_hashOfNode_114 : decode cX5_hashOfNode 114 = .ok (.getfield 11, 3) := by decide +kernel
theorem dX5_hashOfNode_117 : decode cX5_hashOfNode 117 = .ok (.iload_n 3, 1) := by decide +kernel
theorem dX5_hashOfNode_118 : decode cX5_hashOfNode 118 = .ok (.aaload, 1) := by decide +kernel
theorem dX5_hashOfNode_119 : decode cX5_hashOfNode 119 = .ok (.getfield 203, 3) := by decide +kernel
theorem dX5_hashOfNode_122 : decode cX5_hashOfNode 122 = .ok (.getfield 207, 3) := by decide +kernel
theorem dX5_hashOfNode_125 : decode cX5_hashOfNode 125 = .ok (.if_icmp .ge 43, 3) := by decide +kernel
theorem dX5_hashOfNode_128 : decode cX5_hashOfNode 128 = .ok (.iconst 0, 1) := by decide +kernel
theorem dX5_hashOfNode_129 : decode cX5_hashOfNode 129 = .ok (.istore 7, 2) := by decide +kernel
theorem dX5_hashOfNode_131 : decode cX5_hashOfNode 131 = .ok (.iload 7, 2) := by decide +kernel
theorem dX5_hashOfNode_133 : decode cX5_hashOfNode 133 = .ok (.iconst 3, 1) := by decide +kernel
theorem dX5_hashOfNode_134 : decode cX5_hashOfNode 134 = .ok (.if_icmp .ge 28, 3) := by decide +kernel
theorem dX5_hashOfNode_137 : decode cX5_hashOfNode 137 = .ok (.ldc2_w 297, 3) := by decide +kernel
theorem dX5_hashOfNode_140 : decode cX5_hashOfNode 140 = .ok (.lload 4, 2) := by decide +kernel
theorem dX5_hashOfNode_142 : decode cX5_hashOfNode 142 = .ok (.lmul, 1) := by decide +kernel
theorem dX5_hashOfNode_143 : decode cX5_hashOfNode 143 = .ok (.aload_n 0, 1) := by decide +kernel
theorem dX5_hashOfNode_144 : decode cX5_hashOfNode 144 = .ok (.iload_n 3, 1) := by decide +kernel
theorem dX5_hashOfNode_145 : decode cX5_hashOfNode 145 = .ok (.iload 6, 2) := by decide +kernel
theorem dX5_hashOfNode_147 : decode cX5_hashOfNode 147 = .ok (.iload 7, 2) := by decide +kernel
theorem dX5_hashOfNode_149 : decode cX5_hashOfNode 149 = .ok (.invokevirtual 442, 3) := by decide +kernel
theorem dX5_hashOfNode_152 : decode cX5_hashOfNode 152 = .ok (.i2l, 1) := by decide +kernel
theorem dX5_hashOfNode_153 : decode cX5_hashOfNode 153 = .ok (.ladd, 1) := by decide +kernel
theorem dX5_hashOfNode_154 : decode cX5_hashOfNode 154 = .ok (.lstore 4, 2) := by decide +kernel
theorem dX5_hashOfNode_156 : decode cX5_hashOfNode 156 = .ok (.iinc 7 1, 3) := by decide +kernel
theorem dX5_hashOfNode_159 : decode cX5_hashOfNode 159 = .ok (.goto (-28), 3) := by decide +kernel
theorem dX5_hashOfNode_162 : decode cX5_hashOfNode 162 = .ok (.iinc 6 1, 3) := by decide +kernel
theorem dX5_hashOfNode_165 : decode cX5_hashOfNode 165 = .ok (.goto (-54), 3) := by decide +kernel
theorem dX5_hashOfNode_168 : decode cX5_hashOfNode 168 = .ok (.aload_n 0, 1) := by decide +kernel
theorem dX5_hashOfNode_169 : decode cX5_hashOfNode 169 = .ok (.getfield 11, 3) := by decide +kernel
theorem dX5_hashOfNode_172 : decode cX5_hashOfNode 172 = .ok (.iload_n 3, 1) := by decide +kernel
theorem dX5_hashOfNode_173 : decode cX5_hashOfNode 173 = .ok (.aaload, 1) := by decide +kernel
theorem dX5_hashOfNode_174 : decode cX5_hashOfNode 174 = .ok (.invokevirtual 339, 3) := by decide +kernel
theorem dX5_hashOfNode_177 : decode cX5_hashOfNode 177 = .ok (.ifCond .eq 38, 3) := by decide +kernel
theorem dX5_hashOfNode_180 : decode cX5_hashOfNode 180 = .ok (.iconst 0, 1) := by decide +kernel
theorem dX5_hashOfNode_181 : decode cX5_hashOfNode 181 = .ok (.istore 6, 2) := by decide +kernel
theorem dX5_hashOfNode_183 : decode cX5_hashOfNode 183 = .ok (.iload 6, 2) := by decide +kernel
theorem dX5_hashOfNode_185 : decode cX5_hashOfNode 185 = .ok (.aload_n 0, 1) := by decide +kernel
theorem dX5_hashOfNode_186 : decode cX5_hashOfNode 186 = .ok (.getfield 47, 3) := by decide +kernel
theorem dX5_hashOfNode_189 : decode cX5_hashOfNode 189 = .ok (.if_icmp .ge 26, 3) := by decide +kernel
theorem dX5_hashOfNode_192 : decode cX5_hashOfNode 192 = .ok (.ldc2_w 297, 3) := by decide +kernel
theorem dX5_hashOfNode_195 : decode cX5_hashOfNode 195 = .ok (.lload 4, 2) := by decide +kernel
theorem dX5_hashOfNode_197 : decode cX5_hashOfNode 197 = .ok (.lmul, 1) := by decide +kernel
theorem dX5_hashOfNode_198 : decode cX5_hashOfNode 198 = .ok (.aload_n 0, 1) := by decide +kernel
theorem dX5_hashOfNode_199 : decode cX5_hashOfNode 199 = .ok (.iload_n 3, 1) := by decide +kernel
theorem dX5_hashOfNode_200 : decode cX5_hashOfNode 200 = .ok (.iload 6, 2) := by decide +kernel
theorem dX5_hashOfNode_202 : decode cX5_hashOfNode 202 = .ok (.invokevirtual 445, 3) := by decide +kernel
theorem dX5_hashOfNode_205 : decode cX5_hashOfNode 205 = .ok (.i2l, 1) := by decide +kernel
theorem dX5_hashOfNode_206 : decode cX5_hashOfNode 206 = .ok (.ladd, 1) := by decide +kernel
theorem dX5_hashOfNode_207 : decode cX5_hashOfNode 207 = .ok (.lstore 4, 2) := by decide +kernel
theorem dX5_hashOfNode_209 : decode cX5_hashOfNode 209 = .ok (.iinc 6 1, 3) := by decide +kernel
theorem dX5_hashOfNode_212 : decode cX5_hashOfNode 212 = .ok (.goto (-29), 3) := by decide +kernel
theorem dX5_hashOfNode_215 : decode cX5_hashOfNode 215 = .ok (.lload 4, 2) := by decide +kernel
theorem dX5_hashOfNode_217 : decode cX5_hashOfNode 217 = .ok (.lreturn, 1) := by decide +kernel
theorem dX5_bitsOfFloat_0 : decode cX5_bitsOfFloat 0 = .ok (.fload_n 0, 1) := by decide +kernel
theorem dX5_bitsOfFloat_1 : decode cX5_bitsOfFloat 1 = .ok (.fconst 0, 1) := by decide +kernel
theorem dX5_bitsOfFloat_2 : decode cX5_bitsOfFloat 2 = .ok (.fcmp .l, 1) := by decide +kernel
theorem dX5_bitsOfFloat_3 : decode cX5_bitsOfFloat 3 = .ok (.ifCond .gt 5, 3) := by decide +kernel
theorem dX5_bitsOfFloat_6 : decode cX5_bitsOfFloat 6 = .ok (.iconst 0, 1) := by decide +kernel
theorem dX5_bitsOfFloat_7 : decode cX5_bitsOfFloat 7 = .ok (.ireturn, 1) := by decide +kernel
theorem dX5_bitsOfFloat_8 : decode cX5_bitsOfFloat 8 = .ok (.fload_n 0, 1) := by decide +kernel
theorem dX5_bitsOfFloat_9 : decode cX5_bitsOfFloat 9 = .ok (.fstore_n 1, 1) := by decide +kernel
theorem dX5_bitsOfFloat_10 : decode cX5_bitsOfFloat 10 = .ok (.bipush 127, 2) := by decide +kernel
theorem dX5_bitsOfFloat_12 : decode cX5_bitsOfFloat 12 = .ok (.istore_n 2, 1) := by decide +kernel
theorem dX5_bitsOfFloat_13 : decode cX5_bitsOfFloat 13 = .ok (.fload_n 1, 1) := by decide +kernel
theorem dX5_bitsOfFloat_14 : decode cX5_bitsOfFloat 14 = .ok (.fconst 1, 1) := by decide +kernel
theorem dX5_bitsOfFloat_15 : decode cX5_bitsOfFloat 15 = .ok (.fcmp .g, 1) := by decide +kernel
theorem dX5_bitsOfFloat_16 : decode cX5_bitsOfFloat 16 = .ok (.ifCond .ge 18, 3) := by decide +kernel
theorem dX5_bitsOfFloat_19 : decode cX5_bitsOfFloat 19 = .ok (.iload_n 2, 1) := by decide +kernel
theorem dX5_bitsOfFloat_20 : decode cX5_bitsOfFloat 20 = .ok (.iconst 1, 1) := by decide +kernel
theorem dX5_bitsOfFloat_21 : decode cX5_bitsOfFloat 21 = .ok (.if_icmp .le 13, 3) := by decide +kernel
theorem dX5_bitsOfFloat_24 : decode cX5_bitsOfFloat 24 = .ok (.fload_n 1, 1) := by decide +kernel
theorem dX5_bitsOfFloat_25 : decode cX5_bitsOfFloat 25 = .ok (.fconst 2, 1) := by decide +kernel
theorem dX5_bitsOfFloat_26 : decode cX5_bitsOfFloat 26 = .ok (.fmul, 1) := by decide +kernel
theorem dX5_bitsOfFloat_27 : decode cX5_bitsOfFloat 27 = .ok (.fstore_n 1, 1) := by decide +kernel
theorem dX5_bitsOfFloat_28 : decode cX5_bitsOfFloat 28 = .ok (.iinc 2 (-1), 3) := by decide +kernel
theorem dX5_bitsOfFloat_31 : decode cX5_bitsOfFloat 31 = .ok (.goto (-18), 3) := by decide +kernel
theorem dX5_bitsOfFloat_34 : decode cX5_bitsOfFloat 34 = .ok (.iload_n 2, 1) := by decide +kernel
theorem dX5_bitsOfFloat_35 : decode cX5_bitsOfFloat 35 = .ok (.bipush 23, 2) := by decide +kernel
theorem dX5_bitsOfFloat_37 : decode cX5_bitsOfFloat 37 = .ok (.ishl, 1) := by decide +kernel
theorem dX5_bitsOfFloat_38 : decode cX5_bitsOfFloat 38 = .ok (.fload_n 1, 1) := by decide +kernel
theorem dX5_bitsOfFloat_39 : decode cX5_bitsOfFloat 39 = .ok (.fconst 1, 1) := by decide +kernel
theorem dX5_bitsOfFloat_40 : decode cX5_bitsOfFloat 40 = .ok (.fsub, 1) := by decide +kernel
theorem dX5_bitsOfFloat_41 : decode cX5_bitsOfFloat 41 = .ok (.ldc_w 448, 3) := by decide +kernel
theorem dX5_bitsOfFloat_44 : decode cX5_bitsOfFloat 44 = .ok (.fmul, 1) := by decide +kernel
theorem dX5_bitsOfFloat_45 : decode cX5_bitsOfFloat 45 = .ok (.f2i, 1) := by decide +kernel
theorem dX5_bitsOfFloat_46 : decode cX5_bitsOfFloat 46 = .ok (.iadd, 1) := by decide +kernel
theorem dX5_bitsOfFloat_47 : decode cX5_bitsOfFloat 47 = .ok (.ireturn, 1) := by decide +kernel
theorem dX5_bitsOfDouble_0 : decode cX5_bitsOfDouble 0 = .ok (.dload_n 0, 1) := by decide +kernel
theorem dX5_bitsOfDouble_1 : decode cX5_bitsOfDouble 1 = .ok (.dconst 0, 1) := by decide +kernel
theorem dX5_bitsOfDouble_2 : decode cX5_bitsOfDouble 2 = .ok (.dcmp .l, 1) := by decide +kernel
theorem dX5_bitsOfDouble_3 : decode cX5_bitsOfDouble 3 = .ok (.ifCond .gt 5, 3) := by decide +kernel
theorem dX5_bitsOfDouble_6 : decode cX5_bitsOfDouble 6 = .ok (.lconst 0, 1) := by decide +kernel
theorem dX5_bitsOfDouble_7 : decode cX5_bitsOfDouble 7 = .ok (.lreturn, 1) := by decide +kernel
theorem dX5_bitsOfDouble_8 : decode cX5_bitsOfDouble 8 = .ok (.dload_n 0, 1) := by decide +kernel
theorem dX5_bitsOfDouble_9 : decode cX5_bitsOfDouble 9 = .ok (.dstore_n 2, 1) := by decide +kernel
theorem dX5_bitsOfDouble_10 : decode cX5_bitsOfDouble 10 = .ok (.ldc2_w 449, 3) := by decide +kernel
theorem dX5_bitsOfDouble_13 : decode cX5_bitsOfDouble 13 = .ok (.lstore 4, 2) := by decide +kernel
theorem dX5_bitsOfDouble_15 : decode cX5_bitsOfDouble 15 = .ok (.dload_n 2, 1) := by decide +kernel
theorem dX5_bitsOfDouble_16 : decode cX5_bitsOfDouble 16 = .ok (.dconst 1, 1) := by decide +kernel
theorem dX5_bitsOfDouble_17 : decode cX5_bitsOfDouble 17 = .ok (.dcmp .g, 1) := by decide +kernel
theorem dX5_bitsOfDouble_18 : decode cX5_bitsOfDouble 18 = .ok (.ifCond .ge 25, 3) := by decide +kernel
theorem dX5_bitsOfDouble_21 : decode cX5_bitsOfDouble 21 = .ok (.lload 4, 2) := by decide +kernel
theorem dX5_bitsOfDouble_23 : decode cX5_bitsOfDouble 23 = .ok (.lconst 1, 1) := by decide +kernel
theorem dX5_bitsOfDouble_24 : decode cX5_bitsOfDouble 24 = .ok (.lcmp, 1) := by decide +kernel
theorem dX5_bitsOfDouble_25 : decode cX5_bitsOfDouble 25 = .ok (.ifCond .le 18, 3) := by decide +kernel
theorem dX5_bitsOfDouble_28 : decode cX5_bitsOfDouble 28 = .ok (.dload_n 2, 1) := by decide +kernel
theorem dX5_bitsOfDouble_29 : decode cX5_bitsOfDouble 29 = .ok (.ldc2_w 451, 3) := by decide +kernel
theorem dX5_bitsOfDouble_32 : decode cX5_bitsOfDouble 32 = .ok (.dmul, 1) := by decide +kernel
theorem dX5_bitsOfDouble_33 : decode cX5_bitsOfDouble 33 = .ok (.dstore_n 2, 1) := by decide +kernel
theorem dX5_bitsOfDouble_34 : decode cX5_bitsOfDouble 34 = .ok (.lload 4, 2) := by decide +kernel
theorem dX5_bitsOfDouble_36 : decode cX5_bitsOfDouble 36 = .ok (.lconst 1, 1) := by decide +kernel
theorem dX5_bitsOfDouble_37 : decode cX5_bitsOfDouble 37 = .ok (.lsub, 1) := by decide +kernel
theorem dX5_bitsOfDouble_38 : decode cX5_bitsOfDouble 38 = .ok (.lstore 4, 2) := by decide +kernel
theorem dX5_bitsOfDouble_40 : decode cX5_bitsOfDouble 40 = .ok (.goto (-25), 3) := by decide +kernel
theorem dX5_bitsOfDouble_43 : decode cX5_bitsOfDouble 43 = .ok (.lload 4, 2) := by decide +kernel
theorem dX5_bitsOfDouble_45 : decode cX5_bitsOfDouble 45 = .ok (.bipush 52, 2) := by decide +kernel
theorem dX5_bitsOfDouble_47 : decode cX5_bitsOfDouble 47 = .ok (.lshl, 1) := by decide +kernel
theorem dX5_bitsOfDouble_48 : decode cX5_bitsOfDouble 48 = .ok (.dload_n 2, 1) := by decide +kernel
theorem dX5_bitsOfDouble_49 : decode cX5_bitsOfDouble 49 = .ok (.dconst 1, 1) := by decide +kernel
theorem dX5_bitsOfDouble_50 : decode cX5_bitsOfDouble 50 = .ok (.dsub, 1) := by decide +kernel
theorem dX5_bitsOfDouble_51 : decode cX5_bitsOfDouble 51 = .ok (.ldc2_w 453, 3) := by decide +kernel
theorem dX5_bitsOfDouble_54 : decode cX5_bitsOfDouble 54 = .ok (.dmul, 1) := by decide +kernel
theorem dX5_bitsOfDouble_55 : decode cX5_bitsOfDouble 55 = .ok (.d2l, 1) := by decide +kernel
theorem dX5_bitsOfDouble_56 : decode cX5_bitsOfDouble 56 = .ok (.ladd, 1) := by decide +kernel
theorem dX5_bitsOfDouble_57 : decode cX5_bitsOfDouble 57 = .ok (.lreturn, 1) := by decide +kernel
